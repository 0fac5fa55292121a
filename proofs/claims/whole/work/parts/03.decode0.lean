theorem dX0_init_0 : decode cX0_init 0 = .ok (.aload_n 0, 1) := by decide +kernel
theorem dX0_init_1 : decode cX0_init 1 = .ok (.invokespecial 3, 3) := by decide +kernel
theorem dX0_init_4 : decode cX0_init 4 = .ok (.aload_n 0, 1) := by decide +kernel
theorem dX0_init_5 : decode cX0_init 5 = .ok (.new 9, 3) := by decide +kernel
theorem dX0_init_8 : decode cX0_init 8 = .ok (.dup, 1) := by decide +kernel
theorem dX0_init_9 : decode cX0_init 9 = .ok (.invokespecial 11, 3) := by decide +kernel
theorem dX0_init_12 : decode cX0_init 12 = .ok (.putfield 12, 3) := by decide +kernel
theorem dX0_init_15 : decode cX0_init 15 = .ok (.aload_n 0, 1) := by decide +kernel
theorem dX0_init_16 : decode cX0_init 16 = .ok (.aload_n 1, 1) := by decide +kernel
theorem dX0_init_17 : decode cX0_init 17 = .ok (.putfield 18, 3) := by decide +kernel
theorem dX0_init_20 : decode cX0_init 20 = .ok (.aload_n 0, 1) := by decide +kernel
theorem dX0_init_21 : decode cX0_init 21 = .ok (.aload_n 2, 1) := by decide +kernel
theorem dX0_init_22 : decode cX0_init 22 = .ok (.putfield 22, 3) := by decide +kernel
theorem dX0_init_25 : decode cX0_init 25 = .ok (.aload_n 0, 1) := by decide +kernel
theorem dX0_init_26 : decode cX0_init 26 = .ok (.aload_n 3, 1) := by decide +kernel
theorem dX0_init_27 : decode cX0_init 27 = .ok (.putfield 26, 3) := by decide +kernel
theorem dX0_init_30 : decode cX0_init 30 = .ok (.return_, 1) := by decide +kernel
theorem dX0_begin_0 : decode cX0_begin 0 = .ok (.aload_n 0, 1) := by decide +kernel
theorem dX0_begin_1 : decode cX0_begin 1 = .ok (.getfield 26, 3) := by decide +kernel
theorem dX0_begin_4 : decode cX0_begin 4 = .ok (.getfield 29, 3) := by decide +kernel
theorem dX0_begin_7 : decode cX0_begin 7 = .ok (.aload_n 0, 1) := by decide +kernel
theorem dX0_begin_8 : decode cX0_begin 8 = .ok (.getfield 12, 3) := by decide +kernel
theorem dX0_begin_11 : decode cX0_begin 11 = .ok (.getfield 29, 3) := by decide +kernel
theorem dX0_begin_14 : decode cX0_begin 14 = .ok (.invokestatic 33, 3) := by decide +kernel
theorem dX0_begin_17 : decode cX0_begin 17 = .ok (.return_, 1) := by decide +kernel
theorem dX0_heightAhead_0 : decode cX0_heightAhead 0 = .ok (.aload_n 0, 1) := by decide +kernel
theorem dX0_heightAhead_1 : decode cX0_heightAhead 1 = .ok (.getfield 18, 3) := by decide +kernel
theorem dX0_heightAhead_4 : decode cX0_heightAhead 4 = .ok (.aload_n 0, 1) := by decide +kernel
theorem dX0_heightAhead_5 : decode cX0_heightAhead 5 = .ok (.getfield 26, 3) := by decide +kernel
theorem dX0_heightAhead_8 : decode cX0_heightAhead 8 = .ok (.invokevirtual 37, 3) := by decide +kernel
theorem dX0_heightAhead_11 : decode cX0_heightAhead 11 = .ok (.iload_n 1, 1) := by decide +kernel
theorem dX0_heightAhead_12 : decode cX0_heightAhead 12 = .ok (.iadd, 1) := by decide +kernel
theorem dX0_heightAhead_13 : decode cX0_heightAhead 13 = .ok (.invokevirtual 41, 3) := by decide +kernel
theorem dX0_heightAhead_16 : decode cX0_heightAhead 16 = .ok (.ireturn, 1) := by decide +kernel
theorem dX0_waterAhead_0 : decode cX0_waterAhead 0 = .ok (.aload_n 0, 1) := by decide +kernel
theorem dX0_waterAhead_1 : decode cX0_waterAhead 1 = .ok (.getfield 26, 3) := by decide +kernel
theorem dX0_waterAhead_4 : decode cX0_waterAhead 4 = .ok (.iload_n 1, 1) := by decide +kernel
theorem dX0_waterAhead_5 : decode cX0_waterAhead 5 = .ok (.aload_n 0, 1) := by decide +kernel
theorem dX0_waterAhead_6 : decode cX0_waterAhead 6 = .ok (.iload_n 2, 1) := by decide +kernel
theorem dX0_waterAhead_7 : decode cX0_waterAhead 7 = .ok (.invokevirtual 47, 3) := by decide +kernel
theorem dX0_waterAhead_10 : decode cX0_waterAhead 10 = .ok (.invokevirtual 50, 3) := by decide +kernel
theorem dX0_waterAhead_13 : decode cX0_waterAhead 13 = .ok (.ireturn, 1) := by decide +kernel
theorem dX0_comesIntoAny_0 : decode cX0_comesIntoAny 0 = .ok (.iconst 0, 1) := by decide +kernel
theorem dX0_comesIntoAny_1 : decode cX0_comesIntoAny 1 = .ok (.istore_n 3, 1) := by decide +kernel
theorem dX0_comesIntoAny_2 : decode cX0_comesIntoAny 2 = .ok (.iload_n 3, 1) := by decide +kernel
theorem dX0_comesIntoAny_3 : decode cX0_comesIntoAny 3 = .ok (.aload_n 0, 1) := by decide +kernel
theorem dX0_comesIntoAny_4 : decode cX0_comesIntoAny 4 = .ok (.getfield 18, 3) := by decide +kernel
theorem dX0_comesIntoAny_7 : decode cX0_comesIntoAny 7 = .ok (.getfield 54, 3) := by decide +kernel
theorem dX0_comesIntoAny_10 : decode cX0_comesIntoAny 10 = .ok (.if_icmp .ge 29, 3) := by decide +kernel
theorem dX0_comesIntoAny_13 : decode cX0_comesIntoAny 13 = .ok (.iload_n 1, 1) := by decide +kernel
theorem dX0_comesIntoAny_14 : decode cX0_comesIntoAny 14 = .ok (.iload_n 3, 1) := by decide +kernel
theorem dX0_comesIntoAny_15 : decode cX0_comesIntoAny 15 = .ok (.ishr, 1) := by decide +kernel
theorem dX0_comesIntoAny_16 : decode cX0_comesIntoAny 16 = .ok (.iconst 1, 1) := by decide +kernel
theorem dX0_comesIntoAny_17 : decode cX0_comesIntoAny 17 = .ok (.iand, 1) := by decide +kernel
theorem dX0_comesIntoAny_18 : decode cX0_comesIntoAny 18 = .ok (.iconst 1, 1) := by decide +kernel
theorem dX0_comesIntoAny_19 : decode cX0_comesIntoAny 19 = .ok (.if_icmp .ne 14, 3) := by decide +kernel
theorem dX0_comesIntoAny_22 : decode cX0_comesIntoAny 22 = .ok (.aload_n 0, 1) := by decide +kernel
theorem dX0_comesIntoAny_23 : decode cX0_comesIntoAny 23 = .ok (.iload_n 3, 1) := by decide +kernel
theorem dX0_comesIntoAny_24 : decode cX0_comesIntoAny 24 = .ok (.iload_n 2, 1) := by decide +kernel
theorem dX0_comesIntoAny_25 : decode cX0_comesIntoAny 25 = .ok (.invokevirtual 58, 3) := by decide +kernel
theorem dX0_comesIntoAny_28 : decode cX0_comesIntoAny 28 = .ok (.ifCond .le 5, 3) := by decide +kernel
theorem dX0_comesIntoAny_31 : decode cX0_comesIntoAny 31 = .ok (.iconst 1, 1) := by decide +kernel
theorem dX0_comesIntoAny_32 : decode cX0_comesIntoAny 32 = .ok (.ireturn, 1) := by decide +kernel
theorem dX0_comesIntoAny_33 : decode cX0_comesIntoAny 33 = .ok (.iinc 3 1, 3) := by decide +kernel
theorem dX0_comesIntoAny_36 : decode cX0_comesIntoAny 36 = .ok (.goto (-34), 3) := by decide +kernel
theorem dX0_comesIntoAny_39 : decode cX0_comesIntoAny 39 = .ok (.iconst 0, 1) := by decide +kernel
theorem dX0_comesIntoAny_40 : decode cX0_comesIntoAny 40 = .ok (.ireturn, 1) := by decide +kernel
theorem dX0_passNext_0 : decode cX0_passNext 0 = .ok (.aload_n 0, 1) := by decide +kernel
theorem dX0_passNext_1 : decode cX0_passNext 1 = .ok (.getfield 12, 3) := by decide +kernel
theorem dX0_passNext_4 : decode cX0_passNext 4 = .ok (.aload_n 0, 1) := by decide +kernel
theorem dX0_passNext_5 : decode cX0_passNext 5 = .ok (.getfield 18, 3) := by decide +kernel
theorem dX0_passNext_8 : decode cX0_passNext 8 = .ok (.aload_n 0, 1) := by decide +kernel
theorem dX0_passNext_9 : decode cX0_passNext 9 = .ok (.getfield 18, 3) := by decide +kernel
theorem dX0_passNext_12 : decode cX0_passNext 12 = .ok (.aload_n 0, 1) := by decide +kernel
theorem dX0_passNext_13 : decode cX0_passNext 13 = .ok (.getfield 12, 3) := by decide +kernel
theorem dX0_passNext_16 : decode cX0_passNext 16 = .ok (.invokevirtual 37, 3) := by decide +kernel
theorem dX0_passNext_19 : decode cX0_passNext 19 = .ok (.invokevirtual 41, 3) := by decide +kernel
theorem dX0_passNext_22 : decode cX0_passNext 22 = .ok (.invokevirtual 61, 3) := by decide +kernel
theorem dX0_passNext_25 : decode cX0_passNext 25 = .ok (.return_, 1) := by decide +kernel
theorem dX0_goAhead_0 : decode cX0_goAhead 0 = .ok (.aload_n 0, 1) := by decide +kernel
theorem dX0_goAhead_1 : decode cX0_goAhead 1 = .ok (.invokevirtual 65, 3) := by decide +kernel
theorem dX0_goAhead_4 : decode cX0_goAhead 4 = .ok (.iconst 0, 1) := by decide +kernel
theorem dX0_goAhead_5 : decode cX0_goAhead 5 = .ok (.istore_n 3, 1) := by decide +kernel
theorem dX0_goAhead_6 : decode cX0_goAhead 6 = .ok (.iload_n 3, 1) := by decide +kernel
theorem dX0_goAhead_7 : decode cX0_goAhead 7 = .ok (.iload_n 1, 1) := by decide +kernel
theorem dX0_goAhead_8 : decode cX0_goAhead 8 = .ok (.if_icmp .ge 29, 3) := by decide +kernel
theorem dX0_goAhead_11 : decode cX0_goAhead 11 = .ok (.aload_n 0, 1) := by decide +kernel
theorem dX0_goAhead_12 : decode cX0_goAhead 12 = .ok (.invokevirtual 68, 3) := by decide +kernel
theorem dX0_goAhead_15 : decode cX0_goAhead 15 = .ok (.aload_n 0, 1) := by decide +kernel
theorem dX0_goAhead_16 : decode cX0_goAhead 16 = .ok (.getfield 12, 3) := by decide +kernel
theorem dX0_goAhead_19 : decode cX0_goAhead 19 = .ok (.aload_n 0, 1) := by decide +kernel
theorem dX0_goAhead_20 : decode cX0_goAhead 20 = .ok (.getfield 18, 3) := by decide +kernel
theorem dX0_goAhead_23 : decode cX0_goAhead 23 = .ok (.aload_n 0, 1) := by decide +kernel
theorem dX0_goAhead_24 : decode cX0_goAhead 24 = .ok (.getfield 22, 3) := by decide +kernel
theorem dX0_goAhead_27 : decode cX0_goAhead 27 = .ok (.iload_n 2, 1) := by decide +kernel
theorem dX0_goAhead_28 : decode cX0_goAhead 28 = .ok (.invokevirtual 71, 3) := by decide +kernel
theorem dX0_goAhead_31 : decode cX0_goAhead 31 = .ok (.iinc 3 1, 3) := by decide +kernel
theorem dX0_goAhead_34 : decode cX0_goAhead 34 = .ok (.goto (-28), 3) := by decide +kernel
theorem dX0_goAhead_37 : decode cX0_goAhead 37 = .ok (.return_, 1) := by decide +kernel
theorem dX0_paidThen_0 : decode cX0_paidThen 0 = .ok (.aload_n 0, 1) := by decide +kernel
theorem dX0_paidThen_1 : decode cX0_paidThen 1 = .ok (.getfield 12, 3) := by decide +kernel
theorem dX0_paidThen_4 : decode cX0_paidThen 4 = .ok (.aload_n 0, 1) := by decide +kernel
theorem dX0_paidThen_5 : decode cX0_paidThen 5 = .ok (.getfield 18, 3) := by decide +kernel
theorem dX0_paidThen_8 : decode cX0_paidThen 8 = .ok (.invokevirtual 75, 3) := by decide +kernel
theorem dX0_paidThen_11 : decode cX0_paidThen 11 = .ok (.aload_n 0, 1) := by decide +kernel
theorem dX0_paidThen_12 : decode cX0_paidThen 12 = .ok (.getfield 26, 3) := by decide +kernel
theorem dX0_paidThen_15 : decode cX0_paidThen 15 = .ok (.aload_n 0, 1) := by decide +kernel
theorem dX0_paidThen_16 : decode cX0_paidThen 16 = .ok (.getfield 18, 3) := by decide +kernel
theorem dX0_paidThen_19 : decode cX0_paidThen 19 = .ok (.invokevirtual 75, 3) := by decide +kernel
theorem dX0_paidThen_22 : decode cX0_paidThen 22 = .ok (.isub, 1) := by decide +kernel
theorem dX0_paidThen_23 : decode cX0_paidThen 23 = .ok (.ireturn, 1) := by decide +kernel
theorem dX0_goneThen_0 : decode cX0_goneThen 0 = .ok (.aload_n 0, 1) := by decide +kernel
theorem dX0_goneThen_1 : decode cX0_goneThen 1 = .ok (.getfield 12, 3) := by decide +kernel
theorem dX0_goneThen_4 : decode cX0_goneThen 4 = .ok (.aload_n 0, 1) := by decide +kernel
theorem dX0_goneThen_5 : decode cX0_goneThen 5 = .ok (.getfield 18, 3) := by decide +kernel
theorem dX0_goneThen_8 : decode cX0_goneThen 8 = .ok (.invokevirtual 79, 3) := by decide +kernel
theorem dX0_goneThen_11 : decode cX0_goneThen 11 = .ok (.ireturn, 1) := by decide +kernel
theorem dX0_isGoneThen_0 : decode cX0_isGoneThen 0 = .ok (.aload_n 0, 1) := by decide +kernel
theorem dX0_isGoneThen_1 : decode cX0_isGoneThen 1 = .ok (.getfield 12, 3) := by decide +kernel
theorem dX0_isGoneThen_4 : decode cX0_isGoneThen 4 = .ok (.iload_n 1, 1) := by decide +kernel
theorem dX0_isGoneThen_5 : decode cX0_isGoneThen 5 = .ok (.invokevirtual 82, 3) := by decide +kernel
theorem dX0_isGoneThen_8 : decode cX0_isGoneThen 8 = .ok (.ireturn, 1) := by decide +kernel
theorem dX0_paidAhead_0 : decode cX0_paidAhead 0 = .ok (.aload_n 0, 1) := by decide +kernel
theorem dX0_paidAhead_1 : decode cX0_paidAhead 1 = .ok (.iload_n 2, 1) := by decide +kernel
theorem dX0_paidAhead_2 : decode cX0_paidAhead 2 = .ok (.aload_n 0, 1) := by decide +kernel
theorem dX0_paidAhead_3 : decode cX0_paidAhead 3 = .ok (.getfield 18, 3) := by decide +kernel
theorem dX0_paidAhead_6 : decode cX0_paidAhead 6 = .ok (.getfield 86, 3) := by decide +kernel
theorem dX0_paidAhead_9 : decode cX0_paidAhead 9 = .ok (.invokevirtual 89, 3) := by decide +kernel
theorem dX0_paidAhead_12 : decode cX0_paidAhead 12 = .ok (.aload_n 0, 1) := by decide +kernel
theorem dX0_paidAhead_13 : decode cX0_paidAhead 13 = .ok (.getfield 12, 3) := by decide +kernel
theorem dX0_paidAhead_16 : decode cX0_paidAhead 16 = .ok (.bipush 62, 2) := by decide +kernel
theorem dX0_paidAhead_18 : decode cX0_paidAhead 18 = .ok (.iload_n 1, 1) := by decide +kernel
theorem dX0_paidAhead_19 : decode cX0_paidAhead 19 = .ok (.invokevirtual 93, 3) := by decide +kernel
theorem dX0_paidAhead_22 : decode cX0_paidAhead 22 = .ok (.aload_n 0, 1) := by decide +kernel
theorem dX0_paidAhead_23 : decode cX0_paidAhead 23 = .ok (.getfield 26, 3) := by decide +kernel
theorem dX0_paidAhead_26 : decode cX0_paidAhead 26 = .ok (.bipush 62, 2) := by decide +kernel
theorem dX0_paidAhead_28 : decode cX0_paidAhead 28 = .ok (.iload_n 1, 1) := by decide +kernel
theorem dX0_paidAhead_29 : decode cX0_paidAhead 29 = .ok (.invokevirtual 93, 3) := by decide +kernel
theorem dX0_paidAhead_32 : decode cX0_paidAhead 32 = .ok (.isub, 1) := by decide +kernel
theorem dX0_paidAhead_33 : decode cX0_paidAhead 33 = .ok (.ireturn, 1) := by decide +kernel
theorem dX0_standAhead_0 : decode cX0_standAhead 0 = .ok (.iload_n 2, 1) := by decide +kernel
theorem dX0_standAhead_1 : decode cX0_standAhead 1 = .ok (.iconst 3, 1) := by decide +kernel
theorem dX0_standAhead_2 : decode cX0_standAhead 2 = .ok (.if_icmp .ne 10, 3) := by decide +kernel
theorem dX0_standAhead_5 : decode cX0_standAhead 5 = .ok (.aload_n 0, 1) := by decide +kernel
theorem dX0_standAhead_6 : decode cX0_standAhead 6 = .ok (.iconst (-1), 1) := by decide +kernel
theorem dX0_standAhead_7 : decode cX0_standAhead 7 = .ok (.iload_n 1, 1) := by decide +kernel
theorem dX0_standAhead_8 : decode cX0_standAhead 8 = .ok (.invokevirtual 96, 3) := by decide +kernel
theorem dX0_standAhead_11 : decode cX0_standAhead 11 = .ok (.ireturn, 1) := by decide +kernel
theorem dX0_standAhead_12 : decode cX0_standAhead 12 = .ok (.aload_n 0, 1) := by decide +kernel
theorem dX0_standAhead_13 : decode cX0_standAhead 13 = .ok (.iload_n 1, 1) := by decide +kernel
theorem dX0_standAhead_14 : decode cX0_standAhead 14 = .ok (.aload_n 0, 1) := by decide +kernel
theorem dX0_standAhead_15 : decode cX0_standAhead 15 = .ok (.getfield 18, 3) := by decide +kernel
theorem dX0_standAhead_18 : decode cX0_standAhead 18 = .ok (.getfield 86, 3) := by decide +kernel
theorem dX0_standAhead_21 : decode cX0_standAhead 21 = .ok (.invokevirtual 89, 3) := by decide +kernel
theorem dX0_standAhead_24 : decode cX0_standAhead 24 = .ok (.iload_n 2, 1) := by decide +kernel
theorem dX0_standAhead_25 : decode cX0_standAhead 25 = .ok (.ifCond .ne 17, 3) := by decide +kernel
theorem dX0_standAhead_28 : decode cX0_standAhead 28 = .ok (.aload_n 0, 1) := by decide +kernel
theorem dX0_standAhead_29 : decode cX0_standAhead 29 = .ok (.getfield 12, 3) := by decide +kernel
theorem dX0_standAhead_32 : decode cX0_standAhead 32 = .ok (.aload_n 0, 1) := by decide +kernel
theorem dX0_standAhead_33 : decode cX0_standAhead 33 = .ok (.getfield 18, 3) := by decide +kernel
theorem dX0_standAhead_36 : decode cX0_standAhead 36 = .ok (.invokevirtual 99, 3) := by decide +kernel
theorem dX0_standAhead_39 : decode cX0_standAhead 39 = .ok (.goto 19, 3) := by decide +kernel
theorem dX0_standAhead_42 : decode cX0_standAhead 42 = .ok (.iload_n 2, 1) := by decide +kernel
theorem dX0_standAhead_43 : decode cX0_standAhead 43 = .ok (.iconst 1, 1) := by decide +kernel
theorem dX0_standAhead_44 : decode cX0_standAhead 44 = .ok (.if_icmp .ne 10, 3) := by decide +kernel
theorem dX0_standAhead_47 : decode cX0_standAhead 47 = .ok (.aload_n 0, 1) := by decide +kernel
theorem dX0_standAhead_48 : decode cX0_standAhead 48 = .ok (.invokevirtual 102, 3) := by decide +kernel
theorem dX0_standAhead_51 : decode cX0_standAhead 51 = .ok (.goto 7, 3) := by decide +kernel
theorem dX0_standAhead_54 : decode cX0_standAhead 54 = .ok (.aload_n 0, 1) := by decide +kernel
theorem dX0_standAhead_55 : decode cX0_standAhead 55 = .ok (.invokevirtual 105, 3) := by decide +kernel
theorem dX0_standAhead_58 : decode cX0_standAhead 58 = .ok (.ireturn, 1) := by decide +kernel
theorem dX0_timesInto_0 : decode cX0_timesInto 0 = .ok (.iconst 0, 1) := by decide +kernel
theorem dX0_timesInto_1 : decode cX0_timesInto 1 = .ok (.istore_n 3, 1) := by decide +kernel
theorem dX0_timesInto_2 : decode cX0_timesInto 2 = .ok (.iconst 0, 1) := by decide +kernel
theorem dX0_timesInto_3 : decode cX0_timesInto 3 = .ok (.istore 4, 2) := by decide +kernel
theorem dX0_timesInto_5 : decode cX0_timesInto 5 = .ok (.iload 4, 2) := by decide +kernel
theorem dX0_timesInto_7 : decode cX0_timesInto 7 = .ok (.aload_n 0, 1) := by decide +kernel
theorem dX0_timesInto_8 : decode cX0_timesInto 8 = .ok (.getfield 18, 3) := by decide +kernel
theorem dX0_timesInto_11 : decode cX0_timesInto 11 = .ok (.getfield 54, 3) := by decide +kernel
theorem dX0_timesInto_14 : decode cX0_timesInto 14 = .ok (.if_icmp .ge 53, 3) := by decide +kernel
theorem dX0_timesInto_17 : decode cX0_timesInto 17 = .ok (.iconst 0, 1) := by decide +kernel
theorem dX0_timesInto_18 : decode cX0_timesInto 18 = .ok (.istore 5, 2) := by decide +kernel
theorem dX0_timesInto_20 : decode cX0_timesInto 20 = .ok (.iload 5, 2) := by decide +kernel
theorem dX0_timesInto_22 : decode cX0_timesInto 22 = .ok (.iload_n 2, 1) := by decide +kernel
theorem dX0_timesInto_23 : decode cX0_timesInto 23 = .ok (.if_icmp .ge 38, 3) := by decide +kernel
theorem dX0_timesInto_26 : decode cX0_timesInto 26 = .ok (.iload_n 3, 1) := by decide +kernel
theorem dX0_timesInto_27 : decode cX0_timesInto 27 = .ok (.iload_n 1, 1) := by decide +kernel
theorem dX0_timesInto_28 : decode cX0_timesInto 28 = .ok (.iload 4, 2) := by decide +kernel
theorem dX0_timesInto_30 : decode cX0_timesInto 30 = .ok (.ishr, 1) := by decide +kernel
theorem dX0_timesInto_31 : decode cX0_timesInto 31 = .ok (.iconst 1, 1) := by decide +kernel
theorem dX0_timesInto_32 : decode cX0_timesInto 32 = .ok (.iand, 1) := by decide +kernel
theorem dX0_timesInto_33 : decode cX0_timesInto 33 = .ok (.iconst 1, 1) := by decide +kernel
theorem dX0_timesInto_34 : decode cX0_timesInto 34 = .ok (.if_icmp .ne 18, 3) := by decide +kernel
theorem dX0_timesInto_37 : decode cX0_timesInto 37 = .ok (.aload_n 0, 1) := by decide +kernel
theorem dX0_timesInto_38 : decode cX0_timesInto 38 = .ok (.iload 4, 2) := by decide +kernel
theorem dX0_timesInto_40 : decode cX0_timesInto 40 = .ok (.iload 5, 2) := by decide +kernel
theorem dX0_timesInto_42 : decode cX0_timesInto 42 = .ok (.invokevirtual 58, 3) := by decide +kernel
theorem dX0_timesInto_45 : decode cX0_timesInto 45 = .ok (.ifCond .le 7, 3) := by decide +kernel
theorem dX0_timesInto_48 : decode cX0_timesInto 48 = .ok (.iconst 1, 1) := by decide +kernel
theorem dX0_timesInto_49 : decode cX0_timesInto 49 = .ok (.goto 4, 3) := by decide +kernel
theorem dX0_timesInto_52 : decode cX0_timesInto 52 = .ok (.iconst 0, 1) := by decide +kernel
theorem dX0_timesInto_53 : decode cX0_timesInto 53 = .ok (.iadd, 1) := by decide +kernel
theorem dX0_timesInto_54 : decode cX0_timesInto 54 = .ok (.istore_n 3, 1) := by decide +kernel
theorem dX0_timesInto_55 : decode cX0_timesInto 55 = .ok (.iinc 5 1, 3) := by decide +kernel
theorem dX0_timesInto_58 : decode cX0_timesInto 58 = .ok (.goto (-38), 3) := by decide +kernel
theorem dX0_timesInto_61 : decode cX0_timesInto 61 = .ok (.iinc 4 1, 3) := by decide +kernel
theorem dX0_timesInto_64 : decode cX0_timesInto 64 = .ok (.goto (-59), 3) := by decide +kernel
theorem dX0_timesInto_67 : decode cX0_timesInto 67 = .ok (.iload_n 3, 1) := by decide +kernel
theorem dX0_timesInto_68 : decode cX0_timesInto 68 = .ok (.ireturn, 1) := by decide +kernel
theorem dX0_firstInto_0 : decode cX0_firstInto 0 = .ok (.iconst 0, 1) := by decide +kernel
theorem dX0_firstInto_1 : decode cX0_firstInto 1 = .ok (.istore_n 2, 1) := by decide +kernel
theorem dX0_firstInto_2 : decode cX0_firstInto 2 = .ok (.iload_n 2, 1) := by decide +kernel
theorem dX0_firstInto_3 : decode cX0_firstInto 3 = .ok (.bipush 60, 2) := by decide +kernel
theorem dX0_firstInto_5 : decode cX0_firstInto 5 = .ok (.if_icmp .ge 20, 3) := by decide +kernel
theorem dX0_firstInto_8 : decode cX0_firstInto 8 = .ok (.aload_n 0, 1) := by decide +kernel
theorem dX0_firstInto_9 : decode cX0_firstInto 9 = .ok (.iload_n 1, 1) := by decide +kernel
theorem dX0_firstInto_10 : decode cX0_firstInto 10 = .ok (.iload_n 2, 1) := by decide +kernel
theorem dX0_firstInto_11 : decode cX0_firstInto 11 = .ok (.invokevirtual 58, 3) := by decide +kernel
theorem dX0_firstInto_14 : decode cX0_firstInto 14 = .ok (.ifCond .le 5, 3) := by decide +kernel
theorem dX0_firstInto_17 : decode cX0_firstInto 17 = .ok (.iload_n 2, 1) := by decide +kernel
theorem dX0_firstInto_18 : decode cX0_firstInto 18 = .ok (.ireturn, 1) := by decide +kernel
theorem dX0_firstInto_19 : decode cX0_firstInto 19 = .ok (.iinc 2 1, 3) := by decide +kernel
theorem dX0_firstInto_22 : decode cX0_firstInto 22 = .ok (.goto (-20), 3) := by decide +kernel
theorem dX0_firstInto_25 : decode cX0_firstInto 25 = .ok (.iconst (-1), 1) := by decide +kernel
theorem dX0_firstInto_26 : decode cX0_firstInto 26 = .ok (.ireturn, 1) := by decide +kernel
theorem dX0_highestAhead_0 : decode cX0_highestAhead 0 = .ok (.iconst 0, 1) := by decide +kernel
theorem dX0_highestAhead_1 : decode cX0_highestAhead 1 = .ok (.istore_n 1, 1) := by decide +kernel
theorem dX0_highestAhead_2 : decode cX0_highestAhead 2 = .ok (.iconst 1, 1) := by decide +kernel
theorem dX0_highestAhead_3 : decode cX0_highestAhead 3 = .ok (.istore_n 2, 1) := by decide +kernel
theorem dX0_highestAhead_4 : decode cX0_highestAhead 4 = .ok (.iload_n 2, 1) := by decide +kernel
theorem dX0_highestAhead_5 : decode cX0_highestAhead 5 = .ok (.bipush 24, 2) := by decide +kernel
theorem dX0_highestAhead_7 : decode cX0_highestAhead 7 = .ok (.if_icmp .ge 24, 3) := by decide +kernel
theorem dX0_highestAhead_10 : decode cX0_highestAhead 10 = .ok (.aload_n 0, 1) := by decide +kernel
theorem dX0_highestAhead_11 : decode cX0_highestAhead 11 = .ok (.iload_n 2, 1) := by decide +kernel
theorem dX0_highestAhead_12 : decode cX0_highestAhead 12 = .ok (.invokevirtual 47, 3) := by decide +kernel
theorem dX0_highestAhead_15 : decode cX0_highestAhead 15 = .ok (.aload_n 0, 1) := by decide +kernel
theorem dX0_highestAhead_16 : decode cX0_highestAhead 16 = .ok (.iload_n 1, 1) := by decide +kernel
theorem dX0_highestAhead_17 : decode cX0_highestAhead 17 = .ok (.invokevirtual 47, 3) := by decide +kernel
theorem dX0_highestAhead_20 : decode cX0_highestAhead 20 = .ok (.if_icmp .le 5, 3) := by decide +kernel
theorem dX0_highestAhead_23 : decode cX0_highestAhead 23 = .ok (.iload_n 2, 1) := by decide +kernel
theorem dX0_highestAhead_24 : decode cX0_highestAhead 24 = .ok (.istore_n 1, 1) := by decide +kernel
theorem dX0_highestAhead_25 : decode cX0_highestAhead 25 = .ok (.iinc 2 1, 3) := by decide +kernel
theorem dX0_highestAhead_28 : decode cX0_highestAhead 28 = .ok (.goto (-24), 3) := by decide +kernel
theorem dX0_highestAhead_31 : decode cX0_highestAhead 31 = .ok (.iload_n 1, 1) := by decide +kernel
theorem dX0_highestAhead_32 : decode cX0_highestAhead 32 = .ok (.ireturn, 1) := by decide +kernel
theorem dX0_bestCarried_0 : decode cX0_bestCarried 0 = .ok (.aload_n 0, 1) := by decide +kernel
theorem dX0_bestCarried_1 : decode cX0_bestCarried 1 = .ok (.iload_n 2, 1) := by decide +kernel
theorem dX0_bestCarried_2 : decode cX0_bestCarried 2 = .ok (.aload_n 0, 1) := by decide +kernel
theorem dX0_bestCarried_3 : decode cX0_bestCarried 3 = .ok (.getfield 18, 3) := by decide +kernel
theorem dX0_bestCarried_6 : decode cX0_bestCarried 6 = .ok (.getfield 86, 3) := by decide +kernel
theorem dX0_bestCarried_9 : decode cX0_bestCarried 9 = .ok (.invokevirtual 89, 3) := by decide +kernel
theorem dX0_bestCarried_12 : decode cX0_bestCarried 12 = .ok (.iconst 0, 1) := by decide +kernel
theorem dX0_bestCarried_13 : decode cX0_bestCarried 13 = .ok (.istore 4, 2) := by decide +kernel
theorem dX0_bestCarried_15 : decode cX0_bestCarried 15 = .ok (.iconst 0, 1) := by decide +kernel
theorem dX0_bestCarried_16 : decode cX0_bestCarried 16 = .ok (.istore 5, 2) := by decide +kernel
theorem dX0_bestCarried_18 : decode cX0_bestCarried 18 = .ok (.iconst 1, 1) := by decide +kernel
theorem dX0_bestCarried_19 : decode cX0_bestCarried 19 = .ok (.istore 6, 2) := by decide +kernel
theorem dX0_bestCarried_21 : decode cX0_bestCarried 21 = .ok (.iload 6, 2) := by decide +kernel
theorem dX0_bestCarried_23 : decode cX0_bestCarried 23 = .ok (.iconst 1, 1) := by decide +kernel
theorem dX0_bestCarried_24 : decode cX0_bestCarried 24 = .ok (.aload_n 0, 1) := by decide +kernel
theorem dX0_bestCarried_25 : decode cX0_bestCarried 25 = .ok (.getfield 18, 3) := by decide +kernel
theorem dX0_bestCarried_28 : decode cX0_bestCarried 28 = .ok (.getfield 108, 3) := by decide +kernel
theorem dX0_bestCarried_31 : decode cX0_bestCarried 31 = .ok (.ishl, 1) := by decide +kernel
theorem dX0_bestCarried_32 : decode cX0_bestCarried 32 = .ok (.if_icmp .ge 33, 3) := by decide +kernel
theorem dX0_bestCarried_35 : decode cX0_bestCarried 35 = .ok (.aload_n 0, 1) := by decide +kernel
theorem dX0_bestCarried_36 : decode cX0_bestCarried 36 = .ok (.iload 6, 2) := by decide +kernel
theorem dX0_bestCarried_38 : decode cX0_bestCarried 38 = .ok (.iload_n 1, 1) := by decide +kernel
theorem dX0_bestCarried_39 : decode cX0_bestCarried 39 = .ok (.invokevirtual 111, 3) := by decide +kernel
theorem dX0_bestCarried_42 : decode cX0_bestCarried 42 = .ok (.istore 7, 2) := by decide +kernel
theorem dX0_bestCarried_44 : decode cX0_bestCarried 44 = .ok (.iload 7, 2) := by decide +kernel
theorem dX0_bestCarried_46 : decode cX0_bestCarried 46 = .ok (.iload 5, 2) := by decide +kernel
theorem dX0_bestCarried_48 : decode cX0_bestCarried 48 = .ok (.if_icmp .le 11, 3) := by decide +kernel
theorem dX0_bestCarried_51 : decode cX0_bestCarried 51 = .ok (.iload 6, 2) := by decide +kernel
theorem dX0_bestCarried_53 : decode cX0_bestCarried 53 = .ok (.istore 4, 2) := by decide +kernel
theorem dX0_bestCarried_55 : decode cX0_bestCarried 55 = .ok (.iload 7, 2) := by decide +kernel
theorem dX0_bestCarried_57 : decode cX0_bestCarried 57 = .ok (.istore 5, 2) := by decide +kernel
theorem dX0_bestCarried_59 : decode cX0_bestCarried 59 = .ok (.iinc 6 1, 3) := by decide +kernel
theorem dX0_bestCarried_62 : decode cX0_bestCarried 62 = .ok (.goto (-41), 3) := by decide +kernel
theorem dX0_bestCarried_65 : decode cX0_bestCarried 65 = .ok (.iload_n 3, 1) := by decide +kernel
theorem dX0_bestCarried_66 : decode cX0_bestCarried 66 = .ok (.iconst 1, 1) := by decide +kernel
theorem dX0_bestCarried_67 : decode cX0_bestCarried 67 = .ok (.if_icmp .ne 8, 3) := by decide +kernel
theorem dX0_bestCarried_70 : decode cX0_bestCarried 70 = .ok (.iload 4, 2) := by decide +kernel
theorem dX0_bestCarried_72 : decode cX0_bestCarried 72 = .ok (.goto 17, 3) := by decide +kernel
theorem dX0_bestCarried_75 : decode cX0_bestCarried 75 = .ok (.aload_n 0, 1) := by decide +kernel
theorem dX0_bestCarried_76 : decode cX0_bestCarried 76 = .ok (.getfield 12, 3) := by decide +kernel
theorem dX0_bestCarried_79 : decode cX0_bestCarried 79 = .ok (.aload_n 0, 1) := by decide +kernel
theorem dX0_bestCarried_80 : decode cX0_bestCarried 80 = .ok (.getfield 18, 3) := by decide +kernel
theorem dX0_bestCarried_83 : decode cX0_bestCarried 83 = .ok (.invokevirtual 99, 3) := by decide +kernel
theorem dX0_bestCarried_86 : decode cX0_bestCarried 86 = .ok (.iload 5, 2) := by decide +kernel
theorem dX0_bestCarried_88 : decode cX0_bestCarried 88 = .ok (.iadd, 1) := by decide +kernel
theorem dX0_bestCarried_89 : decode cX0_bestCarried 89 = .ok (.ireturn, 1) := by decide +kernel
theorem dX0_savedBy_0 : decode cX0_savedBy 0 = .ok (.iconst 0, 1) := by decide +kernel
theorem dX0_savedBy_1 : decode cX0_savedBy 1 = .ok (.istore_n 3, 1) := by decide +kernel
theorem dX0_savedBy_2 : decode cX0_savedBy 2 = .ok (.iconst 0, 1) := by decide +kernel
theorem dX0_savedBy_3 : decode cX0_savedBy 3 = .ok (.istore 4, 2) := by decide +kernel
theorem dX0_savedBy_5 : decode cX0_savedBy 5 = .ok (.iconst 0, 1) := by decide +kernel
theorem dX0_savedBy_6 : decode cX0_savedBy 6 = .ok (.istore 5, 2) := by decide +kernel
theorem dX0_savedBy_8 : decode cX0_savedBy 8 = .ok (.iload 5, 2) := by decide +kernel
theorem dX0_savedBy_10 : decode cX0_savedBy 10 = .ok (.aload_n 0, 1) := by decide +kernel
theorem dX0_savedBy_11 : decode cX0_savedBy 11 = .ok (.getfield 18, 3) := by decide +kernel
theorem dX0_savedBy_14 : decode cX0_savedBy 14 = .ok (.getfield 108, 3) := by decide +kernel
theorem dX0_savedBy_17 : decode cX0_savedBy 17 = .ok (.if_icmp .ge 107, 3) := by decide +kernel
theorem dX0_savedBy_20 : decode cX0_savedBy 20 = .ok (.iload_n 1, 1) := by decide +kernel
theorem dX0_savedBy_21 : decode cX0_savedBy 21 = .ok (.iload 5, 2) := by decide +kernel
theorem dX0_savedBy_23 : decode cX0_savedBy 23 = .ok (.ishr, 1) := by decide +kernel
theorem dX0_savedBy_24 : decode cX0_savedBy 24 = .ok (.iconst 1, 1) := by decide +kernel
theorem dX0_savedBy_25 : decode cX0_savedBy 25 = .ok (.iand, 1) := by decide +kernel
theorem dX0_savedBy_26 : decode cX0_savedBy 26 = .ok (.iconst 1, 1) := by decide +kernel
theorem dX0_savedBy_27 : decode cX0_savedBy 27 = .ok (.if_icmp .ne 91, 3) := by decide +kernel
theorem dX0_savedBy_30 : decode cX0_savedBy 30 = .ok (.aload_n 0, 1) := by decide +kernel
theorem dX0_savedBy_31 : decode cX0_savedBy 31 = .ok (.getfield 26, 3) := by decide +kernel
theorem dX0_savedBy_34 : decode cX0_savedBy 34 = .ok (.iload 5, 2) := by decide +kernel
theorem dX0_savedBy_36 : decode cX0_savedBy 36 = .ok (.invokevirtual 114, 3) := by decide +kernel
theorem dX0_savedBy_39 : decode cX0_savedBy 39 = .ok (.ifCond .eq 18, 3) := by decide +kernel
theorem dX0_savedBy_42 : decode cX0_savedBy 42 = .ok (.aload_n 0, 1) := by decide +kernel
theorem dX0_savedBy_43 : decode cX0_savedBy 43 = .ok (.getfield 26, 3) := by decide +kernel
theorem dX0_savedBy_46 : decode cX0_savedBy 46 = .ok (.bipush 20, 2) := by decide +kernel
theorem dX0_savedBy_48 : decode cX0_savedBy 48 = .ok (.iload 5, 2) := by decide +kernel
theorem dX0_savedBy_50 : decode cX0_savedBy 50 = .ok (.invokevirtual 93, 3) := by decide +kernel
theorem dX0_savedBy_53 : decode cX0_savedBy 53 = .ok (.iconst 1, 1) := by decide +kernel
theorem dX0_savedBy_54 : decode cX0_savedBy 54 = .ok (.if_icmp .ne 5, 3) := by decide +kernel
theorem dX0_savedBy_57 : decode cX0_savedBy 57 = .ok (.iconst (-1), 1) := by decide +kernel
theorem dX0_savedBy_58 : decode cX0_savedBy 58 = .ok (.ireturn, 1) := by decide +kernel
theorem dX0_savedBy_59 : decode cX0_savedBy 59 = .ok (.iload 4, 2) := by decide +kernel
theorem dX0_savedBy_61 : decode cX0_savedBy 61 = .ok (.aload_n 0, 1) := by decide +kernel
theorem dX0_savedBy_62 : decode cX0_savedBy 62 = .ok (.getfield 18, 3) := by decide +kernel
theorem dX0_savedBy_65 : decode cX0_savedBy 65 = .ok (.getfield 117, 3) := by decide +kernel
theorem dX0_savedBy_68 : decode cX0_savedBy 68 = .ok (.iload 5, 2) := by decide +kernel
theorem dX0_savedBy_70 : decode cX0_savedBy 70 = .ok (.invokestatic 120, 3) := by decide +kernel
theorem dX0_savedBy_73 : decode cX0_savedBy 73 = .ok (.iadd, 1) := by decide +kernel
theorem dX0_savedBy_74 : decode cX0_savedBy 74 = .ok (.istore 4, 2) := by decide +kernel
theorem dX0_savedBy_76 : decode cX0_savedBy 76 = .ok (.iload_n 3, 1) := by decide +kernel
theorem dX0_savedBy_77 : decode cX0_savedBy 77 = .ok (.aload_n 0, 1) := by decide +kernel
theorem dX0_savedBy_78 : decode cX0_savedBy 78 = .ok (.getfield 26, 3) := by decide +kernel
theorem dX0_savedBy_81 : decode cX0_savedBy 81 = .ok (.bipush 40, 2) := by decide +kernel
theorem dX0_savedBy_83 : decode cX0_savedBy 83 = .ok (.iload 5, 2) := by decide +kernel
theorem dX0_savedBy_85 : decode cX0_savedBy 85 = .ok (.invokevirtual 93, 3) := by decide +kernel
theorem dX0_savedBy_88 : decode cX0_savedBy 88 = .ok (.aload_n 0, 1) := by decide +kernel
theorem dX0_savedBy_89 : decode cX0_savedBy 89 = .ok (.getfield 12, 3) := by decide +kernel
theorem dX0_savedBy_92 : decode cX0_savedBy 92 = .ok (.iload 5, 2) := by decide +kernel
theorem dX0_savedBy_94 : decode cX0_savedBy 94 = .ok (.invokevirtual 82, 3) := by decide +kernel
theorem dX0_savedBy_97 : decode cX0_savedBy 97 = .ok (.ifCond .eq 7, 3) := by decide +kernel
theorem dX0_savedBy_100 : decode cX0_savedBy 100 = .ok (.iconst 0, 1) := by decide +kernel
theorem dX0_savedBy_101 : decode cX0_savedBy 101 = .ok (.goto 14, 3) := by decide +kernel
theorem dX0_savedBy_104 : decode cX0_savedBy 104 = .ok (.aload_n 0, 1) := by decide +kernel
theorem dX0_savedBy_105 : decode cX0_savedBy 105 = .ok (.getfield 12, 3) := by decide +kernel
theorem dX0_savedBy_108 : decode cX0_savedBy 108 = .ok (.bipush 40, 2) := by decide +kernel
theorem dX0_savedBy_110 : decode cX0_savedBy 110 = .ok (.iload 5, 2) := by decide +kernel
theorem dX0_savedBy_112 : decode cX0_savedBy 112 = .ok (.invokevirtual 93, 3) := by decide +kernel
theorem dX0_savedBy_115 : decode cX0_savedBy 115 = .ok (.isub, 1) := by decide +kernel
theorem dX0_savedBy_116 : decode cX0_savedBy 116 = .ok (.iadd, 1) := by decide +kernel
theorem dX0_savedBy_117 : decode cX0_savedBy 117 = .ok (.istore_n 3, 1) := by decide +kernel
theorem dX0_savedBy_118 : decode cX0_savedBy 118 = .ok (.iinc 5 1, 3) := by decide +kernel
theorem dX0_savedBy_121 : decode cX0_savedBy 121 = .ok (.goto (-113), 3) := by decide +kernel
theorem dX0_savedBy_124 : decode cX0_savedBy 124 = .ok (.iload 4, 2) := by decide +kernel
theorem dX0_savedBy_126 : decode cX0_savedBy 126 = .ok (.iload_n 2, 1) := by decide +kernel
theorem dX0_savedBy_127 : decode cX0_savedBy 127 = .ok (.if_icmp .le 7, 3) := by decide +kernel
theorem dX0_savedBy_130 : decode cX0_savedBy 130 = .ok (.iconst (-1), 1) := by decide +kernel
theorem dX0_savedBy_131 : decode cX0_savedBy 131 = .ok (.goto 4, 3) := by decide +kernel
theorem dX0_savedBy_134 : decode cX0_savedBy 134 = .ok (.iload_n 3, 1) := by decide +kernel
theorem dX0_savedBy_135 : decode cX0_savedBy 135 = .ok (.ireturn, 1) := by decide +kernel
theorem dX0_leastRent_0 : decode cX0_leastRent 0 = .ok (.iconst 0, 1) := by decide +kernel
theorem dX0_leastRent_1 : decode cX0_leastRent 1 = .ok (.istore_n 3, 1) := by decide +kernel
theorem dX0_leastRent_2 : decode cX0_leastRent 2 = .ok (.iload_n 3, 1) := by decide +kernel
theorem dX0_leastRent_3 : decode cX0_leastRent 3 = .ok (.bipush 40, 2) := by decide +kernel
theorem dX0_leastRent_5 : decode cX0_leastRent 5 = .ok (.if_icmp .gt 25, 3) := by decide +kernel
theorem dX0_leastRent_8 : decode cX0_leastRent 8 = .ok (.aload_n 0, 1) := by decide +kernel
theorem dX0_leastRent_9 : decode cX0_leastRent 9 = .ok (.iload_n 2, 1) := by decide +kernel
theorem dX0_leastRent_10 : decode cX0_leastRent 10 = .ok (.iload_n 3, 1) := by decide +kernel
theorem dX0_leastRent_11 : decode cX0_leastRent 11 = .ok (.invokevirtual 89, 3) := by decide +kernel
theorem dX0_leastRent_14 : decode cX0_leastRent 14 = .ok (.aload_n 0, 1) := by decide +kernel
theorem dX0_leastRent_15 : decode cX0_leastRent 15 = .ok (.invokevirtual 105, 3) := by decide +kernel
theorem dX0_leastRent_18 : decode cX0_leastRent 18 = .ok (.iload_n 1, 1) := by decide +kernel
theorem dX0_leastRent_19 : decode cX0_leastRent 19 = .ok (.if_icmp .gt 5, 3) := by decide +kernel
theorem dX0_leastRent_22 : decode cX0_leastRent 22 = .ok (.iload_n 3, 1) := by decide +kernel
theorem dX0_leastRent_23 : decode cX0_leastRent 23 = .ok (.ireturn, 1) := by decide +kernel
theorem dX0_leastRent_24 : decode cX0_leastRent 24 = .ok (.iinc 3 1, 3) := by decide +kernel
theorem dX0_leastRent_27 : decode cX0_leastRent 27 = .ok (.goto (-25), 3) := by decide +kernel
theorem dX0_leastRent_30 : decode cX0_leastRent 30 = .ok (.iconst (-1), 1) := by decide +kernel
theorem dX0_leastRent_31 : decode cX0_leastRent 31 = .ok (.ireturn, 1) := by decide +kernel
theorem dX0_fewestBags_0 : decode cX0_fewestBags 0 = .ok (.iconst 0, 1) := by decide +kernel
theorem dX0_fewestBags_1 : decode cX0_fewestBags 1 = .ok (.istore_n 3, 1) := by decide +kernel
theorem dX0_fewestBags_2 : decode cX0_fewestBags 2 = .ok (.iconst 0, 1) := by decide +kernel
theorem dX0_fewestBags_3 : decode cX0_fewestBags 3 = .ok (.istore 4, 2) := by decide +kernel
theorem dX0_fewestBags_5 : decode cX0_fewestBags 5 = .ok (.iload 4, 2) := by decide +kernel
theorem dX0_fewestBags_7 : decode cX0_fewestBags 7 = .ok (.iload_n 2, 1) := by decide +kernel
theorem dX0_fewestBags_8 : decode cX0_fewestBags 8 = .ok (.if_icmp .ge 20, 3) := by decide +kernel
theorem dX0_fewestBags_11 : decode cX0_fewestBags 11 = .ok (.iload_n 3, 1) := by decide +kernel
theorem dX0_fewestBags_12 : decode cX0_fewestBags 12 = .ok (.aload_n 0, 1) := by decide +kernel
theorem dX0_fewestBags_13 : decode cX0_fewestBags 13 = .ok (.iload 4, 2) := by decide +kernel
theorem dX0_fewestBags_15 : decode cX0_fewestBags 15 = .ok (.invokevirtual 47, 3) := by decide +kernel
theorem dX0_fewestBags_18 : decode cX0_fewestBags 18 = .ok (.invokestatic 124, 3) := by decide +kernel
theorem dX0_fewestBags_21 : decode cX0_fewestBags 21 = .ok (.istore_n 3, 1) := by decide +kernel
theorem dX0_fewestBags_22 : decode cX0_fewestBags 22 = .ok (.iinc 4 1, 3) := by decide +kernel
theorem dX0_fewestBags_25 : decode cX0_fewestBags 25 = .ok (.goto (-20), 3) := by decide +kernel
theorem dX0_fewestBags_28 : decode cX0_fewestBags 28 = .ok (.iconst 0, 1) := by decide +kernel
theorem dX0_fewestBags_29 : decode cX0_fewestBags 29 = .ok (.istore 4, 2) := by decide +kernel
theorem dX0_fewestBags_31 : decode cX0_fewestBags 31 = .ok (.iconst 0, 1) := by decide +kernel
theorem dX0_fewestBags_32 : decode cX0_fewestBags 32 = .ok (.istore 5, 2) := by decide +kernel
theorem dX0_fewestBags_34 : decode cX0_fewestBags 34 = .ok (.iload 5, 2) := by decide +kernel
theorem dX0_fewestBags_36 : decode cX0_fewestBags 36 = .ok (.aload_n 0, 1) := by decide +kernel
theorem dX0_fewestBags_37 : decode cX0_fewestBags 37 = .ok (.getfield 18, 3) := by decide +kernel
theorem dX0_fewestBags_40 : decode cX0_fewestBags 40 = .ok (.getfield 54, 3) := by decide +kernel
theorem dX0_fewestBags_43 : decode cX0_fewestBags 43 = .ok (.if_icmp .ge 63, 3) := by decide +kernel
theorem dX0_fewestBags_46 : decode cX0_fewestBags 46 = .ok (.iload_n 1, 1) := by decide +kernel
theorem dX0_fewestBags_47 : decode cX0_fewestBags 47 = .ok (.iload 5, 2) := by decide +kernel
theorem dX0_fewestBags_49 : decode cX0_fewestBags 49 = .ok (.ishr, 1) := by decide +kernel
theorem dX0_fewestBags_50 : decode cX0_fewestBags 50 = .ok (.iconst 1, 1) := by decide +kernel
theorem dX0_fewestBags_51 : decode cX0_fewestBags 51 = .ok (.iand, 1) := by decide +kernel
theorem dX0_fewestBags_52 : decode cX0_fewestBags 52 = .ok (.iconst 1, 1) := by decide +kernel
theorem dX0_fewestBags_53 : decode cX0_fewestBags 53 = .ok (.if_icmp .ne 47, 3) := by decide +kernel
theorem dX0_fewestBags_56 : decode cX0_fewestBags 56 = .ok (.aload_n 0, 1) := by decide +kernel
theorem dX0_fewestBags_57 : decode cX0_fewestBags 57 = .ok (.getfield 26, 3) := by decide +kernel
theorem dX0_fewestBags_60 : decode cX0_fewestBags 60 = .ok (.iload 5, 2) := by decide +kernel
theorem dX0_fewestBags_62 : decode cX0_fewestBags 62 = .ok (.iload_n 3, 1) := by decide +kernel
theorem dX0_fewestBags_63 : decode cX0_fewestBags 63 = .ok (.invokevirtual 50, 3) := by decide +kernel
theorem dX0_fewestBags_66 : decode cX0_fewestBags 66 = .ok (.iconst 1, 1) := by decide +kernel
theorem dX0_fewestBags_67 : decode cX0_fewestBags 67 = .ok (.iadd, 1) := by decide +kernel
theorem dX0_fewestBags_68 : decode cX0_fewestBags 68 = .ok (.iconst 2, 1) := by decide +kernel
theorem dX0_fewestBags_69 : decode cX0_fewestBags 69 = .ok (.idiv, 1) := by decide +kernel
theorem dX0_fewestBags_70 : decode cX0_fewestBags 70 = .ok (.istore 6, 2) := by decide +kernel
theorem dX0_fewestBags_72 : decode cX0_fewestBags 72 = .ok (.aload_n 0, 1) := by decide +kernel
theorem dX0_fewestBags_73 : decode cX0_fewestBags 73 = .ok (.getfield 26, 3) := by decide +kernel
theorem dX0_fewestBags_76 : decode cX0_fewestBags 76 = .ok (.bipush 56, 2) := by decide +kernel
theorem dX0_fewestBags_78 : decode cX0_fewestBags 78 = .ok (.iload 5, 2) := by decide +kernel
theorem dX0_fewestBags_80 : decode cX0_fewestBags 80 = .ok (.invokevirtual 93, 3) := by decide +kernel
theorem dX0_fewestBags_83 : decode cX0_fewestBags 83 = .ok (.iload 6, 2) := by decide +kernel
theorem dX0_fewestBags_85 : decode cX0_fewestBags 85 = .ok (.iadd, 1) := by decide +kernel
theorem dX0_fewestBags_86 : decode cX0_fewestBags 86 = .ok (.bipush 9, 2) := by decide +kernel
theorem dX0_fewestBags_88 : decode cX0_fewestBags 88 = .ok (.if_icmp .le 5, 3) := by decide +kernel
theorem dX0_fewestBags_91 : decode cX0_fewestBags 91 = .ok (.iconst (-1), 1) := by decide +kernel
theorem dX0_fewestBags_92 : decode cX0_fewestBags 92 = .ok (.ireturn, 1) := by decide +kernel
theorem dX0_fewestBags_93 : decode cX0_fewestBags 93 = .ok (.iload 4, 2) := by decide +kernel
theorem dX0_fewestBags_95 : decode cX0_fewestBags 95 = .ok (.iload 6, 2) := by decide +kernel
theorem dX0_fewestBags_97 : decode cX0_fewestBags 97 = .ok (.iadd, 1) := by decide +kernel
theorem dX0_fewestBags_98 : decode cX0_fewestBags 98 = .ok (.istore 4, 2) := by decide +kernel
theorem dX0_fewestBags_100 : decode cX0_fewestBags 100 = .ok (.iinc 5 1, 3) := by decide +kernel
theorem dX0_fewestBags_103 : decode cX0_fewestBags 103 = .ok (.goto (-69), 3) := by decide +kernel
theorem dX0_fewestBags_106 : decode cX0_fewestBags 106 = .ok (.iload 4, 2) := by decide +kernel
theorem dX0_fewestBags_108 : decode cX0_fewestBags 108 = .ok (.ireturn, 1) := by decide +kernel
theorem dX0_driftFrom_0 : decode cX0_driftFrom 0 = .ok (.iload_n 1, 1) := by decide +kernel
theorem dX0_driftFrom_1 : decode cX0_driftFrom 1 = .ok (.istore 4, 2) := by decide +kernel
theorem dX0_driftFrom_3 : decode cX0_driftFrom 3 = .ok (.iconst 0, 1) := by decide +kernel
theorem dX0_driftFrom_4 : decode cX0_driftFrom 4 = .ok (.istore 5, 2) := by decide +kernel
theorem dX0_driftFrom_6 : decode cX0_driftFrom 6 = .ok (.iload 5, 2) := by decide +kernel
theorem dX0_driftFrom_8 : decode cX0_driftFrom 8 = .ok (.iload_n 3, 1) := by decide +kernel
theorem dX0_driftFrom_9 : decode cX0_driftFrom 9 = .ok (.if_icmp .ge 43, 3) := by decide +kernel
theorem dX0_driftFrom_12 : decode cX0_driftFrom 12 = .ok (.iload 4, 2) := by decide +kernel
theorem dX0_driftFrom_14 : decode cX0_driftFrom 14 = .ok (.aload_n 0, 1) := by decide +kernel
theorem dX0_driftFrom_15 : decode cX0_driftFrom 15 = .ok (.getfield 18, 3) := by decide +kernel
theorem dX0_driftFrom_18 : decode cX0_driftFrom 18 = .ok (.getfield 54, 3) := by decide +kernel
theorem dX0_driftFrom_21 : decode cX0_driftFrom 21 = .ok (.if_icmp .ge 31, 3) := by decide +kernel
theorem dX0_driftFrom_24 : decode cX0_driftFrom 24 = .ok (.iload 4, 2) := by decide +kernel
theorem dX0_driftFrom_26 : decode cX0_driftFrom 26 = .ok (.aload_n 0, 1) := by decide +kernel
theorem dX0_driftFrom_27 : decode cX0_driftFrom 27 = .ok (.iload 4, 2) := by decide +kernel
theorem dX0_driftFrom_29 : decode cX0_driftFrom 29 = .ok (.iload 5, 2) := by decide +kernel
theorem dX0_driftFrom_31 : decode cX0_driftFrom 31 = .ok (.invokevirtual 58, 3) := by decide +kernel
theorem dX0_driftFrom_34 : decode cX0_driftFrom 34 = .ok (.iload_n 2, 1) := by decide +kernel
theorem dX0_driftFrom_35 : decode cX0_driftFrom 35 = .ok (.if_icmp .lt 7, 3) := by decide +kernel
theorem dX0_driftFrom_38 : decode cX0_driftFrom 38 = .ok (.iconst 1, 1) := by decide +kernel
theorem dX0_driftFrom_39 : decode cX0_driftFrom 39 = .ok (.goto 4, 3) := by decide +kernel
theorem dX0_driftFrom_42 : decode cX0_driftFrom 42 = .ok (.iconst 0, 1) := by decide +kernel
theorem dX0_driftFrom_43 : decode cX0_driftFrom 43 = .ok (.iadd, 1) := by decide +kernel
theorem dX0_driftFrom_44 : decode cX0_driftFrom 44 = .ok (.istore 4, 2) := by decide +kernel
theorem dX0_driftFrom_46 : decode cX0_driftFrom 46 = .ok (.iinc 5 1, 3) := by decide +kernel
theorem dX0_driftFrom_49 : decode cX0_driftFrom 49 = .ok (.goto (-43), 3) := by decide +kernel
theorem dX0_driftFrom_52 : decode cX0_driftFrom 52 = .ok (.iload 4, 2) := by decide +kernel
theorem dX0_driftFrom_54 : decode cX0_driftFrom 54 = .ok (.aload_n 0, 1) := by decide +kernel
theorem dX0_driftFrom_55 : decode cX0_driftFrom 55 = .ok (.getfield 18, 3) := by decide +kernel
theorem dX0_driftFrom_58 : decode cX0_driftFrom 58 = .ok (.getfield 54, 3) := by decide +kernel
theorem dX0_driftFrom_61 : decode cX0_driftFrom 61 = .ok (.if_icmp .ge 8, 3) := by decide +kernel
theorem dX0_driftFrom_64 : decode cX0_driftFrom 64 = .ok (.iload 4, 2) := by decide +kernel
theorem dX0_driftFrom_66 : decode cX0_driftFrom 66 = .ok (.goto 4, 3) := by decide +kernel
theorem dX0_driftFrom_69 : decode cX0_driftFrom 69 = .ok (.iconst (-1), 1) := by decide +kernel
theorem dX0_driftFrom_70 : decode cX0_driftFrom 70 = .ok (.ireturn, 1) := by decide +kernel
theorem dX0_driftsTo_0 : decode cX0_driftsTo 0 = .ok (.iconst 0, 1) := by decide +kernel
theorem dX0_driftsTo_1 : decode cX0_driftsTo 1 = .ok (.istore 4, 2) := by decide +kernel
theorem dX0_driftsTo_3 : decode cX0_driftsTo 3 = .ok (.iconst 0, 1) := by decide +kernel
theorem dX0_driftsTo_4 : decode cX0_driftsTo 4 = .ok (.istore 5, 2) := by decide +kernel
theorem dX0_driftsTo_6 : decode cX0_driftsTo 6 = .ok (.iconst (-1), 1) := by decide +kernel
theorem dX0_driftsTo_7 : decode cX0_driftsTo 7 = .ok (.istore 6, 2) := by decide +kernel
theorem dX0_driftsTo_9 : decode cX0_driftsTo 9 = .ok (.bipush 20, 2) := by decide +kernel
theorem dX0_driftsTo_11 : decode cX0_driftsTo 11 = .ok (.istore 7, 2) := by decide +kernel
theorem dX0_driftsTo_13 : decode cX0_driftsTo 13 = .ok (.iload 7, 2) := by decide +kernel
theorem dX0_driftsTo_15 : decode cX0_driftsTo 15 = .ok (.iconst 1, 1) := by decide +kernel
theorem dX0_driftsTo_16 : decode cX0_driftsTo 16 = .ok (.if_icmp .lt 59, 3) := by decide +kernel
theorem dX0_driftsTo_19 : decode cX0_driftsTo 19 = .ok (.iconst 0, 1) := by decide +kernel
theorem dX0_driftsTo_20 : decode cX0_driftsTo 20 = .ok (.istore 8, 2) := by decide +kernel
theorem dX0_driftsTo_22 : decode cX0_driftsTo 22 = .ok (.iload 8, 2) := by decide +kernel
theorem dX0_driftsTo_24 : decode cX0_driftsTo 24 = .ok (.aload_n 0, 1) := by decide +kernel
theorem dX0_driftsTo_25 : decode cX0_driftsTo 25 = .ok (.getfield 18, 3) := by decide +kernel
theorem dX0_driftsTo_28 : decode cX0_driftsTo 28 = .ok (.getfield 54, 3) := by decide +kernel
theorem dX0_driftsTo_31 : decode cX0_driftsTo 31 = .ok (.if_icmp .ge 38, 3) := by decide +kernel
theorem dX0_driftsTo_34 : decode cX0_driftsTo 34 = .ok (.aload_n 0, 1) := by decide +kernel
theorem dX0_driftsTo_35 : decode cX0_driftsTo 35 = .ok (.iload 8, 2) := by decide +kernel
theorem dX0_driftsTo_37 : decode cX0_driftsTo 37 = .ok (.iload 7, 2) := by decide +kernel
theorem dX0_driftsTo_39 : decode cX0_driftsTo 39 = .ok (.iload_n 2, 1) := by decide +kernel
theorem dX0_driftsTo_40 : decode cX0_driftsTo 40 = .ok (.invokevirtual 129, 3) := by decide +kernel
theorem dX0_driftsTo_43 : decode cX0_driftsTo 43 = .ok (.iload_n 1, 1) := by decide +kernel
theorem dX0_driftsTo_44 : decode cX0_driftsTo 44 = .ok (.if_icmp .ne 19, 3) := by decide +kernel
theorem dX0_driftsTo_47 : decode cX0_driftsTo 47 = .ok (.iinc 4 1, 3) := by decide +kernel
theorem dX0_driftsTo_50 : decode cX0_driftsTo 50 = .ok (.iload 5, 2) := by decide +kernel
theorem dX0_driftsTo_52 : decode cX0_driftsTo 52 = .ok (.iconst 1, 1) := by decide +kernel
theorem dX0_driftsTo_53 : decode cX0_driftsTo 53 = .ok (.iload 8, 2) := by decide +kernel
theorem dX0_driftsTo_55 : decode cX0_driftsTo 55 = .ok (.ishl, 1) := by decide +kernel
theorem dX0_driftsTo_56 : decode cX0_driftsTo 56 = .ok (.ior, 1) := by decide +kernel
theorem dX0_driftsTo_57 : decode cX0_driftsTo 57 = .ok (.istore 5, 2) := by decide +kernel
theorem dX0_driftsTo_59 : decode cX0_driftsTo 59 = .ok (.iload 7, 2) := by decide +kernel
theorem dX0_driftsTo_61 : decode cX0_driftsTo 61 = .ok (.istore 6, 2) := by decide +kernel
theorem dX0_driftsTo_63 : decode cX0_driftsTo 63 = .ok (.iinc 8 1, 3) := by decide +kernel
theorem dX0_driftsTo_66 : decode cX0_driftsTo 66 = .ok (.goto (-44), 3) := by decide +kernel
theorem dX0_driftsTo_69 : decode cX0_driftsTo 69 = .ok (.iinc 7 (-1), 3) := by decide +kernel
theorem dX0_driftsTo_72 : decode cX0_driftsTo 72 = .ok (.goto (-59), 3) := by decide +kernel
theorem dX0_driftsTo_75 : decode cX0_driftsTo 75 = .ok (.iload_n 3, 1) := by decide +kernel
theorem dX0_driftsTo_76 : decode cX0_driftsTo 76 = .ok (.ifCond .ne 8, 3) := by decide +kernel
theorem dX0_driftsTo_79 : decode cX0_driftsTo 79 = .ok (.iload 4, 2) := by decide +kernel
theorem dX0_driftsTo_81 : decode cX0_driftsTo 81 = .ok (.goto 15, 3) := by decide +kernel
theorem dX0_driftsTo_84 : decode cX0_driftsTo 84 = .ok (.iload_n 3, 1) := by decide +kernel
theorem dX0_driftsTo_85 : decode cX0_driftsTo 85 = .ok (.iconst 1, 1) := by decide +kernel
theorem dX0_driftsTo_86 : decode cX0_driftsTo 86 = .ok (.if_icmp .ne 8, 3) := by decide +kernel
theorem dX0_driftsTo_89 : decode cX0_driftsTo 89 = .ok (.iload 5, 2) := by decide +kernel
theorem dX0_driftsTo_91 : decode cX0_driftsTo 91 = .ok (.goto 5, 3) := by decide +kernel
theorem dX0_driftsTo_94 : decode cX0_driftsTo 94 = .ok (.iload 6, 2) := by decide +kernel
theorem dX0_driftsTo_96 : decode cX0_driftsTo 96 = .ok (.ireturn, 1) := by decide +kernel
theorem dX0_meanFound_0 : decode cX0_meanFound 0 = .ok (.iconst 0, 1) := by decide +kernel
theorem dX0_meanFound_1 : decode cX0_meanFound 1 = .ok (.istore 4, 2) := by decide +kernel
theorem dX0_meanFound_3 : decode cX0_meanFound 3 = .ok (.iconst 0, 1) := by decide +kernel
theorem dX0_meanFound_4 : decode cX0_meanFound 4 = .ok (.istore 5, 2) := by decide +kernel
theorem dX0_meanFound_6 : decode cX0_meanFound 6 = .ok (.iload 5, 2) := by decide +kernel
theorem dX0_meanFound_8 : decode cX0_meanFound 8 = .ok (.aload_n 0, 1) := by decide +kernel
theorem dX0_meanFound_9 : decode cX0_meanFound 9 = .ok (.getfield 18, 3) := by decide +kernel
theorem dX0_meanFound_12 : decode cX0_meanFound 12 = .ok (.getfield 133, 3) := by decide +kernel
theorem dX0_meanFound_15 : decode cX0_meanFound 15 = .ok (.if_icmp .ge 39, 3) := by decide +kernel
theorem dX0_meanFound_18 : decode cX0_meanFound 18 = .ok (.iload 4, 2) := by decide +kernel
theorem dX0_meanFound_20 : decode cX0_meanFound 20 = .ok (.aload_n 0, 1) := by decide +kernel
theorem dX0_meanFound_21 : decode cX0_meanFound 21 = .ok (.getfield 18, 3) := by decide +kernel
theorem dX0_meanFound_24 : decode cX0_meanFound 24 = .ok (.getfield 136, 3) := by decide +kernel
theorem dX0_meanFound_27 : decode cX0_meanFound 27 = .ok (.iload 5, 2) := by decide +kernel
theorem dX0_meanFound_29 : decode cX0_meanFound 29 = .ok (.invokestatic 120, 3) := by decide +kernel
theorem dX0_meanFound_32 : decode cX0_meanFound 32 = .ok (.aload_n 0, 1) := by decide +kernel
theorem dX0_meanFound_33 : decode cX0_meanFound 33 = .ok (.getfield 18, 3) := by decide +kernel
theorem dX0_meanFound_36 : decode cX0_meanFound 36 = .ok (.getfield 139, 3) := by decide +kernel
theorem dX0_meanFound_39 : decode cX0_meanFound 39 = .ok (.iload 5, 2) := by decide +kernel
theorem dX0_meanFound_41 : decode cX0_meanFound 41 = .ok (.invokestatic 120, 3) := by decide +kernel
theorem dX0_meanFound_44 : decode cX0_meanFound 44 = .ok (.imul, 1) := by decide +kernel
theorem dX0_meanFound_45 : decode cX0_meanFound 45 = .ok (.iadd, 1) := by decide +kernel
theorem dX0_meanFound_46 : decode cX0_meanFound 46 = .ok (.istore 4, 2) := by decide +kernel
theorem dX0_meanFound_48 : decode cX0_meanFound 48 = .ok (.iinc 5 1, 3) := by decide +kernel
theorem dX0_meanFound_51 : decode cX0_meanFound 51 = .ok (.goto (-45), 3) := by decide +kernel
theorem dX0_meanFound_54 : decode cX0_meanFound 54 = .ok (.iload 4, 2) := by decide +kernel
theorem dX0_meanFound_56 : decode cX0_meanFound 56 = .ok (.aload_n 0, 1) := by decide +kernel
theorem dX0_meanFound_57 : decode cX0_meanFound 57 = .ok (.iconst 1, 1) := by decide +kernel
theorem dX0_meanFound_58 : decode cX0_meanFound 58 = .ok (.iload_n 1, 1) := by decide +kernel
theorem dX0_meanFound_59 : decode cX0_meanFound 59 = .ok (.ishl, 1) := by decide +kernel
theorem dX0_meanFound_60 : decode cX0_meanFound 60 = .ok (.iload_n 2, 1) := by decide +kernel
theorem dX0_meanFound_61 : decode cX0_meanFound 61 = .ok (.invokevirtual 96, 3) := by decide +kernel
theorem dX0_meanFound_64 : decode cX0_meanFound 64 = .ok (.imul, 1) := by decide +kernel
theorem dX0_meanFound_65 : decode cX0_meanFound 65 = .ok (.istore 4, 2) := by decide +kernel
theorem dX0_meanFound_67 : decode cX0_meanFound 67 = .ok (.bipush 16, 2) := by decide +kernel
theorem dX0_meanFound_69 : decode cX0_meanFound 69 = .ok (.istore 5, 2) := by decide +kernel
theorem dX0_meanFound_71 : decode cX0_meanFound 71 = .ok (.iconst 0, 1) := by decide +kernel
theorem dX0_meanFound_72 : decode cX0_meanFound 72 = .ok (.istore 6, 2) := by decide +kernel
theorem dX0_meanFound_74 : decode cX0_meanFound 74 = .ok (.iload 6, 2) := by decide +kernel
theorem dX0_meanFound_76 : decode cX0_meanFound 76 = .ok (.iconst 4, 1) := by decide +kernel
theorem dX0_meanFound_77 : decode cX0_meanFound 77 = .ok (.if_icmp .ge 28, 3) := by decide +kernel
theorem dX0_meanFound_80 : decode cX0_meanFound 80 = .ok (.iload 4, 2) := by decide +kernel
theorem dX0_meanFound_82 : decode cX0_meanFound 82 = .ok (.iconst 2, 1) := by decide +kernel
theorem dX0_meanFound_83 : decode cX0_meanFound 83 = .ok (.irem, 1) := by decide +kernel
theorem dX0_meanFound_84 : decode cX0_meanFound 84 = .ok (.ifCond .ne 21, 3) := by decide +kernel
theorem dX0_meanFound_87 : decode cX0_meanFound 87 = .ok (.iload 4, 2) := by decide +kernel
theorem dX0_meanFound_89 : decode cX0_meanFound 89 = .ok (.iconst 2, 1) := by decide +kernel
theorem dX0_meanFound_90 : decode cX0_meanFound 90 = .ok (.idiv, 1) := by decide +kernel
theorem dX0_meanFound_91 : decode cX0_meanFound 91 = .ok (.istore 4, 2) := by decide +kernel
theorem dX0_meanFound_93 : decode cX0_meanFound 93 = .ok (.iload 5, 2) := by decide +kernel
theorem dX0_meanFound_95 : decode cX0_meanFound 95 = .ok (.iconst 2, 1) := by decide +kernel
theorem dX0_meanFound_96 : decode cX0_meanFound 96 = .ok (.idiv, 1) := by decide +kernel
theorem dX0_meanFound_97 : decode cX0_meanFound 97 = .ok (.istore 5, 2) := by decide +kernel
theorem dX0_meanFound_99 : decode cX0_meanFound 99 = .ok (.iinc 6 1, 3) := by decide +kernel
theorem dX0_meanFound_102 : decode cX0_meanFound 102 = .ok (.goto (-28), 3) := by decide +kernel
theorem dX0_meanFound_105 : decode cX0_meanFound 105 = .ok (.iload_n 3, 1) := by decide +kernel
theorem dX0_meanFound_106 : decode cX0_meanFound 106 = .ok (.ifCond .ne 8, 3) := by decide +kernel
theorem dX0_meanFound_109 : decode cX0_meanFound 109 = .ok (.iload 4, 2) := by decide +kernel
theorem dX0_meanFound_111 : decode cX0_meanFound 111 = .ok (.goto 5, 3) := by decide +kernel
theorem dX0_meanFound_114 : decode cX0_meanFound 114 = .ok (.iload 5, 2) := by decide +kernel
theorem dX0_meanFound_116 : decode cX0_meanFound 116 = .ok (.ireturn, 1) := by decide +kernel
theorem dX0_timesWet_0 : decode cX0_timesWet 0 = .ok (.aload_n 0, 1) := by decide +kernel
theorem dX0_timesWet_1 : decode cX0_timesWet 1 = .ok (.invokevirtual 65, 3) := by decide +kernel
theorem dX0_timesWet_4 : decode cX0_timesWet 4 = .ok (.iconst 0, 1) := by decide +kernel
theorem dX0_timesWet_5 : decode cX0_timesWet 5 = .ok (.istore_n 3, 1) := by decide +kernel
theorem dX0_timesWet_6 : decode cX0_timesWet 6 = .ok (.iconst 0, 1) := by decide +kernel
theorem dX0_timesWet_7 : decode cX0_timesWet 7 = .ok (.istore 4, 2) := by decide +kernel
theorem dX0_timesWet_9 : decode cX0_timesWet 9 = .ok (.iload 4, 2) := by decide +kernel
theorem dX0_timesWet_11 : decode cX0_timesWet 11 = .ok (.iload_n 2, 1) := by decide +kernel
theorem dX0_timesWet_12 : decode cX0_timesWet 12 = .ok (.if_icmp .ge 45, 3) := by decide +kernel
theorem dX0_timesWet_15 : decode cX0_timesWet 15 = .ok (.aload_n 0, 1) := by decide +kernel
theorem dX0_timesWet_16 : decode cX0_timesWet 16 = .ok (.getfield 12, 3) := by decide +kernel
theorem dX0_timesWet_19 : decode cX0_timesWet 19 = .ok (.iload_n 1, 1) := by decide +kernel
theorem dX0_timesWet_20 : decode cX0_timesWet 20 = .ok (.invokevirtual 114, 3) := by decide +kernel
theorem dX0_timesWet_23 : decode cX0_timesWet 23 = .ok (.ifCond .eq 24, 3) := by decide +kernel
theorem dX0_timesWet_26 : decode cX0_timesWet 26 = .ok (.aload_n 0, 1) := by decide +kernel
theorem dX0_timesWet_27 : decode cX0_timesWet 27 = .ok (.aload_n 0, 1) := by decide +kernel
theorem dX0_timesWet_28 : decode cX0_timesWet 28 = .ok (.getfield 12, 3) := by decide +kernel
theorem dX0_timesWet_31 : decode cX0_timesWet 31 = .ok (.iconst 0, 1) := by decide +kernel
theorem dX0_timesWet_32 : decode cX0_timesWet 32 = .ok (.iload_n 1, 1) := by decide +kernel
theorem dX0_timesWet_33 : decode cX0_timesWet 33 = .ok (.invokevirtual 93, 3) := by decide +kernel
theorem dX0_timesWet_36 : decode cX0_timesWet 36 = .ok (.iload 4, 2) := by decide +kernel
theorem dX0_timesWet_38 : decode cX0_timesWet 38 = .ok (.invokevirtual 58, 3) := by decide +kernel
theorem dX0_timesWet_41 : decode cX0_timesWet 41 = .ok (.ifCond .le 6, 3) := by decide +kernel
theorem dX0_timesWet_44 : decode cX0_timesWet 44 = .ok (.iinc 3 1, 3) := by decide +kernel
theorem dX0_timesWet_47 : decode cX0_timesWet 47 = .ok (.aload_n 0, 1) := by decide +kernel
theorem dX0_timesWet_48 : decode cX0_timesWet 48 = .ok (.invokevirtual 68, 3) := by decide +kernel
theorem dX0_timesWet_51 : decode cX0_timesWet 51 = .ok (.iinc 4 1, 3) := by decide +kernel
theorem dX0_timesWet_54 : decode cX0_timesWet 54 = .ok (.goto (-45), 3) := by decide +kernel
theorem dX0_timesWet_57 : decode cX0_timesWet 57 = .ok (.iload_n 3, 1) := by decide +kernel
theorem dX0_timesWet_58 : decode cX0_timesWet 58 = .ok (.ireturn, 1) := by decide +kernel
theorem dX0_breakOf_0 : decode cX0_breakOf 0 = .ok (.aload_n 0, 1) := by decide +kernel
theorem dX0_breakOf_1 : decode cX0_breakOf 1 = .ok (.invokevirtual 65, 3) := by decide +kernel
theorem dX0_breakOf_4 : decode cX0_breakOf 4 = .ok (.iconst 0, 1) := by decide +kernel
theorem dX0_breakOf_5 : decode cX0_breakOf 5 = .ok (.istore_n 2, 1) := by decide +kernel
theorem dX0_breakOf_6 : decode cX0_breakOf 6 = .ok (.iload_n 2, 1) := by decide +kernel
theorem dX0_breakOf_7 : decode cX0_breakOf 7 = .ok (.bipush 60, 2) := by decide +kernel
theorem dX0_breakOf_9 : decode cX0_breakOf 9 = .ok (.if_icmp .ge 42, 3) := by decide +kernel
theorem dX0_breakOf_12 : decode cX0_breakOf 12 = .ok (.aload_n 0, 1) := by decide +kernel
theorem dX0_breakOf_13 : decode cX0_breakOf 13 = .ok (.getfield 12, 3) := by decide +kernel
theorem dX0_breakOf_16 : decode cX0_breakOf 16 = .ok (.bipush 20, 2) := by decide +kernel
theorem dX0_breakOf_18 : decode cX0_breakOf 18 = .ok (.iload_n 1, 1) := by decide +kernel
theorem dX0_breakOf_19 : decode cX0_breakOf 19 = .ok (.invokevirtual 93, 3) := by decide +kernel
theorem dX0_breakOf_22 : decode cX0_breakOf 22 = .ok (.iconst 1, 1) := by decide +kernel
theorem dX0_breakOf_23 : decode cX0_breakOf 23 = .ok (.if_icmp .ne 28, 3) := by decide +kernel
theorem dX0_breakOf_26 : decode cX0_breakOf 26 = .ok (.aload_n 0, 1) := by decide +kernel
theorem dX0_breakOf_27 : decode cX0_breakOf 27 = .ok (.invokevirtual 68, 3) := by decide +kernel
theorem dX0_breakOf_30 : decode cX0_breakOf 30 = .ok (.aload_n 0, 1) := by decide +kernel
theorem dX0_breakOf_31 : decode cX0_breakOf 31 = .ok (.getfield 12, 3) := by decide +kernel
theorem dX0_breakOf_34 : decode cX0_breakOf 34 = .ok (.bipush 20, 2) := by decide +kernel
theorem dX0_breakOf_36 : decode cX0_breakOf 36 = .ok (.iload_n 1, 1) := by decide +kernel
theorem dX0_breakOf_37 : decode cX0_breakOf 37 = .ok (.invokevirtual 93, 3) := by decide +kernel
theorem dX0_breakOf_40 : decode cX0_breakOf 40 = .ok (.ifCond .ne 5, 3) := by decide +kernel
theorem dX0_breakOf_43 : decode cX0_breakOf 43 = .ok (.iload_n 2, 1) := by decide +kernel
theorem dX0_breakOf_44 : decode cX0_breakOf 44 = .ok (.ireturn, 1) := by decide +kernel
theorem dX0_breakOf_45 : decode cX0_breakOf 45 = .ok (.iinc 2 1, 3) := by decide +kernel
theorem dX0_breakOf_48 : decode cX0_breakOf 48 = .ok (.goto (-42), 3) := by decide +kernel
theorem dX0_breakOf_51 : decode cX0_breakOf 51 = .ok (.iconst (-1), 1) := by decide +kernel
theorem dX0_breakOf_52 : decode cX0_breakOf 52 = .ok (.ireturn, 1) := by decide +kernel
theorem dX0_longestDry_0 : decode cX0_longestDry 0 = .ok (.iconst 0, 1) := by decide +kernel
theorem dX0_longestDry_1 : decode cX0_longestDry 1 = .ok (.istore_n 2, 1) := by decide +kernel
theorem dX0_longestDry_2 : decode cX0_longestDry 2 = .ok (.iconst (-1), 1) := by decide +kernel
theorem dX0_longestDry_3 : decode cX0_longestDry 3 = .ok (.istore_n 3, 1) := by decide +kernel
theorem dX0_longestDry_4 : decode cX0_longestDry 4 = .ok (.iconst 0, 1) := by decide +kernel
theorem dX0_longestDry_5 : decode cX0_longestDry 5 = .ok (.istore 4, 2) := by decide +kernel
theorem dX0_longestDry_7 : decode cX0_longestDry 7 = .ok (.iconst 0, 1) := by decide +kernel
theorem dX0_longestDry_8 : decode cX0_longestDry 8 = .ok (.istore 5, 2) := by decide +kernel
theorem dX0_longestDry_10 : decode cX0_longestDry 10 = .ok (.iload 5, 2) := by decide +kernel
theorem dX0_longestDry_12 : decode cX0_longestDry 12 = .ok (.bipush 60, 2) := by decide +kernel
theorem dX0_longestDry_14 : decode cX0_longestDry 14 = .ok (.if_icmp .ge 46, 3) := by decide +kernel
theorem dX0_longestDry_17 : decode cX0_longestDry 17 = .ok (.aload_n 0, 1) := by decide +kernel
theorem dX0_longestDry_18 : decode cX0_longestDry 18 = .ok (.iconst (-1), 1) := by decide +kernel
theorem dX0_longestDry_19 : decode cX0_longestDry 19 = .ok (.iload 5, 2) := by decide +kernel
theorem dX0_longestDry_21 : decode cX0_longestDry 21 = .ok (.invokevirtual 142, 3) := by decide +kernel
theorem dX0_longestDry_24 : decode cX0_longestDry 24 = .ok (.ifCond .eq 7, 3) := by decide +kernel
theorem dX0_longestDry_27 : decode cX0_longestDry 27 = .ok (.iconst 0, 1) := by decide +kernel
theorem dX0_longestDry_28 : decode cX0_longestDry 28 = .ok (.goto 7, 3) := by decide +kernel
theorem dX0_longestDry_31 : decode cX0_longestDry 31 = .ok (.iload 4, 2) := by decide +kernel
theorem dX0_longestDry_33 : decode cX0_longestDry 33 = .ok (.iconst 1, 1) := by decide +kernel
theorem dX0_longestDry_34 : decode cX0_longestDry 34 = .ok (.iadd, 1) := by decide +kernel
theorem dX0_longestDry_35 : decode cX0_longestDry 35 = .ok (.istore 4, 2) := by decide +kernel
theorem dX0_longestDry_37 : decode cX0_longestDry 37 = .ok (.iload 4, 2) := by decide +kernel
theorem dX0_longestDry_39 : decode cX0_longestDry 39 = .ok (.iload_n 2, 1) := by decide +kernel
theorem dX0_longestDry_40 : decode cX0_longestDry 40 = .ok (.if_icmp .le 14, 3) := by decide +kernel
theorem dX0_longestDry_43 : decode cX0_longestDry 43 = .ok (.iload 4, 2) := by decide +kernel
theorem dX0_longestDry_45 : decode cX0_longestDry 45 = .ok (.istore_n 2, 1) := by decide +kernel
theorem dX0_longestDry_46 : decode cX0_longestDry 46 = .ok (.iload 5, 2) := by decide +kernel
theorem dX0_longestDry_48 : decode cX0_longestDry 48 = .ok (.iconst 1, 1) := by decide +kernel
theorem dX0_longestDry_49 : decode cX0_longestDry 49 = .ok (.iadd, 1) := by decide +kernel
theorem dX0_longestDry_50 : decode cX0_longestDry 50 = .ok (.iload 4, 2) := by decide +kernel
theorem dX0_longestDry_52 : decode cX0_longestDry 52 = .ok (.isub, 1) := by decide +kernel
theorem dX0_longestDry_53 : decode cX0_longestDry 53 = .ok (.istore_n 3, 1) := by decide +kernel
theorem dX0_longestDry_54 : decode cX0_longestDry 54 = .ok (.iinc 5 1, 3) := by decide +kernel
theorem dX0_longestDry_57 : decode cX0_longestDry 57 = .ok (.goto (-47), 3) := by decide +kernel
theorem dX0_longestDry_60 : decode cX0_longestDry 60 = .ok (.iload_n 1, 1) := by decide +kernel
theorem dX0_longestDry_61 : decode cX0_longestDry 61 = .ok (.ifCond .ne 7, 3) := by decide +kernel
theorem dX0_longestDry_64 : decode cX0_longestDry 64 = .ok (.iload_n 2, 1) := by decide +kernel
theorem dX0_longestDry_65 : decode cX0_longestDry 65 = .ok (.goto 4, 3) := by decide +kernel
theorem dX0_longestDry_68 : decode cX0_longestDry 68 = .ok (.iload_n 3, 1) := by decide +kernel
theorem dX0_longestDry_69 : decode cX0_longestDry 69 = .ok (.ireturn, 1) := by decide +kernel
theorem dX0_goYear_0 : decode cX0_goYear 0 = .ok (.aload_n 0, 1) := by decide +kernel
theorem dX0_goYear_1 : decode cX0_goYear 1 = .ok (.iload_n 1, 1) := by decide +kernel
theorem dX0_goYear_2 : decode cX0_goYear 2 = .ok (.iload_n 2, 1) := by decide +kernel
theorem dX0_goYear_3 : decode cX0_goYear 3 = .ok (.iload_n 3, 1) := by decide +kernel
theorem dX0_goYear_4 : decode cX0_goYear 4 = .ok (.iload 4, 2) := by decide +kernel
theorem dX0_goYear_6 : decode cX0_goYear 6 = .ok (.iconst 0, 1) := by decide +kernel
theorem dX0_goYear_7 : decode cX0_goYear 7 = .ok (.invokevirtual 146, 3) := by decide +kernel
theorem dX0_goYear_10 : decode cX0_goYear 10 = .ok (.ireturn, 1) := by decide +kernel
theorem dX0_goWindy_0 : decode cX0_goWindy 0 = .ok (.aload_n 0, 1) := by decide +kernel
theorem dX0_goWindy_1 : decode cX0_goWindy 1 = .ok (.invokevirtual 65, 3) := by decide +kernel
theorem dX0_goWindy_4 : decode cX0_goWindy 4 = .ok (.iconst 0, 1) := by decide +kernel
theorem dX0_goWindy_5 : decode cX0_goWindy 5 = .ok (.istore 6, 2) := by decide +kernel
theorem dX0_goWindy_7 : decode cX0_goWindy 7 = .ok (.iload_n 1, 1) := by decide +kernel
theorem dX0_goWindy_8 : decode cX0_goWindy 8 = .ok (.istore 7, 2) := by decide +kernel
theorem dX0_goWindy_10 : decode cX0_goWindy 10 = .ok (.iconst 0, 1) := by decide +kernel
theorem dX0_goWindy_11 : decode cX0_goWindy 11 = .ok (.istore 8, 2) := by decide +kernel
theorem dX0_goWindy_13 : decode cX0_goWindy 13 = .ok (.iload 8, 2) := by decide +kernel
theorem dX0_goWindy_15 : decode cX0_goWindy 15 = .ok (.iload_n 2, 1) := by decide +kernel
theorem dX0_goWindy_16 : decode cX0_goWindy 16 = .ok (.if_icmp .ge 118, 3) := by decide +kernel
theorem dX0_goWindy_19 : decode cX0_goWindy 19 = .ok (.iload 7, 2) := by decide +kernel
theorem dX0_goWindy_21 : decode cX0_goWindy 21 = .ok (.ldc 150, 2) := by decide +kernel
theorem dX0_goWindy_23 : decode cX0_goWindy 23 = .ok (.imul, 1) := by decide +kernel
theorem dX0_goWindy_24 : decode cX0_goWindy 24 = .ok (.sipush 12345, 3) := by decide +kernel
theorem dX0_goWindy_27 : decode cX0_goWindy 27 = .ok (.iadd, 1) := by decide +kernel
theorem dX0_goWindy_28 : decode cX0_goWindy 28 = .ok (.istore 7, 2) := by decide +kernel
theorem dX0_goWindy_30 : decode cX0_goWindy 30 = .ok (.iload 7, 2) := by decide +kernel
theorem dX0_goWindy_32 : decode cX0_goWindy 32 = .ok (.bipush 16, 2) := by decide +kernel
theorem dX0_goWindy_34 : decode cX0_goWindy 34 = .ok (.ishr, 1) := by decide +kernel
theorem dX0_goWindy_35 : decode cX0_goWindy 35 = .ok (.bipush 15, 2) := by decide +kernel
theorem dX0_goWindy_37 : decode cX0_goWindy 37 = .ok (.iand, 1) := by decide +kernel
theorem dX0_goWindy_38 : decode cX0_goWindy 38 = .ok (.iload_n 3, 1) := by decide +kernel
theorem dX0_goWindy_39 : decode cX0_goWindy 39 = .ok (.if_icmp .ge 7, 3) := by decide +kernel
theorem dX0_goWindy_42 : decode cX0_goWindy 42 = .ok (.iconst 1, 1) := by decide +kernel
theorem dX0_goWindy_43 : decode cX0_goWindy 43 = .ok (.goto 4, 3) := by decide +kernel
theorem dX0_goWindy_46 : decode cX0_goWindy 46 = .ok (.iconst 0, 1) := by decide +kernel
theorem dX0_goWindy_47 : decode cX0_goWindy 47 = .ok (.istore 9, 2) := by decide +kernel
theorem dX0_goWindy_49 : decode cX0_goWindy 49 = .ok (.iload 6, 2) := by decide +kernel
theorem dX0_goWindy_51 : decode cX0_goWindy 51 = .ok (.iload 9, 2) := by decide +kernel
theorem dX0_goWindy_53 : decode cX0_goWindy 53 = .ok (.ifCond .eq 7, 3) := by decide +kernel
theorem dX0_goWindy_56 : decode cX0_goWindy 56 = .ok (.iconst 1, 1) := by decide +kernel
theorem dX0_goWindy_57 : decode cX0_goWindy 57 = .ok (.goto 4, 3) := by decide +kernel
theorem dX0_goWindy_60 : decode cX0_goWindy 60 = .ok (.iconst 0, 1) := by decide +kernel
theorem dX0_goWindy_61 : decode cX0_goWindy 61 = .ok (.iadd, 1) := by decide +kernel
theorem dX0_goWindy_62 : decode cX0_goWindy 62 = .ok (.istore 6, 2) := by decide +kernel
theorem dX0_goWindy_64 : decode cX0_goWindy 64 = .ok (.aload_n 0, 1) := by decide +kernel
theorem dX0_goWindy_65 : decode cX0_goWindy 65 = .ok (.getfield 12, 3) := by decide +kernel
theorem dX0_goWindy_68 : decode cX0_goWindy 68 = .ok (.aload_n 0, 1) := by decide +kernel
theorem dX0_goWindy_69 : decode cX0_goWindy 69 = .ok (.getfield 18, 3) := by decide +kernel
theorem dX0_goWindy_72 : decode cX0_goWindy 72 = .ok (.aload_n 0, 1) := by decide +kernel
theorem dX0_goWindy_73 : decode cX0_goWindy 73 = .ok (.getfield 18, 3) := by decide +kernel
theorem dX0_goWindy_76 : decode cX0_goWindy 76 = .ok (.aload_n 0, 1) := by decide +kernel
theorem dX0_goWindy_77 : decode cX0_goWindy 77 = .ok (.getfield 12, 3) := by decide +kernel
theorem dX0_goWindy_80 : decode cX0_goWindy 80 = .ok (.invokevirtual 37, 3) := by decide +kernel
theorem dX0_goWindy_83 : decode cX0_goWindy 83 = .ok (.invokevirtual 41, 3) := by decide +kernel
theorem dX0_goWindy_86 : decode cX0_goWindy 86 = .ok (.iload 9, 2) := by decide +kernel
theorem dX0_goWindy_88 : decode cX0_goWindy 88 = .ok (.ifCond .eq 8, 3) := by decide +kernel
theorem dX0_goWindy_91 : decode cX0_goWindy 91 = .ok (.iload 4, 2) := by decide +kernel
theorem dX0_goWindy_93 : decode cX0_goWindy 93 = .ok (.goto 4, 3) := by decide +kernel
theorem dX0_goWindy_96 : decode cX0_goWindy 96 = .ok (.iconst 0, 1) := by decide +kernel
theorem dX0_goWindy_97 : decode cX0_goWindy 97 = .ok (.iadd, 1) := by decide +kernel
theorem dX0_goWindy_98 : decode cX0_goWindy 98 = .ok (.invokevirtual 61, 3) := by decide +kernel
theorem dX0_goWindy_101 : decode cX0_goWindy 101 = .ok (.iload 5, 2) := by decide +kernel
theorem dX0_goWindy_103 : decode cX0_goWindy 103 = .ok (.ifCond .eq 25, 3) := by decide +kernel
theorem dX0_goWindy_106 : decode cX0_goWindy 106 = .ok (.aload_n 0, 1) := by decide +kernel
theorem dX0_goWindy_107 : decode cX0_goWindy 107 = .ok (.getfield 12, 3) := by decide +kernel
theorem dX0_goWindy_110 : decode cX0_goWindy 110 = .ok (.aload_n 0, 1) := by decide +kernel
theorem dX0_goWindy_111 : decode cX0_goWindy 111 = .ok (.getfield 18, 3) := by decide +kernel
theorem dX0_goWindy_114 : decode cX0_goWindy 114 = .ok (.aload_n 0, 1) := by decide +kernel
theorem dX0_goWindy_115 : decode cX0_goWindy 115 = .ok (.getfield 22, 3) := by decide +kernel
theorem dX0_goWindy_118 : decode cX0_goWindy 118 = .ok (.aload_n 0, 1) := by decide +kernel
theorem dX0_goWindy_119 : decode cX0_goWindy 119 = .ok (.getfield 18, 3) := by decide +kernel
theorem dX0_goWindy_122 : decode cX0_goWindy 122 = .ok (.getfield 86, 3) := by decide +kernel
theorem dX0_goWindy_125 : decode cX0_goWindy 125 = .ok (.invokevirtual 71, 3) := by decide +kernel
theorem dX0_goWindy_128 : decode cX0_goWindy 128 = .ok (.iinc 8 1, 3) := by decide +kernel
theorem dX0_goWindy_131 : decode cX0_goWindy 131 = .ok (.goto (-118), 3) := by decide +kernel
theorem dX0_goWindy_134 : decode cX0_goWindy 134 = .ok (.iload 6, 2) := by decide +kernel
theorem dX0_goWindy_136 : decode cX0_goWindy 136 = .ok (.ireturn, 1) := by decide +kernel
theorem dX0_yearBy_0 : decode cX0_yearBy 0 = .ok (.aload_n 0, 1) := by decide +kernel
theorem dX0_yearBy_1 : decode cX0_yearBy 1 = .ok (.iload_n 1, 1) := by decide +kernel
theorem dX0_yearBy_2 : decode cX0_yearBy 2 = .ok (.iload_n 2, 1) := by decide +kernel
theorem dX0_yearBy_3 : decode cX0_yearBy 3 = .ok (.iload_n 3, 1) := by decide +kernel
theorem dX0_yearBy_4 : decode cX0_yearBy 4 = .ok (.iload 4, 2) := by decide +kernel
theorem dX0_yearBy_6 : decode cX0_yearBy 6 = .ok (.iconst 1, 1) := by decide +kernel
theorem dX0_yearBy_7 : decode cX0_yearBy 7 = .ok (.invokevirtual 146, 3) := by decide +kernel
theorem dX0_yearBy_10 : decode cX0_yearBy 10 = .ok (.istore 6, 2) := by decide +kernel
theorem dX0_yearBy_12 : decode cX0_yearBy 12 = .ok (.iload 5, 2) := by decide +kernel
theorem dX0_yearBy_14 : decode cX0_yearBy 14 = .ok (.tableswitch 48 0 2 #[26, 38, 43], 26) := by decide +kernel
theorem dX0_yearBy_40 : decode cX0_yearBy 40 = .ok (.aload_n 0, 1) := by decide +kernel
theorem dX0_yearBy_41 : decode cX0_yearBy 41 = .ok (.getfield 12, 3) := by decide +kernel
theorem dX0_yearBy_44 : decode cX0_yearBy 44 = .ok (.aload_n 0, 1) := by decide +kernel
theorem dX0_yearBy_45 : decode cX0_yearBy 45 = .ok (.getfield 18, 3) := by decide +kernel
theorem dX0_yearBy_48 : decode cX0_yearBy 48 = .ok (.invokevirtual 99, 3) := by decide +kernel
theorem dX0_yearBy_51 : decode cX0_yearBy 51 = .ok (.ireturn, 1) := by decide +kernel
theorem dX0_yearBy_52 : decode cX0_yearBy 52 = .ok (.aload_n 0, 1) := by decide +kernel
theorem dX0_yearBy_53 : decode cX0_yearBy 53 = .ok (.invokevirtual 105, 3) := by decide +kernel
theorem dX0_yearBy_56 : decode cX0_yearBy 56 = .ok (.ireturn, 1) := by decide +kernel
theorem dX0_yearBy_57 : decode cX0_yearBy 57 = .ok (.aload_n 0, 1) := by decide +kernel
theorem dX0_yearBy_58 : decode cX0_yearBy 58 = .ok (.invokevirtual 102, 3) := by decide +kernel
theorem dX0_yearBy_61 : decode cX0_yearBy 61 = .ok (.ireturn, 1) := by decide +kernel
theorem dX0_yearBy_62 : decode cX0_yearBy 62 = .ok (.iload 6, 2) := by decide +kernel
theorem dX0_yearBy_64 : decode cX0_yearBy 64 = .ok (.ireturn, 1) := by decide +kernel
theorem dX1_init_0 : decode cX1_init 0 = .ok (.aload_n 0, 1) := by decide +kernel
theorem dX1_init_1 : decode cX1_init 1 = .ok (.invokespecial 3, 3) := by decide +kernel
theorem dX1_init_4 : decode cX1_init 4 = .ok (.aload_n 0, 1) := by decide +kernel
theorem dX1_init_5 : decode cX1_init 5 = .ok (.sipush 150, 3) := by decide +kernel
theorem dX1_init_8 : decode cX1_init 8 = .ok (.newarray .int, 2) := by decide +kernel
theorem dX1_init_10 : decode cX1_init 10 = .ok (.putfield 9, 3) := by decide +kernel
theorem dX1_init_13 : decode cX1_init 13 = .ok (.aload_n 0, 1) := by decide +kernel
theorem dX1_init_14 : decode cX1_init 14 = .ok (.sipush 150, 3) := by decide +kernel
theorem dX1_init_17 : decode cX1_init 17 = .ok (.newarray .int, 2) := by decide +kernel
theorem dX1_init_19 : decode cX1_init 19 = .ok (.putfield 15, 3) := by decide +kernel
theorem dX1_init_22 : decode cX1_init 22 = .ok (.aload_n 0, 1) := by decide +kernel
theorem dX1_init_23 : decode cX1_init 23 = .ok (.bipush 7, 2) := by decide +kernel
theorem dX1_init_25 : decode cX1_init 25 = .ok (.newarray .int, 2) := by decide +kernel
theorem dX1_init_27 : decode cX1_init 27 = .ok (.putfield 18, 3) := by decide +kernel
theorem dX1_init_30 : decode cX1_init 30 = .ok (.aload_n 0, 1) := by decide +kernel
theorem dX1_init_31 : decode cX1_init 31 = .ok (.sipush 150, 3) := by decide +kernel
theorem dX1_init_34 : decode cX1_init 34 = .ok (.newarray .int, 2) := by decide +kernel
theorem dX1_init_36 : decode cX1_init 36 = .ok (.putfield 21, 3) := by decide +kernel
theorem dX1_init_39 : decode cX1_init 39 = .ok (.return_, 1) := by decide +kernel
theorem dX1_copyFrom_0 : decode cX1_copyFrom 0 = .ok (.aload_n 1, 1) := by decide +kernel
theorem dX1_copyFrom_1 : decode cX1_copyFrom 1 = .ok (.getfield 9, 3) := by decide +kernel
theorem dX1_copyFrom_4 : decode cX1_copyFrom 4 = .ok (.aload_n 0, 1) := by decide +kernel
theorem dX1_copyFrom_5 : decode cX1_copyFrom 5 = .ok (.getfield 9, 3) := by decide +kernel
theorem dX1_copyFrom_8 : decode cX1_copyFrom 8 = .ok (.invokestatic 24, 3) := by decide +kernel
theorem dX1_copyFrom_11 : decode cX1_copyFrom 11 = .ok (.aload_n 1, 1) := by decide +kernel
theorem dX1_copyFrom_12 : decode cX1_copyFrom 12 = .ok (.getfield 15, 3) := by decide +kernel
theorem dX1_copyFrom_15 : decode cX1_copyFrom 15 = .ok (.aload_n 0, 1) := by decide +kernel
theorem dX1_copyFrom_16 : decode cX1_copyFrom 16 = .ok (.getfield 15, 3) := by decide +kernel
theorem dX1_copyFrom_19 : decode cX1_copyFrom 19 = .ok (.invokestatic 24, 3) := by decide +kernel
theorem dX1_copyFrom_22 : decode cX1_copyFrom 22 = .ok (.aload_n 0, 1) := by decide +kernel
theorem dX1_copyFrom_23 : decode cX1_copyFrom 23 = .ok (.aload_n 1, 1) := by decide +kernel
theorem dX1_copyFrom_24 : decode cX1_copyFrom 24 = .ok (.getfield 28, 3) := by decide +kernel
theorem dX1_copyFrom_27 : decode cX1_copyFrom 27 = .ok (.putfield 28, 3) := by decide +kernel
theorem dX1_copyFrom_30 : decode cX1_copyFrom 30 = .ok (.return_, 1) := by decide +kernel
theorem dX1_beDefault_0 : decode cX1_beDefault 0 = .ok (.aload_n 0, 1) := by decide +kernel
theorem dX1_beDefault_1 : decode cX1_beDefault 1 = .ok (.iconst 0, 1) := by decide +kernel
theorem dX1_beDefault_2 : decode cX1_beDefault 2 = .ok (.putfield 28, 3) := by decide +kernel
theorem dX1_beDefault_5 : decode cX1_beDefault 5 = .ok (.aload_n 0, 1) := by decide +kernel
theorem dX1_beDefault_6 : decode cX1_beDefault 6 = .ok (.iconst 0, 1) := by decide +kernel
theorem dX1_beDefault_7 : decode cX1_beDefault 7 = .ok (.invokevirtual 32, 3) := by decide +kernel
theorem dX1_beDefault_10 : decode cX1_beDefault 10 = .ok (.pop, 1) := by decide +kernel
theorem dX1_beDefault_11 : decode cX1_beDefault 11 = .ok (.aload_n 0, 1) := by decide +kernel
theorem dX1_beDefault_12 : decode cX1_beDefault 12 = .ok (.iconst 4, 1) := by decide +kernel
theorem dX1_beDefault_13 : decode cX1_beDefault 13 = .ok (.invokevirtual 36, 3) := by decide +kernel
theorem dX1_beDefault_16 : decode cX1_beDefault 16 = .ok (.pop, 1) := by decide +kernel
theorem dX1_beDefault_17 : decode cX1_beDefault 17 = .ok (.aload_n 0, 1) := by decide +kernel
theorem dX1_beDefault_18 : decode cX1_beDefault 18 = .ok (.bipush 11, 2) := by decide +kernel
theorem dX1_beDefault_20 : decode cX1_beDefault 20 = .ok (.invokevirtual 32, 3) := by decide +kernel
theorem dX1_beDefault_23 : decode cX1_beDefault 23 = .ok (.pop, 1) := by decide +kernel
theorem dX1_beDefault_24 : decode cX1_beDefault 24 = .ok (.aload_n 0, 1) := by decide +kernel
theorem dX1_beDefault_25 : decode cX1_beDefault 25 = .ok (.iconst 1, 1) := by decide +kernel
theorem dX1_beDefault_26 : decode cX1_beDefault 26 = .ok (.invokevirtual 32, 3) := by decide +kernel
theorem dX1_beDefault_29 : decode cX1_beDefault 29 = .ok (.pop, 1) := by decide +kernel
theorem dX1_beDefault_30 : decode cX1_beDefault 30 = .ok (.aload_n 0, 1) := by decide +kernel
theorem dX1_beDefault_31 : decode cX1_beDefault 31 = .ok (.iconst 3, 1) := by decide +kernel
theorem dX1_beDefault_32 : decode cX1_beDefault 32 = .ok (.invokevirtual 36, 3) := by decide +kernel
theorem dX1_beDefault_35 : decode cX1_beDefault 35 = .ok (.pop, 1) := by decide +kernel
theorem dX1_beDefault_36 : decode cX1_beDefault 36 = .ok (.aload_n 0, 1) := by decide +kernel
theorem dX1_beDefault_37 : decode cX1_beDefault 37 = .ok (.bipush 10, 2) := by decide +kernel
theorem dX1_beDefault_39 : decode cX1_beDefault 39 = .ok (.invokevirtual 32, 3) := by decide +kernel
theorem dX1_beDefault_42 : decode cX1_beDefault 42 = .ok (.pop, 1) := by decide +kernel
theorem dX1_beDefault_43 : decode cX1_beDefault 43 = .ok (.aload_n 0, 1) := by decide +kernel
theorem dX1_beDefault_44 : decode cX1_beDefault 44 = .ok (.bipush 8, 2) := by decide +kernel
theorem dX1_beDefault_46 : decode cX1_beDefault 46 = .ok (.invokevirtual 32, 3) := by decide +kernel
theorem dX1_beDefault_49 : decode cX1_beDefault 49 = .ok (.pop, 1) := by decide +kernel
theorem dX1_beDefault_50 : decode cX1_beDefault 50 = .ok (.aload_n 0, 1) := by decide +kernel
theorem dX1_beDefault_51 : decode cX1_beDefault 51 = .ok (.iconst 5, 1) := by decide +kernel
theorem dX1_beDefault_52 : decode cX1_beDefault 52 = .ok (.invokevirtual 32, 3) := by decide +kernel
theorem dX1_beDefault_55 : decode cX1_beDefault 55 = .ok (.pop, 1) := by decide +kernel
theorem dX1_beDefault_56 : decode cX1_beDefault 56 = .ok (.aload_n 0, 1) := by decide +kernel
theorem dX1_beDefault_57 : decode cX1_beDefault 57 = .ok (.bipush 9, 2) := by decide +kernel
theorem dX1_beDefault_59 : decode cX1_beDefault 59 = .ok (.invokevirtual 32, 3) := by decide +kernel
theorem dX1_beDefault_62 : decode cX1_beDefault 62 = .ok (.pop, 1) := by decide +kernel
theorem dX1_beDefault_63 : decode cX1_beDefault 63 = .ok (.return_, 1) := by decide +kernel
theorem dX1_add_0 : decode cX1_add 0 = .ok (.aload_n 0, 1) := by decide +kernel
theorem dX1_add_1 : decode cX1_add 1 = .ok (.getfield 9, 3) := by decide +kernel
theorem dX1_add_4 : decode cX1_add 4 = .ok (.aload_n 0, 1) := by decide +kernel
theorem dX1_add_5 : decode cX1_add 5 = .ok (.getfield 28, 3) := by decide +kernel
theorem dX1_add_8 : decode cX1_add 8 = .ok (.iload_n 1, 1) := by decide +kernel
theorem dX1_add_9 : decode cX1_add 9 = .ok (.invokestatic 39, 3) := by decide +kernel
theorem dX1_add_12 : decode cX1_add 12 = .ok (.aload_n 0, 1) := by decide +kernel
theorem dX1_add_13 : decode cX1_add 13 = .ok (.dup, 1) := by decide +kernel
theorem dX1_add_14 : decode cX1_add 14 = .ok (.getfield 28, 3) := by decide +kernel
theorem dX1_add_17 : decode cX1_add 17 = .ok (.iconst 1, 1) := by decide +kernel
theorem dX1_add_18 : decode cX1_add 18 = .ok (.iadd, 1) := by decide +kernel
theorem dX1_add_19 : decode cX1_add 19 = .ok (.putfield 28, 3) := by decide +kernel
theorem dX1_add_22 : decode cX1_add 22 = .ok (.iconst 1, 1) := by decide +kernel
theorem dX1_add_23 : decode cX1_add 23 = .ok (.ireturn, 1) := by decide +kernel
theorem dX1_addConstant_0 : decode cX1_addConstant 0 = .ok (.aload_n 0, 1) := by decide +kernel
theorem dX1_addConstant_1 : decode cX1_addConstant 1 = .ok (.getfield 15, 3) := by decide +kernel
theorem dX1_addConstant_4 : decode cX1_addConstant 4 = .ok (.aload_n 0, 1) := by decide +kernel
theorem dX1_addConstant_5 : decode cX1_addConstant 5 = .ok (.getfield 28, 3) := by decide +kernel
theorem dX1_addConstant_8 : decode cX1_addConstant 8 = .ok (.iload_n 1, 1) := by decide +kernel
theorem dX1_addConstant_9 : decode cX1_addConstant 9 = .ok (.invokestatic 39, 3) := by decide +kernel
theorem dX1_addConstant_12 : decode cX1_addConstant 12 = .ok (.aload_n 0, 1) := by decide +kernel
theorem dX1_addConstant_13 : decode cX1_addConstant 13 = .ok (.getfield 9, 3) := by decide +kernel
theorem dX1_addConstant_16 : decode cX1_addConstant 16 = .ok (.aload_n 0, 1) := by decide +kernel
theorem dX1_addConstant_17 : decode cX1_addConstant 17 = .ok (.getfield 28, 3) := by decide +kernel
theorem dX1_addConstant_20 : decode cX1_addConstant 20 = .ok (.bipush 7, 2) := by decide +kernel
theorem dX1_addConstant_22 : decode cX1_addConstant 22 = .ok (.invokestatic 39, 3) := by decide +kernel
theorem dX1_addConstant_25 : decode cX1_addConstant 25 = .ok (.aload_n 0, 1) := by decide +kernel
theorem dX1_addConstant_26 : decode cX1_addConstant 26 = .ok (.dup, 1) := by decide +kernel
theorem dX1_addConstant_27 : decode cX1_addConstant 27 = .ok (.getfield 28, 3) := by decide +kernel
theorem dX1_addConstant_30 : decode cX1_addConstant 30 = .ok (.iconst 1, 1) := by decide +kernel
theorem dX1_addConstant_31 : decode cX1_addConstant 31 = .ok (.iadd, 1) := by decide +kernel
theorem dX1_addConstant_32 : decode cX1_addConstant 32 = .ok (.putfield 28, 3) := by decide +kernel
theorem dX1_addConstant_35 : decode cX1_addConstant 35 = .ok (.iconst 1, 1) := by decide +kernel
theorem dX1_addConstant_36 : decode cX1_addConstant 36 = .ok (.ireturn, 1) := by decide +kernel
theorem dX1_read_0 : decode cX1_read 0 = .ok (.aload_n 0, 1) := by decide +kernel
theorem dX1_read_1 : decode cX1_read 1 = .ok (.iconst 0, 1) := by decide +kernel
theorem dX1_read_2 : decode cX1_read 2 = .ok (.putfield 28, 3) := by decide +kernel
theorem dX1_read_5 : decode cX1_read 5 = .ok (.aload_n 0, 1) := by decide +kernel
theorem dX1_read_6 : decode cX1_read 6 = .ok (.aload_n 1, 1) := by decide +kernel
theorem dX1_read_7 : decode cX1_read 7 = .ok (.iconst 0, 1) := by decide +kernel
theorem dX1_read_8 : decode cX1_read 8 = .ok (.invokevirtual 43, 3) := by decide +kernel
theorem dX1_read_11 : decode cX1_read 11 = .ok (.ifCond .eq 22, 3) := by decide +kernel
theorem dX1_read_14 : decode cX1_read 14 = .ok (.aload_n 1, 1) := by decide +kernel
theorem dX1_read_15 : decode cX1_read 15 = .ok (.invokevirtual 47, 3) := by decide +kernel
theorem dX1_read_18 : decode cX1_read 18 = .ok (.ifCond .ne 11, 3) := by decide +kernel
theorem dX1_read_21 : decode cX1_read 21 = .ok (.aload_n 1, 1) := by decide +kernel
theorem dX1_read_22 : decode cX1_read 22 = .ok (.iconst 1, 1) := by decide +kernel
theorem dX1_read_23 : decode cX1_read 23 = .ok (.invokevirtual 53, 3) := by decide +kernel
theorem dX1_read_26 : decode cX1_read 26 = .ok (.ifCond .eq 7, 3) := by decide +kernel
theorem dX1_read_29 : decode cX1_read 29 = .ok (.iconst 1, 1) := by decide +kernel
theorem dX1_read_30 : decode cX1_read 30 = .ok (.goto 4, 3) := by decide +kernel
theorem dX1_read_33 : decode cX1_read 33 = .ok (.iconst 0, 1) := by decide +kernel
theorem dX1_read_34 : decode cX1_read 34 = .ok (.ireturn, 1) := by decide +kernel
theorem dX1_readSum_0 : decode cX1_readSum 0 = .ok (.aload_n 0, 1) := by decide +kernel
theorem dX1_readSum_1 : decode cX1_readSum 1 = .ok (.aload_n 1, 1) := by decide +kernel
theorem dX1_readSum_2 : decode cX1_readSum 2 = .ok (.iload_n 2, 1) := by decide +kernel
theorem dX1_readSum_3 : decode cX1_readSum 3 = .ok (.invokevirtual 56, 3) := by decide +kernel
theorem dX1_readSum_6 : decode cX1_readSum 6 = .ok (.ifCond .ne 5, 3) := by decide +kernel
theorem dX1_readSum_9 : decode cX1_readSum 9 = .ok (.iconst 0, 1) := by decide +kernel
theorem dX1_readSum_10 : decode cX1_readSum 10 = .ok (.ireturn, 1) := by decide +kernel
theorem dX1_readSum_11 : decode cX1_readSum 11 = .ok (.iconst 0, 1) := by decide +kernel
theorem dX1_readSum_12 : decode cX1_readSum 12 = .ok (.istore_n 3, 1) := by decide +kernel
theorem dX1_readSum_13 : decode cX1_readSum 13 = .ok (.iload_n 3, 1) := by decide +kernel
theorem dX1_readSum_14 : decode cX1_readSum 14 = .ok (.sipush 150, 3) := by decide +kernel
theorem dX1_readSum_17 : decode cX1_readSum 17 = .ok (.if_icmp .ge 65, 3) := by decide +kernel
theorem dX1_readSum_20 : decode cX1_readSum 20 = .ok (.aload_n 1, 1) := by decide +kernel
theorem dX1_readSum_21 : decode cX1_readSum 21 = .ok (.invokevirtual 59, 3) := by decide +kernel
theorem dX1_readSum_24 : decode cX1_readSum 24 = .ok (.istore 4, 2) := by decide +kernel
theorem dX1_readSum_26 : decode cX1_readSum 26 = .ok (.iload 4, 2) := by decide +kernel
theorem dX1_readSum_28 : decode cX1_readSum 28 = .ok (.bipush 43, 2) := by decide +kernel
theorem dX1_readSum_30 : decode cX1_readSum 30 = .ok (.if_icmp .eq 12, 3) := by decide +kernel
theorem dX1_readSum_33 : decode cX1_readSum 33 = .ok (.iload 4, 2) := by decide +kernel
theorem dX1_readSum_35 : decode cX1_readSum 35 = .ok (.bipush 45, 2) := by decide +kernel
theorem dX1_readSum_37 : decode cX1_readSum 37 = .ok (.if_icmp .eq 5, 3) := by decide +kernel
theorem dX1_readSum_40 : decode cX1_readSum 40 = .ok (.iconst 1, 1) := by decide +kernel
theorem dX1_readSum_41 : decode cX1_readSum 41 = .ok (.ireturn, 1) := by decide +kernel
theorem dX1_readSum_42 : decode cX1_readSum 42 = .ok (.aload_n 1, 1) := by decide +kernel
theorem dX1_readSum_43 : decode cX1_readSum 43 = .ok (.invokevirtual 63, 3) := by decide +kernel
theorem dX1_readSum_46 : decode cX1_readSum 46 = .ok (.aload_n 0, 1) := by decide +kernel
theorem dX1_readSum_47 : decode cX1_readSum 47 = .ok (.aload_n 1, 1) := by decide +kernel
theorem dX1_readSum_48 : decode cX1_readSum 48 = .ok (.iload_n 2, 1) := by decide +kernel
theorem dX1_readSum_49 : decode cX1_readSum 49 = .ok (.invokevirtual 56, 3) := by decide +kernel
theorem dX1_readSum_52 : decode cX1_readSum 52 = .ok (.ifCond .ne 5, 3) := by decide +kernel
theorem dX1_readSum_55 : decode cX1_readSum 55 = .ok (.iconst 0, 1) := by decide +kernel
theorem dX1_readSum_56 : decode cX1_readSum 56 = .ok (.ireturn, 1) := by decide +kernel
theorem dX1_readSum_57 : decode cX1_readSum 57 = .ok (.aload_n 0, 1) := by decide +kernel
theorem dX1_readSum_58 : decode cX1_readSum 58 = .ok (.iload 4, 2) := by decide +kernel
theorem dX1_readSum_60 : decode cX1_readSum 60 = .ok (.bipush 43, 2) := by decide +kernel
theorem dX1_readSum_62 : decode cX1_readSum 62 = .ok (.if_icmp .ne 8, 3) := by decide +kernel
theorem dX1_readSum_65 : decode cX1_readSum 65 = .ok (.bipush 8, 2) := by decide +kernel
theorem dX1_readSum_67 : decode cX1_readSum 67 = .ok (.goto 5, 3) := by decide +kernel
theorem dX1_readSum_70 : decode cX1_readSum 70 = .ok (.bipush 9, 2) := by decide +kernel
theorem dX1_readSum_72 : decode cX1_readSum 72 = .ok (.invokevirtual 32, 3) := by decide +kernel
theorem dX1_readSum_75 : decode cX1_readSum 75 = .ok (.pop, 1) := by decide +kernel
theorem dX1_readSum_76 : decode cX1_readSum 76 = .ok (.iinc 3 1, 3) := by decide +kernel
theorem dX1_readSum_79 : decode cX1_readSum 79 = .ok (.goto (-66), 3) := by decide +kernel
theorem dX1_readSum_82 : decode cX1_readSum 82 = .ok (.iconst 1, 1) := by decide +kernel
theorem dX1_readSum_83 : decode cX1_readSum 83 = .ok (.ireturn, 1) := by decide +kernel
theorem dX1_readProduct_0 : decode cX1_readProduct 0 = .ok (.aload_n 0, 1) := by decide +kernel
theorem dX1_readProduct_1 : decode cX1_readProduct 1 = .ok (.aload_n 1, 1) := by decide +kernel
theorem dX1_readProduct_2 : decode cX1_readProduct 2 = .ok (.iload_n 2, 1) := by decide +kernel
theorem dX1_readProduct_3 : decode cX1_readProduct 3 = .ok (.invokevirtual 66, 3) := by decide +kernel
theorem dX1_readProduct_6 : decode cX1_readProduct 6 = .ok (.ifCond .ne 5, 3) := by decide +kernel
theorem dX1_readProduct_9 : decode cX1_readProduct 9 = .ok (.iconst 0, 1) := by decide +kernel
theorem dX1_readProduct_10 : decode cX1_readProduct 10 = .ok (.ireturn, 1) := by decide +kernel
theorem dX1_readProduct_11 : decode cX1_readProduct 11 = .ok (.iconst 0, 1) := by decide +kernel
theorem dX1_readProduct_12 : decode cX1_readProduct 12 = .ok (.istore_n 3, 1) := by decide +kernel
theorem dX1_readProduct_13 : decode cX1_readProduct 13 = .ok (.iload_n 3, 1) := by decide +kernel
theorem dX1_readProduct_14 : decode cX1_readProduct 14 = .ok (.sipush 150, 3) := by decide +kernel
theorem dX1_readProduct_17 : decode cX1_readProduct 17 = .ok (.if_icmp .ge 65, 3) := by decide +kernel
theorem dX1_readProduct_20 : decode cX1_readProduct 20 = .ok (.aload_n 1, 1) := by decide +kernel
theorem dX1_readProduct_21 : decode cX1_readProduct 21 = .ok (.invokevirtual 59, 3) := by decide +kernel
theorem dX1_readProduct_24 : decode cX1_readProduct 24 = .ok (.istore 4, 2) := by decide +kernel
theorem dX1_readProduct_26 : decode cX1_readProduct 26 = .ok (.iload 4, 2) := by decide +kernel
theorem dX1_readProduct_28 : decode cX1_readProduct 28 = .ok (.bipush 42, 2) := by decide +kernel
theorem dX1_readProduct_30 : decode cX1_readProduct 30 = .ok (.if_icmp .eq 12, 3) := by decide +kernel
theorem dX1_readProduct_33 : decode cX1_readProduct 33 = .ok (.iload 4, 2) := by decide +kernel
theorem dX1_readProduct_35 : decode cX1_readProduct 35 = .ok (.bipush 47, 2) := by decide +kernel
theorem dX1_readProduct_37 : decode cX1_readProduct 37 = .ok (.if_icmp .eq 5, 3) := by decide +kernel
theorem dX1_readProduct_40 : decode cX1_readProduct 40 = .ok (.iconst 1, 1) := by decide +kernel
theorem dX1_readProduct_41 : decode cX1_readProduct 41 = .ok (.ireturn, 1) := by decide +kernel
theorem dX1_readProduct_42 : decode cX1_readProduct 42 = .ok (.aload_n 1, 1) := by decide +kernel
theorem dX1_readProduct_43 : decode cX1_readProduct 43 = .ok (.invokevirtual 63, 3) := by decide +kernel
theorem dX1_readProduct_46 : decode cX1_readProduct 46 = .ok (.aload_n 0, 1) := by decide +kernel
theorem dX1_readProduct_47 : decode cX1_readProduct 47 = .ok (.aload_n 1, 1) := by decide +kernel
theorem dX1_readProduct_48 : decode cX1_readProduct 48 = .ok (.iload_n 2, 1) := by decide +kernel
theorem dX1_readProduct_49 : decode cX1_readProduct 49 = .ok (.invokevirtual 66, 3) := by decide +kernel
theorem dX1_readProduct_52 : decode cX1_readProduct 52 = .ok (.ifCond .ne 5, 3) := by decide +kernel
theorem dX1_readProduct_55 : decode cX1_readProduct 55 = .ok (.iconst 0, 1) := by decide +kernel
theorem dX1_readProduct_56 : decode cX1_readProduct 56 = .ok (.ireturn, 1) := by decide +kernel
theorem dX1_readProduct_57 : decode cX1_readProduct 57 = .ok (.aload_n 0, 1) := by decide +kernel
theorem dX1_readProduct_58 : decode cX1_readProduct 58 = .ok (.iload 4, 2) := by decide +kernel
theorem dX1_readProduct_60 : decode cX1_readProduct 60 = .ok (.bipush 42, 2) := by decide +kernel
theorem dX1_readProduct_62 : decode cX1_readProduct 62 = .ok (.if_icmp .ne 8, 3) := by decide +kernel
theorem dX1_readProduct_65 : decode cX1_readProduct 65 = .ok (.bipush 10, 2) := by decide +kernel
theorem dX1_readProduct_67 : decode cX1_readProduct 67 = .ok (.goto 5, 3) := by decide +kernel
theorem dX1_readProduct_70 : decode cX1_readProduct 70 = .ok (.bipush 11, 2) := by decide +kernel
theorem dX1_readProduct_72 : decode cX1_readProduct 72 = .ok (.invokevirtual 32, 3) := by decide +kernel
theorem dX1_readProduct_75 : decode cX1_readProduct 75 = .ok (.pop, 1) := by decide +kernel
theorem dX1_readProduct_76 : decode cX1_readProduct 76 = .ok (.iinc 3 1, 3) := by decide +kernel
theorem dX1_readProduct_79 : decode cX1_readProduct 79 = .ok (.goto (-66), 3) := by decide +kernel
theorem dX1_readProduct_82 : decode cX1_readProduct 82 = .ok (.iconst 1, 1) := by decide +kernel
theorem dX1_readProduct_83 : decode cX1_readProduct 83 = .ok (.ireturn, 1) := by decide +kernel
theorem dX1_readUnit_0 : decode cX1_readUnit 0 = .ok (.aload_n 1, 1) := by decide +kernel
theorem dX1_readUnit_1 : decode cX1_readUnit 1 = .ok (.invokevirtual 59, 3) := by decide +kernel
theorem dX1_readUnit_4 : decode cX1_readUnit 4 = .ok (.istore_n 3, 1) := by decide +kernel
theorem dX1_readUnit_5 : decode cX1_readUnit 5 = .ok (.iload_n 3, 1) := by decide +kernel
theorem dX1_readUnit_6 : decode cX1_readUnit 6 = .ok (.invokestatic 69, 3) := by decide +kernel
theorem dX1_readUnit_9 : decode cX1_readUnit 9 = .ok (.ifCond .eq 34, 3) := by decide +kernel
theorem dX1_readUnit_12 : decode cX1_readUnit 12 = .ok (.aload_n 1, 1) := by decide +kernel
theorem dX1_readUnit_13 : decode cX1_readUnit 13 = .ok (.iconst 0, 1) := by decide +kernel
theorem dX1_readUnit_14 : decode cX1_readUnit 14 = .ok (.sipush 999, 3) := by decide +kernel
theorem dX1_readUnit_17 : decode cX1_readUnit 17 = .ok (.invokevirtual 72, 3) := by decide +kernel
theorem dX1_readUnit_20 : decode cX1_readUnit 20 = .ok (.istore 4, 2) := by decide +kernel
theorem dX1_readUnit_22 : decode cX1_readUnit 22 = .ok (.iload 4, 2) := by decide +kernel
theorem dX1_readUnit_24 : decode cX1_readUnit 24 = .ok (.iconst (-1), 1) := by decide +kernel
theorem dX1_readUnit_25 : decode cX1_readUnit 25 = .ok (.if_icmp .eq 16, 3) := by decide +kernel
theorem dX1_readUnit_28 : decode cX1_readUnit 28 = .ok (.aload_n 0, 1) := by decide +kernel
theorem dX1_readUnit_29 : decode cX1_readUnit 29 = .ok (.iload 4, 2) := by decide +kernel
theorem dX1_readUnit_31 : decode cX1_readUnit 31 = .ok (.invokevirtual 36, 3) := by decide +kernel
theorem dX1_readUnit_34 : decode cX1_readUnit 34 = .ok (.ifCond .eq 7, 3) := by decide +kernel
theorem dX1_readUnit_37 : decode cX1_readUnit 37 = .ok (.iconst 1, 1) := by decide +kernel
theorem dX1_readUnit_38 : decode cX1_readUnit 38 = .ok (.goto 4, 3) := by decide +kernel
theorem dX1_readUnit_41 : decode cX1_readUnit 41 = .ok (.iconst 0, 1) := by decide +kernel
theorem dX1_readUnit_42 : decode cX1_readUnit 42 = .ok (.ireturn, 1) := by decide +kernel
theorem dX1_readUnit_43 : decode cX1_readUnit 43 = .ok (.iload_n 3, 1) := by decide +kernel
theorem dX1_readUnit_44 : decode cX1_readUnit 44 = .ok (.bipush 40, 2) := by decide +kernel
theorem dX1_readUnit_46 : decode cX1_readUnit 46 = .ok (.if_icmp .ne 45, 3) := by decide +kernel
theorem dX1_readUnit_49 : decode cX1_readUnit 49 = .ok (.iload_n 2, 1) := by decide +kernel
theorem dX1_readUnit_50 : decode cX1_readUnit 50 = .ok (.bipush 6, 2) := by decide +kernel
theorem dX1_readUnit_52 : decode cX1_readUnit 52 = .ok (.if_icmp .lt 9, 3) := by decide +kernel
theorem dX1_readUnit_55 : decode cX1_readUnit 55 = .ok (.aload_n 1, 1) := by decide +kernel
theorem dX1_readUnit_56 : decode cX1_readUnit 56 = .ok (.iconst 3, 1) := by decide +kernel
theorem dX1_readUnit_57 : decode cX1_readUnit 57 = .ok (.invokevirtual 53, 3) := by decide +kernel
theorem dX1_readUnit_60 : decode cX1_readUnit 60 = .ok (.ireturn, 1) := by decide +kernel
theorem dX1_readUnit_61 : decode cX1_readUnit 61 = .ok (.aload_n 1, 1) := by decide +kernel
theorem dX1_readUnit_62 : decode cX1_readUnit 62 = .ok (.invokevirtual 63, 3) := by decide +kernel
theorem dX1_readUnit_65 : decode cX1_readUnit 65 = .ok (.aload_n 0, 1) := by decide +kernel
theorem dX1_readUnit_66 : decode cX1_readUnit 66 = .ok (.aload_n 1, 1) := by decide +kernel
theorem dX1_readUnit_67 : decode cX1_readUnit 67 = .ok (.iload_n 2, 1) := by decide +kernel
theorem dX1_readUnit_68 : decode cX1_readUnit 68 = .ok (.iconst 1, 1) := by decide +kernel
theorem dX1_readUnit_69 : decode cX1_readUnit 69 = .ok (.iadd, 1) := by decide +kernel
theorem dX1_readUnit_70 : decode cX1_readUnit 70 = .ok (.invokevirtual 43, 3) := by decide +kernel
theorem dX1_readUnit_73 : decode cX1_readUnit 73 = .ok (.ifCond .eq 16, 3) := by decide +kernel
theorem dX1_readUnit_76 : decode cX1_readUnit 76 = .ok (.aload_n 1, 1) := by decide +kernel
theorem dX1_readUnit_77 : decode cX1_readUnit 77 = .ok (.bipush 41, 2) := by decide +kernel
theorem dX1_readUnit_79 : decode cX1_readUnit 79 = .ok (.invokevirtual 76, 3) := by decide +kernel
theorem dX1_readUnit_82 : decode cX1_readUnit 82 = .ok (.ifCond .eq 7, 3) := by decide +kernel
theorem dX1_readUnit_85 : decode cX1_readUnit 85 = .ok (.iconst 1, 1) := by decide +kernel
theorem dX1_readUnit_86 : decode cX1_readUnit 86 = .ok (.goto 4, 3) := by decide +kernel
theorem dX1_readUnit_89 : decode cX1_readUnit 89 = .ok (.iconst 0, 1) := by decide +kernel
theorem dX1_readUnit_90 : decode cX1_readUnit 90 = .ok (.ireturn, 1) := by decide +kernel
theorem dX1_readUnit_91 : decode cX1_readUnit 91 = .ok (.aload_n 1, 1) := by decide +kernel
theorem dX1_readUnit_92 : decode cX1_readUnit 92 = .ok (.invokevirtual 79, 3) := by decide +kernel
theorem dX1_readUnit_95 : decode cX1_readUnit 95 = .ok (.ifCond .ne 5, 3) := by decide +kernel
theorem dX1_readUnit_98 : decode cX1_readUnit 98 = .ok (.iconst 0, 1) := by decide +kernel
theorem dX1_readUnit_99 : decode cX1_readUnit 99 = .ok (.ireturn, 1) := by decide +kernel
theorem dX1_readUnit_100 : decode cX1_readUnit 100 = .ok (.aload_n 1, 1) := by decide +kernel
theorem dX1_readUnit_101 : decode cX1_readUnit 101 = .ok (.invokestatic 82, 3) := by decide +kernel
theorem dX1_readUnit_104 : decode cX1_readUnit 104 = .ok (.istore 4, 2) := by decide +kernel
theorem dX1_readUnit_106 : decode cX1_readUnit 106 = .ok (.iload 4, 2) := by decide +kernel
theorem dX1_readUnit_108 : decode cX1_readUnit 108 = .ok (.bipush 12, 2) := by decide +kernel
theorem dX1_readUnit_110 : decode cX1_readUnit 110 = .ok (.if_icmp .eq 10, 3) := by decide +kernel
theorem dX1_readUnit_113 : decode cX1_readUnit 113 = .ok (.iload 4, 2) := by decide +kernel
theorem dX1_readUnit_115 : decode cX1_readUnit 115 = .ok (.bipush 13, 2) := by decide +kernel
theorem dX1_readUnit_117 : decode cX1_readUnit 117 = .ok (.if_icmp .ne 27, 3) := by decide +kernel
theorem dX1_readUnit_120 : decode cX1_readUnit 120 = .ok (.aload_n 0, 1) := by decide +kernel
theorem dX1_readUnit_121 : decode cX1_readUnit 121 = .ok (.aload_n 1, 1) := by decide +kernel
theorem dX1_readUnit_122 : decode cX1_readUnit 122 = .ok (.iload_n 2, 1) := by decide +kernel
theorem dX1_readUnit_123 : decode cX1_readUnit 123 = .ok (.invokevirtual 86, 3) := by decide +kernel
theorem dX1_readUnit_126 : decode cX1_readUnit 126 = .ok (.ifCond .eq 16, 3) := by decide +kernel
theorem dX1_readUnit_129 : decode cX1_readUnit 129 = .ok (.aload_n 0, 1) := by decide +kernel
theorem dX1_readUnit_130 : decode cX1_readUnit 130 = .ok (.iload 4, 2) := by decide +kernel
theorem dX1_readUnit_132 : decode cX1_readUnit 132 = .ok (.invokevirtual 32, 3) := by decide +kernel
theorem dX1_readUnit_135 : decode cX1_readUnit 135 = .ok (.ifCond .eq 7, 3) := by decide +kernel
theorem dX1_readUnit_138 : decode cX1_readUnit 138 = .ok (.iconst 1, 1) := by decide +kernel
theorem dX1_readUnit_139 : decode cX1_readUnit 139 = .ok (.goto 4, 3) := by decide +kernel
theorem dX1_readUnit_142 : decode cX1_readUnit 142 = .ok (.iconst 0, 1) := by decide +kernel
theorem dX1_readUnit_143 : decode cX1_readUnit 143 = .ok (.ireturn, 1) := by decide +kernel
theorem dX1_readUnit_144 : decode cX1_readUnit 144 = .ok (.iload 4, 2) := by decide +kernel
theorem dX1_readUnit_146 : decode cX1_readUnit 146 = .ok (.iconst (-1), 1) := by decide +kernel
theorem dX1_readUnit_147 : decode cX1_readUnit 147 = .ok (.if_icmp .ne 11, 3) := by decide +kernel
theorem dX1_readUnit_150 : decode cX1_readUnit 150 = .ok (.aload_n 1, 1) := by decide +kernel
theorem dX1_readUnit_151 : decode cX1_readUnit 151 = .ok (.iconst 1, 1) := by decide +kernel
theorem dX1_readUnit_152 : decode cX1_readUnit 152 = .ok (.invokevirtual 89, 3) := by decide +kernel
theorem dX1_readUnit_155 : decode cX1_readUnit 155 = .ok (.goto 9, 3) := by decide +kernel
theorem dX1_readUnit_158 : decode cX1_readUnit 158 = .ok (.aload_n 0, 1) := by decide +kernel
theorem dX1_readUnit_159 : decode cX1_readUnit 159 = .ok (.iload 4, 2) := by decide +kernel
theorem dX1_readUnit_161 : decode cX1_readUnit 161 = .ok (.invokevirtual 32, 3) := by decide +kernel
theorem dX1_readUnit_164 : decode cX1_readUnit 164 = .ok (.ireturn, 1) := by decide +kernel
theorem dX1_readPair_0 : decode cX1_readPair 0 = .ok (.iload_n 2, 1) := by decide +kernel
theorem dX1_readPair_1 : decode cX1_readPair 1 = .ok (.bipush 6, 2) := by decide +kernel
theorem dX1_readPair_3 : decode cX1_readPair 3 = .ok (.if_icmp .lt 9, 3) := by decide +kernel
theorem dX1_readPair_6 : decode cX1_readPair 6 = .ok (.aload_n 1, 1) := by decide +kernel
theorem dX1_readPair_7 : decode cX1_readPair 7 = .ok (.iconst 3, 1) := by decide +kernel
theorem dX1_readPair_8 : decode cX1_readPair 8 = .ok (.invokevirtual 89, 3) := by decide +kernel
theorem dX1_readPair_11 : decode cX1_readPair 11 = .ok (.ireturn, 1) := by decide +kernel
theorem dX1_readPair_12 : decode cX1_readPair 12 = .ok (.aload_n 1, 1) := by decide +kernel
theorem dX1_readPair_13 : decode cX1_readPair 13 = .ok (.bipush 91, 2) := by decide +kernel
theorem dX1_readPair_15 : decode cX1_readPair 15 = .ok (.invokevirtual 76, 3) := by decide +kernel
theorem dX1_readPair_18 : decode cX1_readPair 18 = .ok (.ifCond .eq 47, 3) := by decide +kernel
theorem dX1_readPair_21 : decode cX1_readPair 21 = .ok (.aload_n 0, 1) := by decide +kernel
theorem dX1_readPair_22 : decode cX1_readPair 22 = .ok (.aload_n 1, 1) := by decide +kernel
theorem dX1_readPair_23 : decode cX1_readPair 23 = .ok (.iload_n 2, 1) := by decide +kernel
theorem dX1_readPair_24 : decode cX1_readPair 24 = .ok (.iconst 1, 1) := by decide +kernel
theorem dX1_readPair_25 : decode cX1_readPair 25 = .ok (.iadd, 1) := by decide +kernel
theorem dX1_readPair_26 : decode cX1_readPair 26 = .ok (.invokevirtual 43, 3) := by decide +kernel
theorem dX1_readPair_29 : decode cX1_readPair 29 = .ok (.ifCond .eq 36, 3) := by decide +kernel
theorem dX1_readPair_32 : decode cX1_readPair 32 = .ok (.aload_n 1, 1) := by decide +kernel
theorem dX1_readPair_33 : decode cX1_readPair 33 = .ok (.bipush 44, 2) := by decide +kernel
theorem dX1_readPair_35 : decode cX1_readPair 35 = .ok (.invokevirtual 76, 3) := by decide +kernel
theorem dX1_readPair_38 : decode cX1_readPair 38 = .ok (.ifCond .eq 27, 3) := by decide +kernel
theorem dX1_readPair_41 : decode cX1_readPair 41 = .ok (.aload_n 0, 1) := by decide +kernel
theorem dX1_readPair_42 : decode cX1_readPair 42 = .ok (.aload_n 1, 1) := by decide +kernel
theorem dX1_readPair_43 : decode cX1_readPair 43 = .ok (.iload_n 2, 1) := by decide +kernel
theorem dX1_readPair_44 : decode cX1_readPair 44 = .ok (.iconst 1, 1) := by decide +kernel
theorem dX1_readPair_45 : decode cX1_readPair 45 = .ok (.iadd, 1) := by decide +kernel
theorem dX1_readPair_46 : decode cX1_readPair 46 = .ok (.invokevirtual 43, 3) := by decide +kernel
theorem dX1_readPair_49 : decode cX1_readPair 49 = .ok (.ifCond .eq 16, 3) := by decide +kernel
theorem dX1_readPair_52 : decode cX1_readPair 52 = .ok (.aload_n 1, 1) := by decide +kernel
theorem dX1_readPair_53 : decode cX1_readPair 53 = .ok (.bipush 93, 2) := by decide +kernel
theorem dX1_readPair_55 : decode cX1_readPair 55 = .ok (.invokevirtual 76, 3) := by decide +kernel
theorem dX1_readPair_58 : decode cX1_readPair 58 = .ok (.ifCond .eq 7, 3) := by decide +kernel
theorem dX1_readPair_61 : decode cX1_readPair 61 = .ok (.iconst 1, 1) := by decide +kernel
theorem dX1_readPair_62 : decode cX1_readPair 62 = .ok (.goto 4, 3) := by decide +kernel
theorem dX1_readPair_65 : decode cX1_readPair 65 = .ok (.iconst 0, 1) := by decide +kernel
theorem dX1_readPair_66 : decode cX1_readPair 66 = .ok (.ireturn, 1) := by decide +kernel
theorem dX1_codeOf_0 : decode cX1_codeOf 0 = .ok (.aload_n 0, 1) := by decide +kernel
theorem dX1_codeOf_1 : decode cX1_codeOf 1 = .ok (.ldc 92, 2) := by decide +kernel
theorem dX1_codeOf_3 : decode cX1_codeOf 3 = .ok (.invokevirtual 94, 3) := by decide +kernel
theorem dX1_codeOf_6 : decode cX1_codeOf 6 = .ok (.ifCond .eq 7, 3) := by decide +kernel
theorem dX1_codeOf_9 : decode cX1_codeOf 9 = .ok (.iconst 0, 1) := by decide +kernel
theorem dX1_codeOf_10 : decode cX1_codeOf 10 = .ok (.goto 111, 3) := by decide +kernel
theorem dX1_codeOf_13 : decode cX1_codeOf 13 = .ok (.aload_n 0, 1) := by decide +kernel
theorem dX1_codeOf_14 : decode cX1_codeOf 14 = .ok (.ldc 98, 2) := by decide +kernel
theorem dX1_codeOf_16 : decode cX1_codeOf 16 = .ok (.invokevirtual 94, 3) := by decide +kernel
theorem dX1_codeOf_19 : decode cX1_codeOf 19 = .ok (.ifCond .eq 7, 3) := by decide +kernel
theorem dX1_codeOf_22 : decode cX1_codeOf 22 = .ok (.iconst 1, 1) := by decide +kernel
theorem dX1_codeOf_23 : decode cX1_codeOf 23 = .ok (.goto 98, 3) := by decide +kernel
theorem dX1_codeOf_26 : decode cX1_codeOf 26 = .ok (.aload_n 0, 1) := by decide +kernel
theorem dX1_codeOf_27 : decode cX1_codeOf 27 = .ok (.ldc 100, 2) := by decide +kernel
theorem dX1_codeOf_29 : decode cX1_codeOf 29 = .ok (.invokevirtual 94, 3) := by decide +kernel
theorem dX1_codeOf_32 : decode cX1_codeOf 32 = .ok (.ifCond .eq 7, 3) := by decide +kernel
theorem dX1_codeOf_35 : decode cX1_codeOf 35 = .ok (.iconst 2, 1) := by decide +kernel
theorem dX1_codeOf_36 : decode cX1_codeOf 36 = .ok (.goto 85, 3) := by decide +kernel
theorem dX1_codeOf_39 : decode cX1_codeOf 39 = .ok (.aload_n 0, 1) := by decide +kernel
theorem dX1_codeOf_40 : decode cX1_codeOf 40 = .ok (.ldc 102, 2) := by decide +kernel
theorem dX1_codeOf_42 : decode cX1_codeOf 42 = .ok (.invokevirtual 94, 3) := by decide +kernel
theorem dX1_codeOf_45 : decode cX1_codeOf 45 = .ok (.ifCond .eq 7, 3) := by decide +kernel
theorem dX1_codeOf_48 : decode cX1_codeOf 48 = .ok (.iconst 3, 1) := by decide +kernel
theorem dX1_codeOf_49 : decode cX1_codeOf 49 = .ok (.goto 72, 3) := by decide +kernel
theorem dX1_codeOf_52 : decode cX1_codeOf 52 = .ok (.aload_n 0, 1) := by decide +kernel
theorem dX1_codeOf_53 : decode cX1_codeOf 53 = .ok (.ldc 104, 2) := by decide +kernel
theorem dX1_codeOf_55 : decode cX1_codeOf 55 = .ok (.invokevirtual 94, 3) := by decide +kernel
theorem dX1_codeOf_58 : decode cX1_codeOf 58 = .ok (.ifCond .eq 7, 3) := by decide +kernel
theorem dX1_codeOf_61 : decode cX1_codeOf 61 = .ok (.iconst 4, 1) := by decide +kernel
theorem dX1_codeOf_62 : decode cX1_codeOf 62 = .ok (.goto 59, 3) := by decide +kernel
theorem dX1_codeOf_65 : decode cX1_codeOf 65 = .ok (.aload_n 0, 1) := by decide +kernel
theorem dX1_codeOf_66 : decode cX1_codeOf 66 = .ok (.ldc 106, 2) := by decide +kernel
theorem dX1_codeOf_68 : decode cX1_codeOf 68 = .ok (.invokevirtual 94, 3) := by decide +kernel
theorem dX1_codeOf_71 : decode cX1_codeOf 71 = .ok (.ifCond .eq 7, 3) := by decide +kernel
theorem dX1_codeOf_74 : decode cX1_codeOf 74 = .ok (.iconst 5, 1) := by decide +kernel
theorem dX1_codeOf_75 : decode cX1_codeOf 75 = .ok (.goto 46, 3) := by decide +kernel
theorem dX1_codeOf_78 : decode cX1_codeOf 78 = .ok (.aload_n 0, 1) := by decide +kernel
theorem dX1_codeOf_79 : decode cX1_codeOf 79 = .ok (.ldc 108, 2) := by decide +kernel
theorem dX1_codeOf_81 : decode cX1_codeOf 81 = .ok (.invokevirtual 94, 3) := by decide +kernel
theorem dX1_codeOf_84 : decode cX1_codeOf 84 = .ok (.ifCond .eq 8, 3) := by decide +kernel
theorem dX1_codeOf_87 : decode cX1_codeOf 87 = .ok (.bipush 6, 2) := by decide +kernel
theorem dX1_codeOf_89 : decode cX1_codeOf 89 = .ok (.goto 32, 3) := by decide +kernel
theorem dX1_codeOf_92 : decode cX1_codeOf 92 = .ok (.aload_n 0, 1) := by decide +kernel
theorem dX1_codeOf_93 : decode cX1_codeOf 93 = .ok (.ldc 110, 2) := by decide +kernel
theorem dX1_codeOf_95 : decode cX1_codeOf 95 = .ok (.invokevirtual 94, 3) := by decide +kernel
theorem dX1_codeOf_98 : decode cX1_codeOf 98 = .ok (.ifCond .eq 8, 3) := by decide +kernel
theorem dX1_codeOf_101 : decode cX1_codeOf 101 = .ok (.bipush 12, 2) := by decide +kernel
theorem dX1_codeOf_103 : decode cX1_codeOf 103 = .ok (.goto 18, 3) := by decide +kernel
theorem dX1_codeOf_106 : decode cX1_codeOf 106 = .ok (.aload_n 0, 1) := by decide +kernel
theorem dX1_codeOf_107 : decode cX1_codeOf 107 = .ok (.ldc 112, 2) := by decide +kernel
theorem dX1_codeOf_109 : decode cX1_codeOf 109 = .ok (.invokevirtual 94, 3) := by decide +kernel
theorem dX1_codeOf_112 : decode cX1_codeOf 112 = .ok (.ifCond .eq 8, 3) := by decide +kernel
theorem dX1_codeOf_115 : decode cX1_codeOf 115 = .ok (.bipush 13, 2) := by decide +kernel
theorem dX1_codeOf_117 : decode cX1_codeOf 117 = .ok (.goto 4, 3) := by decide +kernel
theorem dX1_codeOf_120 : decode cX1_codeOf 120 = .ok (.iconst (-1), 1) := by decide +kernel
theorem dX1_codeOf_121 : decode cX1_codeOf 121 = .ok (.ireturn, 1) := by decide +kernel
theorem dX1_dueBy_0 : decode cX1_dueBy 0 = .ok (.aload_n 0, 1) := by decide +kernel
theorem dX1_dueBy_1 : decode cX1_dueBy 1 = .ok (.getfield 18, 3) := by decide +kernel
theorem dX1_dueBy_4 : decode cX1_dueBy 4 = .ok (.iconst 0, 1) := by decide +kernel
theorem dX1_dueBy_5 : decode cX1_dueBy 5 = .ok (.iload_n 1, 1) := by decide +kernel
theorem dX1_dueBy_6 : decode cX1_dueBy 6 = .ok (.invokestatic 39, 3) := by decide +kernel
theorem dX1_dueBy_9 : decode cX1_dueBy 9 = .ok (.aload_n 0, 1) := by decide +kernel
theorem dX1_dueBy_10 : decode cX1_dueBy 10 = .ok (.getfield 18, 3) := by decide +kernel
theorem dX1_dueBy_13 : decode cX1_dueBy 13 = .ok (.iconst 1, 1) := by decide +kernel
theorem dX1_dueBy_14 : decode cX1_dueBy 14 = .ok (.iload_n 2, 1) := by decide +kernel
theorem dX1_dueBy_15 : decode cX1_dueBy 15 = .ok (.invokestatic 39, 3) := by decide +kernel
theorem dX1_dueBy_18 : decode cX1_dueBy 18 = .ok (.aload_n 0, 1) := by decide +kernel
theorem dX1_dueBy_19 : decode cX1_dueBy 19 = .ok (.getfield 18, 3) := by decide +kernel
theorem dX1_dueBy_22 : decode cX1_dueBy 22 = .ok (.iconst 2, 1) := by decide +kernel
theorem dX1_dueBy_23 : decode cX1_dueBy 23 = .ok (.iload_n 3, 1) := by decide +kernel
theorem dX1_dueBy_24 : decode cX1_dueBy 24 = .ok (.invokestatic 39, 3) := by decide +kernel
theorem dX1_dueBy_27 : decode cX1_dueBy 27 = .ok (.aload_n 0, 1) := by decide +kernel
theorem dX1_dueBy_28 : decode cX1_dueBy 28 = .ok (.getfield 18, 3) := by decide +kernel
theorem dX1_dueBy_31 : decode cX1_dueBy 31 = .ok (.iconst 3, 1) := by decide +kernel
theorem dX1_dueBy_32 : decode cX1_dueBy 32 = .ok (.iload 4, 2) := by decide +kernel
theorem dX1_dueBy_34 : decode cX1_dueBy 34 = .ok (.invokestatic 39, 3) := by decide +kernel
theorem dX1_dueBy_37 : decode cX1_dueBy 37 = .ok (.aload_n 0, 1) := by decide +kernel
theorem dX1_dueBy_38 : decode cX1_dueBy 38 = .ok (.getfield 18, 3) := by decide +kernel
theorem dX1_dueBy_41 : decode cX1_dueBy 41 = .ok (.iconst 4, 1) := by decide +kernel
theorem dX1_dueBy_42 : decode cX1_dueBy 42 = .ok (.iload 4, 2) := by decide +kernel
theorem dX1_dueBy_44 : decode cX1_dueBy 44 = .ok (.bipush 8, 2) := by decide +kernel
theorem dX1_dueBy_46 : decode cX1_dueBy 46 = .ok (.irem, 1) := by decide +kernel
theorem dX1_dueBy_47 : decode cX1_dueBy 47 = .ok (.invokestatic 39, 3) := by decide +kernel
theorem dX1_dueBy_50 : decode cX1_dueBy 50 = .ok (.aload_n 0, 1) := by decide +kernel
theorem dX1_dueBy_51 : decode cX1_dueBy 51 = .ok (.getfield 18, 3) := by decide +kernel
theorem dX1_dueBy_54 : decode cX1_dueBy 54 = .ok (.iconst 5, 1) := by decide +kernel
theorem dX1_dueBy_55 : decode cX1_dueBy 55 = .ok (.iload 5, 2) := by decide +kernel
theorem dX1_dueBy_57 : decode cX1_dueBy 57 = .ok (.invokestatic 39, 3) := by decide +kernel
theorem dX1_dueBy_60 : decode cX1_dueBy 60 = .ok (.aload_n 0, 1) := by decide +kernel
theorem dX1_dueBy_61 : decode cX1_dueBy 61 = .ok (.getfield 18, 3) := by decide +kernel
theorem dX1_dueBy_64 : decode cX1_dueBy 64 = .ok (.bipush 6, 2) := by decide +kernel
theorem dX1_dueBy_66 : decode cX1_dueBy 66 = .ok (.iload 6, 2) := by decide +kernel
theorem dX1_dueBy_68 : decode cX1_dueBy 68 = .ok (.invokestatic 39, 3) := by decide +kernel
theorem dX1_dueBy_71 : decode cX1_dueBy 71 = .ok (.iconst (-1), 1) := by decide +kernel
theorem dX1_dueBy_72 : decode cX1_dueBy 72 = .ok (.istore 7, 2) := by decide +kernel
theorem dX1_dueBy_74 : decode cX1_dueBy 74 = .ok (.iconst 0, 1) := by decide +kernel
theorem dX1_dueBy_75 : decode cX1_dueBy 75 = .ok (.istore 8, 2) := by decide +kernel
theorem dX1_dueBy_77 : decode cX1_dueBy 77 = .ok (.iload 8, 2) := by decide +kernel
theorem dX1_dueBy_79 : decode cX1_dueBy 79 = .ok (.aload_n 0, 1) := by decide +kernel
theorem dX1_dueBy_80 : decode cX1_dueBy 80 = .ok (.getfield 28, 3) := by decide +kernel
theorem dX1_dueBy_83 : decode cX1_dueBy 83 = .ok (.if_icmp .ge 107, 3) := by decide +kernel
theorem dX1_dueBy_86 : decode cX1_dueBy 86 = .ok (.aload_n 0, 1) := by decide +kernel
theorem dX1_dueBy_87 : decode cX1_dueBy 87 = .ok (.getfield 9, 3) := by decide +kernel
theorem dX1_dueBy_90 : decode cX1_dueBy 90 = .ok (.iload 8, 2) := by decide +kernel
theorem dX1_dueBy_92 : decode cX1_dueBy 92 = .ok (.invokestatic 114, 3) := by decide +kernel
theorem dX1_dueBy_95 : decode cX1_dueBy 95 = .ok (.istore 9, 2) := by decide +kernel
theorem dX1_dueBy_97 : decode cX1_dueBy 97 = .ok (.iload 9, 2) := by decide +kernel
theorem dX1_dueBy_99 : decode cX1_dueBy 99 = .ok (.bipush 7, 2) := by decide +kernel
theorem dX1_dueBy_101 : decode cX1_dueBy 101 = .ok (.if_icmp .gt 46, 3) := by decide +kernel
theorem dX1_dueBy_104 : decode cX1_dueBy 104 = .ok (.iinc 7 1, 3) := by decide +kernel
theorem dX1_dueBy_107 : decode cX1_dueBy 107 = .ok (.aload_n 0, 1) := by decide +kernel
theorem dX1_dueBy_108 : decode cX1_dueBy 108 = .ok (.getfield 21, 3) := by decide +kernel
theorem dX1_dueBy_111 : decode cX1_dueBy 111 = .ok (.iload 7, 2) := by decide +kernel
theorem dX1_dueBy_113 : decode cX1_dueBy 113 = .ok (.iload 9, 2) := by decide +kernel
theorem dX1_dueBy_115 : decode cX1_dueBy 115 = .ok (.bipush 7, 2) := by decide +kernel
theorem dX1_dueBy_117 : decode cX1_dueBy 117 = .ok (.if_icmp .ne 15, 3) := by decide +kernel
theorem dX1_dueBy_120 : decode cX1_dueBy 120 = .ok (.aload_n 0, 1) := by decide +kernel
theorem dX1_dueBy_121 : decode cX1_dueBy 121 = .ok (.getfield 15, 3) := by decide +kernel
theorem dX1_dueBy_124 : decode cX1_dueBy 124 = .ok (.iload 8, 2) := by decide +kernel
theorem dX1_dueBy_126 : decode cX1_dueBy 126 = .ok (.invokestatic 114, 3) := by decide +kernel
theorem dX1_dueBy_129 : decode cX1_dueBy 129 = .ok (.goto 12, 3) := by decide +kernel
theorem dX1_dueBy_132 : decode cX1_dueBy 132 = .ok (.aload_n 0, 1) := by decide +kernel
theorem dX1_dueBy_133 : decode cX1_dueBy 133 = .ok (.getfield 18, 3) := by decide +kernel
theorem dX1_dueBy_136 : decode cX1_dueBy 136 = .ok (.iload 9, 2) := by decide +kernel
theorem dX1_dueBy_138 : decode cX1_dueBy 138 = .ok (.invokestatic 114, 3) := by decide +kernel
theorem dX1_dueBy_141 : decode cX1_dueBy 141 = .ok (.invokestatic 39, 3) := by decide +kernel
theorem dX1_dueBy_144 : decode cX1_dueBy 144 = .ok (.goto 40, 3) := by decide +kernel
theorem dX1_dueBy_147 : decode cX1_dueBy 147 = .ok (.iinc 7 (-1), 3) := by decide +kernel
theorem dX1_dueBy_150 : decode cX1_dueBy 150 = .ok (.aload_n 0, 1) := by decide +kernel
theorem dX1_dueBy_151 : decode cX1_dueBy 151 = .ok (.getfield 21, 3) := by decide +kernel
theorem dX1_dueBy_154 : decode cX1_dueBy 154 = .ok (.iload 7, 2) := by decide +kernel
theorem dX1_dueBy_156 : decode cX1_dueBy 156 = .ok (.iload 9, 2) := by decide +kernel
theorem dX1_dueBy_158 : decode cX1_dueBy 158 = .ok (.aload_n 0, 1) := by decide +kernel
theorem dX1_dueBy_159 : decode cX1_dueBy 159 = .ok (.getfield 21, 3) := by decide +kernel
theorem dX1_dueBy_162 : decode cX1_dueBy 162 = .ok (.iload 7, 2) := by decide +kernel
theorem dX1_dueBy_164 : decode cX1_dueBy 164 = .ok (.invokestatic 114, 3) := by decide +kernel
theorem dX1_dueBy_167 : decode cX1_dueBy 167 = .ok (.aload_n 0, 1) := by decide +kernel
theorem dX1_dueBy_168 : decode cX1_dueBy 168 = .ok (.getfield 21, 3) := by decide +kernel
theorem dX1_dueBy_171 : decode cX1_dueBy 171 = .ok (.iload 7, 2) := by decide +kernel
theorem dX1_dueBy_173 : decode cX1_dueBy 173 = .ok (.iconst 1, 1) := by decide +kernel
theorem dX1_dueBy_174 : decode cX1_dueBy 174 = .ok (.iadd, 1) := by decide +kernel
theorem dX1_dueBy_175 : decode cX1_dueBy 175 = .ok (.invokestatic 114, 3) := by decide +kernel
theorem dX1_dueBy_178 : decode cX1_dueBy 178 = .ok (.invokestatic 118, 3) := by decide +kernel
theorem dX1_dueBy_181 : decode cX1_dueBy 181 = .ok (.invokestatic 39, 3) := by decide +kernel
theorem dX1_dueBy_184 : decode cX1_dueBy 184 = .ok (.iinc 8 1, 3) := by decide +kernel
theorem dX1_dueBy_187 : decode cX1_dueBy 187 = .ok (.goto (-110), 3) := by decide +kernel
theorem dX1_dueBy_190 : decode cX1_dueBy 190 = .ok (.iconst 0, 1) := by decide +kernel
theorem dX1_dueBy_191 : decode cX1_dueBy 191 = .ok (.bipush 99, 2) := by decide +kernel
theorem dX1_dueBy_193 : decode cX1_dueBy 193 = .ok (.aload_n 0, 1) := by decide +kernel
theorem dX1_dueBy_194 : decode cX1_dueBy 194 = .ok (.getfield 21, 3) := by decide +kernel
theorem dX1_dueBy_197 : decode cX1_dueBy 197 = .ok (.iconst 0, 1) := by decide +kernel
theorem dX1_dueBy_198 : decode cX1_dueBy 198 = .ok (.invokestatic 114, 3) := by decide +kernel
theorem dX1_dueBy_201 : decode cX1_dueBy 201 = .ok (.invokestatic 122, 3) := by decide +kernel
theorem dX1_dueBy_204 : decode cX1_dueBy 204 = .ok (.invokestatic 127, 3) := by decide +kernel
theorem dX1_dueBy_207 : decode cX1_dueBy 207 = .ok (.ireturn, 1) := by decide +kernel
theorem dX1_outOf_0 : decode cX1_outOf 0 = .ok (.iload_n 0, 1) := by decide +kernel
theorem dX1_outOf_1 : decode cX1_outOf 1 = .ok (.tableswitch 65 8 12 #[35, 39, 43, 47, 59], 35) := by decide +kernel
theorem dX1_outOf_36 : decode cX1_outOf 36 = .ok (.iload_n 1, 1) := by decide +kernel
theorem dX1_outOf_37 : decode cX1_outOf 37 = .ok (.iload_n 2, 1) := by decide +kernel
theorem dX1_outOf_38 : decode cX1_outOf 38 = .ok (.iadd, 1) := by decide +kernel
theorem dX1_outOf_39 : decode cX1_outOf 39 = .ok (.ireturn, 1) := by decide +kernel
theorem dX1_outOf_40 : decode cX1_outOf 40 = .ok (.iload_n 1, 1) := by decide +kernel
theorem dX1_outOf_41 : decode cX1_outOf 41 = .ok (.iload_n 2, 1) := by decide +kernel
theorem dX1_outOf_42 : decode cX1_outOf 42 = .ok (.isub, 1) := by decide +kernel
theorem dX1_outOf_43 : decode cX1_outOf 43 = .ok (.ireturn, 1) := by decide +kernel
theorem dX1_outOf_44 : decode cX1_outOf 44 = .ok (.iload_n 1, 1) := by decide +kernel
theorem dX1_outOf_45 : decode cX1_outOf 45 = .ok (.iload_n 2, 1) := by decide +kernel
theorem dX1_outOf_46 : decode cX1_outOf 46 = .ok (.imul, 1) := by decide +kernel
theorem dX1_outOf_47 : decode cX1_outOf 47 = .ok (.ireturn, 1) := by decide +kernel
theorem dX1_outOf_48 : decode cX1_outOf 48 = .ok (.iload_n 2, 1) := by decide +kernel
theorem dX1_outOf_49 : decode cX1_outOf 49 = .ok (.ifCond .ne 7, 3) := by decide +kernel
theorem dX1_outOf_52 : decode cX1_outOf 52 = .ok (.iconst 0, 1) := by decide +kernel
theorem dX1_outOf_53 : decode cX1_outOf 53 = .ok (.goto 6, 3) := by decide +kernel
theorem dX1_outOf_56 : decode cX1_outOf 56 = .ok (.iload_n 1, 1) := by decide +kernel
theorem dX1_outOf_57 : decode cX1_outOf 57 = .ok (.iload_n 2, 1) := by decide +kernel
theorem dX1_outOf_58 : decode cX1_outOf 58 = .ok (.idiv, 1) := by decide +kernel
theorem dX1_outOf_59 : decode cX1_outOf 59 = .ok (.ireturn, 1) := by decide +kernel
theorem dX1_outOf_60 : decode cX1_outOf 60 = .ok (.iload_n 1, 1) := by decide +kernel
theorem dX1_outOf_61 : decode cX1_outOf 61 = .ok (.iload_n 2, 1) := by decide +kernel
theorem dX1_outOf_62 : decode cX1_outOf 62 = .ok (.invokestatic 122, 3) := by decide +kernel
theorem dX1_outOf_65 : decode cX1_outOf 65 = .ok (.ireturn, 1) := by decide +kernel
theorem dX1_outOf_66 : decode cX1_outOf 66 = .ok (.iload_n 1, 1) := by decide +kernel
theorem dX1_outOf_67 : decode cX1_outOf 67 = .ok (.iload_n 2, 1) := by decide +kernel
theorem dX1_outOf_68 : decode cX1_outOf 68 = .ok (.invokestatic 127, 3) := by decide +kernel
theorem dX1_outOf_71 : decode cX1_outOf 71 = .ok (.ireturn, 1) := by decide +kernel
theorem dX2_init_0 : decode cX2_init 0 = .ok (.aload_n 0, 1) := by decide +kernel
theorem dX2_init_1 : decode cX2_init 1 = .ok (.invokespecial 3, 3) := by decide +kernel
theorem dX2_init_4 : decode cX2_init 4 = .ok (.aload_n 0, 1) := by decide +kernel
theorem dX2_init_5 : decode cX2_init 5 = .ok (.bipush 6, 2) := by decide +kernel
theorem dX2_init_7 : decode cX2_init 7 = .ok (.newarray .int, 2) := by decide +kernel
theorem dX2_init_9 : decode cX2_init 9 = .ok (.putfield 9, 3) := by decide +kernel
theorem dX2_init_12 : decode cX2_init 12 = .ok (.aload_n 0, 1) := by decide +kernel
theorem dX2_init_13 : decode cX2_init 13 = .ok (.bipush 61, 2) := by decide +kernel
theorem dX2_init_15 : decode cX2_init 15 = .ok (.newarray .int, 2) := by decide +kernel
theorem dX2_init_17 : decode cX2_init 17 = .ok (.putfield 15, 3) := by decide +kernel
theorem dX2_init_20 : decode cX2_init 20 = .ok (.return_, 1) := by decide +kernel
theorem dX2_clear_0 : decode cX2_clear 0 = .ok (.aload_n 0, 1) := by decide +kernel
theorem dX2_clear_1 : decode cX2_clear 1 = .ok (.iconst 0, 1) := by decide +kernel
theorem dX2_clear_2 : decode cX2_clear 2 = .ok (.putfield 18, 3) := by decide +kernel
theorem dX2_clear_5 : decode cX2_clear 5 = .ok (.iconst 0, 1) := by decide +kernel
theorem dX2_clear_6 : decode cX2_clear 6 = .ok (.istore_n 1, 1) := by decide +kernel
theorem dX2_clear_7 : decode cX2_clear 7 = .ok (.iload_n 1, 1) := by decide +kernel
theorem dX2_clear_8 : decode cX2_clear 8 = .ok (.bipush 6, 2) := by decide +kernel
theorem dX2_clear_10 : decode cX2_clear 10 = .ok (.if_icmp .ge 18, 3) := by decide +kernel
theorem dX2_clear_13 : decode cX2_clear 13 = .ok (.aload_n 0, 1) := by decide +kernel
theorem dX2_clear_14 : decode cX2_clear 14 = .ok (.getfield 9, 3) := by decide +kernel
theorem dX2_clear_17 : decode cX2_clear 17 = .ok (.iload_n 1, 1) := by decide +kernel
theorem dX2_clear_18 : decode cX2_clear 18 = .ok (.iconst (-1), 1) := by decide +kernel
theorem dX2_clear_19 : decode cX2_clear 19 = .ok (.invokestatic 22, 3) := by decide +kernel
theorem dX2_clear_22 : decode cX2_clear 22 = .ok (.iinc 1 1, 3) := by decide +kernel
theorem dX2_clear_25 : decode cX2_clear 25 = .ok (.goto (-18), 3) := by decide +kernel
theorem dX2_clear_28 : decode cX2_clear 28 = .ok (.return_, 1) := by decide +kernel
theorem dX2_copyFrom_0 : decode cX2_copyFrom 0 = .ok (.aload_n 1, 1) := by decide +kernel
theorem dX2_copyFrom_1 : decode cX2_copyFrom 1 = .ok (.getfield 9, 3) := by decide +kernel
theorem dX2_copyFrom_4 : decode cX2_copyFrom 4 = .ok (.aload_n 0, 1) := by decide +kernel
theorem dX2_copyFrom_5 : decode cX2_copyFrom 5 = .ok (.getfield 9, 3) := by decide +kernel
theorem dX2_copyFrom_8 : decode cX2_copyFrom 8 = .ok (.invokestatic 26, 3) := by decide +kernel
theorem dX2_copyFrom_11 : decode cX2_copyFrom 11 = .ok (.aload_n 0, 1) := by decide +kernel
theorem dX2_copyFrom_12 : decode cX2_copyFrom 12 = .ok (.aload_n 1, 1) := by decide +kernel
theorem dX2_copyFrom_13 : decode cX2_copyFrom 13 = .ok (.getfield 18, 3) := by decide +kernel
theorem dX2_copyFrom_16 : decode cX2_copyFrom 16 = .ok (.putfield 18, 3) := by decide +kernel
theorem dX2_copyFrom_19 : decode cX2_copyFrom 19 = .ok (.return_, 1) := by decide +kernel
theorem dX2_read_0 : decode cX2_read 0 = .ok (.aload_n 0, 1) := by decide +kernel
theorem dX2_read_1 : decode cX2_read 1 = .ok (.invokevirtual 30, 3) := by decide +kernel
theorem dX2_read_4 : decode cX2_read 4 = .ok (.iconst 0, 1) := by decide +kernel
theorem dX2_read_5 : decode cX2_read 5 = .ok (.istore_n 3, 1) := by decide +kernel
theorem dX2_read_6 : decode cX2_read 6 = .ok (.iload_n 3, 1) := by decide +kernel
theorem dX2_read_7 : decode cX2_read 7 = .ok (.bipush 6, 2) := by decide +kernel
theorem dX2_read_9 : decode cX2_read 9 = .ok (.if_icmp .gt 29, 3) := by decide +kernel
theorem dX2_read_12 : decode cX2_read 12 = .ok (.aload_n 1, 1) := by decide +kernel
theorem dX2_read_13 : decode cX2_read 13 = .ok (.invokevirtual 33, 3) := by decide +kernel
theorem dX2_read_16 : decode cX2_read 16 = .ok (.ifCond .eq 5, 3) := by decide +kernel
theorem dX2_read_19 : decode cX2_read 19 = .ok (.iconst 1, 1) := by decide +kernel
theorem dX2_read_20 : decode cX2_read 20 = .ok (.ireturn, 1) := by decide +kernel
theorem dX2_read_21 : decode cX2_read 21 = .ok (.aload_n 0, 1) := by decide +kernel
theorem dX2_read_22 : decode cX2_read 22 = .ok (.aload_n 1, 1) := by decide +kernel
theorem dX2_read_23 : decode cX2_read 23 = .ok (.iload_n 2, 1) := by decide +kernel
theorem dX2_read_24 : decode cX2_read 24 = .ok (.invokevirtual 39, 3) := by decide +kernel
theorem dX2_read_27 : decode cX2_read 27 = .ok (.ifCond .ne 5, 3) := by decide +kernel
theorem dX2_read_30 : decode cX2_read 30 = .ok (.iconst 0, 1) := by decide +kernel
theorem dX2_read_31 : decode cX2_read 31 = .ok (.ireturn, 1) := by decide +kernel
theorem dX2_read_32 : decode cX2_read 32 = .ok (.iinc 3 1, 3) := by decide +kernel
theorem dX2_read_35 : decode cX2_read 35 = .ok (.goto (-29), 3) := by decide +kernel
theorem dX2_read_38 : decode cX2_read 38 = .ok (.iconst 0, 1) := by decide +kernel
theorem dX2_read_39 : decode cX2_read 39 = .ok (.ireturn, 1) := by decide +kernel
theorem dX2_readLine_0 : decode cX2_readLine 0 = .ok (.aload_n 1, 1) := by decide +kernel
theorem dX2_readLine_1 : decode cX2_readLine 1 = .ok (.iconst 0, 1) := by decide +kernel
theorem dX2_readLine_2 : decode cX2_readLine 2 = .ok (.iload_n 2, 1) := by decide +kernel
theorem dX2_readLine_3 : decode cX2_readLine 3 = .ok (.iconst 1, 1) := by decide +kernel
theorem dX2_readLine_4 : decode cX2_readLine 4 = .ok (.isub, 1) := by decide +kernel
theorem dX2_readLine_5 : decode cX2_readLine 5 = .ok (.invokevirtual 43, 3) := by decide +kernel
theorem dX2_readLine_8 : decode cX2_readLine 8 = .ok (.istore_n 3, 1) := by decide +kernel
theorem dX2_readLine_9 : decode cX2_readLine 9 = .ok (.iload_n 3, 1) := by decide +kernel
theorem dX2_readLine_10 : decode cX2_readLine 10 = .ok (.iconst (-1), 1) := by decide +kernel
theorem dX2_readLine_11 : decode cX2_readLine 11 = .ok (.if_icmp .ne 5, 3) := by decide +kernel
theorem dX2_readLine_14 : decode cX2_readLine 14 = .ok (.iconst 0, 1) := by decide +kernel
theorem dX2_readLine_15 : decode cX2_readLine 15 = .ok (.ireturn, 1) := by decide +kernel
theorem dX2_readLine_16 : decode cX2_readLine 16 = .ok (.aload_n 0, 1) := by decide +kernel
theorem dX2_readLine_17 : decode cX2_readLine 17 = .ok (.getfield 9, 3) := by decide +kernel
theorem dX2_readLine_20 : decode cX2_readLine 20 = .ok (.iload_n 3, 1) := by decide +kernel
theorem dX2_readLine_21 : decode cX2_readLine 21 = .ok (.invokestatic 47, 3) := by decide +kernel
theorem dX2_readLine_24 : decode cX2_readLine 24 = .ok (.iconst (-1), 1) := by decide +kernel
theorem dX2_readLine_25 : decode cX2_readLine 25 = .ok (.if_icmp .eq 9, 3) := by decide +kernel
theorem dX2_readLine_28 : decode cX2_readLine 28 = .ok (.aload_n 1, 1) := by decide +kernel
theorem dX2_readLine_29 : decode cX2_readLine 29 = .ok (.iconst 2, 1) := by decide +kernel
theorem dX2_readLine_30 : decode cX2_readLine 30 = .ok (.invokevirtual 51, 3) := by decide +kernel
theorem dX2_readLine_33 : decode cX2_readLine 33 = .ok (.ireturn, 1) := by decide +kernel
theorem dX2_readLine_34 : decode cX2_readLine 34 = .ok (.aload_n 1, 1) := by decide +kernel
theorem dX2_readLine_35 : decode cX2_readLine 35 = .ok (.iconst 0, 1) := by decide +kernel
theorem dX2_readLine_36 : decode cX2_readLine 36 = .ok (.bipush 60, 2) := by decide +kernel
theorem dX2_readLine_38 : decode cX2_readLine 38 = .ok (.invokevirtual 43, 3) := by decide +kernel
theorem dX2_readLine_41 : decode cX2_readLine 41 = .ok (.istore 4, 2) := by decide +kernel
theorem dX2_readLine_43 : decode cX2_readLine 43 = .ok (.iload 4, 2) := by decide +kernel
theorem dX2_readLine_45 : decode cX2_readLine 45 = .ok (.iconst (-1), 1) := by decide +kernel
theorem dX2_readLine_46 : decode cX2_readLine 46 = .ok (.if_icmp .ne 5, 3) := by decide +kernel
theorem dX2_readLine_49 : decode cX2_readLine 49 = .ok (.iconst 0, 1) := by decide +kernel
theorem dX2_readLine_50 : decode cX2_readLine 50 = .ok (.ireturn, 1) := by decide +kernel
theorem dX2_readLine_51 : decode cX2_readLine 51 = .ok (.aload_n 0, 1) := by decide +kernel
theorem dX2_readLine_52 : decode cX2_readLine 52 = .ok (.getfield 9, 3) := by decide +kernel
theorem dX2_readLine_55 : decode cX2_readLine 55 = .ok (.iload_n 3, 1) := by decide +kernel
theorem dX2_readLine_56 : decode cX2_readLine 56 = .ok (.iload 4, 2) := by decide +kernel
theorem dX2_readLine_58 : decode cX2_readLine 58 = .ok (.invokestatic 22, 3) := by decide +kernel
theorem dX2_readLine_61 : decode cX2_readLine 61 = .ok (.aload_n 0, 1) := by decide +kernel
theorem dX2_readLine_62 : decode cX2_readLine 62 = .ok (.dup, 1) := by decide +kernel
theorem dX2_readLine_63 : decode cX2_readLine 63 = .ok (.getfield 18, 3) := by decide +kernel
theorem dX2_readLine_66 : decode cX2_readLine 66 = .ok (.iconst 1, 1) := by decide +kernel
theorem dX2_readLine_67 : decode cX2_readLine 67 = .ok (.iadd, 1) := by decide +kernel
theorem dX2_readLine_68 : decode cX2_readLine 68 = .ok (.putfield 18, 3) := by decide +kernel
theorem dX2_readLine_71 : decode cX2_readLine 71 = .ok (.aload_n 1, 1) := by decide +kernel
theorem dX2_readLine_72 : decode cX2_readLine 72 = .ok (.bipush 59, 2) := by decide +kernel
theorem dX2_readLine_74 : decode cX2_readLine 74 = .ok (.invokevirtual 55, 3) := by decide +kernel
theorem dX2_readLine_77 : decode cX2_readLine 77 = .ok (.ireturn, 1) := by decide +kernel
theorem dX2_fits_0 : decode cX2_fits 0 = .ok (.iconst 0, 1) := by decide +kernel
theorem dX2_fits_1 : decode cX2_fits 1 = .ok (.istore 4, 2) := by decide +kernel
theorem dX2_fits_3 : decode cX2_fits 3 = .ok (.iload 4, 2) := by decide +kernel
theorem dX2_fits_5 : decode cX2_fits 5 = .ok (.aload_n 1, 1) := by decide +kernel
theorem dX2_fits_6 : decode cX2_fits 6 = .ok (.getfield 58, 3) := by decide +kernel
theorem dX2_fits_9 : decode cX2_fits 9 = .ok (.if_icmp .ge 40, 3) := by decide +kernel
theorem dX2_fits_12 : decode cX2_fits 12 = .ok (.aload_n 0, 1) := by decide +kernel
theorem dX2_fits_13 : decode cX2_fits 13 = .ok (.getfield 9, 3) := by decide +kernel
theorem dX2_fits_16 : decode cX2_fits 16 = .ok (.iload 4, 2) := by decide +kernel
theorem dX2_fits_18 : decode cX2_fits 18 = .ok (.invokestatic 47, 3) := by decide +kernel
theorem dX2_fits_21 : decode cX2_fits 21 = .ok (.istore 5, 2) := by decide +kernel
theorem dX2_fits_23 : decode cX2_fits 23 = .ok (.iload 5, 2) := by decide +kernel
theorem dX2_fits_25 : decode cX2_fits 25 = .ok (.iconst (-1), 1) := by decide +kernel
theorem dX2_fits_26 : decode cX2_fits 26 = .ok (.if_icmp .eq 17, 3) := by decide +kernel
theorem dX2_fits_29 : decode cX2_fits 29 = .ok (.iload 5, 2) := by decide +kernel
theorem dX2_fits_31 : decode cX2_fits 31 = .ok (.aload_n 2, 1) := by decide +kernel
theorem dX2_fits_32 : decode cX2_fits 32 = .ok (.iload 4, 2) := by decide +kernel
theorem dX2_fits_34 : decode cX2_fits 34 = .ok (.iload_n 3, 1) := by decide +kernel
theorem dX2_fits_35 : decode cX2_fits 35 = .ok (.invokevirtual 63, 3) := by decide +kernel
theorem dX2_fits_38 : decode cX2_fits 38 = .ok (.if_icmp .eq 5, 3) := by decide +kernel
theorem dX2_fits_41 : decode cX2_fits 41 = .ok (.iconst 0, 1) := by decide +kernel
theorem dX2_fits_42 : decode cX2_fits 42 = .ok (.ireturn, 1) := by decide +kernel
theorem dX2_fits_43 : decode cX2_fits 43 = .ok (.iinc 4 1, 3) := by decide +kernel
theorem dX2_fits_46 : decode cX2_fits 46 = .ok (.goto (-43), 3) := by decide +kernel
theorem dX2_fits_49 : decode cX2_fits 49 = .ok (.iconst 1, 1) := by decide +kernel
theorem dX2_fits_50 : decode cX2_fits 50 = .ok (.ireturn, 1) := by decide +kernel
theorem dX2_fittingTides_0 : decode cX2_fittingTides 0 = .ok (.iconst 0, 1) := by decide +kernel
theorem dX2_fittingTides_1 : decode cX2_fittingTides 1 = .ok (.istore_n 3, 1) := by decide +kernel
theorem dX2_fittingTides_2 : decode cX2_fittingTides 2 = .ok (.iconst 0, 1) := by decide +kernel
theorem dX2_fittingTides_3 : decode cX2_fittingTides 3 = .ok (.istore 4, 2) := by decide +kernel
theorem dX2_fittingTides_5 : decode cX2_fittingTides 5 = .ok (.iload 4, 2) := by decide +kernel
theorem dX2_fittingTides_7 : decode cX2_fittingTides 7 = .ok (.aload_n 1, 1) := by decide +kernel
theorem dX2_fittingTides_8 : decode cX2_fittingTides 8 = .ok (.getfield 68, 3) := by decide +kernel
theorem dX2_fittingTides_11 : decode cX2_fittingTides 11 = .ok (.if_icmp .ge 31, 3) := by decide +kernel
theorem dX2_fittingTides_14 : decode cX2_fittingTides 14 = .ok (.aload_n 0, 1) := by decide +kernel
theorem dX2_fittingTides_15 : decode cX2_fittingTides 15 = .ok (.aload_n 1, 1) := by decide +kernel
theorem dX2_fittingTides_16 : decode cX2_fittingTides 16 = .ok (.aload_n 2, 1) := by decide +kernel
theorem dX2_fittingTides_17 : decode cX2_fittingTides 17 = .ok (.aload_n 1, 1) := by decide +kernel
theorem dX2_fittingTides_18 : decode cX2_fittingTides 18 = .ok (.iload 4, 2) := by decide +kernel
theorem dX2_fittingTides_20 : decode cX2_fittingTides 20 = .ok (.invokevirtual 71, 3) := by decide +kernel
theorem dX2_fittingTides_23 : decode cX2_fittingTides 23 = .ok (.invokevirtual 75, 3) := by decide +kernel
theorem dX2_fittingTides_26 : decode cX2_fittingTides 26 = .ok (.ifCond .eq 10, 3) := by decide +kernel
theorem dX2_fittingTides_29 : decode cX2_fittingTides 29 = .ok (.iload_n 3, 1) := by decide +kernel
theorem dX2_fittingTides_30 : decode cX2_fittingTides 30 = .ok (.iconst 1, 1) := by decide +kernel
theorem dX2_fittingTides_31 : decode cX2_fittingTides 31 = .ok (.iload 4, 2) := by decide +kernel
theorem dX2_fittingTides_33 : decode cX2_fittingTides 33 = .ok (.ishl, 1) := by decide +kernel
theorem dX2_fittingTides_34 : decode cX2_fittingTides 34 = .ok (.ior, 1) := by decide +kernel
theorem dX2_fittingTides_35 : decode cX2_fittingTides 35 = .ok (.istore_n 3, 1) := by decide +kernel
theorem dX2_fittingTides_36 : decode cX2_fittingTides 36 = .ok (.iinc 4 1, 3) := by decide +kernel
theorem dX2_fittingTides_39 : decode cX2_fittingTides 39 = .ok (.goto (-34), 3) := by decide +kernel
theorem dX2_fittingTides_42 : decode cX2_fittingTides 42 = .ok (.iload_n 3, 1) := by decide +kernel
theorem dX2_fittingTides_43 : decode cX2_fittingTides 43 = .ok (.ireturn, 1) := by decide +kernel
theorem dX2_setsUnder_0 : decode cX2_setsUnder 0 = .ok (.iconst 0, 1) := by decide +kernel
theorem dX2_setsUnder_1 : decode cX2_setsUnder 1 = .ok (.istore_n 2, 1) := by decide +kernel
theorem dX2_setsUnder_2 : decode cX2_setsUnder 2 = .ok (.iconst 0, 1) := by decide +kernel
theorem dX2_setsUnder_3 : decode cX2_setsUnder 3 = .ok (.istore_n 3, 1) := by decide +kernel
theorem dX2_setsUnder_4 : decode cX2_setsUnder 4 = .ok (.iconst 0, 1) := by decide +kernel
theorem dX2_setsUnder_5 : decode cX2_setsUnder 5 = .ok (.istore 4, 2) := by decide +kernel
theorem dX2_setsUnder_7 : decode cX2_setsUnder 7 = .ok (.iload 4, 2) := by decide +kernel
theorem dX2_setsUnder_9 : decode cX2_setsUnder 9 = .ok (.aload_n 0, 1) := by decide +kernel
theorem dX2_setsUnder_10 : decode cX2_setsUnder 10 = .ok (.getfield 68, 3) := by decide +kernel
theorem dX2_setsUnder_13 : decode cX2_setsUnder 13 = .ok (.if_icmp .ge 45, 3) := by decide +kernel
theorem dX2_setsUnder_16 : decode cX2_setsUnder 16 = .ok (.iload_n 2, 1) := by decide +kernel
theorem dX2_setsUnder_17 : decode cX2_setsUnder 17 = .ok (.aload_n 0, 1) := by decide +kernel
theorem dX2_setsUnder_18 : decode cX2_setsUnder 18 = .ok (.iload 4, 2) := by decide +kernel
theorem dX2_setsUnder_20 : decode cX2_setsUnder 20 = .ok (.invokevirtual 71, 3) := by decide +kernel
theorem dX2_setsUnder_23 : decode cX2_setsUnder 23 = .ok (.iload_n 1, 1) := by decide +kernel
theorem dX2_setsUnder_24 : decode cX2_setsUnder 24 = .ok (.if_icmp .ge 7, 3) := by decide +kernel
theorem dX2_setsUnder_27 : decode cX2_setsUnder 27 = .ok (.iconst 1, 1) := by decide +kernel
theorem dX2_setsUnder_28 : decode cX2_setsUnder 28 = .ok (.goto 4, 3) := by decide +kernel
theorem dX2_setsUnder_31 : decode cX2_setsUnder 31 = .ok (.iconst 0, 1) := by decide +kernel
theorem dX2_setsUnder_32 : decode cX2_setsUnder 32 = .ok (.iadd, 1) := by decide +kernel
theorem dX2_setsUnder_33 : decode cX2_setsUnder 33 = .ok (.istore_n 2, 1) := by decide +kernel
theorem dX2_setsUnder_34 : decode cX2_setsUnder 34 = .ok (.iload_n 3, 1) := by decide +kernel
theorem dX2_setsUnder_35 : decode cX2_setsUnder 35 = .ok (.aload_n 0, 1) := by decide +kernel
theorem dX2_setsUnder_36 : decode cX2_setsUnder 36 = .ok (.iload 4, 2) := by decide +kernel
theorem dX2_setsUnder_38 : decode cX2_setsUnder 38 = .ok (.invokevirtual 71, 3) := by decide +kernel
theorem dX2_setsUnder_41 : decode cX2_setsUnder 41 = .ok (.iload_n 1, 1) := by decide +kernel
theorem dX2_setsUnder_42 : decode cX2_setsUnder 42 = .ok (.if_icmp .ne 7, 3) := by decide +kernel
theorem dX2_setsUnder_45 : decode cX2_setsUnder 45 = .ok (.iconst 1, 1) := by decide +kernel
theorem dX2_setsUnder_46 : decode cX2_setsUnder 46 = .ok (.goto 4, 3) := by decide +kernel
theorem dX2_setsUnder_49 : decode cX2_setsUnder 49 = .ok (.iconst 0, 1) := by decide +kernel
theorem dX2_setsUnder_50 : decode cX2_setsUnder 50 = .ok (.iadd, 1) := by decide +kernel
theorem dX2_setsUnder_51 : decode cX2_setsUnder 51 = .ok (.istore_n 3, 1) := by decide +kernel
theorem dX2_setsUnder_52 : decode cX2_setsUnder 52 = .ok (.iinc 4 1, 3) := by decide +kernel
theorem dX2_setsUnder_55 : decode cX2_setsUnder 55 = .ok (.goto (-48), 3) := by decide +kernel
theorem dX2_setsUnder_58 : decode cX2_setsUnder 58 = .ok (.iconst 1, 1) := by decide +kernel
theorem dX2_setsUnder_59 : decode cX2_setsUnder 59 = .ok (.iload_n 3, 1) := by decide +kernel
theorem dX2_setsUnder_60 : decode cX2_setsUnder 60 = .ok (.ishl, 1) := by decide +kernel
theorem dX2_setsUnder_61 : decode cX2_setsUnder 61 = .ok (.iconst 1, 1) := by decide +kernel
theorem dX2_setsUnder_62 : decode cX2_setsUnder 62 = .ok (.isub, 1) := by decide +kernel
theorem dX2_setsUnder_63 : decode cX2_setsUnder 63 = .ok (.iconst 1, 1) := by decide +kernel
theorem dX2_setsUnder_64 : decode cX2_setsUnder 64 = .ok (.iload_n 2, 1) := by decide +kernel
theorem dX2_setsUnder_65 : decode cX2_setsUnder 65 = .ok (.ishl, 1) := by decide +kernel
theorem dX2_setsUnder_66 : decode cX2_setsUnder 66 = .ok (.imul, 1) := by decide +kernel
theorem dX2_setsUnder_67 : decode cX2_setsUnder 67 = .ok (.ireturn, 1) := by decide +kernel
theorem dX2_setsLeft_0 : decode cX2_setsLeft 0 = .ok (.iconst 0, 1) := by decide +kernel
theorem dX2_setsLeft_1 : decode cX2_setsLeft 1 = .ok (.istore_n 3, 1) := by decide +kernel
theorem dX2_setsLeft_2 : decode cX2_setsLeft 2 = .ok (.iconst 0, 1) := by decide +kernel
theorem dX2_setsLeft_3 : decode cX2_setsLeft 3 = .ok (.istore 4, 2) := by decide +kernel
theorem dX2_setsLeft_5 : decode cX2_setsLeft 5 = .ok (.iload 4, 2) := by decide +kernel
theorem dX2_setsLeft_7 : decode cX2_setsLeft 7 = .ok (.bipush 60, 2) := by decide +kernel
theorem dX2_setsLeft_9 : decode cX2_setsLeft 9 = .ok (.if_icmp .gt 33, 3) := by decide +kernel
theorem dX2_setsLeft_12 : decode cX2_setsLeft 12 = .ok (.iload_n 3, 1) := by decide +kernel
theorem dX2_setsLeft_13 : decode cX2_setsLeft 13 = .ok (.aload_n 0, 1) := by decide +kernel
theorem dX2_setsLeft_14 : decode cX2_setsLeft 14 = .ok (.aload_n 1, 1) := by decide +kernel
theorem dX2_setsLeft_15 : decode cX2_setsLeft 15 = .ok (.aload_n 2, 1) := by decide +kernel
theorem dX2_setsLeft_16 : decode cX2_setsLeft 16 = .ok (.iload 4, 2) := by decide +kernel
theorem dX2_setsLeft_18 : decode cX2_setsLeft 18 = .ok (.invokevirtual 75, 3) := by decide +kernel
theorem dX2_setsLeft_21 : decode cX2_setsLeft 21 = .ok (.ifCond .eq 12, 3) := by decide +kernel
theorem dX2_setsLeft_24 : decode cX2_setsLeft 24 = .ok (.aload_n 1, 1) := by decide +kernel
theorem dX2_setsLeft_25 : decode cX2_setsLeft 25 = .ok (.iload 4, 2) := by decide +kernel
theorem dX2_setsLeft_27 : decode cX2_setsLeft 27 = .ok (.invokestatic 79, 3) := by decide +kernel
theorem dX2_setsLeft_30 : decode cX2_setsLeft 30 = .ok (.goto 4, 3) := by decide +kernel
theorem dX2_setsLeft_33 : decode cX2_setsLeft 33 = .ok (.iconst 0, 1) := by decide +kernel
theorem dX2_setsLeft_34 : decode cX2_setsLeft 34 = .ok (.iadd, 1) := by decide +kernel
theorem dX2_setsLeft_35 : decode cX2_setsLeft 35 = .ok (.istore_n 3, 1) := by decide +kernel
theorem dX2_setsLeft_36 : decode cX2_setsLeft 36 = .ok (.iinc 4 1, 3) := by decide +kernel
theorem dX2_setsLeft_39 : decode cX2_setsLeft 39 = .ok (.goto (-34), 3) := by decide +kernel
theorem dX2_setsLeft_42 : decode cX2_setsLeft 42 = .ok (.iload_n 3, 1) := by decide +kernel
theorem dX2_setsLeft_43 : decode cX2_setsLeft 43 = .ok (.ireturn, 1) := by decide +kernel
theorem dX2_worstLeft_0 : decode cX2_worstLeft 0 = .ok (.iconst 0, 1) := by decide +kernel
theorem dX2_worstLeft_1 : decode cX2_worstLeft 1 = .ok (.istore 4, 2) := by decide +kernel
theorem dX2_worstLeft_3 : decode cX2_worstLeft 3 = .ok (.iload 4, 2) := by decide +kernel
theorem dX2_worstLeft_5 : decode cX2_worstLeft 5 = .ok (.bipush 60, 2) := by decide +kernel
theorem dX2_worstLeft_7 : decode cX2_worstLeft 7 = .ok (.if_icmp .gt 19, 3) := by decide +kernel
theorem dX2_worstLeft_10 : decode cX2_worstLeft 10 = .ok (.aload_n 0, 1) := by decide +kernel
theorem dX2_worstLeft_11 : decode cX2_worstLeft 11 = .ok (.getfield 15, 3) := by decide +kernel
theorem dX2_worstLeft_14 : decode cX2_worstLeft 14 = .ok (.iload 4, 2) := by decide +kernel
theorem dX2_worstLeft_16 : decode cX2_worstLeft 16 = .ok (.iconst 0, 1) := by decide +kernel
theorem dX2_worstLeft_17 : decode cX2_worstLeft 17 = .ok (.invokestatic 22, 3) := by decide +kernel
theorem dX2_worstLeft_20 : decode cX2_worstLeft 20 = .ok (.iinc 4 1, 3) := by decide +kernel
theorem dX2_worstLeft_23 : decode cX2_worstLeft 23 = .ok (.goto (-20), 3) := by decide +kernel
theorem dX2_worstLeft_26 : decode cX2_worstLeft 26 = .ok (.iconst 0, 1) := by decide +kernel
theorem dX2_worstLeft_27 : decode cX2_worstLeft 27 = .ok (.istore 4, 2) := by decide +kernel
theorem dX2_worstLeft_29 : decode cX2_worstLeft 29 = .ok (.iconst 0, 1) := by decide +kernel
theorem dX2_worstLeft_30 : decode cX2_worstLeft 30 = .ok (.istore 5, 2) := by decide +kernel
theorem dX2_worstLeft_32 : decode cX2_worstLeft 32 = .ok (.iload 5, 2) := by decide +kernel
theorem dX2_worstLeft_34 : decode cX2_worstLeft 34 = .ok (.bipush 60, 2) := by decide +kernel
theorem dX2_worstLeft_36 : decode cX2_worstLeft 36 = .ok (.if_icmp .gt 67, 3) := by decide +kernel
theorem dX2_worstLeft_39 : decode cX2_worstLeft 39 = .ok (.aload_n 0, 1) := by decide +kernel
theorem dX2_worstLeft_40 : decode cX2_worstLeft 40 = .ok (.aload_n 1, 1) := by decide +kernel
theorem dX2_worstLeft_41 : decode cX2_worstLeft 41 = .ok (.aload_n 2, 1) := by decide +kernel
theorem dX2_worstLeft_42 : decode cX2_worstLeft 42 = .ok (.iload 5, 2) := by decide +kernel
theorem dX2_worstLeft_44 : decode cX2_worstLeft 44 = .ok (.invokevirtual 75, 3) := by decide +kernel
theorem dX2_worstLeft_47 : decode cX2_worstLeft 47 = .ok (.ifCond .eq 50, 3) := by decide +kernel
theorem dX2_worstLeft_50 : decode cX2_worstLeft 50 = .ok (.aload_n 2, 1) := by decide +kernel
theorem dX2_worstLeft_51 : decode cX2_worstLeft 51 = .ok (.iload_n 3, 1) := by decide +kernel
theorem dX2_worstLeft_52 : decode cX2_worstLeft 52 = .ok (.iload 5, 2) := by decide +kernel
theorem dX2_worstLeft_54 : decode cX2_worstLeft 54 = .ok (.invokevirtual 63, 3) := by decide +kernel
theorem dX2_worstLeft_57 : decode cX2_worstLeft 57 = .ok (.istore 6, 2) := by decide +kernel
theorem dX2_worstLeft_59 : decode cX2_worstLeft 59 = .ok (.aload_n 0, 1) := by decide +kernel
theorem dX2_worstLeft_60 : decode cX2_worstLeft 60 = .ok (.getfield 15, 3) := by decide +kernel
theorem dX2_worstLeft_63 : decode cX2_worstLeft 63 = .ok (.iload 6, 2) := by decide +kernel
theorem dX2_worstLeft_65 : decode cX2_worstLeft 65 = .ok (.invokestatic 47, 3) := by decide +kernel
theorem dX2_worstLeft_68 : decode cX2_worstLeft 68 = .ok (.aload_n 1, 1) := by decide +kernel
theorem dX2_worstLeft_69 : decode cX2_worstLeft 69 = .ok (.iload 5, 2) := by decide +kernel
theorem dX2_worstLeft_71 : decode cX2_worstLeft 71 = .ok (.invokestatic 79, 3) := by decide +kernel
theorem dX2_worstLeft_74 : decode cX2_worstLeft 74 = .ok (.iadd, 1) := by decide +kernel
theorem dX2_worstLeft_75 : decode cX2_worstLeft 75 = .ok (.istore 7, 2) := by decide +kernel
theorem dX2_worstLeft_77 : decode cX2_worstLeft 77 = .ok (.aload_n 0, 1) := by decide +kernel
theorem dX2_worstLeft_78 : decode cX2_worstLeft 78 = .ok (.getfield 15, 3) := by decide +kernel
theorem dX2_worstLeft_81 : decode cX2_worstLeft 81 = .ok (.iload 6, 2) := by decide +kernel
theorem dX2_worstLeft_83 : decode cX2_worstLeft 83 = .ok (.iload 7, 2) := by decide +kernel
theorem dX2_worstLeft_85 : decode cX2_worstLeft 85 = .ok (.invokestatic 22, 3) := by decide +kernel
theorem dX2_worstLeft_88 : decode cX2_worstLeft 88 = .ok (.iload 4, 2) := by decide +kernel
theorem dX2_worstLeft_90 : decode cX2_worstLeft 90 = .ok (.iload 7, 2) := by decide +kernel
theorem dX2_worstLeft_92 : decode cX2_worstLeft 92 = .ok (.invokestatic 83, 3) := by decide +kernel
theorem dX2_worstLeft_95 : decode cX2_worstLeft 95 = .ok (.istore 4, 2) := by decide +kernel
theorem dX2_worstLeft_97 : decode cX2_worstLeft 97 = .ok (.iinc 5 1, 3) := by decide +kernel
theorem dX2_worstLeft_100 : decode cX2_worstLeft 100 = .ok (.goto (-68), 3) := by decide +kernel
theorem dX2_worstLeft_103 : decode cX2_worstLeft 103 = .ok (.iload 4, 2) := by decide +kernel
theorem dX2_worstLeft_105 : decode cX2_worstLeft 105 = .ok (.ireturn, 1) := by decide +kernel
theorem dX2_nextBoard_0 : decode cX2_nextBoard 0 = .ok (.iconst (-1), 1) := by decide +kernel
theorem dX2_nextBoard_1 : decode cX2_nextBoard 1 = .ok (.istore_n 3, 1) := by decide +kernel
theorem dX2_nextBoard_2 : decode cX2_nextBoard 2 = .ok (.iconst 0, 1) := by decide +kernel
theorem dX2_nextBoard_3 : decode cX2_nextBoard 3 = .ok (.istore 4, 2) := by decide +kernel
theorem dX2_nextBoard_5 : decode cX2_nextBoard 5 = .ok (.iconst 0, 1) := by decide +kernel
theorem dX2_nextBoard_6 : decode cX2_nextBoard 6 = .ok (.istore 5, 2) := by decide +kernel
theorem dX2_nextBoard_8 : decode cX2_nextBoard 8 = .ok (.iload 5, 2) := by decide +kernel
theorem dX2_nextBoard_10 : decode cX2_nextBoard 10 = .ok (.aload_n 1, 1) := by decide +kernel
theorem dX2_nextBoard_11 : decode cX2_nextBoard 11 = .ok (.getfield 58, 3) := by decide +kernel
theorem dX2_nextBoard_14 : decode cX2_nextBoard 14 = .ok (.if_icmp .ge 54, 3) := by decide +kernel
theorem dX2_nextBoard_17 : decode cX2_nextBoard 17 = .ok (.aload_n 0, 1) := by decide +kernel
theorem dX2_nextBoard_18 : decode cX2_nextBoard 18 = .ok (.getfield 9, 3) := by decide +kernel
theorem dX2_nextBoard_21 : decode cX2_nextBoard 21 = .ok (.iload 5, 2) := by decide +kernel
theorem dX2_nextBoard_23 : decode cX2_nextBoard 23 = .ok (.invokestatic 47, 3) := by decide +kernel
theorem dX2_nextBoard_26 : decode cX2_nextBoard 26 = .ok (.iconst (-1), 1) := by decide +kernel
theorem dX2_nextBoard_27 : decode cX2_nextBoard 27 = .ok (.if_icmp .eq 6, 3) := by decide +kernel
theorem dX2_nextBoard_30 : decode cX2_nextBoard 30 = .ok (.goto 32, 3) := by decide +kernel
theorem dX2_nextBoard_33 : decode cX2_nextBoard 33 = .ok (.aload_n 0, 1) := by decide +kernel
theorem dX2_nextBoard_34 : decode cX2_nextBoard 34 = .ok (.aload_n 1, 1) := by decide +kernel
theorem dX2_nextBoard_35 : decode cX2_nextBoard 35 = .ok (.aload_n 2, 1) := by decide +kernel
theorem dX2_nextBoard_36 : decode cX2_nextBoard 36 = .ok (.iload 5, 2) := by decide +kernel
theorem dX2_nextBoard_38 : decode cX2_nextBoard 38 = .ok (.invokevirtual 88, 3) := by decide +kernel
theorem dX2_nextBoard_41 : decode cX2_nextBoard 41 = .ok (.istore 6, 2) := by decide +kernel
theorem dX2_nextBoard_43 : decode cX2_nextBoard 43 = .ok (.iload_n 3, 1) := by decide +kernel
theorem dX2_nextBoard_44 : decode cX2_nextBoard 44 = .ok (.iconst (-1), 1) := by decide +kernel
theorem dX2_nextBoard_45 : decode cX2_nextBoard 45 = .ok (.if_icmp .eq 10, 3) := by decide +kernel
theorem dX2_nextBoard_48 : decode cX2_nextBoard 48 = .ok (.iload 6, 2) := by decide +kernel
theorem dX2_nextBoard_50 : decode cX2_nextBoard 50 = .ok (.iload 4, 2) := by decide +kernel
theorem dX2_nextBoard_52 : decode cX2_nextBoard 52 = .ok (.if_icmp .ge 10, 3) := by decide +kernel
theorem dX2_nextBoard_55 : decode cX2_nextBoard 55 = .ok (.iload 5, 2) := by decide +kernel
theorem dX2_nextBoard_57 : decode cX2_nextBoard 57 = .ok (.istore_n 3, 1) := by decide +kernel
theorem dX2_nextBoard_58 : decode cX2_nextBoard 58 = .ok (.iload 6, 2) := by decide +kernel
theorem dX2_nextBoard_60 : decode cX2_nextBoard 60 = .ok (.istore 4, 2) := by decide +kernel
theorem dX2_nextBoard_62 : decode cX2_nextBoard 62 = .ok (.iinc 5 1, 3) := by decide +kernel
theorem dX2_nextBoard_65 : decode cX2_nextBoard 65 = .ok (.goto (-57), 3) := by decide +kernel
theorem dX2_nextBoard_68 : decode cX2_nextBoard 68 = .ok (.iload_n 3, 1) := by decide +kernel
theorem dX2_nextBoard_69 : decode cX2_nextBoard 69 = .ok (.ireturn, 1) := by decide +kernel
theorem dX3_seaHas_0 : decode cX3_seaHas 0 = .ok (.iload_n 2, 1) := by decide +kernel
theorem dX3_seaHas_1 : decode cX3_seaHas 1 = .ok (.iload_n 3, 1) := by decide +kernel
theorem dX3_seaHas_2 : decode cX3_seaHas 2 = .ok (.iadd, 1) := by decide +kernel
theorem dX3_seaHas_3 : decode cX3_seaHas 3 = .ok (.iload_n 0, 1) := by decide +kernel
theorem dX3_seaHas_4 : decode cX3_seaHas 4 = .ok (.if_icmp .gt 10, 3) := by decide +kernel
theorem dX3_seaHas_7 : decode cX3_seaHas 7 = .ok (.bipush 16, 2) := by decide +kernel
theorem dX3_seaHas_9 : decode cX3_seaHas 9 = .ok (.iload_n 2, 1) := by decide +kernel
theorem dX3_seaHas_10 : decode cX3_seaHas 10 = .ok (.imul, 1) := by decide +kernel
theorem dX3_seaHas_11 : decode cX3_seaHas 11 = .ok (.goto 4, 3) := by decide +kernel
theorem dX3_seaHas_14 : decode cX3_seaHas 14 = .ok (.iload_n 1, 1) := by decide +kernel
theorem dX3_seaHas_15 : decode cX3_seaHas 15 = .ok (.ireturn, 1) := by decide +kernel
theorem dX3_houseHas_0 : decode cX3_houseHas 0 = .ok (.iload_n 2, 1) := by decide +kernel
theorem dX3_houseHas_1 : decode cX3_houseHas 1 = .ok (.iload_n 3, 1) := by decide +kernel
theorem dX3_houseHas_2 : decode cX3_houseHas 2 = .ok (.iadd, 1) := by decide +kernel
theorem dX3_houseHas_3 : decode cX3_houseHas 3 = .ok (.iload_n 0, 1) := by decide +kernel
theorem dX3_houseHas_4 : decode cX3_houseHas 4 = .ok (.if_icmp .gt 10, 3) := by decide +kernel
theorem dX3_houseHas_7 : decode cX3_houseHas 7 = .ok (.bipush 16, 2) := by decide +kernel
theorem dX3_houseHas_9 : decode cX3_houseHas 9 = .ok (.iload_n 3, 1) := by decide +kernel
theorem dX3_houseHas_10 : decode cX3_houseHas 10 = .ok (.imul, 1) := by decide +kernel
theorem dX3_houseHas_11 : decode cX3_houseHas 11 = .ok (.goto 7, 3) := by decide +kernel
theorem dX3_houseHas_14 : decode cX3_houseHas 14 = .ok (.bipush 16, 2) := by decide +kernel
theorem dX3_houseHas_16 : decode cX3_houseHas 16 = .ok (.iload_n 1, 1) := by decide +kernel
theorem dX3_houseHas_17 : decode cX3_houseHas 17 = .ok (.isub, 1) := by decide +kernel
theorem dX3_houseHas_18 : decode cX3_houseHas 18 = .ok (.ireturn, 1) := by decide +kernel
theorem dX3_isRest_0 : decode cX3_isRest 0 = .ok (.iconst 0, 1) := by decide +kernel
theorem dX3_isRest_1 : decode cX3_isRest 1 = .ok (.istore 4, 2) := by decide +kernel
theorem dX3_isRest_3 : decode cX3_isRest 3 = .ok (.iload 4, 2) := by decide +kernel
theorem dX3_isRest_5 : decode cX3_isRest 5 = .ok (.iload_n 0, 1) := by decide +kernel
theorem dX3_isRest_6 : decode cX3_isRest 6 = .ok (.if_icmp .gt 47, 3) := by decide +kernel
theorem dX3_isRest_9 : decode cX3_isRest 9 = .ok (.iload_n 0, 1) := by decide +kernel
theorem dX3_isRest_10 : decode cX3_isRest 10 = .ok (.iload_n 1, 1) := by decide +kernel
theorem dX3_isRest_11 : decode cX3_isRest 11 = .ok (.iload 4, 2) := by decide +kernel
theorem dX3_isRest_13 : decode cX3_isRest 13 = .ok (.iload_n 3, 1) := by decide +kernel
theorem dX3_isRest_14 : decode cX3_isRest 14 = .ok (.invokestatic 9, 3) := by decide +kernel
theorem dX3_isRest_17 : decode cX3_isRest 17 = .ok (.iload_n 0, 1) := by decide +kernel
theorem dX3_isRest_18 : decode cX3_isRest 18 = .ok (.iload_n 1, 1) := by decide +kernel
theorem dX3_isRest_19 : decode cX3_isRest 19 = .ok (.iload_n 2, 1) := by decide +kernel
theorem dX3_isRest_20 : decode cX3_isRest 20 = .ok (.iload_n 3, 1) := by decide +kernel
theorem dX3_isRest_21 : decode cX3_isRest 21 = .ok (.invokestatic 9, 3) := by decide +kernel
theorem dX3_isRest_24 : decode cX3_isRest 24 = .ok (.if_icmp .gt 21, 3) := by decide +kernel
theorem dX3_isRest_27 : decode cX3_isRest 27 = .ok (.iload_n 0, 1) := by decide +kernel
theorem dX3_isRest_28 : decode cX3_isRest 28 = .ok (.iload_n 1, 1) := by decide +kernel
theorem dX3_isRest_29 : decode cX3_isRest 29 = .ok (.iload_n 2, 1) := by decide +kernel
theorem dX3_isRest_30 : decode cX3_isRest 30 = .ok (.iload 4, 2) := by decide +kernel
theorem dX3_isRest_32 : decode cX3_isRest 32 = .ok (.invokestatic 15, 3) := by decide +kernel
theorem dX3_isRest_35 : decode cX3_isRest 35 = .ok (.iload_n 0, 1) := by decide +kernel
theorem dX3_isRest_36 : decode cX3_isRest 36 = .ok (.iload_n 1, 1) := by decide +kernel
theorem dX3_isRest_37 : decode cX3_isRest 37 = .ok (.iload_n 2, 1) := by decide +kernel
theorem dX3_isRest_38 : decode cX3_isRest 38 = .ok (.iload_n 3, 1) := by decide +kernel
theorem dX3_isRest_39 : decode cX3_isRest 39 = .ok (.invokestatic 15, 3) := by decide +kernel
theorem dX3_isRest_42 : decode cX3_isRest 42 = .ok (.if_icmp .le 5, 3) := by decide +kernel
theorem dX3_isRest_45 : decode cX3_isRest 45 = .ok (.iconst 0, 1) := by decide +kernel
theorem dX3_isRest_46 : decode cX3_isRest 46 = .ok (.ireturn, 1) := by decide +kernel
theorem dX3_isRest_47 : decode cX3_isRest 47 = .ok (.iinc 4 1, 3) := by decide +kernel
theorem dX3_isRest_50 : decode cX3_isRest 50 = .ok (.goto (-47), 3) := by decide +kernel
theorem dX3_isRest_53 : decode cX3_isRest 53 = .ok (.iconst 1, 1) := by decide +kernel
theorem dX3_isRest_54 : decode cX3_isRest 54 = .ok (.ireturn, 1) := by decide +kernel
theorem dX3_rests_0 : decode cX3_rests 0 = .ok (.iconst 0, 1) := by decide +kernel
theorem dX3_rests_1 : decode cX3_rests 1 = .ok (.istore_n 3, 1) := by decide +kernel
theorem dX3_rests_2 : decode cX3_rests 2 = .ok (.iconst (-1), 1) := by decide +kernel
theorem dX3_rests_3 : decode cX3_rests 3 = .ok (.istore 4, 2) := by decide +kernel
theorem dX3_rests_5 : decode cX3_rests 5 = .ok (.iconst 0, 1) := by decide +kernel
theorem dX3_rests_6 : decode cX3_rests 6 = .ok (.istore 5, 2) := by decide +kernel
theorem dX3_rests_8 : decode cX3_rests 8 = .ok (.iconst 0, 1) := by decide +kernel
theorem dX3_rests_9 : decode cX3_rests 9 = .ok (.istore 6, 2) := by decide +kernel
theorem dX3_rests_11 : decode cX3_rests 11 = .ok (.iload 6, 2) := by decide +kernel
theorem dX3_rests_13 : decode cX3_rests 13 = .ok (.iload_n 0, 1) := by decide +kernel
theorem dX3_rests_14 : decode cX3_rests 14 = .ok (.if_icmp .gt 76, 3) := by decide +kernel
theorem dX3_rests_17 : decode cX3_rests 17 = .ok (.iconst 0, 1) := by decide +kernel
theorem dX3_rests_18 : decode cX3_rests 18 = .ok (.istore 7, 2) := by decide +kernel
theorem dX3_rests_20 : decode cX3_rests 20 = .ok (.iload 7, 2) := by decide +kernel
theorem dX3_rests_22 : decode cX3_rests 22 = .ok (.iload_n 0, 1) := by decide +kernel
theorem dX3_rests_23 : decode cX3_rests 23 = .ok (.if_icmp .gt 61, 3) := by decide +kernel
theorem dX3_rests_26 : decode cX3_rests 26 = .ok (.iload_n 0, 1) := by decide +kernel
theorem dX3_rests_27 : decode cX3_rests 27 = .ok (.iload_n 1, 1) := by decide +kernel
theorem dX3_rests_28 : decode cX3_rests 28 = .ok (.iload 6, 2) := by decide +kernel
theorem dX3_rests_30 : decode cX3_rests 30 = .ok (.iload 7, 2) := by decide +kernel
theorem dX3_rests_32 : decode cX3_rests 32 = .ok (.invokestatic 18, 3) := by decide +kernel
theorem dX3_rests_35 : decode cX3_rests 35 = .ok (.ifCond .eq 43, 3) := by decide +kernel
theorem dX3_rests_38 : decode cX3_rests 38 = .ok (.iinc 3 1, 3) := by decide +kernel
theorem dX3_rests_41 : decode cX3_rests 41 = .ok (.iload 4, 2) := by decide +kernel
theorem dX3_rests_43 : decode cX3_rests 43 = .ok (.iconst (-1), 1) := by decide +kernel
theorem dX3_rests_44 : decode cX3_rests 44 = .ok (.if_icmp .ne 34, 3) := by decide +kernel
theorem dX3_rests_47 : decode cX3_rests 47 = .ok (.bipush 100, 2) := by decide +kernel
theorem dX3_rests_49 : decode cX3_rests 49 = .ok (.iload 6, 2) := by decide +kernel
theorem dX3_rests_51 : decode cX3_rests 51 = .ok (.imul, 1) := by decide +kernel
theorem dX3_rests_52 : decode cX3_rests 52 = .ok (.iload 7, 2) := by decide +kernel
theorem dX3_rests_54 : decode cX3_rests 54 = .ok (.iadd, 1) := by decide +kernel
theorem dX3_rests_55 : decode cX3_rests 55 = .ok (.istore 4, 2) := by decide +kernel
theorem dX3_rests_57 : decode cX3_rests 57 = .ok (.iload_n 0, 1) := by decide +kernel
theorem dX3_rests_58 : decode cX3_rests 58 = .ok (.iload_n 1, 1) := by decide +kernel
theorem dX3_rests_59 : decode cX3_rests 59 = .ok (.iload 6, 2) := by decide +kernel
theorem dX3_rests_61 : decode cX3_rests 61 = .ok (.iload 7, 2) := by decide +kernel
theorem dX3_rests_63 : decode cX3_rests 63 = .ok (.invokestatic 9, 3) := by decide +kernel
theorem dX3_rests_66 : decode cX3_rests 66 = .ok (.iload_n 0, 1) := by decide +kernel
theorem dX3_rests_67 : decode cX3_rests 67 = .ok (.iload_n 1, 1) := by decide +kernel
theorem dX3_rests_68 : decode cX3_rests 68 = .ok (.iload 6, 2) := by decide +kernel
theorem dX3_rests_70 : decode cX3_rests 70 = .ok (.iload 7, 2) := by decide +kernel
theorem dX3_rests_72 : decode cX3_rests 72 = .ok (.invokestatic 15, 3) := by decide +kernel
theorem dX3_rests_75 : decode cX3_rests 75 = .ok (.iadd, 1) := by decide +kernel
theorem dX3_rests_76 : decode cX3_rests 76 = .ok (.istore 5, 2) := by decide +kernel
theorem dX3_rests_78 : decode cX3_rests 78 = .ok (.iinc 7 1, 3) := by decide +kernel
theorem dX3_rests_81 : decode cX3_rests 81 = .ok (.goto (-61), 3) := by decide +kernel
theorem dX3_rests_84 : decode cX3_rests 84 = .ok (.iinc 6 1, 3) := by decide +kernel
theorem dX3_rests_87 : decode cX3_rests 87 = .ok (.goto (-76), 3) := by decide +kernel
theorem dX3_rests_90 : decode cX3_rests 90 = .ok (.iload_n 2, 1) := by decide +kernel
theorem dX3_rests_91 : decode cX3_rests 91 = .ok (.ifCond .ne 7, 3) := by decide +kernel
theorem dX3_rests_94 : decode cX3_rests 94 = .ok (.iload_n 3, 1) := by decide +kernel
theorem dX3_rests_95 : decode cX3_rests 95 = .ok (.goto 15, 3) := by decide +kernel
theorem dX3_rests_98 : decode cX3_rests 98 = .ok (.iload_n 2, 1) := by decide +kernel
theorem dX3_rests_99 : decode cX3_rests 99 = .ok (.iconst 1, 1) := by decide +kernel
theorem dX3_rests_100 : decode cX3_rests 100 = .ok (.if_icmp .ne 8, 3) := by decide +kernel
theorem dX3_rests_103 : decode cX3_rests 103 = .ok (.iload 4, 2) := by decide +kernel
theorem dX3_rests_105 : decode cX3_rests 105 = .ok (.goto 5, 3) := by decide +kernel
theorem dX3_rests_108 : decode cX3_rests 108 = .ok (.iload 5, 2) := by decide +kernel
theorem dX3_rests_110 : decode cX3_rests 110 = .ok (.ireturn, 1) := by decide +kernel
theorem dX4_init_0 : decode cX4_init 0 = .ok (.aload_n 0, 1) := by decide +kernel
theorem dX4_init_1 : decode cX4_init 1 = .ok (.invokespecial 7, 3) := by decide +kernel
theorem dX4_init_4 : decode cX4_init 4 = .ok (.aload_n 0, 1) := by decide +kernel
theorem dX4_init_5 : decode cX4_init 5 = .ok (.sipush 1104, 3) := by decide +kernel
theorem dX4_init_8 : decode cX4_init 8 = .ok (.newarray .int, 2) := by decide +kernel
theorem dX4_init_10 : decode cX4_init 10 = .ok (.putfield 13, 3) := by decide +kernel
theorem dX4_init_13 : decode cX4_init 13 = .ok (.aload_n 0, 1) := by decide +kernel
theorem dX4_init_14 : decode cX4_init 14 = .ok (.sipush 3522, 3) := by decide +kernel
theorem dX4_init_17 : decode cX4_init 17 = .ok (.newarray .int, 2) := by decide +kernel
theorem dX4_init_19 : decode cX4_init 19 = .ok (.putfield 17, 3) := by decide +kernel
theorem dX4_init_22 : decode cX4_init 22 = .ok (.return_, 1) := by decide +kernel
theorem dX4_clear_0 : decode cX4_clear 0 = .ok (.aload_n 0, 1) := by decide +kernel
theorem dX4_clear_1 : decode cX4_clear 1 = .ok (.iconst 0, 1) := by decide +kernel
theorem dX4_clear_2 : decode cX4_clear 2 = .ok (.putfield 20, 3) := by decide +kernel
theorem dX4_clear_5 : decode cX4_clear 5 = .ok (.aload_n 0, 1) := by decide +kernel
theorem dX4_clear_6 : decode cX4_clear 6 = .ok (.iconst 0, 1) := by decide +kernel
theorem dX4_clear_7 : decode cX4_clear 7 = .ok (.putfield 24, 3) := by decide +kernel
theorem dX4_clear_10 : decode cX4_clear 10 = .ok (.return_, 1) := by decide +kernel
theorem dX4_isFull_0 : decode cX4_isFull 0 = .ok (.aload_n 0, 1) := by decide +kernel
theorem dX4_isFull_1 : decode cX4_isFull 1 = .ok (.getfield 20, 3) := by decide +kernel
theorem dX4_isFull_4 : decode cX4_isFull 4 = .ok (.bipush 16, 2) := by decide +kernel
theorem dX4_isFull_6 : decode cX4_isFull 6 = .ok (.if_icmp .lt 7, 3) := by decide +kernel
theorem dX4_isFull_9 : decode cX4_isFull 9 = .ok (.iconst 1, 1) := by decide +kernel
theorem dX4_isFull_10 : decode cX4_isFull 10 = .ok (.goto 4, 3) := by decide +kernel
theorem dX4_isFull_13 : decode cX4_isFull 13 = .ok (.iconst 0, 1) := by decide +kernel
theorem dX4_isFull_14 : decode cX4_isFull 14 = .ok (.ireturn, 1) := by decide +kernel
theorem dX4_keep_0 : decode cX4_keep 0 = .ok (.aload_n 1, 1) := by decide +kernel
theorem dX4_keep_1 : decode cX4_keep 1 = .ok (.getfield 27, 3) := by decide +kernel
theorem dX4_keep_4 : decode cX4_keep 4 = .ok (.iconst 0, 1) := by decide +kernel
theorem dX4_keep_5 : decode cX4_keep 5 = .ok (.aload_n 0, 1) := by decide +kernel
theorem dX4_keep_6 : decode cX4_keep 6 = .ok (.getfield 13, 3) := by decide +kernel
theorem dX4_keep_9 : decode cX4_keep 9 = .ok (.aload_n 0, 1) := by decide +kernel
theorem dX4_keep_10 : decode cX4_keep 10 = .ok (.getfield 20, 3) := by decide +kernel
theorem dX4_keep_13 : decode cX4_keep 13 = .ok (.bipush 69, 2) := by decide +kernel
theorem dX4_keep_15 : decode cX4_keep 15 = .ok (.imul, 1) := by decide +kernel
theorem dX4_keep_16 : decode cX4_keep 16 = .ok (.bipush 69, 2) := by decide +kernel
theorem dX4_keep_18 : decode cX4_keep 18 = .ok (.invokestatic 30, 3) := by decide +kernel
theorem dX4_keep_21 : decode cX4_keep 21 = .ok (.aload_n 0, 1) := by decide +kernel
theorem dX4_keep_22 : decode cX4_keep 22 = .ok (.dup, 1) := by decide +kernel
theorem dX4_keep_23 : decode cX4_keep 23 = .ok (.getfield 20, 3) := by decide +kernel
theorem dX4_keep_26 : decode cX4_keep 26 = .ok (.iconst 1, 1) := by decide +kernel
theorem dX4_keep_27 : decode cX4_keep 27 = .ok (.iadd, 1) := by decide +kernel
theorem dX4_keep_28 : decode cX4_keep 28 = .ok (.putfield 20, 3) := by decide +kernel
theorem dX4_keep_31 : decode cX4_keep 31 = .ok (.return_, 1) := by decide +kernel
theorem dX4_takeBack_0 : decode cX4_takeBack 0 = .ok (.aload_n 0, 1) := by decide +kernel
theorem dX4_takeBack_1 : decode cX4_takeBack 1 = .ok (.getfield 20, 3) := by decide +kernel
theorem dX4_takeBack_4 : decode cX4_takeBack 4 = .ok (.ifCond .ne 5, 3) := by decide +kernel
theorem dX4_takeBack_7 : decode cX4_takeBack 7 = .ok (.iconst 0, 1) := by decide +kernel
theorem dX4_takeBack_8 : decode cX4_takeBack 8 = .ok (.ireturn, 1) := by decide +kernel
theorem dX4_takeBack_9 : decode cX4_takeBack 9 = .ok (.aload_n 0, 1) := by decide +kernel
theorem dX4_takeBack_10 : decode cX4_takeBack 10 = .ok (.dup, 1) := by decide +kernel
theorem dX4_takeBack_11 : decode cX4_takeBack 11 = .ok (.getfield 20, 3) := by decide +kernel
theorem dX4_takeBack_14 : decode cX4_takeBack 14 = .ok (.iconst 1, 1) := by decide +kernel
theorem dX4_takeBack_15 : decode cX4_takeBack 15 = .ok (.isub, 1) := by decide +kernel
theorem dX4_takeBack_16 : decode cX4_takeBack 16 = .ok (.putfield 20, 3) := by decide +kernel
theorem dX4_takeBack_19 : decode cX4_takeBack 19 = .ok (.aload_n 0, 1) := by decide +kernel
theorem dX4_takeBack_20 : decode cX4_takeBack 20 = .ok (.getfield 13, 3) := by decide +kernel
theorem dX4_takeBack_23 : decode cX4_takeBack 23 = .ok (.aload_n 0, 1) := by decide +kernel
theorem dX4_takeBack_24 : decode cX4_takeBack 24 = .ok (.getfield 20, 3) := by decide +kernel
theorem dX4_takeBack_27 : decode cX4_takeBack 27 = .ok (.bipush 69, 2) := by decide +kernel
theorem dX4_takeBack_29 : decode cX4_takeBack 29 = .ok (.imul, 1) := by decide +kernel
theorem dX4_takeBack_30 : decode cX4_takeBack 30 = .ok (.aload_n 1, 1) := by decide +kernel
theorem dX4_takeBack_31 : decode cX4_takeBack 31 = .ok (.getfield 27, 3) := by decide +kernel
theorem dX4_takeBack_34 : decode cX4_takeBack 34 = .ok (.iconst 0, 1) := by decide +kernel
theorem dX4_takeBack_35 : decode cX4_takeBack 35 = .ok (.bipush 69, 2) := by decide +kernel
theorem dX4_takeBack_37 : decode cX4_takeBack 37 = .ok (.invokestatic 30, 3) := by decide +kernel
theorem dX4_takeBack_40 : decode cX4_takeBack 40 = .ok (.iconst 1, 1) := by decide +kernel
theorem dX4_takeBack_41 : decode cX4_takeBack 41 = .ok (.ireturn, 1) := by decide +kernel
theorem dX4_addImage_0 : decode cX4_addImage 0 = .ok (.aload_n 0, 1) := by decide +kernel
theorem dX4_addImage_1 : decode cX4_addImage 1 = .ok (.getfield 24, 3) := by decide +kernel
theorem dX4_addImage_4 : decode cX4_addImage 4 = .ok (.iconst 3, 1) := by decide +kernel
theorem dX4_addImage_5 : decode cX4_addImage 5 = .ok (.if_icmp .lt 5, 3) := by decide +kernel
theorem dX4_addImage_8 : decode cX4_addImage 8 = .ok (.iconst 0, 1) := by decide +kernel
theorem dX4_addImage_9 : decode cX4_addImage 9 = .ok (.ireturn, 1) := by decide +kernel
theorem dX4_addImage_10 : decode cX4_addImage 10 = .ok (.aload_n 0, 1) := by decide +kernel
theorem dX4_addImage_11 : decode cX4_addImage 11 = .ok (.getfield 24, 3) := by decide +kernel
theorem dX4_addImage_14 : decode cX4_addImage 14 = .ok (.sipush 1174, 3) := by decide +kernel
theorem dX4_addImage_17 : decode cX4_addImage 17 = .ok (.imul, 1) := by decide +kernel
theorem dX4_addImage_18 : decode cX4_addImage 18 = .ok (.istore_n 2, 1) := by decide +kernel
theorem dX4_addImage_19 : decode cX4_addImage 19 = .ok (.aload_n 0, 1) := by decide +kernel
theorem dX4_addImage_20 : decode cX4_addImage 20 = .ok (.getfield 17, 3) := by decide +kernel
theorem dX4_addImage_23 : decode cX4_addImage 23 = .ok (.iload_n 2, 1) := by decide +kernel
theorem dX4_addImage_24 : decode cX4_addImage 24 = .ok (.aload_n 0, 1) := by decide +kernel
theorem dX4_addImage_25 : decode cX4_addImage 25 = .ok (.getfield 20, 3) := by decide +kernel
theorem dX4_addImage_28 : decode cX4_addImage 28 = .ok (.invokestatic 34, 3) := by decide +kernel
theorem dX4_addImage_31 : decode cX4_addImage 31 = .ok (.aload_n 1, 1) := by decide +kernel
theorem dX4_addImage_32 : decode cX4_addImage 32 = .ok (.getfield 27, 3) := by decide +kernel
theorem dX4_addImage_35 : decode cX4_addImage 35 = .ok (.iconst 0, 1) := by decide +kernel
theorem dX4_addImage_36 : decode cX4_addImage 36 = .ok (.aload_n 0, 1) := by decide +kernel
theorem dX4_addImage_37 : decode cX4_addImage 37 = .ok (.getfield 17, 3) := by decide +kernel
theorem dX4_addImage_40 : decode cX4_addImage 40 = .ok (.iload_n 2, 1) := by decide +kernel
theorem dX4_addImage_41 : decode cX4_addImage 41 = .ok (.iconst 1, 1) := by decide +kernel
theorem dX4_addImage_42 : decode cX4_addImage 42 = .ok (.iadd, 1) := by decide +kernel
theorem dX4_addImage_43 : decode cX4_addImage 43 = .ok (.bipush 69, 2) := by decide +kernel
theorem dX4_addImage_45 : decode cX4_addImage 45 = .ok (.invokestatic 30, 3) := by decide +kernel
theorem dX4_addImage_48 : decode cX4_addImage 48 = .ok (.aload_n 0, 1) := by decide +kernel
theorem dX4_addImage_49 : decode cX4_addImage 49 = .ok (.getfield 13, 3) := by decide +kernel
theorem dX4_addImage_52 : decode cX4_addImage 52 = .ok (.iconst 0, 1) := by decide +kernel
theorem dX4_addImage_53 : decode cX4_addImage 53 = .ok (.aload_n 0, 1) := by decide +kernel
theorem dX4_addImage_54 : decode cX4_addImage 54 = .ok (.getfield 17, 3) := by decide +kernel
theorem dX4_addImage_57 : decode cX4_addImage 57 = .ok (.iload_n 2, 1) := by decide +kernel
theorem dX4_addImage_58 : decode cX4_addImage 58 = .ok (.bipush 70, 2) := by decide +kernel
theorem dX4_addImage_60 : decode cX4_addImage 60 = .ok (.iadd, 1) := by decide +kernel
theorem dX4_addImage_61 : decode cX4_addImage 61 = .ok (.sipush 1104, 3) := by decide +kernel
theorem dX4_addImage_64 : decode cX4_addImage 64 = .ok (.invokestatic 30, 3) := by decide +kernel
theorem dX4_addImage_67 : decode cX4_addImage 67 = .ok (.aload_n 0, 1) := by decide +kernel
theorem dX4_addImage_68 : decode cX4_addImage 68 = .ok (.dup, 1) := by decide +kernel
theorem dX4_addImage_69 : decode cX4_addImage 69 = .ok (.getfield 24, 3) := by decide +kernel
theorem dX4_addImage_72 : decode cX4_addImage 72 = .ok (.iconst 1, 1) := by decide +kernel
theorem dX4_addImage_73 : decode cX4_addImage 73 = .ok (.iadd, 1) := by decide +kernel
theorem dX4_addImage_74 : decode cX4_addImage 74 = .ok (.putfield 24, 3) := by decide +kernel
theorem dX4_addImage_77 : decode cX4_addImage 77 = .ok (.iconst 1, 1) := by decide +kernel
theorem dX4_addImage_78 : decode cX4_addImage 78 = .ok (.ireturn, 1) := by decide +kernel
theorem dX4_takeImage_0 : decode cX4_takeImage 0 = .ok (.aload_n 0, 1) := by decide +kernel
theorem dX4_takeImage_1 : decode cX4_takeImage 1 = .ok (.getfield 24, 3) := by decide +kernel
theorem dX4_takeImage_4 : decode cX4_takeImage 4 = .ok (.ifCond .ne 5, 3) := by decide +kernel
theorem dX4_takeImage_7 : decode cX4_takeImage 7 = .ok (.iconst 0, 1) := by decide +kernel
theorem dX4_takeImage_8 : decode cX4_takeImage 8 = .ok (.ireturn, 1) := by decide +kernel
theorem dX4_takeImage_9 : decode cX4_takeImage 9 = .ok (.aload_n 0, 1) := by decide +kernel
theorem dX4_takeImage_10 : decode cX4_takeImage 10 = .ok (.dup, 1) := by decide +kernel
theorem dX4_takeImage_11 : decode cX4_takeImage 11 = .ok (.getfield 24, 3) := by decide +kernel
theorem dX4_takeImage_14 : decode cX4_takeImage 14 = .ok (.iconst 1, 1) := by decide +kernel
theorem dX4_takeImage_15 : decode cX4_takeImage 15 = .ok (.isub, 1) := by decide +kernel
theorem dX4_takeImage_16 : decode cX4_takeImage 16 = .ok (.putfield 24, 3) := by decide +kernel
theorem dX4_takeImage_19 : decode cX4_takeImage 19 = .ok (.aload_n 0, 1) := by decide +kernel
theorem dX4_takeImage_20 : decode cX4_takeImage 20 = .ok (.getfield 24, 3) := by decide +kernel
theorem dX4_takeImage_23 : decode cX4_takeImage 23 = .ok (.sipush 1174, 3) := by decide +kernel
theorem dX4_takeImage_26 : decode cX4_takeImage 26 = .ok (.imul, 1) := by decide +kernel
theorem dX4_takeImage_27 : decode cX4_takeImage 27 = .ok (.istore_n 2, 1) := by decide +kernel
theorem dX4_takeImage_28 : decode cX4_takeImage 28 = .ok (.aload_n 0, 1) := by decide +kernel
theorem dX4_takeImage_29 : decode cX4_takeImage 29 = .ok (.aload_n 0, 1) := by decide +kernel
theorem dX4_takeImage_30 : decode cX4_takeImage 30 = .ok (.getfield 17, 3) := by decide +kernel
theorem dX4_takeImage_33 : decode cX4_takeImage 33 = .ok (.iload_n 2, 1) := by decide +kernel
theorem dX4_takeImage_34 : decode cX4_takeImage 34 = .ok (.invokestatic 38, 3) := by decide +kernel
theorem dX4_takeImage_37 : decode cX4_takeImage 37 = .ok (.putfield 20, 3) := by decide +kernel
theorem dX4_takeImage_40 : decode cX4_takeImage 40 = .ok (.aload_n 0, 1) := by decide +kernel
theorem dX4_takeImage_41 : decode cX4_takeImage 41 = .ok (.getfield 17, 3) := by decide +kernel
theorem dX4_takeImage_44 : decode cX4_takeImage 44 = .ok (.iload_n 2, 1) := by decide +kernel
theorem dX4_takeImage_45 : decode cX4_takeImage 45 = .ok (.iconst 1, 1) := by decide +kernel
theorem dX4_takeImage_46 : decode cX4_takeImage 46 = .ok (.iadd, 1) := by decide +kernel
theorem dX4_takeImage_47 : decode cX4_takeImage 47 = .ok (.aload_n 1, 1) := by decide +kernel
theorem dX4_takeImage_48 : decode cX4_takeImage 48 = .ok (.getfield 27, 3) := by decide +kernel
theorem dX4_takeImage_51 : decode cX4_takeImage 51 = .ok (.iconst 0, 1) := by decide +kernel
theorem dX4_takeImage_52 : decode cX4_takeImage 52 = .ok (.bipush 69, 2) := by decide +kernel
theorem dX4_takeImage_54 : decode cX4_takeImage 54 = .ok (.invokestatic 30, 3) := by decide +kernel
theorem dX4_takeImage_57 : decode cX4_takeImage 57 = .ok (.aload_n 0, 1) := by decide +kernel
theorem dX4_takeImage_58 : decode cX4_takeImage 58 = .ok (.getfield 17, 3) := by decide +kernel
theorem dX4_takeImage_61 : decode cX4_takeImage 61 = .ok (.iload_n 2, 1) := by decide +kernel
theorem dX4_takeImage_62 : decode cX4_takeImage 62 = .ok (.bipush 70, 2) := by decide +kernel
theorem dX4_takeImage_64 : decode cX4_takeImage 64 = .ok (.iadd, 1) := by decide +kernel
theorem dX4_takeImage_65 : decode cX4_takeImage 65 = .ok (.aload_n 0, 1) := by decide +kernel
theorem dX4_takeImage_66 : decode cX4_takeImage 66 = .ok (.getfield 13, 3) := by decide +kernel
theorem dX4_takeImage_69 : decode cX4_takeImage 69 = .ok (.iconst 0, 1) := by decide +kernel
theorem dX4_takeImage_70 : decode cX4_takeImage 70 = .ok (.sipush 1104, 3) := by decide +kernel
theorem dX4_takeImage_73 : decode cX4_takeImage 73 = .ok (.invokestatic 30, 3) := by decide +kernel
theorem dX4_takeImage_76 : decode cX4_takeImage 76 = .ok (.iconst 1, 1) := by decide +kernel
theorem dX4_takeImage_77 : decode cX4_takeImage 77 = .ok (.ireturn, 1) := by decide +kernel
theorem dX5_init_0 : decode cX5_init 0 = .ok (.aload_n 0, 1) := by decide +kernel
theorem dX5_init_1 : decode cX5_init 1 = .ok (.invokespecial 3, 3) := by decide +kernel
theorem dX5_init_4 : decode cX5_init 4 = .ok (.aload_n 0, 1) := by decide +kernel
theorem dX5_init_5 : decode cX5_init 5 = .ok (.bipush 69, 2) := by decide +kernel
theorem dX5_init_7 : decode cX5_init 7 = .ok (.newarray .int, 2) := by decide +kernel
theorem dX5_init_9 : decode cX5_init 9 = .ok (.putfield 11, 3) := by decide +kernel
theorem dX5_init_12 : decode cX5_init 12 = .ok (.aload_n 0, 1) := by decide +kernel
theorem dX5_init_13 : decode cX5_init 13 = .ok (.bipush 6, 2) := by decide +kernel
theorem dX5_init_15 : decode cX5_init 15 = .ok (.newarray .int, 2) := by decide +kernel
theorem dX5_init_17 : decode cX5_init 17 = .ok (.putfield 15, 3) := by decide +kernel
theorem dX5_init_20 : decode cX5_init 20 = .ok (.aload_n 0, 1) := by decide +kernel
theorem dX5_init_21 : decode cX5_init 21 = .ok (.bipush 6, 2) := by decide +kernel
theorem dX5_init_23 : decode cX5_init 23 = .ok (.newarray .int, 2) := by decide +kernel
theorem dX5_init_25 : decode cX5_init 25 = .ok (.putfield 18, 3) := by decide +kernel
theorem dX5_init_28 : decode cX5_init 28 = .ok (.aload_n 0, 1) := by decide +kernel
theorem dX5_init_29 : decode cX5_init 29 = .ok (.bipush 6, 2) := by decide +kernel
theorem dX5_init_31 : decode cX5_init 31 = .ok (.newarray .int, 2) := by decide +kernel
theorem dX5_init_33 : decode cX5_init 33 = .ok (.putfield 21, 3) := by decide +kernel
theorem dX5_init_36 : decode cX5_init 36 = .ok (.return_, 1) := by decide +kernel
theorem dX5_of_0 : decode cX5_of 0 = .ok (.iload_n 1, 1) := by decide +kernel
theorem dX5_of_1 : decode cX5_of 1 = .ok (.iload_n 2, 1) := by decide +kernel
theorem dX5_of_2 : decode cX5_of 2 = .ok (.iadd, 1) := by decide +kernel
theorem dX5_of_3 : decode cX5_of 3 = .ok (.istore_n 3, 1) := by decide +kernel
theorem dX5_of_4 : decode cX5_of 4 = .ok (.iload_n 3, 1) := by decide +kernel
theorem dX5_of_5 : decode cX5_of 5 = .ok (.ifCond .lt 21, 3) := by decide +kernel
theorem dX5_of_8 : decode cX5_of 8 = .ok (.iload_n 3, 1) := by decide +kernel
theorem dX5_of_9 : decode cX5_of 9 = .ok (.aload_n 0, 1) := by decide +kernel
theorem dX5_of_10 : decode cX5_of 10 = .ok (.getfield 11, 3) := by decide +kernel
theorem dX5_of_13 : decode cX5_of 13 = .ok (.arraylength, 1) := by decide +kernel
theorem dX5_of_14 : decode cX5_of 14 = .ok (.if_icmp .ge 12, 3) := by decide +kernel
theorem dX5_of_17 : decode cX5_of 17 = .ok (.aload_n 0, 1) := by decide +kernel
theorem dX5_of_18 : decode cX5_of 18 = .ok (.getfield 11, 3) := by decide +kernel
theorem dX5_of_21 : decode cX5_of 21 = .ok (.iload_n 3, 1) := by decide +kernel
theorem dX5_of_22 : decode cX5_of 22 = .ok (.iaload, 1) := by decide +kernel
theorem dX5_of_23 : decode cX5_of 23 = .ok (.goto 4, 3) := by decide +kernel
theorem dX5_of_26 : decode cX5_of 26 = .ok (.iconst 0, 1) := by decide +kernel
theorem dX5_of_27 : decode cX5_of 27 = .ok (.ireturn, 1) := by decide +kernel
theorem dX5_set_0 : decode cX5_set 0 = .ok (.iload_n 1, 1) := by decide +kernel
theorem dX5_set_1 : decode cX5_set 1 = .ok (.iload_n 2, 1) := by decide +kernel
theorem dX5_set_2 : decode cX5_set 2 = .ok (.iadd, 1) := by decide +kernel
theorem dX5_set_3 : decode cX5_set 3 = .ok (.istore 4, 2) := by decide +kernel
theorem dX5_set_5 : decode cX5_set 5 = .ok (.iload 4, 2) := by decide +kernel
theorem dX5_set_7 : decode cX5_set 7 = .ok (.ifCond .lt 21, 3) := by decide +kernel
theorem dX5_set_10 : decode cX5_set 10 = .ok (.iload 4, 2) := by decide +kernel
theorem dX5_set_12 : decode cX5_set 12 = .ok (.aload_n 0, 1) := by decide +kernel
theorem dX5_set_13 : decode cX5_set 13 = .ok (.getfield 11, 3) := by decide +kernel
theorem dX5_set_16 : decode cX5_set 16 = .ok (.arraylength, 1) := by decide +kernel
theorem dX5_set_17 : decode cX5_set 17 = .ok (.if_icmp .ge 11, 3) := by decide +kernel
theorem dX5_set_20 : decode cX5_set 20 = .ok (.aload_n 0, 1) := by decide +kernel
theorem dX5_set_21 : decode cX5_set 21 = .ok (.getfield 11, 3) := by decide +kernel
theorem dX5_set_24 : decode cX5_set 24 = .ok (.iload 4, 2) := by decide +kernel
theorem dX5_set_26 : decode cX5_set 26 = .ok (.iload_n 3, 1) := by decide +kernel
theorem dX5_set_27 : decode cX5_set 27 = .ok (.iastore, 1) := by decide +kernel
theorem dX5_set_28 : decode cX5_set 28 = .ok (.return_, 1) := by decide +kernel
theorem dX5_open_0 : decode cX5_open 0 = .ok (.iconst 0, 1) := by decide +kernel
theorem dX5_open_1 : decode cX5_open 1 = .ok (.istore_n 2, 1) := by decide +kernel
theorem dX5_open_2 : decode cX5_open 2 = .ok (.iload_n 2, 1) := by decide +kernel
theorem dX5_open_3 : decode cX5_open 3 = .ok (.bipush 69, 2) := by decide +kernel
theorem dX5_open_5 : decode cX5_open 5 = .ok (.if_icmp .ge 18, 3) := by decide +kernel
theorem dX5_open_8 : decode cX5_open 8 = .ok (.aload_n 0, 1) := by decide +kernel
theorem dX5_open_9 : decode cX5_open 9 = .ok (.getfield 11, 3) := by decide +kernel
theorem dX5_open_12 : decode cX5_open 12 = .ok (.iload_n 2, 1) := by decide +kernel
theorem dX5_open_13 : decode cX5_open 13 = .ok (.iconst 0, 1) := by decide +kernel
theorem dX5_open_14 : decode cX5_open 14 = .ok (.invokestatic 24, 3) := by decide +kernel
theorem dX5_open_17 : decode cX5_open 17 = .ok (.iinc 2 1, 3) := by decide +kernel
theorem dX5_open_20 : decode cX5_open 20 = .ok (.goto (-18), 3) := by decide +kernel
theorem dX5_open_23 : decode cX5_open 23 = .ok (.iconst 0, 1) := by decide +kernel
theorem dX5_open_24 : decode cX5_open 24 = .ok (.istore_n 2, 1) := by decide +kernel
theorem dX5_open_25 : decode cX5_open 25 = .ok (.iload_n 2, 1) := by decide +kernel
theorem dX5_open_26 : decode cX5_open 26 = .ok (.aload_n 1, 1) := by decide +kernel
theorem dX5_open_27 : decode cX5_open 27 = .ok (.getfield 28, 3) := by decide +kernel
theorem dX5_open_30 : decode cX5_open 30 = .ok (.if_icmp .ge 24, 3) := by decide +kernel
theorem dX5_open_33 : decode cX5_open 33 = .ok (.aload_n 0, 1) := by decide +kernel
theorem dX5_open_34 : decode cX5_open 34 = .ok (.bipush 50, 2) := by decide +kernel
theorem dX5_open_36 : decode cX5_open 36 = .ok (.iload_n 2, 1) := by decide +kernel
theorem dX5_open_37 : decode cX5_open 37 = .ok (.aload_n 1, 1) := by decide +kernel
theorem dX5_open_38 : decode cX5_open 38 = .ok (.getfield 34, 3) := by decide +kernel
theorem dX5_open_41 : decode cX5_open 41 = .ok (.iload_n 2, 1) := by decide +kernel
theorem dX5_open_42 : decode cX5_open 42 = .ok (.invokestatic 37, 3) := by decide +kernel
theorem dX5_open_45 : decode cX5_open 45 = .ok (.invokevirtual 41, 3) := by decide +kernel
theorem dX5_open_48 : decode cX5_open 48 = .ok (.iinc 2 1, 3) := by decide +kernel
theorem dX5_open_51 : decode cX5_open 51 = .ok (.goto (-26), 3) := by decide +kernel
theorem dX5_open_54 : decode cX5_open 54 = .ok (.iconst 0, 1) := by decide +kernel
theorem dX5_open_55 : decode cX5_open 55 = .ok (.istore_n 2, 1) := by decide +kernel
theorem dX5_open_56 : decode cX5_open 56 = .ok (.iload_n 2, 1) := by decide +kernel
theorem dX5_open_57 : decode cX5_open 57 = .ok (.aload_n 1, 1) := by decide +kernel
theorem dX5_open_58 : decode cX5_open 58 = .ok (.getfield 45, 3) := by decide +kernel
theorem dX5_open_61 : decode cX5_open 61 = .ok (.if_icmp .ge 38, 3) := by decide +kernel
theorem dX5_open_64 : decode cX5_open 64 = .ok (.aload_n 0, 1) := by decide +kernel
theorem dX5_open_65 : decode cX5_open 65 = .ok (.iconst 0, 1) := by decide +kernel
theorem dX5_open_66 : decode cX5_open 66 = .ok (.iload_n 2, 1) := by decide +kernel
theorem dX5_open_67 : decode cX5_open 67 = .ok (.aload_n 1, 1) := by decide +kernel
theorem dX5_open_68 : decode cX5_open 68 = .ok (.getfield 48, 3) := by decide +kernel
theorem dX5_open_71 : decode cX5_open 71 = .ok (.iload_n 2, 1) := by decide +kernel
theorem dX5_open_72 : decode cX5_open 72 = .ok (.invokestatic 37, 3) := by decide +kernel
theorem dX5_open_75 : decode cX5_open 75 = .ok (.invokevirtual 41, 3) := by decide +kernel
theorem dX5_open_78 : decode cX5_open 78 = .ok (.aload_n 0, 1) := by decide +kernel
theorem dX5_open_79 : decode cX5_open 79 = .ok (.bipush 40, 2) := by decide +kernel
theorem dX5_open_81 : decode cX5_open 81 = .ok (.iload_n 2, 1) := by decide +kernel
theorem dX5_open_82 : decode cX5_open 82 = .ok (.aload_n 1, 1) := by decide +kernel
theorem dX5_open_83 : decode cX5_open 83 = .ok (.getfield 51, 3) := by decide +kernel
theorem dX5_open_86 : decode cX5_open 86 = .ok (.iload_n 2, 1) := by decide +kernel
theorem dX5_open_87 : decode cX5_open 87 = .ok (.invokestatic 37, 3) := by decide +kernel
theorem dX5_open_90 : decode cX5_open 90 = .ok (.invokevirtual 41, 3) := by decide +kernel
theorem dX5_open_93 : decode cX5_open 93 = .ok (.iinc 2 1, 3) := by decide +kernel
theorem dX5_open_96 : decode cX5_open 96 = .ok (.goto (-40), 3) := by decide +kernel
theorem dX5_open_99 : decode cX5_open 99 = .ok (.return_, 1) := by decide +kernel
theorem dX5_tideToCome_0 : decode cX5_tideToCome 0 = .ok (.aload_n 0, 1) := by decide +kernel
theorem dX5_tideToCome_1 : decode cX5_tideToCome 1 = .ok (.bipush 68, 2) := by decide +kernel
theorem dX5_tideToCome_3 : decode cX5_tideToCome 3 = .ok (.iconst 0, 1) := by decide +kernel
theorem dX5_tideToCome_4 : decode cX5_tideToCome 4 = .ok (.invokevirtual 54, 3) := by decide +kernel
theorem dX5_tideToCome_7 : decode cX5_tideToCome 7 = .ok (.ireturn, 1) := by decide +kernel
theorem dX5_isGone_0 : decode cX5_isGone 0 = .ok (.aload_n 0, 1) := by decide +kernel
theorem dX5_isGone_1 : decode cX5_isGone 1 = .ok (.iconst 0, 1) := by decide +kernel
theorem dX5_isGone_2 : decode cX5_isGone 2 = .ok (.iload_n 1, 1) := by decide +kernel
theorem dX5_isGone_3 : decode cX5_isGone 3 = .ok (.invokevirtual 54, 3) := by decide +kernel
theorem dX5_isGone_6 : decode cX5_isGone 6 = .ok (.iconst (-1), 1) := by decide +kernel
theorem dX5_isGone_7 : decode cX5_isGone 7 = .ok (.if_icmp .ne 7, 3) := by decide +kernel
theorem dX5_isGone_10 : decode cX5_isGone 10 = .ok (.iconst 1, 1) := by decide +kernel
theorem dX5_isGone_11 : decode cX5_isGone 11 = .ok (.goto 4, 3) := by decide +kernel
theorem dX5_isGone_14 : decode cX5_isGone 14 = .ok (.iconst 0, 1) := by decide +kernel
theorem dX5_isGone_15 : decode cX5_isGone 15 = .ok (.ireturn, 1) := by decide +kernel
theorem dX5_isDown_0 : decode cX5_isDown 0 = .ok (.aload_n 0, 1) := by decide +kernel
theorem dX5_isDown_1 : decode cX5_isDown 1 = .ok (.iconst 0, 1) := by decide +kernel
theorem dX5_isDown_2 : decode cX5_isDown 2 = .ok (.iload_n 1, 1) := by decide +kernel
theorem dX5_isDown_3 : decode cX5_isDown 3 = .ok (.invokevirtual 54, 3) := by decide +kernel
theorem dX5_isDown_6 : decode cX5_isDown 6 = .ok (.iconst (-1), 1) := by decide +kernel
theorem dX5_isDown_7 : decode cX5_isDown 7 = .ok (.if_icmp .eq 17, 3) := by decide +kernel
theorem dX5_isDown_10 : decode cX5_isDown 10 = .ok (.aload_n 0, 1) := by decide +kernel
theorem dX5_isDown_11 : decode cX5_isDown 11 = .ok (.bipush 10, 2) := by decide +kernel
theorem dX5_isDown_13 : decode cX5_isDown 13 = .ok (.iload_n 1, 1) := by decide +kernel
theorem dX5_isDown_14 : decode cX5_isDown 14 = .ok (.invokevirtual 54, 3) := by decide +kernel
theorem dX5_isDown_17 : decode cX5_isDown 17 = .ok (.ifCond .ne 7, 3) := by decide +kernel
theorem dX5_isDown_20 : decode cX5_isDown 20 = .ok (.iconst 1, 1) := by decide +kernel
theorem dX5_isDown_21 : decode cX5_isDown 21 = .ok (.goto 4, 3) := by decide +kernel
theorem dX5_isDown_24 : decode cX5_isDown 24 = .ok (.iconst 0, 1) := by decide +kernel
theorem dX5_isDown_25 : decode cX5_isDown 25 = .ok (.ireturn, 1) := by decide +kernel
theorem dX5_waterIn_0 : decode cX5_waterIn 0 = .ok (.iconst 0, 1) := by decide +kernel
theorem dX5_waterIn_1 : decode cX5_waterIn 1 = .ok (.iload_n 2, 1) := by decide +kernel
theorem dX5_waterIn_2 : decode cX5_waterIn 2 = .ok (.aload_n 0, 1) := by decide +kernel
theorem dX5_waterIn_3 : decode cX5_waterIn 3 = .ok (.bipush 50, 2) := by decide +kernel
theorem dX5_waterIn_5 : decode cX5_waterIn 5 = .ok (.iload_n 1, 1) := by decide +kernel
theorem dX5_waterIn_6 : decode cX5_waterIn 6 = .ok (.invokevirtual 54, 3) := by decide +kernel
theorem dX5_waterIn_9 : decode cX5_waterIn 9 = .ok (.isub, 1) := by decide +kernel
theorem dX5_waterIn_10 : decode cX5_waterIn 10 = .ok (.invokestatic 58, 3) := by decide +kernel
theorem dX5_waterIn_13 : decode cX5_waterIn 13 = .ok (.ireturn, 1) := by decide +kernel
theorem dX5_goneThings_0 : decode cX5_goneThings 0 = .ok (.iconst 0, 1) := by decide +kernel
theorem dX5_goneThings_1 : decode cX5_goneThings 1 = .ok (.istore_n 2, 1) := by decide +kernel
theorem dX5_goneThings_2 : decode cX5_goneThings 2 = .ok (.iconst 0, 1) := by decide +kernel
theorem dX5_goneThings_3 : decode cX5_goneThings 3 = .ok (.istore_n 3, 1) := by decide +kernel
theorem dX5_goneThings_4 : decode cX5_goneThings 4 = .ok (.iload_n 3, 1) := by decide +kernel
theorem dX5_goneThings_5 : decode cX5_goneThings 5 = .ok (.aload_n 1, 1) := by decide +kernel
theorem dX5_goneThings_6 : decode cX5_goneThings 6 = .ok (.getfield 45, 3) := by decide +kernel
theorem dX5_goneThings_9 : decode cX5_goneThings 9 = .ok (.if_icmp .ge 25, 3) := by decide +kernel
theorem dX5_goneThings_12 : decode cX5_goneThings 12 = .ok (.iload_n 2, 1) := by decide +kernel
theorem dX5_goneThings_13 : decode cX5_goneThings 13 = .ok (.aload_n 0, 1) := by decide +kernel
theorem dX5_goneThings_14 : decode cX5_goneThings 14 = .ok (.iload_n 3, 1) := by decide +kernel
theorem dX5_goneThings_15 : decode cX5_goneThings 15 = .ok (.invokevirtual 63, 3) := by decide +kernel
theorem dX5_goneThings_18 : decode cX5_goneThings 18 = .ok (.ifCond .eq 7, 3) := by decide +kernel
theorem dX5_goneThings_21 : decode cX5_goneThings 21 = .ok (.iconst 1, 1) := by decide +kernel
theorem dX5_goneThings_22 : decode cX5_goneThings 22 = .ok (.goto 4, 3) := by decide +kernel
theorem dX5_goneThings_25 : decode cX5_goneThings 25 = .ok (.iconst 0, 1) := by decide +kernel
theorem dX5_goneThings_26 : decode cX5_goneThings 26 = .ok (.iadd, 1) := by decide +kernel
theorem dX5_goneThings_27 : decode cX5_goneThings 27 = .ok (.istore_n 2, 1) := by decide +kernel
theorem dX5_goneThings_28 : decode cX5_goneThings 28 = .ok (.iinc 3 1, 3) := by decide +kernel
theorem dX5_goneThings_31 : decode cX5_goneThings 31 = .ok (.goto (-27), 3) := by decide +kernel
theorem dX5_goneThings_34 : decode cX5_goneThings 34 = .ok (.iload_n 2, 1) := by decide +kernel
theorem dX5_goneThings_35 : decode cX5_goneThings 35 = .ok (.ireturn, 1) := by decide +kernel
theorem dX5_worthLeft_0 : decode cX5_worthLeft 0 = .ok (.iconst 0, 1) := by decide +kernel
theorem dX5_worthLeft_1 : decode cX5_worthLeft 1 = .ok (.istore_n 2, 1) := by decide +kernel
theorem dX5_worthLeft_2 : decode cX5_worthLeft 2 = .ok (.iconst 0, 1) := by decide +kernel
theorem dX5_worthLeft_3 : decode cX5_worthLeft 3 = .ok (.istore_n 3, 1) := by decide +kernel
theorem dX5_worthLeft_4 : decode cX5_worthLeft 4 = .ok (.iload_n 3, 1) := by decide +kernel
theorem dX5_worthLeft_5 : decode cX5_worthLeft 5 = .ok (.aload_n 1, 1) := by decide +kernel
theorem dX5_worthLeft_6 : decode cX5_worthLeft 6 = .ok (.getfield 45, 3) := by decide +kernel
theorem dX5_worthLeft_9 : decode cX5_worthLeft 9 = .ok (.if_icmp .ge 31, 3) := by decide +kernel
theorem dX5_worthLeft_12 : decode cX5_worthLeft 12 = .ok (.iload_n 2, 1) := by decide +kernel
theorem dX5_worthLeft_13 : decode cX5_worthLeft 13 = .ok (.aload_n 0, 1) := by decide +kernel
theorem dX5_worthLeft_14 : decode cX5_worthLeft 14 = .ok (.iload_n 3, 1) := by decide +kernel
theorem dX5_worthLeft_15 : decode cX5_worthLeft 15 = .ok (.invokevirtual 63, 3) := by decide +kernel
theorem dX5_worthLeft_18 : decode cX5_worthLeft 18 = .ok (.ifCond .eq 7, 3) := by decide +kernel
theorem dX5_worthLeft_21 : decode cX5_worthLeft 21 = .ok (.iconst 0, 1) := by decide +kernel
theorem dX5_worthLeft_22 : decode cX5_worthLeft 22 = .ok (.goto 10, 3) := by decide +kernel
theorem dX5_worthLeft_25 : decode cX5_worthLeft 25 = .ok (.aload_n 0, 1) := by decide +kernel
theorem dX5_worthLeft_26 : decode cX5_worthLeft 26 = .ok (.bipush 40, 2) := by decide +kernel
theorem dX5_worthLeft_28 : decode cX5_worthLeft 28 = .ok (.iload_n 3, 1) := by decide +kernel
theorem dX5_worthLeft_29 : decode cX5_worthLeft 29 = .ok (.invokevirtual 54, 3) := by decide +kernel
theorem dX5_worthLeft_32 : decode cX5_worthLeft 32 = .ok (.iadd, 1) := by decide +kernel
theorem dX5_worthLeft_33 : decode cX5_worthLeft 33 = .ok (.istore_n 2, 1) := by decide +kernel
theorem dX5_worthLeft_34 : decode cX5_worthLeft 34 = .ok (.iinc 3 1, 3) := by decide +kernel
theorem dX5_worthLeft_37 : decode cX5_worthLeft 37 = .ok (.goto (-33), 3) := by decide +kernel
theorem dX5_worthLeft_40 : decode cX5_worthLeft 40 = .ok (.iload_n 2, 1) := by decide +kernel
theorem dX5_worthLeft_41 : decode cX5_worthLeft 41 = .ok (.ireturn, 1) := by decide +kernel
theorem dX5_paidInAll_0 : decode cX5_paidInAll 0 = .ok (.iconst 0, 1) := by decide +kernel
theorem dX5_paidInAll_1 : decode cX5_paidInAll 1 = .ok (.istore_n 2, 1) := by decide +kernel
theorem dX5_paidInAll_2 : decode cX5_paidInAll 2 = .ok (.iconst 0, 1) := by decide +kernel
theorem dX5_paidInAll_3 : decode cX5_paidInAll 3 = .ok (.istore_n 3, 1) := by decide +kernel
theorem dX5_paidInAll_4 : decode cX5_paidInAll 4 = .ok (.iload_n 3, 1) := by decide +kernel
theorem dX5_paidInAll_5 : decode cX5_paidInAll 5 = .ok (.aload_n 1, 1) := by decide +kernel
theorem dX5_paidInAll_6 : decode cX5_paidInAll 6 = .ok (.getfield 28, 3) := by decide +kernel
theorem dX5_paidInAll_9 : decode cX5_paidInAll 9 = .ok (.if_icmp .ge 19, 3) := by decide +kernel
theorem dX5_paidInAll_12 : decode cX5_paidInAll 12 = .ok (.iload_n 2, 1) := by decide +kernel
theorem dX5_paidInAll_13 : decode cX5_paidInAll 13 = .ok (.aload_n 0, 1) := by decide +kernel
theorem dX5_paidInAll_14 : decode cX5_paidInAll 14 = .ok (.bipush 62, 2) := by decide +kernel
theorem dX5_paidInAll_16 : decode cX5_paidInAll 16 = .ok (.iload_n 3, 1) := by decide +kernel
theorem dX5_paidInAll_17 : decode cX5_paidInAll 17 = .ok (.invokevirtual 54, 3) := by decide +kernel
theorem dX5_paidInAll_20 : decode cX5_paidInAll 20 = .ok (.iadd, 1) := by decide +kernel
theorem dX5_paidInAll_21 : decode cX5_paidInAll 21 = .ok (.istore_n 2, 1) := by decide +kernel
theorem dX5_paidInAll_22 : decode cX5_paidInAll 22 = .ok (.iinc 3 1, 3) := by decide +kernel
theorem dX5_paidInAll_25 : decode cX5_paidInAll 25 = .ok (.goto (-21), 3) := by decide +kernel
theorem dX5_paidInAll_28 : decode cX5_paidInAll 28 = .ok (.iload_n 2, 1) := by decide +kernel
theorem dX5_paidInAll_29 : decode cX5_paidInAll 29 = .ok (.ireturn, 1) := by decide +kernel
theorem dX5_thingsIn_0 : decode cX5_thingsIn 0 = .ok (.iconst 0, 1) := by decide +kernel
theorem dX5_thingsIn_1 : decode cX5_thingsIn 1 = .ok (.istore_n 3, 1) := by decide +kernel
theorem dX5_thingsIn_2 : decode cX5_thingsIn 2 = .ok (.iconst 0, 1) := by decide +kernel
theorem dX5_thingsIn_3 : decode cX5_thingsIn 3 = .ok (.istore 4, 2) := by decide +kernel
theorem dX5_thingsIn_5 : decode cX5_thingsIn 5 = .ok (.iload 4, 2) := by decide +kernel
theorem dX5_thingsIn_7 : decode cX5_thingsIn 7 = .ok (.aload_n 1, 1) := by decide +kernel
theorem dX5_thingsIn_8 : decode cX5_thingsIn 8 = .ok (.getfield 45, 3) := by decide +kernel
theorem dX5_thingsIn_11 : decode cX5_thingsIn 11 = .ok (.if_icmp .ge 27, 3) := by decide +kernel
theorem dX5_thingsIn_14 : decode cX5_thingsIn 14 = .ok (.aload_n 0, 1) := by decide +kernel
theorem dX5_thingsIn_15 : decode cX5_thingsIn 15 = .ok (.iconst 0, 1) := by decide +kernel
theorem dX5_thingsIn_16 : decode cX5_thingsIn 16 = .ok (.iload 4, 2) := by decide +kernel
theorem dX5_thingsIn_18 : decode cX5_thingsIn 18 = .ok (.invokevirtual 54, 3) := by decide +kernel
theorem dX5_thingsIn_21 : decode cX5_thingsIn 21 = .ok (.iload_n 2, 1) := by decide +kernel
theorem dX5_thingsIn_22 : decode cX5_thingsIn 22 = .ok (.if_icmp .ne 10, 3) := by decide +kernel
theorem dX5_thingsIn_25 : decode cX5_thingsIn 25 = .ok (.iload_n 3, 1) := by decide +kernel
theorem dX5_thingsIn_26 : decode cX5_thingsIn 26 = .ok (.iconst 1, 1) := by decide +kernel
theorem dX5_thingsIn_27 : decode cX5_thingsIn 27 = .ok (.iload 4, 2) := by decide +kernel
theorem dX5_thingsIn_29 : decode cX5_thingsIn 29 = .ok (.ishl, 1) := by decide +kernel
theorem dX5_thingsIn_30 : decode cX5_thingsIn 30 = .ok (.ior, 1) := by decide +kernel
theorem dX5_thingsIn_31 : decode cX5_thingsIn 31 = .ok (.istore_n 3, 1) := by decide +kernel
theorem dX5_thingsIn_32 : decode cX5_thingsIn 32 = .ok (.iinc 4 1, 3) := by decide +kernel
theorem dX5_thingsIn_35 : decode cX5_thingsIn 35 = .ok (.goto (-30), 3) := by decide +kernel
theorem dX5_thingsIn_38 : decode cX5_thingsIn 38 = .ok (.iload_n 3, 1) := by decide +kernel
theorem dX5_thingsIn_39 : decode cX5_thingsIn 39 = .ok (.ireturn, 1) := by decide +kernel
theorem dX5_givenUnder_0 : decode cX5_givenUnder 0 = .ok (.iconst 0, 1) := by decide +kernel
theorem dX5_givenUnder_1 : decode cX5_givenUnder 1 = .ok (.istore 4, 2) := by decide +kernel
theorem dX5_givenUnder_3 : decode cX5_givenUnder 3 = .ok (.iconst 0, 1) := by decide +kernel
theorem dX5_givenUnder_4 : decode cX5_givenUnder 4 = .ok (.istore 5, 2) := by decide +kernel
theorem dX5_givenUnder_6 : decode cX5_givenUnder 6 = .ok (.iload 5, 2) := by decide +kernel
theorem dX5_givenUnder_8 : decode cX5_givenUnder 8 = .ok (.aload_n 1, 1) := by decide +kernel
theorem dX5_givenUnder_9 : decode cX5_givenUnder 9 = .ok (.getfield 28, 3) := by decide +kernel
theorem dX5_givenUnder_12 : decode cX5_givenUnder 12 = .ok (.if_icmp .ge 39, 3) := by decide +kernel
theorem dX5_givenUnder_15 : decode cX5_givenUnder 15 = .ok (.iload 4, 2) := by decide +kernel
theorem dX5_givenUnder_17 : decode cX5_givenUnder 17 = .ok (.iload_n 2, 1) := by decide +kernel
theorem dX5_givenUnder_18 : decode cX5_givenUnder 18 = .ok (.iload 5, 2) := by decide +kernel
theorem dX5_givenUnder_20 : decode cX5_givenUnder 20 = .ok (.ishr, 1) := by decide +kernel
theorem dX5_givenUnder_21 : decode cX5_givenUnder 21 = .ok (.iconst 1, 1) := by decide +kernel
theorem dX5_givenUnder_22 : decode cX5_givenUnder 22 = .ok (.iand, 1) := by decide +kernel
theorem dX5_givenUnder_23 : decode cX5_givenUnder 23 = .ok (.ifCond .ne 7, 3) := by decide +kernel
theorem dX5_givenUnder_26 : decode cX5_givenUnder 26 = .ok (.iconst 0, 1) := by decide +kernel
theorem dX5_givenUnder_27 : decode cX5_givenUnder 27 = .ok (.goto 15, 3) := by decide +kernel
theorem dX5_givenUnder_30 : decode cX5_givenUnder 30 = .ok (.iload_n 3, 1) := by decide +kernel
theorem dX5_givenUnder_31 : decode cX5_givenUnder 31 = .ok (.aload_n 0, 1) := by decide +kernel
theorem dX5_givenUnder_32 : decode cX5_givenUnder 32 = .ok (.bipush 62, 2) := by decide +kernel
theorem dX5_givenUnder_34 : decode cX5_givenUnder 34 = .ok (.iload 5, 2) := by decide +kernel
theorem dX5_givenUnder_36 : decode cX5_givenUnder 36 = .ok (.invokevirtual 54, 3) := by decide +kernel
theorem dX5_givenUnder_39 : decode cX5_givenUnder 39 = .ok (.invokestatic 67, 3) := by decide +kernel
theorem dX5_givenUnder_42 : decode cX5_givenUnder 42 = .ok (.iadd, 1) := by decide +kernel
theorem dX5_givenUnder_43 : decode cX5_givenUnder 43 = .ok (.istore 4, 2) := by decide +kernel
theorem dX5_givenUnder_45 : decode cX5_givenUnder 45 = .ok (.iinc 5 1, 3) := by decide +kernel
theorem dX5_givenUnder_48 : decode cX5_givenUnder 48 = .ok (.goto (-42), 3) := by decide +kernel
theorem dX5_givenUnder_51 : decode cX5_givenUnder 51 = .ok (.iload 4, 2) := by decide +kernel
theorem dX5_givenUnder_53 : decode cX5_givenUnder 53 = .ok (.ireturn, 1) := by decide +kernel
theorem dX5_greatestBound_0 : decode cX5_greatestBound 0 = .ok (.iload_n 3, 1) := by decide +kernel
theorem dX5_greatestBound_1 : decode cX5_greatestBound 1 = .ok (.istore 4, 2) := by decide +kernel
theorem dX5_greatestBound_3 : decode cX5_greatestBound 3 = .ok (.iload 4, 2) := by decide +kernel
theorem dX5_greatestBound_5 : decode cX5_greatestBound 5 = .ok (.ifCond .le 24, 3) := by decide +kernel
theorem dX5_greatestBound_8 : decode cX5_greatestBound 8 = .ok (.aload_n 0, 1) := by decide +kernel
theorem dX5_greatestBound_9 : decode cX5_greatestBound 9 = .ok (.aload_n 1, 1) := by decide +kernel
theorem dX5_greatestBound_10 : decode cX5_greatestBound 10 = .ok (.iload_n 2, 1) := by decide +kernel
theorem dX5_greatestBound_11 : decode cX5_greatestBound 11 = .ok (.iload 4, 2) := by decide +kernel
theorem dX5_greatestBound_13 : decode cX5_greatestBound 13 = .ok (.invokevirtual 70, 3) := by decide +kernel
theorem dX5_greatestBound_16 : decode cX5_greatestBound 16 = .ok (.iload_n 3, 1) := by decide +kernel
theorem dX5_greatestBound_17 : decode cX5_greatestBound 17 = .ok (.if_icmp .gt 6, 3) := by decide +kernel
theorem dX5_greatestBound_20 : decode cX5_greatestBound 20 = .ok (.iload 4, 2) := by decide +kernel
theorem dX5_greatestBound_22 : decode cX5_greatestBound 22 = .ok (.ireturn, 1) := by decide +kernel
theorem dX5_greatestBound_23 : decode cX5_greatestBound 23 = .ok (.iinc 4 (-1), 3) := by decide +kernel
theorem dX5_greatestBound_26 : decode cX5_greatestBound 26 = .ok (.goto (-23), 3) := by decide +kernel
theorem dX5_greatestBound_29 : decode cX5_greatestBound 29 = .ok (.iconst 0, 1) := by decide +kernel
theorem dX5_greatestBound_30 : decode cX5_greatestBound 30 = .ok (.ireturn, 1) := by decide +kernel
theorem dX5_lift_0 : decode cX5_lift 0 = .ok (.aload_n 0, 1) := by decide +kernel
theorem dX5_lift_1 : decode cX5_lift 1 = .ok (.iload_n 1, 1) := by decide +kernel
theorem dX5_lift_2 : decode cX5_lift 2 = .ok (.invokevirtual 74, 3) := by decide +kernel
theorem dX5_lift_5 : decode cX5_lift 5 = .ok (.ifCond .eq 14, 3) := by decide +kernel
theorem dX5_lift_8 : decode cX5_lift 8 = .ok (.aload_n 0, 1) := by decide +kernel
theorem dX5_lift_9 : decode cX5_lift 9 = .ok (.bipush 20, 2) := by decide +kernel
theorem dX5_lift_11 : decode cX5_lift 11 = .ok (.iload_n 1, 1) := by decide +kernel
theorem dX5_lift_12 : decode cX5_lift 12 = .ok (.invokevirtual 54, 3) := by decide +kernel
theorem dX5_lift_15 : decode cX5_lift 15 = .ok (.iconst 1, 1) := by decide +kernel
theorem dX5_lift_16 : decode cX5_lift 16 = .ok (.if_icmp .ne 5, 3) := by decide +kernel
theorem dX5_lift_19 : decode cX5_lift 19 = .ok (.iconst 0, 1) := by decide +kernel
theorem dX5_lift_20 : decode cX5_lift 20 = .ok (.ireturn, 1) := by decide +kernel
theorem dX5_lift_21 : decode cX5_lift 21 = .ok (.aload_n 0, 1) := by decide +kernel
theorem dX5_lift_22 : decode cX5_lift 22 = .ok (.bipush 10, 2) := by decide +kernel
theorem dX5_lift_24 : decode cX5_lift 24 = .ok (.iload_n 1, 1) := by decide +kernel
theorem dX5_lift_25 : decode cX5_lift 25 = .ok (.iconst 1, 1) := by decide +kernel
theorem dX5_lift_26 : decode cX5_lift 26 = .ok (.invokevirtual 41, 3) := by decide +kernel
theorem dX5_lift_29 : decode cX5_lift 29 = .ok (.iconst 1, 1) := by decide +kernel
theorem dX5_lift_30 : decode cX5_lift 30 = .ok (.ireturn, 1) := by decide +kernel
theorem dX5_lower_0 : decode cX5_lower 0 = .ok (.aload_n 0, 1) := by decide +kernel
theorem dX5_lower_1 : decode cX5_lower 1 = .ok (.bipush 10, 2) := by decide +kernel
theorem dX5_lower_3 : decode cX5_lower 3 = .ok (.iload_n 1, 1) := by decide +kernel
theorem dX5_lower_4 : decode cX5_lower 4 = .ok (.invokevirtual 54, 3) := by decide +kernel
theorem dX5_lower_7 : decode cX5_lower 7 = .ok (.ifCond .ne 5, 3) := by decide +kernel
theorem dX5_lower_10 : decode cX5_lower 10 = .ok (.iconst 0, 1) := by decide +kernel
theorem dX5_lower_11 : decode cX5_lower 11 = .ok (.ireturn, 1) := by decide +kernel
theorem dX5_lower_12 : decode cX5_lower 12 = .ok (.aload_n 0, 1) := by decide +kernel
theorem dX5_lower_13 : decode cX5_lower 13 = .ok (.bipush 10, 2) := by decide +kernel
theorem dX5_lower_15 : decode cX5_lower 15 = .ok (.iload_n 1, 1) := by decide +kernel
theorem dX5_lower_16 : decode cX5_lower 16 = .ok (.iconst 0, 1) := by decide +kernel
theorem dX5_lower_17 : decode cX5_lower 17 = .ok (.invokevirtual 41, 3) := by decide +kernel
theorem dX5_lower_20 : decode cX5_lower 20 = .ok (.iconst 1, 1) := by decide +kernel
theorem dX5_lower_21 : decode cX5_lower 21 = .ok (.ireturn, 1) := by decide +kernel
theorem dX5_tie_0 : decode cX5_tie 0 = .ok (.aload_n 0, 1) := by decide +kernel
theorem dX5_tie_1 : decode cX5_tie 1 = .ok (.iload_n 1, 1) := by decide +kernel
theorem dX5_tie_2 : decode cX5_tie 2 = .ok (.invokevirtual 74, 3) := by decide +kernel
theorem dX5_tie_5 : decode cX5_tie 5 = .ok (.ifCond .eq 14, 3) := by decide +kernel
theorem dX5_tie_8 : decode cX5_tie 8 = .ok (.aload_n 0, 1) := by decide +kernel
theorem dX5_tie_9 : decode cX5_tie 9 = .ok (.bipush 20, 2) := by decide +kernel
theorem dX5_tie_11 : decode cX5_tie 11 = .ok (.iload_n 1, 1) := by decide +kernel
theorem dX5_tie_12 : decode cX5_tie 12 = .ok (.invokevirtual 54, 3) := by decide +kernel
theorem dX5_tie_15 : decode cX5_tie 15 = .ok (.iconst 1, 1) := by decide +kernel
theorem dX5_tie_16 : decode cX5_tie 16 = .ok (.if_icmp .ne 5, 3) := by decide +kernel
theorem dX5_tie_19 : decode cX5_tie 19 = .ok (.iconst 0, 1) := by decide +kernel
theorem dX5_tie_20 : decode cX5_tie 20 = .ok (.ireturn, 1) := by decide +kernel
theorem dX5_tie_21 : decode cX5_tie 21 = .ok (.aload_n 0, 1) := by decide +kernel
theorem dX5_tie_22 : decode cX5_tie 22 = .ok (.bipush 20, 2) := by decide +kernel
theorem dX5_tie_24 : decode cX5_tie 24 = .ok (.iload_n 1, 1) := by decide +kernel
theorem dX5_tie_25 : decode cX5_tie 25 = .ok (.iconst 1, 1) := by decide +kernel
theorem dX5_tie_26 : decode cX5_tie 26 = .ok (.invokevirtual 41, 3) := by decide +kernel
theorem dX5_tie_29 : decode cX5_tie 29 = .ok (.aload_n 0, 1) := by decide +kernel
theorem dX5_tie_30 : decode cX5_tie 30 = .ok (.bipush 30, 2) := by decide +kernel
theorem dX5_tie_32 : decode cX5_tie 32 = .ok (.iload_n 1, 1) := by decide +kernel
theorem dX5_tie_33 : decode cX5_tie 33 = .ok (.iconst 0, 1) := by decide +kernel
theorem dX5_tie_34 : decode cX5_tie 34 = .ok (.invokevirtual 41, 3) := by decide +kernel
theorem dX5_tie_37 : decode cX5_tie 37 = .ok (.iconst 1, 1) := by decide +kernel
theorem dX5_tie_38 : decode cX5_tie 38 = .ok (.ireturn, 1) := by decide +kernel
theorem dX5_untie_0 : decode cX5_untie 0 = .ok (.aload_n 0, 1) := by decide +kernel
theorem dX5_untie_1 : decode cX5_untie 1 = .ok (.bipush 20, 2) := by decide +kernel
theorem dX5_untie_3 : decode cX5_untie 3 = .ok (.iload_n 1, 1) := by decide +kernel
theorem dX5_untie_4 : decode cX5_untie 4 = .ok (.invokevirtual 54, 3) := by decide +kernel
theorem dX5_untie_7 : decode cX5_untie 7 = .ok (.ifCond .ne 5, 3) := by decide +kernel
theorem dX5_untie_10 : decode cX5_untie 10 = .ok (.iconst 0, 1) := by decide +kernel
theorem dX5_untie_11 : decode cX5_untie 11 = .ok (.ireturn, 1) := by decide +kernel
theorem dX5_untie_12 : decode cX5_untie 12 = .ok (.aload_n 0, 1) := by decide +kernel
theorem dX5_untie_13 : decode cX5_untie 13 = .ok (.bipush 20, 2) := by decide +kernel
theorem dX5_untie_15 : decode cX5_untie 15 = .ok (.iload_n 1, 1) := by decide +kernel
theorem dX5_untie_16 : decode cX5_untie 16 = .ok (.iconst 0, 1) := by decide +kernel
theorem dX5_untie_17 : decode cX5_untie 17 = .ok (.invokevirtual 41, 3) := by decide +kernel
theorem dX5_untie_20 : decode cX5_untie 20 = .ok (.aload_n 0, 1) := by decide +kernel
theorem dX5_untie_21 : decode cX5_untie 21 = .ok (.bipush 30, 2) := by decide +kernel
theorem dX5_untie_23 : decode cX5_untie 23 = .ok (.iload_n 1, 1) := by decide +kernel
theorem dX5_untie_24 : decode cX5_untie 24 = .ok (.iconst 0, 1) := by decide +kernel
theorem dX5_untie_25 : decode cX5_untie 25 = .ok (.invokevirtual 41, 3) := by decide +kernel
theorem dX5_untie_28 : decode cX5_untie 28 = .ok (.iconst 1, 1) := by decide +kernel
theorem dX5_untie_29 : decode cX5_untie 29 = .ok (.ireturn, 1) := by decide +kernel
theorem dX5_addBag_0 : decode cX5_addBag 0 = .ok (.aload_n 0, 1) := by decide +kernel
theorem dX5_addBag_1 : decode cX5_addBag 1 = .ok (.bipush 56, 2) := by decide +kernel
theorem dX5_addBag_3 : decode cX5_addBag 3 = .ok (.iload_n 1, 1) := by decide +kernel
theorem dX5_addBag_4 : decode cX5_addBag 4 = .ok (.invokevirtual 54, 3) := by decide +kernel
theorem dX5_addBag_7 : decode cX5_addBag 7 = .ok (.bipush 9, 2) := by decide +kernel
theorem dX5_addBag_9 : decode cX5_addBag 9 = .ok (.if_icmp .lt 5, 3) := by decide +kernel
theorem dX5_addBag_12 : decode cX5_addBag 12 = .ok (.iconst 0, 1) := by decide +kernel
theorem dX5_addBag_13 : decode cX5_addBag 13 = .ok (.ireturn, 1) := by decide +kernel
theorem dX5_addBag_14 : decode cX5_addBag 14 = .ok (.aload_n 0, 1) := by decide +kernel
theorem dX5_addBag_15 : decode cX5_addBag 15 = .ok (.bipush 56, 2) := by decide +kernel
theorem dX5_addBag_17 : decode cX5_addBag 17 = .ok (.iload_n 1, 1) := by decide +kernel
theorem dX5_addBag_18 : decode cX5_addBag 18 = .ok (.aload_n 0, 1) := by decide +kernel
theorem dX5_addBag_19 : decode cX5_addBag 19 = .ok (.bipush 56, 2) := by decide +kernel
theorem dX5_addBag_21 : decode cX5_addBag 21 = .ok (.iload_n 1, 1) := by decide +kernel
theorem dX5_addBag_22 : decode cX5_addBag 22 = .ok (.invokevirtual 54, 3) := by decide +kernel
theorem dX5_addBag_25 : decode cX5_addBag 25 = .ok (.iconst 1, 1) := by decide +kernel
theorem dX5_addBag_26 : decode cX5_addBag 26 = .ok (.iadd, 1) := by decide +kernel
theorem dX5_addBag_27 : decode cX5_addBag 27 = .ok (.invokevirtual 41, 3) := by decide +kernel
theorem dX5_addBag_30 : decode cX5_addBag 30 = .ok (.aload_n 0, 1) := by decide +kernel
theorem dX5_addBag_31 : decode cX5_addBag 31 = .ok (.bipush 50, 2) := by decide +kernel
theorem dX5_addBag_33 : decode cX5_addBag 33 = .ok (.iload_n 1, 1) := by decide +kernel
theorem dX5_addBag_34 : decode cX5_addBag 34 = .ok (.aload_n 0, 1) := by decide +kernel
theorem dX5_addBag_35 : decode cX5_addBag 35 = .ok (.bipush 50, 2) := by decide +kernel
theorem dX5_addBag_37 : decode cX5_addBag 37 = .ok (.iload_n 1, 1) := by decide +kernel
theorem dX5_addBag_38 : decode cX5_addBag 38 = .ok (.invokevirtual 54, 3) := by decide +kernel
theorem dX5_addBag_41 : decode cX5_addBag 41 = .ok (.iconst 2, 1) := by decide +kernel
theorem dX5_addBag_42 : decode cX5_addBag 42 = .ok (.iadd, 1) := by decide +kernel
theorem dX5_addBag_43 : decode cX5_addBag 43 = .ok (.invokevirtual 41, 3) := by decide +kernel
theorem dX5_addBag_46 : decode cX5_addBag 46 = .ok (.iconst 1, 1) := by decide +kernel
theorem dX5_addBag_47 : decode cX5_addBag 47 = .ok (.ireturn, 1) := by decide +kernel
theorem dX5_comeIn_0 : decode cX5_comeIn 0 = .ok (.aload_n 0, 1) := by decide +kernel
theorem dX5_comeIn_1 : decode cX5_comeIn 1 = .ok (.invokevirtual 77, 3) := by decide +kernel
theorem dX5_comeIn_4 : decode cX5_comeIn 4 = .ok (.sipush 500, 3) := by decide +kernel
theorem dX5_comeIn_7 : decode cX5_comeIn 7 = .ok (.if_icmp .lt 5, 3) := by decide +kernel
theorem dX5_comeIn_10 : decode cX5_comeIn 10 = .ok (.iconst 0, 1) := by decide +kernel
theorem dX5_comeIn_11 : decode cX5_comeIn 11 = .ok (.ireturn, 1) := by decide +kernel
theorem dX5_comeIn_12 : decode cX5_comeIn 12 = .ok (.aload_n 0, 1) := by decide +kernel
theorem dX5_comeIn_13 : decode cX5_comeIn 13 = .ok (.aload_n 1, 1) := by decide +kernel
theorem dX5_comeIn_14 : decode cX5_comeIn 14 = .ok (.aload_n 1, 1) := by decide +kernel
theorem dX5_comeIn_15 : decode cX5_comeIn 15 = .ok (.aload_n 0, 1) := by decide +kernel
theorem dX5_comeIn_16 : decode cX5_comeIn 16 = .ok (.invokevirtual 77, 3) := by decide +kernel
theorem dX5_comeIn_19 : decode cX5_comeIn 19 = .ok (.invokevirtual 81, 3) := by decide +kernel
theorem dX5_comeIn_22 : decode cX5_comeIn 22 = .ok (.invokevirtual 85, 3) := by decide +kernel
theorem dX5_comeIn_25 : decode cX5_comeIn 25 = .ok (.aload_n 0, 1) := by decide +kernel
theorem dX5_comeIn_26 : decode cX5_comeIn 26 = .ok (.aload_n 1, 1) := by decide +kernel
theorem dX5_comeIn_27 : decode cX5_comeIn 27 = .ok (.aload_n 2, 1) := by decide +kernel
theorem dX5_comeIn_28 : decode cX5_comeIn 28 = .ok (.aload_n 1, 1) := by decide +kernel
theorem dX5_comeIn_29 : decode cX5_comeIn 29 = .ok (.getfield 89, 3) := by decide +kernel
theorem dX5_comeIn_32 : decode cX5_comeIn 32 = .ok (.invokevirtual 92, 3) := by decide +kernel
theorem dX5_comeIn_35 : decode cX5_comeIn 35 = .ok (.iconst 1, 1) := by decide +kernel
theorem dX5_comeIn_36 : decode cX5_comeIn 36 = .ok (.ireturn, 1) := by decide +kernel
theorem dX5_pass_0 : decode cX5_pass 0 = .ok (.iconst 0, 1) := by decide +kernel
theorem dX5_pass_1 : decode cX5_pass 1 = .ok (.istore_n 3, 1) := by decide +kernel
theorem dX5_pass_2 : decode cX5_pass 2 = .ok (.iload_n 3, 1) := by decide +kernel
theorem dX5_pass_3 : decode cX5_pass 3 = .ok (.aload_n 1, 1) := by decide +kernel
theorem dX5_pass_4 : decode cX5_pass 4 = .ok (.getfield 28, 3) := by decide +kernel
theorem dX5_pass_7 : decode cX5_pass 7 = .ok (.if_icmp .ge 41, 3) := by decide +kernel
theorem dX5_pass_10 : decode cX5_pass 10 = .ok (.aload_n 0, 1) := by decide +kernel
theorem dX5_pass_11 : decode cX5_pass 11 = .ok (.getfield 15, 3) := by decide +kernel
theorem dX5_pass_14 : decode cX5_pass 14 = .ok (.iload_n 3, 1) := by decide +kernel
theorem dX5_pass_15 : decode cX5_pass 15 = .ok (.aload_n 0, 1) := by decide +kernel
theorem dX5_pass_16 : decode cX5_pass 16 = .ok (.iload_n 3, 1) := by decide +kernel
theorem dX5_pass_17 : decode cX5_pass 17 = .ok (.iload_n 2, 1) := by decide +kernel
theorem dX5_pass_18 : decode cX5_pass 18 = .ok (.invokevirtual 96, 3) := by decide +kernel
theorem dX5_pass_21 : decode cX5_pass 21 = .ok (.invokestatic 24, 3) := by decide +kernel
theorem dX5_pass_24 : decode cX5_pass 24 = .ok (.aload_n 0, 1) := by decide +kernel
theorem dX5_pass_25 : decode cX5_pass 25 = .ok (.getfield 18, 3) := by decide +kernel
theorem dX5_pass_28 : decode cX5_pass 28 = .ok (.iload_n 3, 1) := by decide +kernel
theorem dX5_pass_29 : decode cX5_pass 29 = .ok (.iconst 0, 1) := by decide +kernel
theorem dX5_pass_30 : decode cX5_pass 30 = .ok (.invokestatic 24, 3) := by decide +kernel
theorem dX5_pass_33 : decode cX5_pass 33 = .ok (.aload_n 0, 1) := by decide +kernel
theorem dX5_pass_34 : decode cX5_pass 34 = .ok (.getfield 21, 3) := by decide +kernel
theorem dX5_pass_37 : decode cX5_pass 37 = .ok (.iload_n 3, 1) := by decide +kernel
theorem dX5_pass_38 : decode cX5_pass 38 = .ok (.iconst 0, 1) := by decide +kernel
theorem dX5_pass_39 : decode cX5_pass 39 = .ok (.invokestatic 24, 3) := by decide +kernel
theorem dX5_pass_42 : decode cX5_pass 42 = .ok (.iinc 3 1, 3) := by decide +kernel
theorem dX5_pass_45 : decode cX5_pass 45 = .ok (.goto (-43), 3) := by decide +kernel
theorem dX5_pass_48 : decode cX5_pass 48 = .ok (.iconst 0, 1) := by decide +kernel
theorem dX5_pass_49 : decode cX5_pass 49 = .ok (.istore_n 3, 1) := by decide +kernel
theorem dX5_pass_50 : decode cX5_pass 50 = .ok (.iload_n 3, 1) := by decide +kernel
theorem dX5_pass_51 : decode cX5_pass 51 = .ok (.aload_n 1, 1) := by decide +kernel
theorem dX5_pass_52 : decode cX5_pass 52 = .ok (.getfield 45, 3) := by decide +kernel
theorem dX5_pass_55 : decode cX5_pass 55 = .ok (.if_icmp .ge 45, 3) := by decide +kernel
theorem dX5_pass_58 : decode cX5_pass 58 = .ok (.aload_n 0, 1) := by decide +kernel
theorem dX5_pass_59 : decode cX5_pass 59 = .ok (.iconst 0, 1) := by decide +kernel
theorem dX5_pass_60 : decode cX5_pass 60 = .ok (.iload_n 3, 1) := by decide +kernel
theorem dX5_pass_61 : decode cX5_pass 61 = .ok (.invokevirtual 54, 3) := by decide +kernel
theorem dX5_pass_64 : decode cX5_pass 64 = .ok (.istore 4, 2) := by decide +kernel
theorem dX5_pass_66 : decode cX5_pass 66 = .ok (.aload_n 0, 1) := by decide +kernel
theorem dX5_pass_67 : decode cX5_pass 67 = .ok (.iload_n 3, 1) := by decide +kernel
theorem dX5_pass_68 : decode cX5_pass 68 = .ok (.invokevirtual 74, 3) := by decide +kernel
theorem dX5_pass_71 : decode cX5_pass 71 = .ok (.ifCond .eq 23, 3) := by decide +kernel
theorem dX5_pass_74 : decode cX5_pass 74 = .ok (.aload_n 0, 1) := by decide +kernel
theorem dX5_pass_75 : decode cX5_pass 75 = .ok (.getfield 15, 3) := by decide +kernel
theorem dX5_pass_78 : decode cX5_pass 78 = .ok (.iload 4, 2) := by decide +kernel
theorem dX5_pass_80 : decode cX5_pass 80 = .ok (.invokestatic 37, 3) := by decide +kernel
theorem dX5_pass_83 : decode cX5_pass 83 = .ok (.ifCond .le 11, 3) := by decide +kernel
theorem dX5_pass_86 : decode cX5_pass 86 = .ok (.aload_n 0, 1) := by decide +kernel
theorem dX5_pass_87 : decode cX5_pass 87 = .ok (.aload_n 1, 1) := by decide +kernel
theorem dX5_pass_88 : decode cX5_pass 88 = .ok (.iload_n 3, 1) := by decide +kernel
theorem dX5_pass_89 : decode cX5_pass 89 = .ok (.iload 4, 2) := by decide +kernel
theorem dX5_pass_91 : decode cX5_pass 91 = .ok (.invokevirtual 99, 3) := by decide +kernel
theorem dX5_pass_94 : decode cX5_pass 94 = .ok (.iinc 3 1, 3) := by decide +kernel
theorem dX5_pass_97 : decode cX5_pass 97 = .ok (.goto (-47), 3) := by decide +kernel
theorem dX5_pass_100 : decode cX5_pass 100 = .ok (.aload_n 0, 1) := by decide +kernel
theorem dX5_pass_101 : decode cX5_pass 101 = .ok (.bipush 68, 2) := by decide +kernel
theorem dX5_pass_103 : decode cX5_pass 103 = .ok (.iconst 0, 1) := by decide +kernel
theorem dX5_pass_104 : decode cX5_pass 104 = .ok (.aload_n 0, 1) := by decide +kernel
theorem dX5_pass_105 : decode cX5_pass 105 = .ok (.invokevirtual 77, 3) := by decide +kernel
theorem dX5_pass_108 : decode cX5_pass 108 = .ok (.iconst 1, 1) := by decide +kernel
theorem dX5_pass_109 : decode cX5_pass 109 = .ok (.iadd, 1) := by decide +kernel
theorem dX5_pass_110 : decode cX5_pass 110 = .ok (.invokevirtual 41, 3) := by decide +kernel
theorem dX5_pass_113 : decode cX5_pass 113 = .ok (.return_, 1) := by decide +kernel
theorem dX5_soak_0 : decode cX5_soak 0 = .ok (.aload_n 0, 1) := by decide +kernel
theorem dX5_soak_1 : decode cX5_soak 1 = .ok (.getfield 21, 3) := by decide +kernel
theorem dX5_soak_4 : decode cX5_soak 4 = .ok (.iload_n 3, 1) := by decide +kernel
theorem dX5_soak_5 : decode cX5_soak 5 = .ok (.aload_n 0, 1) := by decide +kernel
theorem dX5_soak_6 : decode cX5_soak 6 = .ok (.getfield 21, 3) := by decide +kernel
theorem dX5_soak_9 : decode cX5_soak 9 = .ok (.iload_n 3, 1) := by decide +kernel
theorem dX5_soak_10 : decode cX5_soak 10 = .ok (.invokestatic 37, 3) := by decide +kernel
theorem dX5_soak_13 : decode cX5_soak 13 = .ok (.iconst 1, 1) := by decide +kernel
theorem dX5_soak_14 : decode cX5_soak 14 = .ok (.iadd, 1) := by decide +kernel
theorem dX5_soak_15 : decode cX5_soak 15 = .ok (.invokestatic 24, 3) := by decide +kernel
theorem dX5_soak_18 : decode cX5_soak 18 = .ok (.aload_n 0, 1) := by decide +kernel
theorem dX5_soak_19 : decode cX5_soak 19 = .ok (.bipush 40, 2) := by decide +kernel
theorem dX5_soak_21 : decode cX5_soak 21 = .ok (.iload_n 2, 1) := by decide +kernel
theorem dX5_soak_22 : decode cX5_soak 22 = .ok (.iconst 0, 1) := by decide +kernel
theorem dX5_soak_23 : decode cX5_soak 23 = .ok (.aload_n 0, 1) := by decide +kernel
theorem dX5_soak_24 : decode cX5_soak 24 = .ok (.bipush 40, 2) := by decide +kernel
theorem dX5_soak_26 : decode cX5_soak 26 = .ok (.iload_n 2, 1) := by decide +kernel
theorem dX5_soak_27 : decode cX5_soak 27 = .ok (.invokevirtual 54, 3) := by decide +kernel
theorem dX5_soak_30 : decode cX5_soak 30 = .ok (.iconst 1, 1) := by decide +kernel
theorem dX5_soak_31 : decode cX5_soak 31 = .ok (.isub, 1) := by decide +kernel
theorem dX5_soak_32 : decode cX5_soak 32 = .ok (.invokestatic 58, 3) := by decide +kernel
theorem dX5_soak_35 : decode cX5_soak 35 = .ok (.invokevirtual 41, 3) := by decide +kernel
theorem dX5_soak_38 : decode cX5_soak 38 = .ok (.aload_n 1, 1) := by decide +kernel
theorem dX5_soak_39 : decode cX5_soak 39 = .ok (.getfield 103, 3) := by decide +kernel
theorem dX5_soak_42 : decode cX5_soak 42 = .ok (.iload_n 2, 1) := by decide +kernel
theorem dX5_soak_43 : decode cX5_soak 43 = .ok (.invokestatic 37, 3) := by decide +kernel
theorem dX5_soak_46 : decode cX5_soak 46 = .ok (.aload_n 0, 1) := by decide +kernel
theorem dX5_soak_47 : decode cX5_soak 47 = .ok (.getfield 15, 3) := by decide +kernel
theorem dX5_soak_50 : decode cX5_soak 50 = .ok (.iload_n 3, 1) := by decide +kernel
theorem dX5_soak_51 : decode cX5_soak 51 = .ok (.invokestatic 37, 3) := by decide +kernel
theorem dX5_soak_54 : decode cX5_soak 54 = .ok (.if_icmp .le 4, 3) := by decide +kernel
theorem dX5_soak_57 : decode cX5_soak 57 = .ok (.return_, 1) := by decide +kernel
theorem dX5_soak_58 : decode cX5_soak 58 = .ok (.aload_n 0, 1) := by decide +kernel
theorem dX5_soak_59 : decode cX5_soak 59 = .ok (.bipush 20, 2) := by decide +kernel
theorem dX5_soak_61 : decode cX5_soak 61 = .ok (.iload_n 2, 1) := by decide +kernel
theorem dX5_soak_62 : decode cX5_soak 62 = .ok (.invokevirtual 54, 3) := by decide +kernel
theorem dX5_soak_65 : decode cX5_soak 65 = .ok (.ifCond .ne 45, 3) := by decide +kernel
theorem dX5_soak_68 : decode cX5_soak 68 = .ok (.aload_n 0, 1) := by decide +kernel
theorem dX5_soak_69 : decode cX5_soak 69 = .ok (.getfield 18, 3) := by decide +kernel
theorem dX5_soak_72 : decode cX5_soak 72 = .ok (.iload_n 3, 1) := by decide +kernel
theorem dX5_soak_73 : decode cX5_soak 73 = .ok (.aload_n 0, 1) := by decide +kernel
theorem dX5_soak_74 : decode cX5_soak 74 = .ok (.getfield 18, 3) := by decide +kernel
theorem dX5_soak_77 : decode cX5_soak 77 = .ok (.iload_n 3, 1) := by decide +kernel
theorem dX5_soak_78 : decode cX5_soak 78 = .ok (.invokestatic 37, 3) := by decide +kernel
theorem dX5_soak_81 : decode cX5_soak 81 = .ok (.iconst 1, 1) := by decide +kernel
theorem dX5_soak_82 : decode cX5_soak 82 = .ok (.iadd, 1) := by decide +kernel
theorem dX5_soak_83 : decode cX5_soak 83 = .ok (.invokestatic 24, 3) := by decide +kernel
theorem dX5_soak_86 : decode cX5_soak 86 = .ok (.aload_n 0, 1) := by decide +kernel
theorem dX5_soak_87 : decode cX5_soak 87 = .ok (.iconst 0, 1) := by decide +kernel
theorem dX5_soak_88 : decode cX5_soak 88 = .ok (.iload_n 2, 1) := by decide +kernel
theorem dX5_soak_89 : decode cX5_soak 89 = .ok (.iload_n 3, 1) := by decide +kernel
theorem dX5_soak_90 : decode cX5_soak 90 = .ok (.iconst 1, 1) := by decide +kernel
theorem dX5_soak_91 : decode cX5_soak 91 = .ok (.iadd, 1) := by decide +kernel
theorem dX5_soak_92 : decode cX5_soak 92 = .ok (.aload_n 1, 1) := by decide +kernel
theorem dX5_soak_93 : decode cX5_soak 93 = .ok (.getfield 28, 3) := by decide +kernel
theorem dX5_soak_96 : decode cX5_soak 96 = .ok (.if_icmp .ge 9, 3) := by decide +kernel
theorem dX5_soak_99 : decode cX5_soak 99 = .ok (.iload_n 3, 1) := by decide +kernel
theorem dX5_soak_100 : decode cX5_soak 100 = .ok (.iconst 1, 1) := by decide +kernel
theorem dX5_soak_101 : decode cX5_soak 101 = .ok (.iadd, 1) := by decide +kernel
theorem dX5_soak_102 : decode cX5_soak 102 = .ok (.goto 4, 3) := by decide +kernel
theorem dX5_soak_105 : decode cX5_soak 105 = .ok (.iconst (-1), 1) := by decide +kernel
theorem dX5_soak_106 : decode cX5_soak 106 = .ok (.invokevirtual 41, 3) := by decide +kernel
theorem dX5_soak_109 : decode cX5_soak 109 = .ok (.return_, 1) := by decide +kernel
theorem dX5_soak_110 : decode cX5_soak 110 = .ok (.aload_n 0, 1) := by decide +kernel
theorem dX5_soak_111 : decode cX5_soak 111 = .ok (.bipush 30, 2) := by decide +kernel
theorem dX5_soak_113 : decode cX5_soak 113 = .ok (.iload_n 2, 1) := by decide +kernel
theorem dX5_soak_114 : decode cX5_soak 114 = .ok (.invokevirtual 54, 3) := by decide +kernel
theorem dX5_soak_117 : decode cX5_soak 117 = .ok (.iconst 1, 1) := by decide +kernel
theorem dX5_soak_118 : decode cX5_soak 118 = .ok (.iadd, 1) := by decide +kernel
theorem dX5_soak_119 : decode cX5_soak 119 = .ok (.istore 4, 2) := by decide +kernel
theorem dX5_soak_121 : decode cX5_soak 121 = .ok (.iload 4, 2) := by decide +kernel
theorem dX5_soak_123 : decode cX5_soak 123 = .ok (.aload_n 1, 1) := by decide +kernel
theorem dX5_soak_124 : decode cX5_soak 124 = .ok (.getfield 106, 3) := by decide +kernel
theorem dX5_soak_127 : decode cX5_soak 127 = .ok (.if_icmp .ge 7, 3) := by decide +kernel
theorem dX5_soak_130 : decode cX5_soak 130 = .ok (.iconst 1, 1) := by decide +kernel
theorem dX5_soak_131 : decode cX5_soak 131 = .ok (.goto 4, 3) := by decide +kernel
theorem dX5_soak_134 : decode cX5_soak 134 = .ok (.iconst 0, 1) := by decide +kernel
theorem dX5_soak_135 : decode cX5_soak 135 = .ok (.istore 5, 2) := by decide +kernel
theorem dX5_soak_137 : decode cX5_soak 137 = .ok (.aload_n 0, 1) := by decide +kernel
theorem dX5_soak_138 : decode cX5_soak 138 = .ok (.bipush 20, 2) := by decide +kernel
theorem dX5_soak_140 : decode cX5_soak 140 = .ok (.iload_n 2, 1) := by decide +kernel
theorem dX5_soak_141 : decode cX5_soak 141 = .ok (.iload 5, 2) := by decide +kernel
theorem dX5_soak_143 : decode cX5_soak 143 = .ok (.ifCond .eq 7, 3) := by decide +kernel
theorem dX5_soak_146 : decode cX5_soak 146 = .ok (.iconst 1, 1) := by decide +kernel
theorem dX5_soak_147 : decode cX5_soak 147 = .ok (.goto 4, 3) := by decide +kernel
theorem dX5_soak_150 : decode cX5_soak 150 = .ok (.iconst 0, 1) := by decide +kernel
theorem dX5_soak_151 : decode cX5_soak 151 = .ok (.invokevirtual 41, 3) := by decide +kernel
theorem dX5_soak_154 : decode cX5_soak 154 = .ok (.aload_n 0, 1) := by decide +kernel
theorem dX5_soak_155 : decode cX5_soak 155 = .ok (.bipush 30, 2) := by decide +kernel
theorem dX5_soak_157 : decode cX5_soak 157 = .ok (.iload_n 2, 1) := by decide +kernel
theorem dX5_soak_158 : decode cX5_soak 158 = .ok (.iload 5, 2) := by decide +kernel
theorem dX5_soak_160 : decode cX5_soak 160 = .ok (.ifCond .eq 8, 3) := by decide +kernel
theorem dX5_soak_163 : decode cX5_soak 163 = .ok (.iload 4, 2) := by decide +kernel
theorem dX5_soak_165 : decode cX5_soak 165 = .ok (.goto 4, 3) := by decide +kernel
theorem dX5_soak_168 : decode cX5_soak 168 = .ok (.iconst 0, 1) := by decide +kernel
theorem dX5_soak_169 : decode cX5_soak 169 = .ok (.invokevirtual 41, 3) := by decide +kernel
theorem dX5_soak_172 : decode cX5_soak 172 = .ok (.return_, 1) := by decide +kernel
theorem dX5_payDues_0 : decode cX5_payDues 0 = .ok (.iconst 0, 1) := by decide +kernel
theorem dX5_payDues_1 : decode cX5_payDues 1 = .ok (.istore 4, 2) := by decide +kernel
theorem dX5_payDues_3 : decode cX5_payDues 3 = .ok (.iload 4, 2) := by decide +kernel
theorem dX5_payDues_5 : decode cX5_payDues 5 = .ok (.aload_n 1, 1) := by decide +kernel
theorem dX5_payDues_6 : decode cX5_payDues 6 = .ok (.getfield 28, 3) := by decide +kernel
theorem dX5_payDues_9 : decode cX5_payDues 9 = .ok (.if_icmp .ge 83, 3) := by decide +kernel
theorem dX5_payDues_12 : decode cX5_payDues 12 = .ok (.aload_n 0, 1) := by decide +kernel
theorem dX5_payDues_13 : decode cX5_payDues 13 = .ok (.getfield 15, 3) := by decide +kernel
theorem dX5_payDues_16 : decode cX5_payDues 16 = .ok (.iload 4, 2) := by decide +kernel
theorem dX5_payDues_18 : decode cX5_payDues 18 = .ok (.invokestatic 37, 3) := by decide +kernel
theorem dX5_payDues_21 : decode cX5_payDues 21 = .ok (.istore 5, 2) := by decide +kernel
theorem dX5_payDues_23 : decode cX5_payDues 23 = .ok (.iload 5, 2) := by decide +kernel
theorem dX5_payDues_25 : decode cX5_payDues 25 = .ok (.ifCond .le 61, 3) := by decide +kernel
theorem dX5_payDues_28 : decode cX5_payDues 28 = .ok (.aload_n 0, 1) := by decide +kernel
theorem dX5_payDues_29 : decode cX5_payDues 29 = .ok (.getfield 18, 3) := by decide +kernel
theorem dX5_payDues_32 : decode cX5_payDues 32 = .ok (.iload 4, 2) := by decide +kernel
theorem dX5_payDues_34 : decode cX5_payDues 34 = .ok (.invokestatic 37, 3) := by decide +kernel
theorem dX5_payDues_37 : decode cX5_payDues 37 = .ok (.istore 6, 2) := by decide +kernel
theorem dX5_payDues_39 : decode cX5_payDues 39 = .ok (.aload_n 2, 1) := by decide +kernel
theorem dX5_payDues_40 : decode cX5_payDues 40 = .ok (.iload 5, 2) := by decide +kernel
theorem dX5_payDues_42 : decode cX5_payDues 42 = .ok (.iload 6, 2) := by decide +kernel
theorem dX5_payDues_44 : decode cX5_payDues 44 = .ok (.aload_n 0, 1) := by decide +kernel
theorem dX5_payDues_45 : decode cX5_payDues 45 = .ok (.getfield 21, 3) := by decide +kernel
theorem dX5_payDues_48 : decode cX5_payDues 48 = .ok (.iload 4, 2) := by decide +kernel
theorem dX5_payDues_50 : decode cX5_payDues 50 = .ok (.invokestatic 37, 3) := by decide +kernel
theorem dX5_payDues_53 : decode cX5_payDues 53 = .ok (.aload_n 0, 1) := by decide +kernel
theorem dX5_payDues_54 : decode cX5_payDues 54 = .ok (.invokevirtual 77, 3) := by decide +kernel
theorem dX5_payDues_57 : decode cX5_payDues 57 = .ok (.iconst 1, 1) := by decide +kernel
theorem dX5_payDues_58 : decode cX5_payDues 58 = .ok (.isub, 1) := by decide +kernel
theorem dX5_payDues_59 : decode cX5_payDues 59 = .ok (.iload_n 3, 1) := by decide +kernel
theorem dX5_payDues_60 : decode cX5_payDues 60 = .ok (.iload 4, 2) := by decide +kernel
theorem dX5_payDues_62 : decode cX5_payDues 62 = .ok (.invokevirtual 109, 3) := by decide +kernel
theorem dX5_payDues_65 : decode cX5_payDues 65 = .ok (.istore 7, 2) := by decide +kernel
theorem dX5_payDues_67 : decode cX5_payDues 67 = .ok (.aload_n 0, 1) := by decide +kernel
theorem dX5_payDues_68 : decode cX5_payDues 68 = .ok (.bipush 62, 2) := by decide +kernel
theorem dX5_payDues_70 : decode cX5_payDues 70 = .ok (.iload 4, 2) := by decide +kernel
theorem dX5_payDues_72 : decode cX5_payDues 72 = .ok (.aload_n 0, 1) := by decide +kernel
theorem dX5_payDues_73 : decode cX5_payDues 73 = .ok (.bipush 62, 2) := by decide +kernel
theorem dX5_payDues_75 : decode cX5_payDues 75 = .ok (.iload 4, 2) := by decide +kernel
theorem dX5_payDues_77 : decode cX5_payDues 77 = .ok (.invokevirtual 54, 3) := by decide +kernel
theorem dX5_payDues_80 : decode cX5_payDues 80 = .ok (.iload 7, 2) := by decide +kernel
theorem dX5_payDues_82 : decode cX5_payDues 82 = .ok (.iadd, 1) := by decide +kernel
theorem dX5_payDues_83 : decode cX5_payDues 83 = .ok (.invokevirtual 41, 3) := by decide +kernel
theorem dX5_payDues_86 : decode cX5_payDues 86 = .ok (.iinc 4 1, 3) := by decide +kernel
theorem dX5_payDues_89 : decode cX5_payDues 89 = .ok (.goto (-86), 3) := by decide +kernel
theorem dX5_payDues_92 : decode cX5_payDues 92 = .ok (.return_, 1) := by decide +kernel
theorem dX6_init_0 : decode cX6_init 0 = .ok (.aload_n 0, 1) := by decide +kernel
theorem dX6_init_1 : decode cX6_init 1 = .ok (.invokespecial 3, 3) := by decide +kernel
theorem dX6_init_4 : decode cX6_init 4 = .ok (.aload_n 0, 1) := by decide +kernel
theorem dX6_init_5 : decode cX6_init 5 = .ok (.sipush 150, 3) := by decide +kernel
theorem dX6_init_8 : decode cX6_init 8 = .ok (.newarray .int, 2) := by decide +kernel
theorem dX6_init_10 : decode cX6_init 10 = .ok (.putfield 9, 3) := by decide +kernel
theorem dX6_init_13 : decode cX6_init 13 = .ok (.aload_n 0, 1) := by decide +kernel
theorem dX6_init_14 : decode cX6_init 14 = .ok (.sipush 150, 3) := by decide +kernel
theorem dX6_init_17 : decode cX6_init 17 = .ok (.newarray .int, 2) := by decide +kernel
theorem dX6_init_19 : decode cX6_init 19 = .ok (.putfield 15, 3) := by decide +kernel
theorem dX6_init_22 : decode cX6_init 22 = .ok (.aload_n 0, 1) := by decide +kernel
theorem dX6_init_23 : decode cX6_init 23 = .ok (.sipush 150, 3) := by decide +kernel
theorem dX6_init_26 : decode cX6_init 26 = .ok (.newarray .int, 2) := by decide +kernel
theorem dX6_init_28 : decode cX6_init 28 = .ok (.putfield 18, 3) := by decide +kernel
theorem dX6_init_31 : decode cX6_init 31 = .ok (.aload_n 0, 1) := by decide +kernel
theorem dX6_init_32 : decode cX6_init 32 = .ok (.bipush 6, 2) := by decide +kernel
theorem dX6_init_34 : decode cX6_init 34 = .ok (.newarray .int, 2) := by decide +kernel
theorem dX6_init_36 : decode cX6_init 36 = .ok (.putfield 21, 3) := by decide +kernel
theorem dX6_init_39 : decode cX6_init 39 = .ok (.aload_n 0, 1) := by decide +kernel
theorem dX6_init_40 : decode cX6_init 40 = .ok (.bipush 6, 2) := by decide +kernel
theorem dX6_init_42 : decode cX6_init 42 = .ok (.newarray .int, 2) := by decide +kernel
theorem dX6_init_44 : decode cX6_init 44 = .ok (.putfield 24, 3) := by decide +kernel
theorem dX6_init_47 : decode cX6_init 47 = .ok (.return_, 1) := by decide +kernel
theorem dX6_add_0 : decode cX6_add 0 = .ok (.aload_n 0, 1) := by decide +kernel
theorem dX6_add_1 : decode cX6_add 1 = .ok (.getfield 9, 3) := by decide +kernel
theorem dX6_add_4 : decode cX6_add 4 = .ok (.aload_n 0, 1) := by decide +kernel
theorem dX6_add_5 : decode cX6_add 5 = .ok (.getfield 27, 3) := by decide +kernel
theorem dX6_add_8 : decode cX6_add 8 = .ok (.iload_n 1, 1) := by decide +kernel
theorem dX6_add_9 : decode cX6_add 9 = .ok (.invokestatic 31, 3) := by decide +kernel
theorem dX6_add_12 : decode cX6_add 12 = .ok (.aload_n 0, 1) := by decide +kernel
theorem dX6_add_13 : decode cX6_add 13 = .ok (.getfield 15, 3) := by decide +kernel
theorem dX6_add_16 : decode cX6_add 16 = .ok (.aload_n 0, 1) := by decide +kernel
theorem dX6_add_17 : decode cX6_add 17 = .ok (.getfield 27, 3) := by decide +kernel
theorem dX6_add_20 : decode cX6_add 20 = .ok (.iload_n 2, 1) := by decide +kernel
theorem dX6_add_21 : decode cX6_add 21 = .ok (.invokestatic 31, 3) := by decide +kernel
theorem dX6_add_24 : decode cX6_add 24 = .ok (.aload_n 0, 1) := by decide +kernel
theorem dX6_add_25 : decode cX6_add 25 = .ok (.dup, 1) := by decide +kernel
theorem dX6_add_26 : decode cX6_add 26 = .ok (.getfield 27, 3) := by decide +kernel
theorem dX6_add_29 : decode cX6_add 29 = .ok (.iconst 1, 1) := by decide +kernel
theorem dX6_add_30 : decode cX6_add 30 = .ok (.iadd, 1) := by decide +kernel
theorem dX6_add_31 : decode cX6_add 31 = .ok (.putfield 27, 3) := by decide +kernel
theorem dX6_add_34 : decode cX6_add 34 = .ok (.return_, 1) := by decide +kernel
theorem dX6_read_0 : decode cX6_read 0 = .ok (.aload_n 0, 1) := by decide +kernel
theorem dX6_read_1 : decode cX6_read 1 = .ok (.iconst 0, 1) := by decide +kernel
theorem dX6_read_2 : decode cX6_read 2 = .ok (.putfield 27, 3) := by decide +kernel
theorem dX6_read_5 : decode cX6_read 5 = .ok (.aload_n 0, 1) := by decide +kernel
theorem dX6_read_6 : decode cX6_read 6 = .ok (.iconst 0, 1) := by decide +kernel
theorem dX6_read_7 : decode cX6_read 7 = .ok (.putfield 35, 3) := by decide +kernel
theorem dX6_read_10 : decode cX6_read 10 = .ok (.iconst 0, 1) := by decide +kernel
theorem dX6_read_11 : decode cX6_read 11 = .ok (.istore_n 3, 1) := by decide +kernel
theorem dX6_read_12 : decode cX6_read 12 = .ok (.iload_n 3, 1) := by decide +kernel
theorem dX6_read_13 : decode cX6_read 13 = .ok (.sipush 150, 3) := by decide +kernel
theorem dX6_read_16 : decode cX6_read 16 = .ok (.if_icmp .gt 87, 3) := by decide +kernel
theorem dX6_read_19 : decode cX6_read 19 = .ok (.aload_n 1, 1) := by decide +kernel
theorem dX6_read_20 : decode cX6_read 20 = .ok (.invokevirtual 38, 3) := by decide +kernel
theorem dX6_read_23 : decode cX6_read 23 = .ok (.ifCond .eq 24, 3) := by decide +kernel
theorem dX6_read_26 : decode cX6_read 26 = .ok (.aload_n 0, 1) := by decide +kernel
theorem dX6_read_27 : decode cX6_read 27 = .ok (.getfield 35, 3) := by decide +kernel
theorem dX6_read_30 : decode cX6_read 30 = .ok (.ifCond .eq 11, 3) := by decide +kernel
theorem dX6_read_33 : decode cX6_read 33 = .ok (.aload_n 1, 1) := by decide +kernel
theorem dX6_read_34 : decode cX6_read 34 = .ok (.iconst 1, 1) := by decide +kernel
theorem dX6_read_35 : decode cX6_read 35 = .ok (.invokevirtual 44, 3) := by decide +kernel
theorem dX6_read_38 : decode cX6_read 38 = .ok (.ifCond .eq 7, 3) := by decide +kernel
theorem dX6_read_41 : decode cX6_read 41 = .ok (.iconst 1, 1) := by decide +kernel
theorem dX6_read_42 : decode cX6_read 42 = .ok (.goto 4, 3) := by decide +kernel
theorem dX6_read_45 : decode cX6_read 45 = .ok (.iconst 0, 1) := by decide +kernel
theorem dX6_read_46 : decode cX6_read 46 = .ok (.ireturn, 1) := by decide +kernel
theorem dX6_read_47 : decode cX6_read 47 = .ok (.aload_n 0, 1) := by decide +kernel
theorem dX6_read_48 : decode cX6_read 48 = .ok (.getfield 35, 3) := by decide +kernel
theorem dX6_read_51 : decode cX6_read 51 = .ok (.ifCond .le 16, 3) := by decide +kernel
theorem dX6_read_54 : decode cX6_read 54 = .ok (.aload_n 1, 1) := by decide +kernel
theorem dX6_read_55 : decode cX6_read 55 = .ok (.invokevirtual 48, 3) := by decide +kernel
theorem dX6_read_58 : decode cX6_read 58 = .ok (.bipush 93, 2) := by decide +kernel
theorem dX6_read_60 : decode cX6_read 60 = .ok (.if_icmp .ne 7, 3) := by decide +kernel
theorem dX6_read_63 : decode cX6_read 63 = .ok (.iconst 1, 1) := by decide +kernel
theorem dX6_read_64 : decode cX6_read 64 = .ok (.goto 4, 3) := by decide +kernel
theorem dX6_read_67 : decode cX6_read 67 = .ok (.iconst 0, 1) := by decide +kernel
theorem dX6_read_68 : decode cX6_read 68 = .ok (.istore 4, 2) := by decide +kernel
theorem dX6_read_70 : decode cX6_read 70 = .ok (.iload 4, 2) := by decide +kernel
theorem dX6_read_72 : decode cX6_read 72 = .ok (.ifCond .eq 14, 3) := by decide +kernel
theorem dX6_read_75 : decode cX6_read 75 = .ok (.aload_n 0, 1) := by decide +kernel
theorem dX6_read_76 : decode cX6_read 76 = .ok (.aload_n 1, 1) := by decide +kernel
theorem dX6_read_77 : decode cX6_read 77 = .ok (.invokevirtual 52, 3) := by decide +kernel
theorem dX6_read_80 : decode cX6_read 80 = .ok (.ifCond .ne 17, 3) := by decide +kernel
theorem dX6_read_83 : decode cX6_read 83 = .ok (.goto 12, 3) := by decide +kernel
theorem dX6_read_86 : decode cX6_read 86 = .ok (.aload_n 0, 1) := by decide +kernel
theorem dX6_read_87 : decode cX6_read 87 = .ok (.aload_n 1, 1) := by decide +kernel
theorem dX6_read_88 : decode cX6_read 88 = .ok (.aload_n 2, 1) := by decide +kernel
theorem dX6_read_89 : decode cX6_read 89 = .ok (.invokevirtual 56, 3) := by decide +kernel
theorem dX6_read_92 : decode cX6_read 92 = .ok (.ifCond .ne 5, 3) := by decide +kernel
theorem dX6_read_95 : decode cX6_read 95 = .ok (.iconst 0, 1) := by decide +kernel
theorem dX6_read_96 : decode cX6_read 96 = .ok (.ireturn, 1) := by decide +kernel
theorem dX6_read_97 : decode cX6_read 97 = .ok (.iinc 3 1, 3) := by decide +kernel
theorem dX6_read_100 : decode cX6_read 100 = .ok (.goto (-88), 3) := by decide +kernel
theorem dX6_read_103 : decode cX6_read 103 = .ok (.iconst 0, 1) := by decide +kernel
theorem dX6_read_104 : decode cX6_read 104 = .ok (.ireturn, 1) := by decide +kernel
theorem dX6_readEnd_0 : decode cX6_readEnd 0 = .ok (.aload_n 1, 1) := by decide +kernel
theorem dX6_readEnd_1 : decode cX6_readEnd 1 = .ok (.invokevirtual 60, 3) := by decide +kernel
theorem dX6_readEnd_4 : decode cX6_readEnd 4 = .ok (.aload_n 0, 1) := by decide +kernel
theorem dX6_readEnd_5 : decode cX6_readEnd 5 = .ok (.dup, 1) := by decide +kernel
theorem dX6_readEnd_6 : decode cX6_readEnd 6 = .ok (.getfield 35, 3) := by decide +kernel
theorem dX6_readEnd_9 : decode cX6_readEnd 9 = .ok (.iconst 1, 1) := by decide +kernel
theorem dX6_readEnd_10 : decode cX6_readEnd 10 = .ok (.isub, 1) := by decide +kernel
theorem dX6_readEnd_11 : decode cX6_readEnd 11 = .ok (.putfield 35, 3) := by decide +kernel
theorem dX6_readEnd_14 : decode cX6_readEnd 14 = .ok (.aload_n 0, 1) := by decide +kernel
theorem dX6_readEnd_15 : decode cX6_readEnd 15 = .ok (.getfield 21, 3) := by decide +kernel
theorem dX6_readEnd_18 : decode cX6_readEnd 18 = .ok (.aload_n 0, 1) := by decide +kernel
theorem dX6_readEnd_19 : decode cX6_readEnd 19 = .ok (.getfield 35, 3) := by decide +kernel
theorem dX6_readEnd_22 : decode cX6_readEnd 22 = .ok (.invokestatic 63, 3) := by decide +kernel
theorem dX6_readEnd_25 : decode cX6_readEnd 25 = .ok (.istore_n 2, 1) := by decide +kernel
theorem dX6_readEnd_26 : decode cX6_readEnd 26 = .ok (.aload_n 0, 1) := by decide +kernel
theorem dX6_readEnd_27 : decode cX6_readEnd 27 = .ok (.getfield 18, 3) := by decide +kernel
theorem dX6_readEnd_30 : decode cX6_readEnd 30 = .ok (.iload_n 2, 1) := by decide +kernel
theorem dX6_readEnd_31 : decode cX6_readEnd 31 = .ok (.aload_n 0, 1) := by decide +kernel
theorem dX6_readEnd_32 : decode cX6_readEnd 32 = .ok (.getfield 27, 3) := by decide +kernel
theorem dX6_readEnd_35 : decode cX6_readEnd 35 = .ok (.invokestatic 31, 3) := by decide +kernel
theorem dX6_readEnd_38 : decode cX6_readEnd 38 = .ok (.aload_n 0, 1) := by decide +kernel
theorem dX6_readEnd_39 : decode cX6_readEnd 39 = .ok (.getfield 18, 3) := by decide +kernel
theorem dX6_readEnd_42 : decode cX6_readEnd 42 = .ok (.aload_n 0, 1) := by decide +kernel
theorem dX6_readEnd_43 : decode cX6_readEnd 43 = .ok (.getfield 27, 3) := by decide +kernel
theorem dX6_readEnd_46 : decode cX6_readEnd 46 = .ok (.iload_n 2, 1) := by decide +kernel
theorem dX6_readEnd_47 : decode cX6_readEnd 47 = .ok (.invokestatic 31, 3) := by decide +kernel
theorem dX6_readEnd_50 : decode cX6_readEnd 50 = .ok (.aload_n 0, 1) := by decide +kernel
theorem dX6_readEnd_51 : decode cX6_readEnd 51 = .ok (.bipush 7, 2) := by decide +kernel
theorem dX6_readEnd_53 : decode cX6_readEnd 53 = .ok (.iconst 0, 1) := by decide +kernel
theorem dX6_readEnd_54 : decode cX6_readEnd 54 = .ok (.invokevirtual 67, 3) := by decide +kernel
theorem dX6_readEnd_57 : decode cX6_readEnd 57 = .ok (.aload_n 1, 1) := by decide +kernel
theorem dX6_readEnd_58 : decode cX6_readEnd 58 = .ok (.bipush 59, 2) := by decide +kernel
theorem dX6_readEnd_60 : decode cX6_readEnd 60 = .ok (.invokevirtual 71, 3) := by decide +kernel
theorem dX6_readEnd_63 : decode cX6_readEnd 63 = .ok (.ireturn, 1) := by decide +kernel
theorem dX6_readStep_0 : decode cX6_readStep 0 = .ok (.aload_n 1, 1) := by decide +kernel
theorem dX6_readStep_1 : decode cX6_readStep 1 = .ok (.invokevirtual 74, 3) := by decide +kernel
theorem dX6_readStep_4 : decode cX6_readStep 4 = .ok (.ifCond .ne 5, 3) := by decide +kernel
theorem dX6_readStep_7 : decode cX6_readStep 7 = .ok (.iconst 0, 1) := by decide +kernel
theorem dX6_readStep_8 : decode cX6_readStep 8 = .ok (.ireturn, 1) := by decide +kernel
theorem dX6_readStep_9 : decode cX6_readStep 9 = .ok (.aload_n 1, 1) := by decide +kernel
theorem dX6_readStep_10 : decode cX6_readStep 10 = .ok (.invokestatic 77, 3) := by decide +kernel
theorem dX6_readStep_13 : decode cX6_readStep 13 = .ok (.istore_n 3, 1) := by decide +kernel
theorem dX6_readStep_14 : decode cX6_readStep 14 = .ok (.iload_n 3, 1) := by decide +kernel
theorem dX6_readStep_15 : decode cX6_readStep 15 = .ok (.iconst (-1), 1) := by decide +kernel
theorem dX6_readStep_16 : decode cX6_readStep 16 = .ok (.if_icmp .ne 9, 3) := by decide +kernel
theorem dX6_readStep_19 : decode cX6_readStep 19 = .ok (.aload_n 1, 1) := by decide +kernel
theorem dX6_readStep_20 : decode cX6_readStep 20 = .ok (.iconst 1, 1) := by decide +kernel
theorem dX6_readStep_21 : decode cX6_readStep 21 = .ok (.invokevirtual 81, 3) := by decide +kernel
theorem dX6_readStep_24 : decode cX6_readStep 24 = .ok (.ireturn, 1) := by decide +kernel
theorem dX6_readStep_25 : decode cX6_readStep 25 = .ok (.iload_n 3, 1) := by decide +kernel
theorem dX6_readStep_26 : decode cX6_readStep 26 = .ok (.bipush 6, 2) := by decide +kernel
theorem dX6_readStep_28 : decode cX6_readStep 28 = .ok (.if_icmp .ne 9, 3) := by decide +kernel
theorem dX6_readStep_31 : decode cX6_readStep 31 = .ok (.aload_n 0, 1) := by decide +kernel
theorem dX6_readStep_32 : decode cX6_readStep 32 = .ok (.aload_n 1, 1) := by decide +kernel
theorem dX6_readStep_33 : decode cX6_readStep 33 = .ok (.invokevirtual 84, 3) := by decide +kernel
theorem dX6_readStep_36 : decode cX6_readStep 36 = .ok (.ireturn, 1) := by decide +kernel
theorem dX6_readStep_37 : decode cX6_readStep 37 = .ok (.iconst 0, 1) := by decide +kernel
theorem dX6_readStep_38 : decode cX6_readStep 38 = .ok (.istore 4, 2) := by decide +kernel
theorem dX6_readStep_40 : decode cX6_readStep 40 = .ok (.iload_n 3, 1) := by decide +kernel
theorem dX6_readStep_41 : decode cX6_readStep 41 = .ok (.iconst 5, 1) := by decide +kernel
theorem dX6_readStep_42 : decode cX6_readStep 42 = .ok (.if_icmp .eq 28, 3) := by decide +kernel
theorem dX6_readStep_45 : decode cX6_readStep 45 = .ok (.aload_n 1, 1) := by decide +kernel
theorem dX6_readStep_46 : decode cX6_readStep 46 = .ok (.iconst 0, 1) := by decide +kernel
theorem dX6_readStep_47 : decode cX6_readStep 47 = .ok (.iload_n 3, 1) := by decide +kernel
theorem dX6_readStep_48 : decode cX6_readStep 48 = .ok (.iconst 4, 1) := by decide +kernel
theorem dX6_readStep_49 : decode cX6_readStep 49 = .ok (.if_icmp .ne 10, 3) := by decide +kernel
theorem dX6_readStep_52 : decode cX6_readStep 52 = .ok (.aload_n 2, 1) := by decide +kernel
theorem dX6_readStep_53 : decode cX6_readStep 53 = .ok (.getfield 87, 3) := by decide +kernel
theorem dX6_readStep_56 : decode cX6_readStep 56 = .ok (.goto 7, 3) := by decide +kernel
theorem dX6_readStep_59 : decode cX6_readStep 59 = .ok (.aload_n 2, 1) := by decide +kernel
theorem dX6_readStep_60 : decode cX6_readStep 60 = .ok (.getfield 92, 3) := by decide +kernel
theorem dX6_readStep_63 : decode cX6_readStep 63 = .ok (.iconst 1, 1) := by decide +kernel
theorem dX6_readStep_64 : decode cX6_readStep 64 = .ok (.isub, 1) := by decide +kernel
theorem dX6_readStep_65 : decode cX6_readStep 65 = .ok (.invokevirtual 95, 3) := by decide +kernel
theorem dX6_readStep_68 : decode cX6_readStep 68 = .ok (.istore 4, 2) := by decide +kernel
theorem dX6_readStep_70 : decode cX6_readStep 70 = .ok (.aload_n 0, 1) := by decide +kernel
theorem dX6_readStep_71 : decode cX6_readStep 71 = .ok (.iload_n 3, 1) := by decide +kernel
theorem dX6_readStep_72 : decode cX6_readStep 72 = .ok (.iload 4, 2) := by decide +kernel
theorem dX6_readStep_74 : decode cX6_readStep 74 = .ok (.invokevirtual 67, 3) := by decide +kernel
theorem dX6_readStep_77 : decode cX6_readStep 77 = .ok (.iload 4, 2) := by decide +kernel
theorem dX6_readStep_79 : decode cX6_readStep 79 = .ok (.iconst (-1), 1) := by decide +kernel
theorem dX6_readStep_80 : decode cX6_readStep 80 = .ok (.if_icmp .eq 16, 3) := by decide +kernel
theorem dX6_readStep_83 : decode cX6_readStep 83 = .ok (.aload_n 1, 1) := by decide +kernel
theorem dX6_readStep_84 : decode cX6_readStep 84 = .ok (.bipush 59, 2) := by decide +kernel
theorem dX6_readStep_86 : decode cX6_readStep 86 = .ok (.invokevirtual 71, 3) := by decide +kernel
theorem dX6_readStep_89 : decode cX6_readStep 89 = .ok (.ifCond .eq 7, 3) := by decide +kernel
theorem dX6_readStep_92 : decode cX6_readStep 92 = .ok (.iconst 1, 1) := by decide +kernel
theorem dX6_readStep_93 : decode cX6_readStep 93 = .ok (.goto 4, 3) := by decide +kernel
theorem dX6_readStep_96 : decode cX6_readStep 96 = .ok (.iconst 0, 1) := by decide +kernel
theorem dX6_readStep_97 : decode cX6_readStep 97 = .ok (.ireturn, 1) := by decide +kernel
theorem dX6_readAgain_0 : decode cX6_readAgain 0 = .ok (.aload_n 0, 1) := by decide +kernel
theorem dX6_readAgain_1 : decode cX6_readAgain 1 = .ok (.getfield 35, 3) := by decide +kernel
theorem dX6_readAgain_4 : decode cX6_readAgain 4 = .ok (.bipush 6, 2) := by decide +kernel
theorem dX6_readAgain_6 : decode cX6_readAgain 6 = .ok (.if_icmp .lt 9, 3) := by decide +kernel
theorem dX6_readAgain_9 : decode cX6_readAgain 9 = .ok (.aload_n 1, 1) := by decide +kernel
theorem dX6_readAgain_10 : decode cX6_readAgain 10 = .ok (.iconst 3, 1) := by decide +kernel
theorem dX6_readAgain_11 : decode cX6_readAgain 11 = .ok (.invokevirtual 81, 3) := by decide +kernel
theorem dX6_readAgain_14 : decode cX6_readAgain 14 = .ok (.ireturn, 1) := by decide +kernel
theorem dX6_readAgain_15 : decode cX6_readAgain 15 = .ok (.aload_n 1, 1) := by decide +kernel
theorem dX6_readAgain_16 : decode cX6_readAgain 16 = .ok (.iconst 0, 1) := by decide +kernel
theorem dX6_readAgain_17 : decode cX6_readAgain 17 = .ok (.bipush 20, 2) := by decide +kernel
theorem dX6_readAgain_19 : decode cX6_readAgain 19 = .ok (.invokevirtual 95, 3) := by decide +kernel
theorem dX6_readAgain_22 : decode cX6_readAgain 22 = .ok (.istore_n 2, 1) := by decide +kernel
theorem dX6_readAgain_23 : decode cX6_readAgain 23 = .ok (.iload_n 2, 1) := by decide +kernel
theorem dX6_readAgain_24 : decode cX6_readAgain 24 = .ok (.iconst (-1), 1) := by decide +kernel
theorem dX6_readAgain_25 : decode cX6_readAgain 25 = .ok (.if_icmp .ne 5, 3) := by decide +kernel
theorem dX6_readAgain_28 : decode cX6_readAgain 28 = .ok (.iconst 0, 1) := by decide +kernel
theorem dX6_readAgain_29 : decode cX6_readAgain 29 = .ok (.ireturn, 1) := by decide +kernel
theorem dX6_readAgain_30 : decode cX6_readAgain 30 = .ok (.aload_n 0, 1) := by decide +kernel
theorem dX6_readAgain_31 : decode cX6_readAgain 31 = .ok (.getfield 21, 3) := by decide +kernel
theorem dX6_readAgain_34 : decode cX6_readAgain 34 = .ok (.aload_n 0, 1) := by decide +kernel
theorem dX6_readAgain_35 : decode cX6_readAgain 35 = .ok (.getfield 35, 3) := by decide +kernel
theorem dX6_readAgain_38 : decode cX6_readAgain 38 = .ok (.aload_n 0, 1) := by decide +kernel
theorem dX6_readAgain_39 : decode cX6_readAgain 39 = .ok (.getfield 27, 3) := by decide +kernel
theorem dX6_readAgain_42 : decode cX6_readAgain 42 = .ok (.invokestatic 31, 3) := by decide +kernel
theorem dX6_readAgain_45 : decode cX6_readAgain 45 = .ok (.aload_n 0, 1) := by decide +kernel
theorem dX6_readAgain_46 : decode cX6_readAgain 46 = .ok (.dup, 1) := by decide +kernel
theorem dX6_readAgain_47 : decode cX6_readAgain 47 = .ok (.getfield 35, 3) := by decide +kernel
theorem dX6_readAgain_50 : decode cX6_readAgain 50 = .ok (.iconst 1, 1) := by decide +kernel
theorem dX6_readAgain_51 : decode cX6_readAgain 51 = .ok (.iadd, 1) := by decide +kernel
theorem dX6_readAgain_52 : decode cX6_readAgain 52 = .ok (.putfield 35, 3) := by decide +kernel
theorem dX6_readAgain_55 : decode cX6_readAgain 55 = .ok (.aload_n 0, 1) := by decide +kernel
theorem dX6_readAgain_56 : decode cX6_readAgain 56 = .ok (.bipush 6, 2) := by decide +kernel
theorem dX6_readAgain_58 : decode cX6_readAgain 58 = .ok (.iload_n 2, 1) := by decide +kernel
theorem dX6_readAgain_59 : decode cX6_readAgain 59 = .ok (.invokevirtual 67, 3) := by decide +kernel
theorem dX6_readAgain_62 : decode cX6_readAgain 62 = .ok (.aload_n 1, 1) := by decide +kernel
theorem dX6_readAgain_63 : decode cX6_readAgain 63 = .ok (.bipush 91, 2) := by decide +kernel
theorem dX6_readAgain_65 : decode cX6_readAgain 65 = .ok (.invokevirtual 71, 3) := by decide +kernel
theorem dX6_readAgain_68 : decode cX6_readAgain 68 = .ok (.ireturn, 1) := by decide +kernel
theorem dX6_kindOf_0 : decode cX6_kindOf 0 = .ok (.aload_n 0, 1) := by decide +kernel
theorem dX6_kindOf_1 : decode cX6_kindOf 1 = .ok (.ldc 99, 2) := by decide +kernel
theorem dX6_kindOf_3 : decode cX6_kindOf 3 = .ok (.invokevirtual 101, 3) := by decide +kernel
theorem dX6_kindOf_6 : decode cX6_kindOf 6 = .ok (.ifCond .eq 7, 3) := by decide +kernel
theorem dX6_kindOf_9 : decode cX6_kindOf 9 = .ok (.iconst 0, 1) := by decide +kernel
theorem dX6_kindOf_10 : decode cX6_kindOf 10 = .ok (.goto 83, 3) := by decide +kernel
theorem dX6_kindOf_13 : decode cX6_kindOf 13 = .ok (.aload_n 0, 1) := by decide +kernel
theorem dX6_kindOf_14 : decode cX6_kindOf 14 = .ok (.ldc 105, 2) := by decide +kernel
theorem dX6_kindOf_16 : decode cX6_kindOf 16 = .ok (.invokevirtual 101, 3) := by decide +kernel
theorem dX6_kindOf_19 : decode cX6_kindOf 19 = .ok (.ifCond .eq 7, 3) := by decide +kernel
theorem dX6_kindOf_22 : decode cX6_kindOf 22 = .ok (.iconst 1, 1) := by decide +kernel
theorem dX6_kindOf_23 : decode cX6_kindOf 23 = .ok (.goto 70, 3) := by decide +kernel
theorem dX6_kindOf_26 : decode cX6_kindOf 26 = .ok (.aload_n 0, 1) := by decide +kernel
theorem dX6_kindOf_27 : decode cX6_kindOf 27 = .ok (.ldc 107, 2) := by decide +kernel
theorem dX6_kindOf_29 : decode cX6_kindOf 29 = .ok (.invokevirtual 101, 3) := by decide +kernel
theorem dX6_kindOf_32 : decode cX6_kindOf 32 = .ok (.ifCond .eq 7, 3) := by decide +kernel
theorem dX6_kindOf_35 : decode cX6_kindOf 35 = .ok (.iconst 2, 1) := by decide +kernel
theorem dX6_kindOf_36 : decode cX6_kindOf 36 = .ok (.goto 57, 3) := by decide +kernel
theorem dX6_kindOf_39 : decode cX6_kindOf 39 = .ok (.aload_n 0, 1) := by decide +kernel
theorem dX6_kindOf_40 : decode cX6_kindOf 40 = .ok (.ldc 109, 2) := by decide +kernel
theorem dX6_kindOf_42 : decode cX6_kindOf 42 = .ok (.invokevirtual 101, 3) := by decide +kernel
theorem dX6_kindOf_45 : decode cX6_kindOf 45 = .ok (.ifCond .eq 7, 3) := by decide +kernel
theorem dX6_kindOf_48 : decode cX6_kindOf 48 = .ok (.iconst 3, 1) := by decide +kernel
theorem dX6_kindOf_49 : decode cX6_kindOf 49 = .ok (.goto 44, 3) := by decide +kernel
theorem dX6_kindOf_52 : decode cX6_kindOf 52 = .ok (.aload_n 0, 1) := by decide +kernel
theorem dX6_kindOf_53 : decode cX6_kindOf 53 = .ok (.ldc 111, 2) := by decide +kernel
theorem dX6_kindOf_55 : decode cX6_kindOf 55 = .ok (.invokevirtual 101, 3) := by decide +kernel
theorem dX6_kindOf_58 : decode cX6_kindOf 58 = .ok (.ifCond .eq 7, 3) := by decide +kernel
theorem dX6_kindOf_61 : decode cX6_kindOf 61 = .ok (.iconst 4, 1) := by decide +kernel
theorem dX6_kindOf_62 : decode cX6_kindOf 62 = .ok (.goto 31, 3) := by decide +kernel
theorem dX6_kindOf_65 : decode cX6_kindOf 65 = .ok (.aload_n 0, 1) := by decide +kernel
theorem dX6_kindOf_66 : decode cX6_kindOf 66 = .ok (.ldc 113, 2) := by decide +kernel
theorem dX6_kindOf_68 : decode cX6_kindOf 68 = .ok (.invokevirtual 101, 3) := by decide +kernel
theorem dX6_kindOf_71 : decode cX6_kindOf 71 = .ok (.ifCond .eq 7, 3) := by decide +kernel
theorem dX6_kindOf_74 : decode cX6_kindOf 74 = .ok (.iconst 5, 1) := by decide +kernel
theorem dX6_kindOf_75 : decode cX6_kindOf 75 = .ok (.goto 18, 3) := by decide +kernel
theorem dX6_kindOf_78 : decode cX6_kindOf 78 = .ok (.aload_n 0, 1) := by decide +kernel
theorem dX6_kindOf_79 : decode cX6_kindOf 79 = .ok (.ldc 115, 2) := by decide +kernel
theorem dX6_kindOf_81 : decode cX6_kindOf 81 = .ok (.invokevirtual 101, 3) := by decide +kernel
theorem dX6_kindOf_84 : decode cX6_kindOf 84 = .ok (.ifCond .eq 8, 3) := by decide +kernel
theorem dX6_kindOf_87 : decode cX6_kindOf 87 = .ok (.bipush 6, 2) := by decide +kernel
theorem dX6_kindOf_89 : decode cX6_kindOf 89 = .ok (.goto 4, 3) := by decide +kernel
theorem dX6_kindOf_92 : decode cX6_kindOf 92 = .ok (.iconst (-1), 1) := by decide +kernel
theorem dX6_kindOf_93 : decode cX6_kindOf 93 = .ok (.ireturn, 1) := by decide +kernel
theorem dX6_doAll_0 : decode cX6_doAll 0 = .ok (.aload_n 0, 1) := by decide +kernel
theorem dX6_doAll_1 : decode cX6_doAll 1 = .ok (.iconst 0, 1) := by decide +kernel
theorem dX6_doAll_2 : decode cX6_doAll 2 = .ok (.putfield 117, 3) := by decide +kernel
theorem dX6_doAll_5 : decode cX6_doAll 5 = .ok (.iconst 0, 1) := by decide +kernel
theorem dX6_doAll_6 : decode cX6_doAll 6 = .ok (.istore 4, 2) := by decide +kernel
theorem dX6_doAll_8 : decode cX6_doAll 8 = .ok (.iconst 0, 1) := by decide +kernel
theorem dX6_doAll_9 : decode cX6_doAll 9 = .ok (.istore 5, 2) := by decide +kernel
theorem dX6_doAll_11 : decode cX6_doAll 11 = .ok (.iconst 0, 1) := by decide +kernel
theorem dX6_doAll_12 : decode cX6_doAll 12 = .ok (.istore 6, 2) := by decide +kernel
theorem dX6_doAll_14 : decode cX6_doAll 14 = .ok (.iconst 0, 1) := by decide +kernel
theorem dX6_doAll_15 : decode cX6_doAll 15 = .ok (.istore 7, 2) := by decide +kernel
theorem dX6_doAll_17 : decode cX6_doAll 17 = .ok (.iconst 0, 1) := by decide +kernel
theorem dX6_doAll_18 : decode cX6_doAll 18 = .ok (.istore 8, 2) := by decide +kernel
theorem dX6_doAll_20 : decode cX6_doAll 20 = .ok (.iload 8, 2) := by decide +kernel
theorem dX6_doAll_22 : decode cX6_doAll 22 = .ok (.sipush 10000, 3) := by decide +kernel
theorem dX6_doAll_25 : decode cX6_doAll 25 = .ok (.if_icmp .ge 214, 3) := by decide +kernel
theorem dX6_doAll_28 : decode cX6_doAll 28 = .ok (.iload 7, 2) := by decide +kernel
theorem dX6_doAll_30 : decode cX6_doAll 30 = .ok (.aload_n 0, 1) := by decide +kernel
theorem dX6_doAll_31 : decode cX6_doAll 31 = .ok (.getfield 27, 3) := by decide +kernel
theorem dX6_doAll_34 : decode cX6_doAll 34 = .ok (.if_icmp .ge 205, 3) := by decide +kernel
theorem dX6_doAll_37 : decode cX6_doAll 37 = .ok (.aload_n 0, 1) := by decide +kernel
theorem dX6_doAll_38 : decode cX6_doAll 38 = .ok (.getfield 9, 3) := by decide +kernel
theorem dX6_doAll_41 : decode cX6_doAll 41 = .ok (.iload 7, 2) := by decide +kernel
theorem dX6_doAll_43 : decode cX6_doAll 43 = .ok (.invokestatic 63, 3) := by decide +kernel
theorem dX6_doAll_46 : decode cX6_doAll 46 = .ok (.istore 9, 2) := by decide +kernel
theorem dX6_doAll_48 : decode cX6_doAll 48 = .ok (.iload 9, 2) := by decide +kernel
theorem dX6_doAll_50 : decode cX6_doAll 50 = .ok (.bipush 7, 2) := by decide +kernel
theorem dX6_doAll_52 : decode cX6_doAll 52 = .ok (.if_icmp .ne 74, 3) := by decide +kernel
theorem dX6_doAll_55 : decode cX6_doAll 55 = .ok (.aload_n 0, 1) := by decide +kernel
theorem dX6_doAll_56 : decode cX6_doAll 56 = .ok (.getfield 24, 3) := by decide +kernel
theorem dX6_doAll_59 : decode cX6_doAll 59 = .ok (.iload 6, 2) := by decide +kernel
theorem dX6_doAll_61 : decode cX6_doAll 61 = .ok (.iconst 1, 1) := by decide +kernel
theorem dX6_doAll_62 : decode cX6_doAll 62 = .ok (.isub, 1) := by decide +kernel
theorem dX6_doAll_63 : decode cX6_doAll 63 = .ok (.invokestatic 63, 3) := by decide +kernel
theorem dX6_doAll_66 : decode cX6_doAll 66 = .ok (.iconst 1, 1) := by decide +kernel
theorem dX6_doAll_67 : decode cX6_doAll 67 = .ok (.isub, 1) := by decide +kernel
theorem dX6_doAll_68 : decode cX6_doAll 68 = .ok (.istore 10, 2) := by decide +kernel
theorem dX6_doAll_70 : decode cX6_doAll 70 = .ok (.aload_n 0, 1) := by decide +kernel
theorem dX6_doAll_71 : decode cX6_doAll 71 = .ok (.getfield 24, 3) := by decide +kernel
theorem dX6_doAll_74 : decode cX6_doAll 74 = .ok (.iload 6, 2) := by decide +kernel
theorem dX6_doAll_76 : decode cX6_doAll 76 = .ok (.iconst 1, 1) := by decide +kernel
theorem dX6_doAll_77 : decode cX6_doAll 77 = .ok (.isub, 1) := by decide +kernel
theorem dX6_doAll_78 : decode cX6_doAll 78 = .ok (.iload 10, 2) := by decide +kernel
theorem dX6_doAll_80 : decode cX6_doAll 80 = .ok (.invokestatic 31, 3) := by decide +kernel
theorem dX6_doAll_83 : decode cX6_doAll 83 = .ok (.iload 6, 2) := by decide +kernel
theorem dX6_doAll_85 : decode cX6_doAll 85 = .ok (.iload 10, 2) := by decide +kernel
theorem dX6_doAll_87 : decode cX6_doAll 87 = .ok (.ifCond .le 7, 3) := by decide +kernel
theorem dX6_doAll_90 : decode cX6_doAll 90 = .ok (.iconst 0, 1) := by decide +kernel
theorem dX6_doAll_91 : decode cX6_doAll 91 = .ok (.goto 4, 3) := by decide +kernel
theorem dX6_doAll_94 : decode cX6_doAll 94 = .ok (.iconst 1, 1) := by decide +kernel
theorem dX6_doAll_95 : decode cX6_doAll 95 = .ok (.isub, 1) := by decide +kernel
theorem dX6_doAll_96 : decode cX6_doAll 96 = .ok (.istore 6, 2) := by decide +kernel
theorem dX6_doAll_98 : decode cX6_doAll 98 = .ok (.iload 10, 2) := by decide +kernel
theorem dX6_doAll_100 : decode cX6_doAll 100 = .ok (.ifCond .le 17, 3) := by decide +kernel
theorem dX6_doAll_103 : decode cX6_doAll 103 = .ok (.aload_n 0, 1) := by decide +kernel
theorem dX6_doAll_104 : decode cX6_doAll 104 = .ok (.getfield 18, 3) := by decide +kernel
theorem dX6_doAll_107 : decode cX6_doAll 107 = .ok (.iload 7, 2) := by decide +kernel
theorem dX6_doAll_109 : decode cX6_doAll 109 = .ok (.invokestatic 63, 3) := by decide +kernel
theorem dX6_doAll_112 : decode cX6_doAll 112 = .ok (.iconst 1, 1) := by decide +kernel
theorem dX6_doAll_113 : decode cX6_doAll 113 = .ok (.iadd, 1) := by decide +kernel
theorem dX6_doAll_114 : decode cX6_doAll 114 = .ok (.goto 7, 3) := by decide +kernel
theorem dX6_doAll_117 : decode cX6_doAll 117 = .ok (.iload 7, 2) := by decide +kernel
theorem dX6_doAll_119 : decode cX6_doAll 119 = .ok (.iconst 1, 1) := by decide +kernel
theorem dX6_doAll_120 : decode cX6_doAll 120 = .ok (.iadd, 1) := by decide +kernel
theorem dX6_doAll_121 : decode cX6_doAll 121 = .ok (.istore 7, 2) := by decide +kernel
theorem dX6_doAll_123 : decode cX6_doAll 123 = .ok (.goto 110, 3) := by decide +kernel
theorem dX6_doAll_126 : decode cX6_doAll 126 = .ok (.iload 5, 2) := by decide +kernel
theorem dX6_doAll_128 : decode cX6_doAll 128 = .ok (.sipush 200, 3) := by decide +kernel
theorem dX6_doAll_131 : decode cX6_doAll 131 = .ok (.if_icmp .ne 6, 3) := by decide +kernel
theorem dX6_doAll_134 : decode cX6_doAll 134 = .ok (.goto 105, 3) := by decide +kernel
theorem dX6_doAll_137 : decode cX6_doAll 137 = .ok (.iinc 5 1, 3) := by decide +kernel
theorem dX6_doAll_140 : decode cX6_doAll 140 = .ok (.aload_n 0, 1) := by decide +kernel
theorem dX6_doAll_141 : decode cX6_doAll 141 = .ok (.getfield 15, 3) := by decide +kernel
theorem dX6_doAll_144 : decode cX6_doAll 144 = .ok (.iload 7, 2) := by decide +kernel
theorem dX6_doAll_146 : decode cX6_doAll 146 = .ok (.invokestatic 63, 3) := by decide +kernel
theorem dX6_doAll_149 : decode cX6_doAll 149 = .ok (.istore 10, 2) := by decide +kernel
theorem dX6_doAll_151 : decode cX6_doAll 151 = .ok (.iload 9, 2) := by decide +kernel
theorem dX6_doAll_153 : decode cX6_doAll 153 = .ok (.bipush 6, 2) := by decide +kernel
theorem dX6_doAll_155 : decode cX6_doAll 155 = .ok (.if_icmp .ne 22, 3) := by decide +kernel
theorem dX6_doAll_158 : decode cX6_doAll 158 = .ok (.iload 10, 2) := by decide +kernel
theorem dX6_doAll_160 : decode cX6_doAll 160 = .ok (.ifCond .ne 17, 3) := by decide +kernel
theorem dX6_doAll_163 : decode cX6_doAll 163 = .ok (.aload_n 0, 1) := by decide +kernel
theorem dX6_doAll_164 : decode cX6_doAll 164 = .ok (.getfield 18, 3) := by decide +kernel
theorem dX6_doAll_167 : decode cX6_doAll 167 = .ok (.iload 7, 2) := by decide +kernel
theorem dX6_doAll_169 : decode cX6_doAll 169 = .ok (.invokestatic 63, 3) := by decide +kernel
theorem dX6_doAll_172 : decode cX6_doAll 172 = .ok (.istore 7, 2) := by decide +kernel
theorem dX6_doAll_174 : decode cX6_doAll 174 = .ok (.goto 56, 3) := by decide +kernel
theorem dX6_doAll_177 : decode cX6_doAll 177 = .ok (.iload 9, 2) := by decide +kernel
theorem dX6_doAll_179 : decode cX6_doAll 179 = .ok (.bipush 6, 2) := by decide +kernel
theorem dX6_doAll_181 : decode cX6_doAll 181 = .ok (.if_icmp .ne 20, 3) := by decide +kernel
theorem dX6_doAll_184 : decode cX6_doAll 184 = .ok (.aload_n 0, 1) := by decide +kernel
theorem dX6_doAll_185 : decode cX6_doAll 185 = .ok (.getfield 24, 3) := by decide +kernel
theorem dX6_doAll_188 : decode cX6_doAll 188 = .ok (.iload 6, 2) := by decide +kernel
theorem dX6_doAll_190 : decode cX6_doAll 190 = .ok (.iload 10, 2) := by decide +kernel
theorem dX6_doAll_192 : decode cX6_doAll 192 = .ok (.invokestatic 31, 3) := by decide +kernel
theorem dX6_doAll_195 : decode cX6_doAll 195 = .ok (.iinc 6 1, 3) := by decide +kernel
theorem dX6_doAll_198 : decode cX6_doAll 198 = .ok (.goto 32, 3) := by decide +kernel
theorem dX6_doAll_201 : decode cX6_doAll 201 = .ok (.iload 9, 2) := by decide +kernel
theorem dX6_doAll_203 : decode cX6_doAll 203 = .ok (.iload 10, 2) := by decide +kernel
theorem dX6_doAll_205 : decode cX6_doAll 205 = .ok (.aload_n 1, 1) := by decide +kernel
theorem dX6_doAll_206 : decode cX6_doAll 206 = .ok (.aload_n 2, 1) := by decide +kernel
theorem dX6_doAll_207 : decode cX6_doAll 207 = .ok (.aload_n 3, 1) := by decide +kernel
theorem dX6_doAll_208 : decode cX6_doAll 208 = .ok (.invokestatic 120, 3) := by decide +kernel
theorem dX6_doAll_211 : decode cX6_doAll 211 = .ok (.ifCond .eq 9, 3) := by decide +kernel
theorem dX6_doAll_214 : decode cX6_doAll 214 = .ok (.iinc 4 1, 3) := by decide +kernel
theorem dX6_doAll_217 : decode cX6_doAll 217 = .ok (.goto 13, 3) := by decide +kernel
theorem dX6_doAll_220 : decode cX6_doAll 220 = .ok (.aload_n 0, 1) := by decide +kernel
theorem dX6_doAll_221 : decode cX6_doAll 221 = .ok (.dup, 1) := by decide +kernel
theorem dX6_doAll_222 : decode cX6_doAll 222 = .ok (.getfield 117, 3) := by decide +kernel
theorem dX6_doAll_225 : decode cX6_doAll 225 = .ok (.iconst 1, 1) := by decide +kernel
theorem dX6_doAll_226 : decode cX6_doAll 226 = .ok (.iadd, 1) := by decide +kernel
theorem dX6_doAll_227 : decode cX6_doAll 227 = .ok (.putfield 117, 3) := by decide +kernel
theorem dX6_doAll_230 : decode cX6_doAll 230 = .ok (.iinc 7 1, 3) := by decide +kernel
theorem dX6_doAll_233 : decode cX6_doAll 233 = .ok (.iinc 8 1, 3) := by decide +kernel
theorem dX6_doAll_236 : decode cX6_doAll 236 = .ok (.goto (-216), 3) := by decide +kernel
theorem dX6_doAll_239 : decode cX6_doAll 239 = .ok (.iload 4, 2) := by decide +kernel
theorem dX6_doAll_241 : decode cX6_doAll 241 = .ok (.ireturn, 1) := by decide +kernel
theorem dX6_doStep_0 : decode cX6_doStep 0 = .ok (.iload_n 0, 1) := by decide +kernel
theorem dX6_doStep_1 : decode cX6_doStep 1 = .ok (.tableswitch 65 0 4 #[35, 41, 47, 53, 59], 35) := by decide +kernel
theorem dX6_doStep_36 : decode cX6_doStep 36 = .ok (.aload_n 2, 1) := by decide +kernel
theorem dX6_doStep_37 : decode cX6_doStep 37 = .ok (.iload_n 1, 1) := by decide +kernel
theorem dX6_doStep_38 : decode cX6_doStep 38 = .ok (.invokevirtual 124, 3) := by decide +kernel
theorem dX6_doStep_41 : decode cX6_doStep 41 = .ok (.ireturn, 1) := by decide +kernel
theorem dX6_doStep_42 : decode cX6_doStep 42 = .ok (.aload_n 2, 1) := by decide +kernel
theorem dX6_doStep_43 : decode cX6_doStep 43 = .ok (.iload_n 1, 1) := by decide +kernel
theorem dX6_doStep_44 : decode cX6_doStep 44 = .ok (.invokevirtual 128, 3) := by decide +kernel
theorem dX6_doStep_47 : decode cX6_doStep 47 = .ok (.ireturn, 1) := by decide +kernel
theorem dX6_doStep_48 : decode cX6_doStep 48 = .ok (.aload_n 2, 1) := by decide +kernel
theorem dX6_doStep_49 : decode cX6_doStep 49 = .ok (.iload_n 1, 1) := by decide +kernel
theorem dX6_doStep_50 : decode cX6_doStep 50 = .ok (.invokevirtual 130, 3) := by decide +kernel
theorem dX6_doStep_53 : decode cX6_doStep 53 = .ok (.ireturn, 1) := by decide +kernel
theorem dX6_doStep_54 : decode cX6_doStep 54 = .ok (.aload_n 2, 1) := by decide +kernel
theorem dX6_doStep_55 : decode cX6_doStep 55 = .ok (.iload_n 1, 1) := by decide +kernel
theorem dX6_doStep_56 : decode cX6_doStep 56 = .ok (.invokevirtual 132, 3) := by decide +kernel
theorem dX6_doStep_59 : decode cX6_doStep 59 = .ok (.ireturn, 1) := by decide +kernel
theorem dX6_doStep_60 : decode cX6_doStep 60 = .ok (.aload_n 2, 1) := by decide +kernel
theorem dX6_doStep_61 : decode cX6_doStep 61 = .ok (.iload_n 1, 1) := by decide +kernel
theorem dX6_doStep_62 : decode cX6_doStep 62 = .ok (.invokevirtual 134, 3) := by decide +kernel
theorem dX6_doStep_65 : decode cX6_doStep 65 = .ok (.ireturn, 1) := by decide +kernel
theorem dX6_doStep_66 : decode cX6_doStep 66 = .ok (.aload_n 2, 1) := by decide +kernel
theorem dX6_doStep_67 : decode cX6_doStep 67 = .ok (.aload_n 3, 1) := by decide +kernel
theorem dX6_doStep_68 : decode cX6_doStep 68 = .ok (.aload 4, 2) := by decide +kernel
theorem dX6_doStep_70 : decode cX6_doStep 70 = .ok (.invokevirtual 137, 3) := by decide +kernel
theorem dX6_doStep_73 : decode cX6_doStep 73 = .ok (.ireturn, 1) := by decide +kernel
theorem dX7_init_0 : decode cX7_init 0 = .ok (.aload_n 0, 1) := by decide +kernel
theorem dX7_init_1 : decode cX7_init 1 = .ok (.invokespecial 3, 3) := by decide +kernel
theorem dX7_init_4 : decode cX7_init 4 = .ok (.aload_n 0, 1) := by decide +kernel
theorem dX7_init_5 : decode cX7_init 5 = .ok (.bipush 6, 2) := by decide +kernel
theorem dX7_init_7 : decode cX7_init 7 = .ok (.newarray .int, 2) := by decide +kernel
theorem dX7_init_9 : decode cX7_init 9 = .ok (.putfield 9, 3) := by decide +kernel
theorem dX7_init_12 : decode cX7_init 12 = .ok (.aload_n 0, 1) := by decide +kernel
theorem dX7_init_13 : decode cX7_init 13 = .ok (.bipush 10, 2) := by decide +kernel
theorem dX7_init_15 : decode cX7_init 15 = .ok (.newarray .int, 2) := by decide +kernel
theorem dX7_init_17 : decode cX7_init 17 = .ok (.putfield 15, 3) := by decide +kernel
theorem dX7_init_20 : decode cX7_init 20 = .ok (.aload_n 0, 1) := by decide +kernel
theorem dX7_init_21 : decode cX7_init 21 = .ok (.bipush 10, 2) := by decide +kernel
theorem dX7_init_23 : decode cX7_init 23 = .ok (.newarray .int, 2) := by decide +kernel
theorem dX7_init_25 : decode cX7_init 25 = .ok (.putfield 18, 3) := by decide +kernel
theorem dX7_init_28 : decode cX7_init 28 = .ok (.aload_n 0, 1) := by decide +kernel
theorem dX7_init_29 : decode cX7_init 29 = .ok (.bipush 10, 2) := by decide +kernel
theorem dX7_init_31 : decode cX7_init 31 = .ok (.newarray .int, 2) := by decide +kernel
theorem dX7_init_33 : decode cX7_init 33 = .ok (.putfield 21, 3) := by decide +kernel
theorem dX7_init_36 : decode cX7_init 36 = .ok (.aload_n 0, 1) := by decide +kernel
theorem dX7_init_37 : decode cX7_init 37 = .ok (.bipush 10, 2) := by decide +kernel
theorem dX7_init_39 : decode cX7_init 39 = .ok (.newarray .int, 2) := by decide +kernel
theorem dX7_init_41 : decode cX7_init 41 = .ok (.putfield 24, 3) := by decide +kernel
theorem dX7_init_44 : decode cX7_init 44 = .ok (.aload_n 0, 1) := by decide +kernel
theorem dX7_init_45 : decode cX7_init 45 = .ok (.bipush 12, 2) := by decide +kernel
theorem dX7_init_47 : decode cX7_init 47 = .ok (.newarray .int, 2) := by decide +kernel
theorem dX7_init_49 : decode cX7_init 49 = .ok (.putfield 27, 3) := by decide +kernel
theorem dX7_init_52 : decode cX7_init 52 = .ok (.aload_n 0, 1) := by decide +kernel
theorem dX7_init_53 : decode cX7_init 53 = .ok (.bipush 6, 2) := by decide +kernel
theorem dX7_init_55 : decode cX7_init 55 = .ok (.newarray .int, 2) := by decide +kernel
theorem dX7_init_57 : decode cX7_init 57 = .ok (.putfield 30, 3) := by decide +kernel
theorem dX7_init_60 : decode cX7_init 60 = .ok (.aload_n 0, 1) := by decide +kernel
theorem dX7_init_61 : decode cX7_init 61 = .ok (.bipush 6, 2) := by decide +kernel
theorem dX7_init_63 : decode cX7_init 63 = .ok (.newarray .int, 2) := by decide +kernel
theorem dX7_init_65 : decode cX7_init 65 = .ok (.putfield 33, 3) := by decide +kernel
theorem dX7_init_68 : decode cX7_init 68 = .ok (.aload_n 0, 1) := by decide +kernel
theorem dX7_init_69 : decode cX7_init 69 = .ok (.bipush 10, 2) := by decide +kernel
theorem dX7_init_71 : decode cX7_init 71 = .ok (.putfield 36, 3) := by decide +kernel
theorem dX7_init_74 : decode cX7_init 74 = .ok (.aload_n 0, 1) := by decide +kernel
theorem dX7_init_75 : decode cX7_init 75 = .ok (.iconst 3, 1) := by decide +kernel
theorem dX7_init_76 : decode cX7_init 76 = .ok (.putfield 40, 3) := by decide +kernel
theorem dX7_init_79 : decode cX7_init 79 = .ok (.return_, 1) := by decide +kernel
theorem dX7_copyFrom_0 : decode cX7_copyFrom 0 = .ok (.aload_n 1, 1) := by decide +kernel
theorem dX7_copyFrom_1 : decode cX7_copyFrom 1 = .ok (.getfield 9, 3) := by decide +kernel
theorem dX7_copyFrom_4 : decode cX7_copyFrom 4 = .ok (.aload_n 0, 1) := by decide +kernel
theorem dX7_copyFrom_5 : decode cX7_copyFrom 5 = .ok (.getfield 9, 3) := by decide +kernel
theorem dX7_copyFrom_8 : decode cX7_copyFrom 8 = .ok (.invokestatic 43, 3) := by decide +kernel
theorem dX7_copyFrom_11 : decode cX7_copyFrom 11 = .ok (.aload_n 1, 1) := by decide +kernel
theorem dX7_copyFrom_12 : decode cX7_copyFrom 12 = .ok (.getfield 15, 3) := by decide +kernel
theorem dX7_copyFrom_15 : decode cX7_copyFrom 15 = .ok (.aload_n 0, 1) := by decide +kernel
theorem dX7_copyFrom_16 : decode cX7_copyFrom 16 = .ok (.getfield 15, 3) := by decide +kernel
theorem dX7_copyFrom_19 : decode cX7_copyFrom 19 = .ok (.invokestatic 43, 3) := by decide +kernel
theorem dX7_copyFrom_22 : decode cX7_copyFrom 22 = .ok (.aload_n 1, 1) := by decide +kernel
theorem dX7_copyFrom_23 : decode cX7_copyFrom 23 = .ok (.getfield 18, 3) := by decide +kernel
theorem dX7_copyFrom_26 : decode cX7_copyFrom 26 = .ok (.aload_n 0, 1) := by decide +kernel
theorem dX7_copyFrom_27 : decode cX7_copyFrom 27 = .ok (.getfield 18, 3) := by decide +kernel
theorem dX7_copyFrom_30 : decode cX7_copyFrom 30 = .ok (.invokestatic 43, 3) := by decide +kernel
theorem dX7_copyFrom_33 : decode cX7_copyFrom 33 = .ok (.aload_n 1, 1) := by decide +kernel
theorem dX7_copyFrom_34 : decode cX7_copyFrom 34 = .ok (.getfield 21, 3) := by decide +kernel
theorem dX7_copyFrom_37 : decode cX7_copyFrom 37 = .ok (.aload_n 0, 1) := by decide +kernel
theorem dX7_copyFrom_38 : decode cX7_copyFrom 38 = .ok (.getfield 21, 3) := by decide +kernel
theorem dX7_copyFrom_41 : decode cX7_copyFrom 41 = .ok (.invokestatic 43, 3) := by decide +kernel
theorem dX7_copyFrom_44 : decode cX7_copyFrom 44 = .ok (.aload_n 1, 1) := by decide +kernel
theorem dX7_copyFrom_45 : decode cX7_copyFrom 45 = .ok (.getfield 24, 3) := by decide +kernel
theorem dX7_copyFrom_48 : decode cX7_copyFrom 48 = .ok (.aload_n 0, 1) := by decide +kernel
theorem dX7_copyFrom_49 : decode cX7_copyFrom 49 = .ok (.getfield 24, 3) := by decide +kernel
theorem dX7_copyFrom_52 : decode cX7_copyFrom 52 = .ok (.invokestatic 43, 3) := by decide +kernel
theorem dX7_copyFrom_55 : decode cX7_copyFrom 55 = .ok (.aload_n 1, 1) := by decide +kernel
theorem dX7_copyFrom_56 : decode cX7_copyFrom 56 = .ok (.getfield 27, 3) := by decide +kernel
theorem dX7_copyFrom_59 : decode cX7_copyFrom 59 = .ok (.aload_n 0, 1) := by decide +kernel
theorem dX7_copyFrom_60 : decode cX7_copyFrom 60 = .ok (.getfield 27, 3) := by decide +kernel
theorem dX7_copyFrom_63 : decode cX7_copyFrom 63 = .ok (.invokestatic 43, 3) := by decide +kernel
theorem dX7_copyFrom_66 : decode cX7_copyFrom 66 = .ok (.aload_n 1, 1) := by decide +kernel
theorem dX7_copyFrom_67 : decode cX7_copyFrom 67 = .ok (.getfield 30, 3) := by decide +kernel
theorem dX7_copyFrom_70 : decode cX7_copyFrom 70 = .ok (.aload_n 0, 1) := by decide +kernel
theorem dX7_copyFrom_71 : decode cX7_copyFrom 71 = .ok (.getfield 30, 3) := by decide +kernel
theorem dX7_copyFrom_74 : decode cX7_copyFrom 74 = .ok (.invokestatic 43, 3) := by decide +kernel
theorem dX7_copyFrom_77 : decode cX7_copyFrom 77 = .ok (.aload_n 1, 1) := by decide +kernel
theorem dX7_copyFrom_78 : decode cX7_copyFrom 78 = .ok (.getfield 33, 3) := by decide +kernel
theorem dX7_copyFrom_81 : decode cX7_copyFrom 81 = .ok (.aload_n 0, 1) := by decide +kernel
theorem dX7_copyFrom_82 : decode cX7_copyFrom 82 = .ok (.getfield 33, 3) := by decide +kernel
theorem dX7_copyFrom_85 : decode cX7_copyFrom 85 = .ok (.invokestatic 43, 3) := by decide +kernel
theorem dX7_copyFrom_88 : decode cX7_copyFrom 88 = .ok (.aload_n 0, 1) := by decide +kernel
theorem dX7_copyFrom_89 : decode cX7_copyFrom 89 = .ok (.aload_n 1, 1) := by decide +kernel
theorem dX7_copyFrom_90 : decode cX7_copyFrom 90 = .ok (.getfield 47, 3) := by decide +kernel
theorem dX7_copyFrom_93 : decode cX7_copyFrom 93 = .ok (.putfield 47, 3) := by decide +kernel
theorem dX7_copyFrom_96 : decode cX7_copyFrom 96 = .ok (.aload_n 0, 1) := by decide +kernel
theorem dX7_copyFrom_97 : decode cX7_copyFrom 97 = .ok (.aload_n 1, 1) := by decide +kernel
theorem dX7_copyFrom_98 : decode cX7_copyFrom 98 = .ok (.getfield 50, 3) := by decide +kernel
theorem dX7_copyFrom_101 : decode cX7_copyFrom 101 = .ok (.putfield 50, 3) := by decide +kernel
theorem dX7_copyFrom_104 : decode cX7_copyFrom 104 = .ok (.aload_n 0, 1) := by decide +kernel
theorem dX7_copyFrom_105 : decode cX7_copyFrom 105 = .ok (.aload_n 1, 1) := by decide +kernel
theorem dX7_copyFrom_106 : decode cX7_copyFrom 106 = .ok (.getfield 53, 3) := by decide +kernel
theorem dX7_copyFrom_109 : decode cX7_copyFrom 109 = .ok (.putfield 53, 3) := by decide +kernel
theorem dX7_copyFrom_112 : decode cX7_copyFrom 112 = .ok (.aload_n 0, 1) := by decide +kernel
theorem dX7_copyFrom_113 : decode cX7_copyFrom 113 = .ok (.aload_n 1, 1) := by decide +kernel
theorem dX7_copyFrom_114 : decode cX7_copyFrom 114 = .ok (.getfield 56, 3) := by decide +kernel
theorem dX7_copyFrom_117 : decode cX7_copyFrom 117 = .ok (.putfield 56, 3) := by decide +kernel
theorem dX7_copyFrom_120 : decode cX7_copyFrom 120 = .ok (.aload_n 0, 1) := by decide +kernel
theorem dX7_copyFrom_121 : decode cX7_copyFrom 121 = .ok (.aload_n 1, 1) := by decide +kernel
theorem dX7_copyFrom_122 : decode cX7_copyFrom 122 = .ok (.getfield 36, 3) := by decide +kernel
theorem dX7_copyFrom_125 : decode cX7_copyFrom 125 = .ok (.putfield 36, 3) := by decide +kernel
theorem dX7_copyFrom_128 : decode cX7_copyFrom 128 = .ok (.aload_n 0, 1) := by decide +kernel
theorem dX7_copyFrom_129 : decode cX7_copyFrom 129 = .ok (.aload_n 1, 1) := by decide +kernel
theorem dX7_copyFrom_130 : decode cX7_copyFrom 130 = .ok (.getfield 40, 3) := by decide +kernel
theorem dX7_copyFrom_133 : decode cX7_copyFrom 133 = .ok (.putfield 40, 3) := by decide +kernel
theorem dX7_copyFrom_136 : decode cX7_copyFrom 136 = .ok (.return_, 1) := by decide +kernel
theorem dX7_heightOf_0 : decode cX7_heightOf 0 = .ok (.aload_n 0, 1) := by decide +kernel
theorem dX7_heightOf_1 : decode cX7_heightOf 1 = .ok (.getfield 53, 3) := by decide +kernel
theorem dX7_heightOf_4 : decode cX7_heightOf 4 = .ok (.ifCond .le 23, 3) := by decide +kernel
theorem dX7_heightOf_7 : decode cX7_heightOf 7 = .ok (.iload_n 1, 1) := by decide +kernel
theorem dX7_heightOf_8 : decode cX7_heightOf 8 = .ok (.ifCond .lt 19, 3) := by decide +kernel
theorem dX7_heightOf_11 : decode cX7_heightOf 11 = .ok (.aload_n 0, 1) := by decide +kernel
theorem dX7_heightOf_12 : decode cX7_heightOf 12 = .ok (.getfield 27, 3) := by decide +kernel
theorem dX7_heightOf_15 : decode cX7_heightOf 15 = .ok (.iload_n 1, 1) := by decide +kernel
theorem dX7_heightOf_16 : decode cX7_heightOf 16 = .ok (.aload_n 0, 1) := by decide +kernel
theorem dX7_heightOf_17 : decode cX7_heightOf 17 = .ok (.getfield 53, 3) := by decide +kernel
theorem dX7_heightOf_20 : decode cX7_heightOf 20 = .ok (.irem, 1) := by decide +kernel
theorem dX7_heightOf_21 : decode cX7_heightOf 21 = .ok (.invokestatic 59, 3) := by decide +kernel
theorem dX7_heightOf_24 : decode cX7_heightOf 24 = .ok (.goto 4, 3) := by decide +kernel
theorem dX7_heightOf_27 : decode cX7_heightOf 27 = .ok (.iconst 0, 1) := by decide +kernel
theorem dX7_heightOf_28 : decode cX7_heightOf 28 = .ok (.ireturn, 1) := by decide +kernel
theorem dX7_read_0 : decode cX7_read 0 = .ok (.aload_n 0, 1) := by decide +kernel
theorem dX7_read_1 : decode cX7_read 1 = .ok (.iconst 0, 1) := by decide +kernel
theorem dX7_read_2 : decode cX7_read 2 = .ok (.putfield 47, 3) := by decide +kernel
theorem dX7_read_5 : decode cX7_read 5 = .ok (.aload_n 0, 1) := by decide +kernel
theorem dX7_read_6 : decode cX7_read 6 = .ok (.iconst 0, 1) := by decide +kernel
theorem dX7_read_7 : decode cX7_read 7 = .ok (.putfield 50, 3) := by decide +kernel
theorem dX7_read_10 : decode cX7_read 10 = .ok (.aload_n 0, 1) := by decide +kernel
theorem dX7_read_11 : decode cX7_read 11 = .ok (.iconst 0, 1) := by decide +kernel
theorem dX7_read_12 : decode cX7_read 12 = .ok (.putfield 53, 3) := by decide +kernel
theorem dX7_read_15 : decode cX7_read 15 = .ok (.aload_n 0, 1) := by decide +kernel
theorem dX7_read_16 : decode cX7_read 16 = .ok (.iconst 0, 1) := by decide +kernel
theorem dX7_read_17 : decode cX7_read 17 = .ok (.putfield 56, 3) := by decide +kernel
theorem dX7_read_20 : decode cX7_read 20 = .ok (.aload_n 0, 1) := by decide +kernel
theorem dX7_read_21 : decode cX7_read 21 = .ok (.bipush 10, 2) := by decide +kernel
theorem dX7_read_23 : decode cX7_read 23 = .ok (.putfield 36, 3) := by decide +kernel
theorem dX7_read_26 : decode cX7_read 26 = .ok (.aload_n 0, 1) := by decide +kernel
theorem dX7_read_27 : decode cX7_read 27 = .ok (.iconst 3, 1) := by decide +kernel
theorem dX7_read_28 : decode cX7_read 28 = .ok (.putfield 40, 3) := by decide +kernel
theorem dX7_read_31 : decode cX7_read 31 = .ok (.iconst 0, 1) := by decide +kernel
theorem dX7_read_32 : decode cX7_read 32 = .ok (.istore_n 2, 1) := by decide +kernel
theorem dX7_read_33 : decode cX7_read 33 = .ok (.iload_n 2, 1) := by decide +kernel
theorem dX7_read_34 : decode cX7_read 34 = .ok (.bipush 60, 2) := by decide +kernel
theorem dX7_read_36 : decode cX7_read 36 = .ok (.if_icmp .gt 55, 3) := by decide +kernel
theorem dX7_read_39 : decode cX7_read 39 = .ok (.aload_n 1, 1) := by decide +kernel
theorem dX7_read_40 : decode cX7_read 40 = .ok (.invokevirtual 63, 3) := by decide +kernel
theorem dX7_read_43 : decode cX7_read 43 = .ok (.ifCond .eq 5, 3) := by decide +kernel
theorem dX7_read_46 : decode cX7_read 46 = .ok (.iconst 1, 1) := by decide +kernel
theorem dX7_read_47 : decode cX7_read 47 = .ok (.ireturn, 1) := by decide +kernel
theorem dX7_read_48 : decode cX7_read 48 = .ok (.aload_n 1, 1) := by decide +kernel
theorem dX7_read_49 : decode cX7_read 49 = .ok (.invokevirtual 69, 3) := by decide +kernel
theorem dX7_read_52 : decode cX7_read 52 = .ok (.ifCond .eq 31, 3) := by decide +kernel
theorem dX7_read_55 : decode cX7_read 55 = .ok (.aload_n 0, 1) := by decide +kernel
theorem dX7_read_56 : decode cX7_read 56 = .ok (.aload_n 1, 1) := by decide +kernel
theorem dX7_read_57 : decode cX7_read 57 = .ok (.iload_n 2, 1) := by decide +kernel
theorem dX7_read_58 : decode cX7_read 58 = .ok (.bipush 60, 2) := by decide +kernel
theorem dX7_read_60 : decode cX7_read 60 = .ok (.if_icmp .ne 7, 3) := by decide +kernel
theorem dX7_read_63 : decode cX7_read 63 = .ok (.iconst 1, 1) := by decide +kernel
theorem dX7_read_64 : decode cX7_read 64 = .ok (.goto 4, 3) := by decide +kernel
theorem dX7_read_67 : decode cX7_read 67 = .ok (.iconst 0, 1) := by decide +kernel
theorem dX7_read_68 : decode cX7_read 68 = .ok (.invokevirtual 72, 3) := by decide +kernel
theorem dX7_read_71 : decode cX7_read 71 = .ok (.ifCond .eq 12, 3) := by decide +kernel
theorem dX7_read_74 : decode cX7_read 74 = .ok (.aload_n 1, 1) := by decide +kernel
theorem dX7_read_75 : decode cX7_read 75 = .ok (.bipush 59, 2) := by decide +kernel
theorem dX7_read_77 : decode cX7_read 77 = .ok (.invokevirtual 76, 3) := by decide +kernel
theorem dX7_read_80 : decode cX7_read 80 = .ok (.ifCond .ne 5, 3) := by decide +kernel
theorem dX7_read_83 : decode cX7_read 83 = .ok (.iconst 0, 1) := by decide +kernel
theorem dX7_read_84 : decode cX7_read 84 = .ok (.ireturn, 1) := by decide +kernel
theorem dX7_read_85 : decode cX7_read 85 = .ok (.iinc 2 1, 3) := by decide +kernel
theorem dX7_read_88 : decode cX7_read 88 = .ok (.goto (-55), 3) := by decide +kernel
theorem dX7_read_91 : decode cX7_read 91 = .ok (.iconst 0, 1) := by decide +kernel
theorem dX7_read_92 : decode cX7_read 92 = .ok (.ireturn, 1) := by decide +kernel
theorem dX7_readClause_0 : decode cX7_readClause 0 = .ok (.aload_n 1, 1) := by decide +kernel
theorem dX7_readClause_1 : decode cX7_readClause 1 = .ok (.ldc 80, 2) := by decide +kernel
theorem dX7_readClause_3 : decode cX7_readClause 3 = .ok (.invokevirtual 82, 3) := by decide +kernel
theorem dX7_readClause_6 : decode cX7_readClause 6 = .ok (.ifCond .eq 30, 3) := by decide +kernel
theorem dX7_readClause_9 : decode cX7_readClause 9 = .ok (.iload_n 2, 1) := by decide +kernel
theorem dX7_readClause_10 : decode cX7_readClause 10 = .ok (.ifCond .ne 12, 3) := by decide +kernel
theorem dX7_readClause_13 : decode cX7_readClause 13 = .ok (.aload_n 0, 1) := by decide +kernel
theorem dX7_readClause_14 : decode cX7_readClause 14 = .ok (.getfield 47, 3) := by decide +kernel
theorem dX7_readClause_17 : decode cX7_readClause 17 = .ok (.bipush 6, 2) := by decide +kernel
theorem dX7_readClause_19 : decode cX7_readClause 19 = .ok (.if_icmp .ne 11, 3) := by decide +kernel
theorem dX7_readClause_22 : decode cX7_readClause 22 = .ok (.aload_n 1, 1) := by decide +kernel
theorem dX7_readClause_23 : decode cX7_readClause 23 = .ok (.iconst 3, 1) := by decide +kernel
theorem dX7_readClause_24 : decode cX7_readClause 24 = .ok (.invokevirtual 86, 3) := by decide +kernel
theorem dX7_readClause_27 : decode cX7_readClause 27 = .ok (.goto 8, 3) := by decide +kernel
theorem dX7_readClause_30 : decode cX7_readClause 30 = .ok (.aload_n 0, 1) := by decide +kernel
theorem dX7_readClause_31 : decode cX7_readClause 31 = .ok (.aload_n 1, 1) := by decide +kernel
theorem dX7_readClause_32 : decode cX7_readClause 32 = .ok (.invokevirtual 89, 3) := by decide +kernel
theorem dX7_readClause_35 : decode cX7_readClause 35 = .ok (.ireturn, 1) := by decide +kernel
theorem dX7_readClause_36 : decode cX7_readClause 36 = .ok (.aload_n 1, 1) := by decide +kernel
theorem dX7_readClause_37 : decode cX7_readClause 37 = .ok (.ldc 93, 2) := by decide +kernel
theorem dX7_readClause_39 : decode cX7_readClause 39 = .ok (.invokevirtual 82, 3) := by decide +kernel
theorem dX7_readClause_42 : decode cX7_readClause 42 = .ok (.ifCond .eq 30, 3) := by decide +kernel
theorem dX7_readClause_45 : decode cX7_readClause 45 = .ok (.iload_n 2, 1) := by decide +kernel
theorem dX7_readClause_46 : decode cX7_readClause 46 = .ok (.ifCond .ne 12, 3) := by decide +kernel
theorem dX7_readClause_49 : decode cX7_readClause 49 = .ok (.aload_n 0, 1) := by decide +kernel
theorem dX7_readClause_50 : decode cX7_readClause 50 = .ok (.getfield 50, 3) := by decide +kernel
theorem dX7_readClause_53 : decode cX7_readClause 53 = .ok (.bipush 10, 2) := by decide +kernel
theorem dX7_readClause_55 : decode cX7_readClause 55 = .ok (.if_icmp .ne 11, 3) := by decide +kernel
theorem dX7_readClause_58 : decode cX7_readClause 58 = .ok (.aload_n 1, 1) := by decide +kernel
theorem dX7_readClause_59 : decode cX7_readClause 59 = .ok (.iconst 3, 1) := by decide +kernel
theorem dX7_readClause_60 : decode cX7_readClause 60 = .ok (.invokevirtual 86, 3) := by decide +kernel
theorem dX7_readClause_63 : decode cX7_readClause 63 = .ok (.goto 8, 3) := by decide +kernel
theorem dX7_readClause_66 : decode cX7_readClause 66 = .ok (.aload_n 0, 1) := by decide +kernel
theorem dX7_readClause_67 : decode cX7_readClause 67 = .ok (.aload_n 1, 1) := by decide +kernel
theorem dX7_readClause_68 : decode cX7_readClause 68 = .ok (.invokevirtual 95, 3) := by decide +kernel
theorem dX7_readClause_71 : decode cX7_readClause 71 = .ok (.ireturn, 1) := by decide +kernel
theorem dX7_readClause_72 : decode cX7_readClause 72 = .ok (.aload_n 1, 1) := by decide +kernel
theorem dX7_readClause_73 : decode cX7_readClause 73 = .ok (.ldc 98, 2) := by decide +kernel
theorem dX7_readClause_75 : decode cX7_readClause 75 = .ok (.invokevirtual 82, 3) := by decide +kernel
theorem dX7_readClause_78 : decode cX7_readClause 78 = .ok (.ifCond .eq 30, 3) := by decide +kernel
theorem dX7_readClause_81 : decode cX7_readClause 81 = .ok (.iload_n 2, 1) := by decide +kernel
theorem dX7_readClause_82 : decode cX7_readClause 82 = .ok (.ifCond .ne 12, 3) := by decide +kernel
theorem dX7_readClause_85 : decode cX7_readClause 85 = .ok (.aload_n 0, 1) := by decide +kernel
theorem dX7_readClause_86 : decode cX7_readClause 86 = .ok (.getfield 53, 3) := by decide +kernel
theorem dX7_readClause_89 : decode cX7_readClause 89 = .ok (.bipush 12, 2) := by decide +kernel
theorem dX7_readClause_91 : decode cX7_readClause 91 = .ok (.if_icmp .ne 11, 3) := by decide +kernel
theorem dX7_readClause_94 : decode cX7_readClause 94 = .ok (.aload_n 1, 1) := by decide +kernel
theorem dX7_readClause_95 : decode cX7_readClause 95 = .ok (.iconst 3, 1) := by decide +kernel
theorem dX7_readClause_96 : decode cX7_readClause 96 = .ok (.invokevirtual 86, 3) := by decide +kernel
theorem dX7_readClause_99 : decode cX7_readClause 99 = .ok (.goto 8, 3) := by decide +kernel
theorem dX7_readClause_102 : decode cX7_readClause 102 = .ok (.aload_n 0, 1) := by decide +kernel
theorem dX7_readClause_103 : decode cX7_readClause 103 = .ok (.aload_n 1, 1) := by decide +kernel
theorem dX7_readClause_104 : decode cX7_readClause 104 = .ok (.invokevirtual 100, 3) := by decide +kernel
theorem dX7_readClause_107 : decode cX7_readClause 107 = .ok (.ireturn, 1) := by decide +kernel
theorem dX7_readClause_108 : decode cX7_readClause 108 = .ok (.aload_n 1, 1) := by decide +kernel
theorem dX7_readClause_109 : decode cX7_readClause 109 = .ok (.ldc 103, 2) := by decide +kernel
theorem dX7_readClause_111 : decode cX7_readClause 111 = .ok (.invokevirtual 82, 3) := by decide +kernel
theorem dX7_readClause_114 : decode cX7_readClause 114 = .ok (.ifCond .eq 30, 3) := by decide +kernel
theorem dX7_readClause_117 : decode cX7_readClause 117 = .ok (.iload_n 2, 1) := by decide +kernel
theorem dX7_readClause_118 : decode cX7_readClause 118 = .ok (.ifCond .ne 12, 3) := by decide +kernel
theorem dX7_readClause_121 : decode cX7_readClause 121 = .ok (.aload_n 0, 1) := by decide +kernel
theorem dX7_readClause_122 : decode cX7_readClause 122 = .ok (.getfield 56, 3) := by decide +kernel
theorem dX7_readClause_125 : decode cX7_readClause 125 = .ok (.bipush 6, 2) := by decide +kernel
theorem dX7_readClause_127 : decode cX7_readClause 127 = .ok (.if_icmp .ne 11, 3) := by decide +kernel
theorem dX7_readClause_130 : decode cX7_readClause 130 = .ok (.aload_n 1, 1) := by decide +kernel
theorem dX7_readClause_131 : decode cX7_readClause 131 = .ok (.iconst 3, 1) := by decide +kernel
theorem dX7_readClause_132 : decode cX7_readClause 132 = .ok (.invokevirtual 86, 3) := by decide +kernel
theorem dX7_readClause_135 : decode cX7_readClause 135 = .ok (.goto 8, 3) := by decide +kernel
theorem dX7_readClause_138 : decode cX7_readClause 138 = .ok (.aload_n 0, 1) := by decide +kernel
theorem dX7_readClause_139 : decode cX7_readClause 139 = .ok (.aload_n 1, 1) := by decide +kernel
theorem dX7_readClause_140 : decode cX7_readClause 140 = .ok (.invokevirtual 105, 3) := by decide +kernel
theorem dX7_readClause_143 : decode cX7_readClause 143 = .ok (.ireturn, 1) := by decide +kernel
theorem dX7_readClause_144 : decode cX7_readClause 144 = .ok (.aload_n 1, 1) := by decide +kernel
theorem dX7_readClause_145 : decode cX7_readClause 145 = .ok (.ldc 108, 2) := by decide +kernel
theorem dX7_readClause_147 : decode cX7_readClause 147 = .ok (.invokevirtual 82, 3) := by decide +kernel
theorem dX7_readClause_150 : decode cX7_readClause 150 = .ok (.ifCond .eq 21, 3) := by decide +kernel
theorem dX7_readClause_153 : decode cX7_readClause 153 = .ok (.iload_n 2, 1) := by decide +kernel
theorem dX7_readClause_154 : decode cX7_readClause 154 = .ok (.ifCond .eq 11, 3) := by decide +kernel
theorem dX7_readClause_157 : decode cX7_readClause 157 = .ok (.aload_n 1, 1) := by decide +kernel
theorem dX7_readClause_158 : decode cX7_readClause 158 = .ok (.iconst 3, 1) := by decide +kernel
theorem dX7_readClause_159 : decode cX7_readClause 159 = .ok (.invokevirtual 86, 3) := by decide +kernel
theorem dX7_readClause_162 : decode cX7_readClause 162 = .ok (.goto 8, 3) := by decide +kernel
theorem dX7_readClause_165 : decode cX7_readClause 165 = .ok (.aload_n 0, 1) := by decide +kernel
theorem dX7_readClause_166 : decode cX7_readClause 166 = .ok (.aload_n 1, 1) := by decide +kernel
theorem dX7_readClause_167 : decode cX7_readClause 167 = .ok (.invokevirtual 110, 3) := by decide +kernel
theorem dX7_readClause_170 : decode cX7_readClause 170 = .ok (.ireturn, 1) := by decide +kernel
theorem dX7_readClause_171 : decode cX7_readClause 171 = .ok (.aload_n 1, 1) := by decide +kernel
theorem dX7_readClause_172 : decode cX7_readClause 172 = .ok (.ldc 113, 2) := by decide +kernel
theorem dX7_readClause_174 : decode cX7_readClause 174 = .ok (.invokevirtual 82, 3) := by decide +kernel
theorem dX7_readClause_177 : decode cX7_readClause 177 = .ok (.ifCond .eq 21, 3) := by decide +kernel
theorem dX7_readClause_180 : decode cX7_readClause 180 = .ok (.iload_n 2, 1) := by decide +kernel
theorem dX7_readClause_181 : decode cX7_readClause 181 = .ok (.ifCond .eq 11, 3) := by decide +kernel
theorem dX7_readClause_184 : decode cX7_readClause 184 = .ok (.aload_n 1, 1) := by decide +kernel
theorem dX7_readClause_185 : decode cX7_readClause 185 = .ok (.iconst 3, 1) := by decide +kernel
theorem dX7_readClause_186 : decode cX7_readClause 186 = .ok (.invokevirtual 86, 3) := by decide +kernel
theorem dX7_readClause_189 : decode cX7_readClause 189 = .ok (.goto 8, 3) := by decide +kernel
theorem dX7_readClause_192 : decode cX7_readClause 192 = .ok (.aload_n 0, 1) := by decide +kernel
theorem dX7_readClause_193 : decode cX7_readClause 193 = .ok (.aload_n 1, 1) := by decide +kernel
theorem dX7_readClause_194 : decode cX7_readClause 194 = .ok (.invokevirtual 114, 3) := by decide +kernel
theorem dX7_readClause_197 : decode cX7_readClause 197 = .ok (.ireturn, 1) := by decide +kernel
theorem dX7_readClause_198 : decode cX7_readClause 198 = .ok (.aload_n 1, 1) := by decide +kernel
theorem dX7_readClause_199 : decode cX7_readClause 199 = .ok (.iconst 1, 1) := by decide +kernel
theorem dX7_readClause_200 : decode cX7_readClause 200 = .ok (.invokevirtual 86, 3) := by decide +kernel
theorem dX7_readClause_203 : decode cX7_readClause 203 = .ok (.ireturn, 1) := by decide +kernel
theorem dX7_readInto_0 : decode cX7_readInto 0 = .ok (.aload_n 1, 1) := by decide +kernel
theorem dX7_readInto_1 : decode cX7_readInto 1 = .ok (.iload 4, 2) := by decide +kernel
theorem dX7_readInto_3 : decode cX7_readInto 3 = .ok (.iload 5, 2) := by decide +kernel
theorem dX7_readInto_5 : decode cX7_readInto 5 = .ok (.invokevirtual 117, 3) := by decide +kernel
theorem dX7_readInto_8 : decode cX7_readInto 8 = .ok (.istore 6, 2) := by decide +kernel
theorem dX7_readInto_10 : decode cX7_readInto 10 = .ok (.aload_n 2, 1) := by decide +kernel
theorem dX7_readInto_11 : decode cX7_readInto 11 = .ok (.iload_n 3, 1) := by decide +kernel
theorem dX7_readInto_12 : decode cX7_readInto 12 = .ok (.iload 6, 2) := by decide +kernel
theorem dX7_readInto_14 : decode cX7_readInto 14 = .ok (.invokestatic 121, 3) := by decide +kernel
theorem dX7_readInto_17 : decode cX7_readInto 17 = .ok (.iload 6, 2) := by decide +kernel
theorem dX7_readInto_19 : decode cX7_readInto 19 = .ok (.iconst (-1), 1) := by decide +kernel
theorem dX7_readInto_20 : decode cX7_readInto 20 = .ok (.if_icmp .eq 7, 3) := by decide +kernel
theorem dX7_readInto_23 : decode cX7_readInto 23 = .ok (.iconst 1, 1) := by decide +kernel
theorem dX7_readInto_24 : decode cX7_readInto 24 = .ok (.goto 4, 3) := by decide +kernel
theorem dX7_readInto_27 : decode cX7_readInto 27 = .ok (.iconst 0, 1) := by decide +kernel
theorem dX7_readInto_28 : decode cX7_readInto 28 = .ok (.ireturn, 1) := by decide +kernel
theorem dX7_readHouse_0 : decode cX7_readHouse 0 = .ok (.aload_n 0, 1) := by decide +kernel
theorem dX7_readHouse_1 : decode cX7_readHouse 1 = .ok (.aload_n 1, 1) := by decide +kernel
theorem dX7_readHouse_2 : decode cX7_readHouse 2 = .ok (.aload_n 0, 1) := by decide +kernel
theorem dX7_readHouse_3 : decode cX7_readHouse 3 = .ok (.getfield 9, 3) := by decide +kernel
theorem dX7_readHouse_6 : decode cX7_readHouse 6 = .ok (.aload_n 0, 1) := by decide +kernel
theorem dX7_readHouse_7 : decode cX7_readHouse 7 = .ok (.getfield 47, 3) := by decide +kernel
theorem dX7_readHouse_10 : decode cX7_readHouse 10 = .ok (.iconst 0, 1) := by decide +kernel
theorem dX7_readHouse_11 : decode cX7_readHouse 11 = .ok (.bipush 40, 2) := by decide +kernel
theorem dX7_readHouse_13 : decode cX7_readHouse 13 = .ok (.invokevirtual 125, 3) := by decide +kernel
theorem dX7_readHouse_16 : decode cX7_readHouse 16 = .ok (.istore_n 2, 1) := by decide +kernel
theorem dX7_readHouse_17 : decode cX7_readHouse 17 = .ok (.aload_n 0, 1) := by decide +kernel
theorem dX7_readHouse_18 : decode cX7_readHouse 18 = .ok (.dup, 1) := by decide +kernel
theorem dX7_readHouse_19 : decode cX7_readHouse 19 = .ok (.getfield 47, 3) := by decide +kernel
theorem dX7_readHouse_22 : decode cX7_readHouse 22 = .ok (.iconst 1, 1) := by decide +kernel
theorem dX7_readHouse_23 : decode cX7_readHouse 23 = .ok (.iadd, 1) := by decide +kernel
theorem dX7_readHouse_24 : decode cX7_readHouse 24 = .ok (.putfield 47, 3) := by decide +kernel
theorem dX7_readHouse_27 : decode cX7_readHouse 27 = .ok (.iload_n 2, 1) := by decide +kernel
theorem dX7_readHouse_28 : decode cX7_readHouse 28 = .ok (.ireturn, 1) := by decide +kernel
theorem dX7_readThing_0 : decode cX7_readThing 0 = .ok (.aload_n 0, 1) := by decide +kernel
theorem dX7_readThing_1 : decode cX7_readThing 1 = .ok (.aload_n 1, 1) := by decide +kernel
theorem dX7_readThing_2 : decode cX7_readThing 2 = .ok (.aload_n 0, 1) := by decide +kernel
theorem dX7_readThing_3 : decode cX7_readThing 3 = .ok (.getfield 15, 3) := by decide +kernel
theorem dX7_readThing_6 : decode cX7_readThing 6 = .ok (.aload_n 0, 1) := by decide +kernel
theorem dX7_readThing_7 : decode cX7_readThing 7 = .ok (.getfield 50, 3) := by decide +kernel
theorem dX7_readThing_10 : decode cX7_readThing 10 = .ok (.iconst 0, 1) := by decide +kernel
theorem dX7_readThing_11 : decode cX7_readThing 11 = .ok (.aload_n 0, 1) := by decide +kernel
theorem dX7_readThing_12 : decode cX7_readThing 12 = .ok (.getfield 47, 3) := by decide +kernel
theorem dX7_readThing_15 : decode cX7_readThing 15 = .ok (.iconst 1, 1) := by decide +kernel
theorem dX7_readThing_16 : decode cX7_readThing 16 = .ok (.isub, 1) := by decide +kernel
theorem dX7_readThing_17 : decode cX7_readThing 17 = .ok (.invokevirtual 125, 3) := by decide +kernel
theorem dX7_readThing_20 : decode cX7_readThing 20 = .ok (.ifCond .eq 64, 3) := by decide +kernel
theorem dX7_readThing_23 : decode cX7_readThing 23 = .ok (.aload_n 0, 1) := by decide +kernel
theorem dX7_readThing_24 : decode cX7_readThing 24 = .ok (.aload_n 1, 1) := by decide +kernel
theorem dX7_readThing_25 : decode cX7_readThing 25 = .ok (.aload_n 0, 1) := by decide +kernel
theorem dX7_readThing_26 : decode cX7_readThing 26 = .ok (.getfield 18, 3) := by decide +kernel
theorem dX7_readThing_29 : decode cX7_readThing 29 = .ok (.aload_n 0, 1) := by decide +kernel
theorem dX7_readThing_30 : decode cX7_readThing 30 = .ok (.getfield 50, 3) := by decide +kernel
theorem dX7_readThing_33 : decode cX7_readThing 33 = .ok (.iconst 1, 1) := by decide +kernel
theorem dX7_readThing_34 : decode cX7_readThing 34 = .ok (.bipush 9, 2) := by decide +kernel
theorem dX7_readThing_36 : decode cX7_readThing 36 = .ok (.invokevirtual 125, 3) := by decide +kernel
theorem dX7_readThing_39 : decode cX7_readThing 39 = .ok (.ifCond .eq 45, 3) := by decide +kernel
theorem dX7_readThing_42 : decode cX7_readThing 42 = .ok (.aload_n 0, 1) := by decide +kernel
theorem dX7_readThing_43 : decode cX7_readThing 43 = .ok (.aload_n 1, 1) := by decide +kernel
theorem dX7_readThing_44 : decode cX7_readThing 44 = .ok (.aload_n 0, 1) := by decide +kernel
theorem dX7_readThing_45 : decode cX7_readThing 45 = .ok (.getfield 21, 3) := by decide +kernel
theorem dX7_readThing_48 : decode cX7_readThing 48 = .ok (.aload_n 0, 1) := by decide +kernel
theorem dX7_readThing_49 : decode cX7_readThing 49 = .ok (.getfield 50, 3) := by decide +kernel
theorem dX7_readThing_52 : decode cX7_readThing 52 = .ok (.iconst 1, 1) := by decide +kernel
theorem dX7_readThing_53 : decode cX7_readThing 53 = .ok (.bipush 20, 2) := by decide +kernel
theorem dX7_readThing_55 : decode cX7_readThing 55 = .ok (.invokevirtual 125, 3) := by decide +kernel
theorem dX7_readThing_58 : decode cX7_readThing 58 = .ok (.ifCond .eq 26, 3) := by decide +kernel
theorem dX7_readThing_61 : decode cX7_readThing 61 = .ok (.aload_n 0, 1) := by decide +kernel
theorem dX7_readThing_62 : decode cX7_readThing 62 = .ok (.aload_n 1, 1) := by decide +kernel
theorem dX7_readThing_63 : decode cX7_readThing 63 = .ok (.aload_n 0, 1) := by decide +kernel
theorem dX7_readThing_64 : decode cX7_readThing 64 = .ok (.getfield 24, 3) := by decide +kernel
theorem dX7_readThing_67 : decode cX7_readThing 67 = .ok (.aload_n 0, 1) := by decide +kernel
theorem dX7_readThing_68 : decode cX7_readThing 68 = .ok (.getfield 50, 3) := by decide +kernel
theorem dX7_readThing_71 : decode cX7_readThing 71 = .ok (.iconst 0, 1) := by decide +kernel
theorem dX7_readThing_72 : decode cX7_readThing 72 = .ok (.bipush 40, 2) := by decide +kernel
theorem dX7_readThing_74 : decode cX7_readThing 74 = .ok (.invokevirtual 125, 3) := by decide +kernel
theorem dX7_readThing_77 : decode cX7_readThing 77 = .ok (.ifCond .eq 7, 3) := by decide +kernel
theorem dX7_readThing_80 : decode cX7_readThing 80 = .ok (.iconst 1, 1) := by decide +kernel
theorem dX7_readThing_81 : decode cX7_readThing 81 = .ok (.goto 4, 3) := by decide +kernel
theorem dX7_readThing_84 : decode cX7_readThing 84 = .ok (.iconst 0, 1) := by decide +kernel
theorem dX7_readThing_85 : decode cX7_readThing 85 = .ok (.istore_n 2, 1) := by decide +kernel
theorem dX7_readThing_86 : decode cX7_readThing 86 = .ok (.aload_n 0, 1) := by decide +kernel
theorem dX7_readThing_87 : decode cX7_readThing 87 = .ok (.dup, 1) := by decide +kernel
theorem dX7_readThing_88 : decode cX7_readThing 88 = .ok (.getfield 50, 3) := by decide +kernel
theorem dX7_readThing_91 : decode cX7_readThing 91 = .ok (.iconst 1, 1) := by decide +kernel
theorem dX7_readThing_92 : decode cX7_readThing 92 = .ok (.iadd, 1) := by decide +kernel
theorem dX7_readThing_93 : decode cX7_readThing 93 = .ok (.putfield 50, 3) := by decide +kernel
theorem dX7_readThing_96 : decode cX7_readThing 96 = .ok (.iload_n 2, 1) := by decide +kernel
theorem dX7_readThing_97 : decode cX7_readThing 97 = .ok (.ireturn, 1) := by decide +kernel
theorem dX7_readTide_0 : decode cX7_readTide 0 = .ok (.aload_n 0, 1) := by decide +kernel
theorem dX7_readTide_1 : decode cX7_readTide 1 = .ok (.aload_n 1, 1) := by decide +kernel
theorem dX7_readTide_2 : decode cX7_readTide 2 = .ok (.aload_n 0, 1) := by decide +kernel
theorem dX7_readTide_3 : decode cX7_readTide 3 = .ok (.getfield 27, 3) := by decide +kernel
theorem dX7_readTide_6 : decode cX7_readTide 6 = .ok (.aload_n 0, 1) := by decide +kernel
theorem dX7_readTide_7 : decode cX7_readTide 7 = .ok (.getfield 53, 3) := by decide +kernel
theorem dX7_readTide_10 : decode cX7_readTide 10 = .ok (.iconst 0, 1) := by decide +kernel
theorem dX7_readTide_11 : decode cX7_readTide 11 = .ok (.bipush 60, 2) := by decide +kernel
theorem dX7_readTide_13 : decode cX7_readTide 13 = .ok (.invokevirtual 125, 3) := by decide +kernel
theorem dX7_readTide_16 : decode cX7_readTide 16 = .ok (.istore_n 2, 1) := by decide +kernel
theorem dX7_readTide_17 : decode cX7_readTide 17 = .ok (.aload_n 0, 1) := by decide +kernel
theorem dX7_readTide_18 : decode cX7_readTide 18 = .ok (.dup, 1) := by decide +kernel
theorem dX7_readTide_19 : decode cX7_readTide 19 = .ok (.getfield 53, 3) := by decide +kernel
theorem dX7_readTide_22 : decode cX7_readTide 22 = .ok (.iconst 1, 1) := by decide +kernel
theorem dX7_readTide_23 : decode cX7_readTide 23 = .ok (.iadd, 1) := by decide +kernel
theorem dX7_readTide_24 : decode cX7_readTide 24 = .ok (.putfield 53, 3) := by decide +kernel
theorem dX7_readTide_27 : decode cX7_readTide 27 = .ok (.iload_n 2, 1) := by decide +kernel
theorem dX7_readTide_28 : decode cX7_readTide 28 = .ok (.ireturn, 1) := by decide +kernel
theorem dX7_readFind_0 : decode cX7_readFind 0 = .ok (.aload_n 0, 1) := by decide +kernel
theorem dX7_readFind_1 : decode cX7_readFind 1 = .ok (.aload_n 1, 1) := by decide +kernel
theorem dX7_readFind_2 : decode cX7_readFind 2 = .ok (.aload_n 0, 1) := by decide +kernel
theorem dX7_readFind_3 : decode cX7_readFind 3 = .ok (.getfield 30, 3) := by decide +kernel
theorem dX7_readFind_6 : decode cX7_readFind 6 = .ok (.aload_n 0, 1) := by decide +kernel
theorem dX7_readFind_7 : decode cX7_readFind 7 = .ok (.getfield 56, 3) := by decide +kernel
theorem dX7_readFind_10 : decode cX7_readFind 10 = .ok (.iconst 1, 1) := by decide +kernel
theorem dX7_readFind_11 : decode cX7_readFind 11 = .ok (.bipush 40, 2) := by decide +kernel
theorem dX7_readFind_13 : decode cX7_readFind 13 = .ok (.invokevirtual 125, 3) := by decide +kernel
theorem dX7_readFind_16 : decode cX7_readFind 16 = .ok (.ifCond .eq 26, 3) := by decide +kernel
theorem dX7_readFind_19 : decode cX7_readFind 19 = .ok (.aload_n 0, 1) := by decide +kernel
theorem dX7_readFind_20 : decode cX7_readFind 20 = .ok (.aload_n 1, 1) := by decide +kernel
theorem dX7_readFind_21 : decode cX7_readFind 21 = .ok (.aload_n 0, 1) := by decide +kernel
theorem dX7_readFind_22 : decode cX7_readFind 22 = .ok (.getfield 33, 3) := by decide +kernel
theorem dX7_readFind_25 : decode cX7_readFind 25 = .ok (.aload_n 0, 1) := by decide +kernel
theorem dX7_readFind_26 : decode cX7_readFind 26 = .ok (.getfield 56, 3) := by decide +kernel
theorem dX7_readFind_29 : decode cX7_readFind 29 = .ok (.iconst 0, 1) := by decide +kernel
theorem dX7_readFind_30 : decode cX7_readFind 30 = .ok (.bipush 16, 2) := by decide +kernel
theorem dX7_readFind_32 : decode cX7_readFind 32 = .ok (.invokevirtual 125, 3) := by decide +kernel
theorem dX7_readFind_35 : decode cX7_readFind 35 = .ok (.ifCond .eq 7, 3) := by decide +kernel
theorem dX7_readFind_38 : decode cX7_readFind 38 = .ok (.iconst 1, 1) := by decide +kernel
theorem dX7_readFind_39 : decode cX7_readFind 39 = .ok (.goto 4, 3) := by decide +kernel
theorem dX7_readFind_42 : decode cX7_readFind 42 = .ok (.iconst 0, 1) := by decide +kernel
theorem dX7_readFind_43 : decode cX7_readFind 43 = .ok (.istore_n 2, 1) := by decide +kernel
theorem dX7_readFind_44 : decode cX7_readFind 44 = .ok (.aload_n 0, 1) := by decide +kernel
theorem dX7_readFind_45 : decode cX7_readFind 45 = .ok (.dup, 1) := by decide +kernel
theorem dX7_readFind_46 : decode cX7_readFind 46 = .ok (.getfield 56, 3) := by decide +kernel
theorem dX7_readFind_49 : decode cX7_readFind 49 = .ok (.iconst 1, 1) := by decide +kernel
theorem dX7_readFind_50 : decode cX7_readFind 50 = .ok (.iadd, 1) := by decide +kernel
theorem dX7_readFind_51 : decode cX7_readFind 51 = .ok (.putfield 56, 3) := by decide +kernel
theorem dX7_readFind_54 : decode cX7_readFind 54 = .ok (.iload_n 2, 1) := by decide +kernel
theorem dX7_readFind_55 : decode cX7_readFind 55 = .ok (.ireturn, 1) := by decide +kernel
theorem dX7_readRent_0 : decode cX7_readRent 0 = .ok (.aload_n 0, 1) := by decide +kernel
theorem dX7_readRent_1 : decode cX7_readRent 1 = .ok (.aload_n 1, 1) := by decide +kernel
theorem dX7_readRent_2 : decode cX7_readRent 2 = .ok (.iconst 0, 1) := by decide +kernel
theorem dX7_readRent_3 : decode cX7_readRent 3 = .ok (.bipush 40, 2) := by decide +kernel
theorem dX7_readRent_5 : decode cX7_readRent 5 = .ok (.invokevirtual 117, 3) := by decide +kernel
theorem dX7_readRent_8 : decode cX7_readRent 8 = .ok (.putfield 36, 3) := by decide +kernel
theorem dX7_readRent_11 : decode cX7_readRent 11 = .ok (.aload_n 0, 1) := by decide +kernel
theorem dX7_readRent_12 : decode cX7_readRent 12 = .ok (.getfield 36, 3) := by decide +kernel
theorem dX7_readRent_15 : decode cX7_readRent 15 = .ok (.iconst (-1), 1) := by decide +kernel
theorem dX7_readRent_16 : decode cX7_readRent 16 = .ok (.if_icmp .eq 7, 3) := by decide +kernel
theorem dX7_readRent_19 : decode cX7_readRent 19 = .ok (.iconst 1, 1) := by decide +kernel
theorem dX7_readRent_20 : decode cX7_readRent 20 = .ok (.goto 4, 3) := by decide +kernel
theorem dX7_readRent_23 : decode cX7_readRent 23 = .ok (.iconst 0, 1) := by decide +kernel
theorem dX7_readRent_24 : decode cX7_readRent 24 = .ok (.ireturn, 1) := by decide +kernel
theorem dX7_readRope_0 : decode cX7_readRope 0 = .ok (.aload_n 0, 1) := by decide +kernel
theorem dX7_readRope_1 : decode cX7_readRope 1 = .ok (.aload_n 1, 1) := by decide +kernel
theorem dX7_readRope_2 : decode cX7_readRope 2 = .ok (.iconst 1, 1) := by decide +kernel
theorem dX7_readRope_3 : decode cX7_readRope 3 = .ok (.bipush 9, 2) := by decide +kernel
theorem dX7_readRope_5 : decode cX7_readRope 5 = .ok (.invokevirtual 117, 3) := by decide +kernel
theorem dX7_readRope_8 : decode cX7_readRope 8 = .ok (.putfield 40, 3) := by decide +kernel
theorem dX7_readRope_11 : decode cX7_readRope 11 = .ok (.aload_n 0, 1) := by decide +kernel
theorem dX7_readRope_12 : decode cX7_readRope 12 = .ok (.getfield 40, 3) := by decide +kernel
theorem dX7_readRope_15 : decode cX7_readRope 15 = .ok (.iconst (-1), 1) := by decide +kernel
theorem dX7_readRope_16 : decode cX7_readRope 16 = .ok (.if_icmp .eq 7, 3) := by decide +kernel
theorem dX7_readRope_19 : decode cX7_readRope 19 = .ok (.iconst 1, 1) := by decide +kernel
theorem dX7_readRope_20 : decode cX7_readRope 20 = .ok (.goto 4, 3) := by decide +kernel
theorem dX7_readRope_23 : decode cX7_readRope 23 = .ok (.iconst 0, 1) := by decide +kernel
theorem dX7_readRope_24 : decode cX7_readRope 24 = .ok (.ireturn, 1) := by decide +kernel
theorem dX8_init_0 : decode cX8_init 0 = .ok (.aload_n 0, 1) := by decide +kernel
theorem dX8_init_1 : decode cX8_init 1 = .ok (.invokespecial 3, 3) := by decide +kernel
theorem dX8_init_4 : decode cX8_init 4 = .ok (.aload_n 0, 1) := by decide +kernel
theorem dX8_init_5 : decode cX8_init 5 = .ok (.sipush 600, 3) := by decide +kernel
theorem dX8_init_8 : decode cX8_init 8 = .ok (.newarray .int, 2) := by decide +kernel
theorem dX8_init_10 : decode cX8_init 10 = .ok (.putfield 9, 3) := by decide +kernel
theorem dX8_init_13 : decode cX8_init 13 = .ok (.aload_n 0, 1) := by decide +kernel
theorem dX8_init_14 : decode cX8_init 14 = .ok (.iconst (-1), 1) := by decide +kernel
theorem dX8_init_15 : decode cX8_init 15 = .ok (.putfield 15, 3) := by decide +kernel
theorem dX8_init_18 : decode cX8_init 18 = .ok (.return_, 1) := by decide +kernel
theorem dX8_hasRoom_0 : decode cX8_hasRoom 0 = .ok (.aload_n 0, 1) := by decide +kernel
theorem dX8_hasRoom_1 : decode cX8_hasRoom 1 = .ok (.getfield 19, 3) := by decide +kernel
theorem dX8_hasRoom_4 : decode cX8_hasRoom 4 = .ok (.iload_n 1, 1) := by decide +kernel
theorem dX8_hasRoom_5 : decode cX8_hasRoom 5 = .ok (.iadd, 1) := by decide +kernel
theorem dX8_hasRoom_6 : decode cX8_hasRoom 6 = .ok (.sipush 600, 3) := by decide +kernel
theorem dX8_hasRoom_9 : decode cX8_hasRoom 9 = .ok (.if_icmp .gt 7, 3) := by decide +kernel
theorem dX8_hasRoom_12 : decode cX8_hasRoom 12 = .ok (.iconst 1, 1) := by decide +kernel
theorem dX8_hasRoom_13 : decode cX8_hasRoom 13 = .ok (.goto 4, 3) := by decide +kernel
theorem dX8_hasRoom_16 : decode cX8_hasRoom 16 = .ok (.iconst 0, 1) := by decide +kernel
theorem dX8_hasRoom_17 : decode cX8_hasRoom 17 = .ok (.ireturn, 1) := by decide +kernel
theorem dX8_addNumber_0 : decode cX8_addNumber 0 = .ok (.bipush 24, 2) := by decide +kernel
theorem dX8_addNumber_2 : decode cX8_addNumber 2 = .ok (.istore_n 2, 1) := by decide +kernel
theorem dX8_addNumber_3 : decode cX8_addNumber 3 = .ok (.iload_n 2, 1) := by decide +kernel
theorem dX8_addNumber_4 : decode cX8_addNumber 4 = .ok (.ifCond .lt 37, 3) := by decide +kernel
theorem dX8_addNumber_7 : decode cX8_addNumber 7 = .ok (.aload_n 0, 1) := by decide +kernel
theorem dX8_addNumber_8 : decode cX8_addNumber 8 = .ok (.getfield 9, 3) := by decide +kernel
theorem dX8_addNumber_11 : decode cX8_addNumber 11 = .ok (.aload_n 0, 1) := by decide +kernel
theorem dX8_addNumber_12 : decode cX8_addNumber 12 = .ok (.getfield 19, 3) := by decide +kernel
theorem dX8_addNumber_15 : decode cX8_addNumber 15 = .ok (.iload_n 1, 1) := by decide +kernel
theorem dX8_addNumber_16 : decode cX8_addNumber 16 = .ok (.iload_n 2, 1) := by decide +kernel
theorem dX8_addNumber_17 : decode cX8_addNumber 17 = .ok (.ishr, 1) := by decide +kernel
theorem dX8_addNumber_18 : decode cX8_addNumber 18 = .ok (.sipush 255, 3) := by decide +kernel
theorem dX8_addNumber_21 : decode cX8_addNumber 21 = .ok (.iand, 1) := by decide +kernel
theorem dX8_addNumber_22 : decode cX8_addNumber 22 = .ok (.invokestatic 22, 3) := by decide +kernel
theorem dX8_addNumber_25 : decode cX8_addNumber 25 = .ok (.aload_n 0, 1) := by decide +kernel
theorem dX8_addNumber_26 : decode cX8_addNumber 26 = .ok (.dup, 1) := by decide +kernel
theorem dX8_addNumber_27 : decode cX8_addNumber 27 = .ok (.getfield 19, 3) := by decide +kernel
theorem dX8_addNumber_30 : decode cX8_addNumber 30 = .ok (.iconst 1, 1) := by decide +kernel
theorem dX8_addNumber_31 : decode cX8_addNumber 31 = .ok (.iadd, 1) := by decide +kernel
theorem dX8_addNumber_32 : decode cX8_addNumber 32 = .ok (.putfield 19, 3) := by decide +kernel
theorem dX8_addNumber_35 : decode cX8_addNumber 35 = .ok (.iinc 2 (-8), 3) := by decide +kernel
theorem dX8_addNumber_38 : decode cX8_addNumber 38 = .ok (.goto (-35), 3) := by decide +kernel
theorem dX8_addNumber_41 : decode cX8_addNumber 41 = .ok (.return_, 1) := by decide +kernel
theorem dX8_begin_0 : decode cX8_begin 0 = .ok (.aload_n 0, 1) := by decide +kernel
theorem dX8_begin_1 : decode cX8_begin 1 = .ok (.iload_n 1, 1) := by decide +kernel
theorem dX8_begin_2 : decode cX8_begin 2 = .ok (.putfield 26, 3) := by decide +kernel
theorem dX8_begin_5 : decode cX8_begin 5 = .ok (.aload_n 0, 1) := by decide +kernel
theorem dX8_begin_6 : decode cX8_begin 6 = .ok (.iconst 0, 1) := by decide +kernel
theorem dX8_begin_7 : decode cX8_begin 7 = .ok (.putfield 19, 3) := by decide +kernel
theorem dX8_begin_10 : decode cX8_begin 10 = .ok (.aload_n 0, 1) := by decide +kernel
theorem dX8_begin_11 : decode cX8_begin 11 = .ok (.iconst 0, 1) := by decide +kernel
theorem dX8_begin_12 : decode cX8_begin 12 = .ok (.putfield 29, 3) := by decide +kernel
theorem dX8_begin_15 : decode cX8_begin 15 = .ok (.aload_n 0, 1) := by decide +kernel
theorem dX8_begin_16 : decode cX8_begin 16 = .ok (.iconst 0, 1) := by decide +kernel
theorem dX8_begin_17 : decode cX8_begin 17 = .ok (.putfield 32, 3) := by decide +kernel
theorem dX8_begin_20 : decode cX8_begin 20 = .ok (.aload_n 0, 1) := by decide +kernel
theorem dX8_begin_21 : decode cX8_begin 21 = .ok (.iconst 0, 1) := by decide +kernel
theorem dX8_begin_22 : decode cX8_begin 22 = .ok (.putfield 35, 3) := by decide +kernel
theorem dX8_begin_25 : decode cX8_begin 25 = .ok (.aload_n 0, 1) := by decide +kernel
theorem dX8_begin_26 : decode cX8_begin 26 = .ok (.iconst 0, 1) := by decide +kernel
theorem dX8_begin_27 : decode cX8_begin 27 = .ok (.putfield 38, 3) := by decide +kernel
theorem dX8_begin_30 : decode cX8_begin 30 = .ok (.aload_n 0, 1) := by decide +kernel
theorem dX8_begin_31 : decode cX8_begin 31 = .ok (.iconst (-1), 1) := by decide +kernel
theorem dX8_begin_32 : decode cX8_begin 32 = .ok (.putfield 15, 3) := by decide +kernel
theorem dX8_begin_35 : decode cX8_begin 35 = .ok (.return_, 1) := by decide +kernel
theorem dX8_faultAnswer_0 : decode cX8_faultAnswer 0 = .ok (.aload_n 0, 1) := by decide +kernel
theorem dX8_faultAnswer_1 : decode cX8_faultAnswer 1 = .ok (.getfield 38, 3) := by decide +kernel
theorem dX8_faultAnswer_4 : decode cX8_faultAnswer 4 = .ok (.bipush 10, 2) := by decide +kernel
theorem dX8_faultAnswer_6 : decode cX8_faultAnswer 6 = .ok (.isub, 1) := by decide +kernel
theorem dX8_faultAnswer_7 : decode cX8_faultAnswer 7 = .ok (.ireturn, 1) := by decide +kernel
theorem dX8_failHere_0 : decode cX8_failHere 0 = .ok (.aload_n 0, 1) := by decide +kernel
theorem dX8_failHere_1 : decode cX8_failHere 1 = .ok (.iload_n 1, 1) := by decide +kernel
theorem dX8_failHere_2 : decode cX8_failHere 2 = .ok (.putfield 38, 3) := by decide +kernel
theorem dX8_failHere_5 : decode cX8_failHere 5 = .ok (.aload_n 0, 1) := by decide +kernel
theorem dX8_failHere_6 : decode cX8_failHere 6 = .ok (.aload_n 0, 1) := by decide +kernel
theorem dX8_failHere_7 : decode cX8_failHere 7 = .ok (.getfield 29, 3) := by decide +kernel
theorem dX8_failHere_10 : decode cX8_failHere 10 = .ok (.putfield 15, 3) := by decide +kernel
theorem dX8_failHere_13 : decode cX8_failHere 13 = .ok (.iconst 0, 1) := by decide +kernel
theorem dX8_failHere_14 : decode cX8_failHere 14 = .ok (.ireturn, 1) := by decide +kernel
theorem dX8_failToken_0 : decode cX8_failToken 0 = .ok (.aload_n 0, 1) := by decide +kernel
theorem dX8_failToken_1 : decode cX8_failToken 1 = .ok (.iload_n 1, 1) := by decide +kernel
theorem dX8_failToken_2 : decode cX8_failToken 2 = .ok (.putfield 38, 3) := by decide +kernel
theorem dX8_failToken_5 : decode cX8_failToken 5 = .ok (.aload_n 0, 1) := by decide +kernel
theorem dX8_failToken_6 : decode cX8_failToken 6 = .ok (.aload_n 0, 1) := by decide +kernel
theorem dX8_failToken_7 : decode cX8_failToken 7 = .ok (.getfield 32, 3) := by decide +kernel
theorem dX8_failToken_10 : decode cX8_failToken 10 = .ok (.putfield 15, 3) := by decide +kernel
theorem dX8_failToken_13 : decode cX8_failToken 13 = .ok (.iconst 0, 1) := by decide +kernel
theorem dX8_failToken_14 : decode cX8_failToken 14 = .ok (.ireturn, 1) := by decide +kernel
theorem dX8_peek_0 : decode cX8_peek 0 = .ok (.aload_n 0, 1) := by decide +kernel
theorem dX8_peek_1 : decode cX8_peek 1 = .ok (.getfield 26, 3) := by decide +kernel
theorem dX8_peek_4 : decode cX8_peek 4 = .ok (.aload_n 0, 1) := by decide +kernel
theorem dX8_peek_5 : decode cX8_peek 5 = .ok (.getfield 9, 3) := by decide +kernel
theorem dX8_peek_8 : decode cX8_peek 8 = .ok (.arraylength, 1) := by decide +kernel
theorem dX8_peek_9 : decode cX8_peek 9 = .ok (.invokestatic 41, 3) := by decide +kernel
theorem dX8_peek_12 : decode cX8_peek 12 = .ok (.istore_n 1, 1) := by decide +kernel
theorem dX8_peek_13 : decode cX8_peek 13 = .ok (.aload_n 0, 1) := by decide +kernel
theorem dX8_peek_14 : decode cX8_peek 14 = .ok (.getfield 29, 3) := by decide +kernel
theorem dX8_peek_17 : decode cX8_peek 17 = .ok (.ifCond .lt 38, 3) := by decide +kernel
theorem dX8_peek_20 : decode cX8_peek 20 = .ok (.aload_n 0, 1) := by decide +kernel
theorem dX8_peek_21 : decode cX8_peek 21 = .ok (.getfield 29, 3) := by decide +kernel
theorem dX8_peek_24 : decode cX8_peek 24 = .ok (.iload_n 1, 1) := by decide +kernel
theorem dX8_peek_25 : decode cX8_peek 25 = .ok (.if_icmp .ge 30, 3) := by decide +kernel
theorem dX8_peek_28 : decode cX8_peek 28 = .ok (.aload_n 0, 1) := by decide +kernel
theorem dX8_peek_29 : decode cX8_peek 29 = .ok (.getfield 9, 3) := by decide +kernel
theorem dX8_peek_32 : decode cX8_peek 32 = .ok (.aload_n 0, 1) := by decide +kernel
theorem dX8_peek_33 : decode cX8_peek 33 = .ok (.getfield 29, 3) := by decide +kernel
theorem dX8_peek_36 : decode cX8_peek 36 = .ok (.iaload, 1) := by decide +kernel
theorem dX8_peek_37 : decode cX8_peek 37 = .ok (.bipush 32, 2) := by decide +kernel
theorem dX8_peek_39 : decode cX8_peek 39 = .ok (.if_icmp .ne 16, 3) := by decide +kernel
theorem dX8_peek_42 : decode cX8_peek 42 = .ok (.aload_n 0, 1) := by decide +kernel
theorem dX8_peek_43 : decode cX8_peek 43 = .ok (.dup, 1) := by decide +kernel
theorem dX8_peek_44 : decode cX8_peek 44 = .ok (.getfield 29, 3) := by decide +kernel
theorem dX8_peek_47 : decode cX8_peek 47 = .ok (.iconst 1, 1) := by decide +kernel
theorem dX8_peek_48 : decode cX8_peek 48 = .ok (.iadd, 1) := by decide +kernel
theorem dX8_peek_49 : decode cX8_peek 49 = .ok (.putfield 29, 3) := by decide +kernel
theorem dX8_peek_52 : decode cX8_peek 52 = .ok (.goto (-39), 3) := by decide +kernel
theorem dX8_peek_55 : decode cX8_peek 55 = .ok (.aload_n 0, 1) := by decide +kernel
theorem dX8_peek_56 : decode cX8_peek 56 = .ok (.getfield 29, 3) := by decide +kernel
theorem dX8_peek_59 : decode cX8_peek 59 = .ok (.ifCond .lt 23, 3) := by decide +kernel
theorem dX8_peek_62 : decode cX8_peek 62 = .ok (.aload_n 0, 1) := by decide +kernel
theorem dX8_peek_63 : decode cX8_peek 63 = .ok (.getfield 29, 3) := by decide +kernel
theorem dX8_peek_66 : decode cX8_peek 66 = .ok (.iload_n 1, 1) := by decide +kernel
theorem dX8_peek_67 : decode cX8_peek 67 = .ok (.if_icmp .ge 15, 3) := by decide +kernel
theorem dX8_peek_70 : decode cX8_peek 70 = .ok (.aload_n 0, 1) := by decide +kernel
theorem dX8_peek_71 : decode cX8_peek 71 = .ok (.getfield 9, 3) := by decide +kernel
theorem dX8_peek_74 : decode cX8_peek 74 = .ok (.aload_n 0, 1) := by decide +kernel
theorem dX8_peek_75 : decode cX8_peek 75 = .ok (.getfield 29, 3) := by decide +kernel
theorem dX8_peek_78 : decode cX8_peek 78 = .ok (.iaload, 1) := by decide +kernel
theorem dX8_peek_79 : decode cX8_peek 79 = .ok (.goto 4, 3) := by decide +kernel
theorem dX8_peek_82 : decode cX8_peek 82 = .ok (.iconst (-1), 1) := by decide +kernel
theorem dX8_peek_83 : decode cX8_peek 83 = .ok (.ireturn, 1) := by decide +kernel
theorem dX8_isEnded_0 : decode cX8_isEnded 0 = .ok (.aload_n 0, 1) := by decide +kernel
theorem dX8_isEnded_1 : decode cX8_isEnded 1 = .ok (.invokevirtual 47, 3) := by decide +kernel
theorem dX8_isEnded_4 : decode cX8_isEnded 4 = .ok (.iconst (-1), 1) := by decide +kernel
theorem dX8_isEnded_5 : decode cX8_isEnded 5 = .ok (.if_icmp .ne 7, 3) := by decide +kernel
theorem dX8_isEnded_8 : decode cX8_isEnded 8 = .ok (.iconst 1, 1) := by decide +kernel
theorem dX8_isEnded_9 : decode cX8_isEnded 9 = .ok (.goto 4, 3) := by decide +kernel
theorem dX8_isEnded_12 : decode cX8_isEnded 12 = .ok (.iconst 0, 1) := by decide +kernel
theorem dX8_isEnded_13 : decode cX8_isEnded 13 = .ok (.ireturn, 1) := by decide +kernel
theorem dX8_skipSign_0 : decode cX8_skipSign 0 = .ok (.aload_n 0, 1) := by decide +kernel
theorem dX8_skipSign_1 : decode cX8_skipSign 1 = .ok (.dup, 1) := by decide +kernel
theorem dX8_skipSign_2 : decode cX8_skipSign 2 = .ok (.getfield 29, 3) := by decide +kernel
theorem dX8_skipSign_5 : decode cX8_skipSign 5 = .ok (.iconst 1, 1) := by decide +kernel
theorem dX8_skipSign_6 : decode cX8_skipSign 6 = .ok (.iadd, 1) := by decide +kernel
theorem dX8_skipSign_7 : decode cX8_skipSign 7 = .ok (.putfield 29, 3) := by decide +kernel
theorem dX8_skipSign_10 : decode cX8_skipSign 10 = .ok (.return_, 1) := by decide +kernel
theorem dX8_takeSign_0 : decode cX8_takeSign 0 = .ok (.aload_n 0, 1) := by decide +kernel
theorem dX8_takeSign_1 : decode cX8_takeSign 1 = .ok (.invokevirtual 47, 3) := by decide +kernel
theorem dX8_takeSign_4 : decode cX8_takeSign 4 = .ok (.iload_n 1, 1) := by decide +kernel
theorem dX8_takeSign_5 : decode cX8_takeSign 5 = .ok (.if_icmp .eq 9, 3) := by decide +kernel
theorem dX8_takeSign_8 : decode cX8_takeSign 8 = .ok (.aload_n 0, 1) := by decide +kernel
theorem dX8_takeSign_9 : decode cX8_takeSign 9 = .ok (.iconst 1, 1) := by decide +kernel
theorem dX8_takeSign_10 : decode cX8_takeSign 10 = .ok (.invokevirtual 51, 3) := by decide +kernel
theorem dX8_takeSign_13 : decode cX8_takeSign 13 = .ok (.ireturn, 1) := by decide +kernel
theorem dX8_takeSign_14 : decode cX8_takeSign 14 = .ok (.aload_n 0, 1) := by decide +kernel
theorem dX8_takeSign_15 : decode cX8_takeSign 15 = .ok (.dup, 1) := by decide +kernel
theorem dX8_takeSign_16 : decode cX8_takeSign 16 = .ok (.getfield 29, 3) := by decide +kernel
theorem dX8_takeSign_19 : decode cX8_takeSign 19 = .ok (.iconst 1, 1) := by decide +kernel
theorem dX8_takeSign_20 : decode cX8_takeSign 20 = .ok (.iadd, 1) := by decide +kernel
theorem dX8_takeSign_21 : decode cX8_takeSign 21 = .ok (.putfield 29, 3) := by decide +kernel
theorem dX8_takeSign_24 : decode cX8_takeSign 24 = .ok (.iconst 1, 1) := by decide +kernel
theorem dX8_takeSign_25 : decode cX8_takeSign 25 = .ok (.ireturn, 1) := by decide +kernel
theorem dX8_takeNumber_0 : decode cX8_takeNumber 0 = .ok (.aload_n 0, 1) := by decide +kernel
theorem dX8_takeNumber_1 : decode cX8_takeNumber 1 = .ok (.invokevirtual 47, 3) := by decide +kernel
theorem dX8_takeNumber_4 : decode cX8_takeNumber 4 = .ok (.invokestatic 55, 3) := by decide +kernel
theorem dX8_takeNumber_7 : decode cX8_takeNumber 7 = .ok (.ifCond .ne 11, 3) := by decide +kernel
theorem dX8_takeNumber_10 : decode cX8_takeNumber 10 = .ok (.aload_n 0, 1) := by decide +kernel
theorem dX8_takeNumber_11 : decode cX8_takeNumber 11 = .ok (.iconst 1, 1) := by decide +kernel
theorem dX8_takeNumber_12 : decode cX8_takeNumber 12 = .ok (.invokevirtual 51, 3) := by decide +kernel
theorem dX8_takeNumber_15 : decode cX8_takeNumber 15 = .ok (.pop, 1) := by decide +kernel
theorem dX8_takeNumber_16 : decode cX8_takeNumber 16 = .ok (.iconst (-1), 1) := by decide +kernel
theorem dX8_takeNumber_17 : decode cX8_takeNumber 17 = .ok (.ireturn, 1) := by decide +kernel
theorem dX8_takeNumber_18 : decode cX8_takeNumber 18 = .ok (.aload_n 0, 1) := by decide +kernel
theorem dX8_takeNumber_19 : decode cX8_takeNumber 19 = .ok (.aload_n 0, 1) := by decide +kernel
theorem dX8_takeNumber_20 : decode cX8_takeNumber 20 = .ok (.getfield 29, 3) := by decide +kernel
theorem dX8_takeNumber_23 : decode cX8_takeNumber 23 = .ok (.putfield 32, 3) := by decide +kernel
theorem dX8_takeNumber_26 : decode cX8_takeNumber 26 = .ok (.iconst 0, 1) := by decide +kernel
theorem dX8_takeNumber_27 : decode cX8_takeNumber 27 = .ok (.istore_n 3, 1) := by decide +kernel
theorem dX8_takeNumber_28 : decode cX8_takeNumber 28 = .ok (.aload_n 0, 1) := by decide +kernel
theorem dX8_takeNumber_29 : decode cX8_takeNumber 29 = .ok (.getfield 29, 3) := by decide +kernel
theorem dX8_takeNumber_32 : decode cX8_takeNumber 32 = .ok (.aload_n 0, 1) := by decide +kernel
theorem dX8_takeNumber_33 : decode cX8_takeNumber 33 = .ok (.getfield 26, 3) := by decide +kernel
theorem dX8_takeNumber_36 : decode cX8_takeNumber 36 = .ok (.if_icmp .ge 58, 3) := by decide +kernel
theorem dX8_takeNumber_39 : decode cX8_takeNumber 39 = .ok (.aload_n 0, 1) := by decide +kernel
theorem dX8_takeNumber_40 : decode cX8_takeNumber 40 = .ok (.getfield 9, 3) := by decide +kernel
theorem dX8_takeNumber_43 : decode cX8_takeNumber 43 = .ok (.aload_n 0, 1) := by decide +kernel
theorem dX8_takeNumber_44 : decode cX8_takeNumber 44 = .ok (.getfield 29, 3) := by decide +kernel
theorem dX8_takeNumber_47 : decode cX8_takeNumber 47 = .ok (.invokestatic 58, 3) := by decide +kernel
theorem dX8_takeNumber_50 : decode cX8_takeNumber 50 = .ok (.invokestatic 55, 3) := by decide +kernel
theorem dX8_takeNumber_53 : decode cX8_takeNumber 53 = .ok (.ifCond .eq 41, 3) := by decide +kernel
theorem dX8_takeNumber_56 : decode cX8_takeNumber 56 = .ok (.ldc 62, 2) := by decide +kernel
theorem dX8_takeNumber_58 : decode cX8_takeNumber 58 = .ok (.iload_n 3, 1) := by decide +kernel
theorem dX8_takeNumber_59 : decode cX8_takeNumber 59 = .ok (.bipush 10, 2) := by decide +kernel
theorem dX8_takeNumber_61 : decode cX8_takeNumber 61 = .ok (.imul, 1) := by decide +kernel
theorem dX8_takeNumber_62 : decode cX8_takeNumber 62 = .ok (.aload_n 0, 1) := by decide +kernel
theorem dX8_takeNumber_63 : decode cX8_takeNumber 63 = .ok (.getfield 9, 3) := by decide +kernel
theorem dX8_takeNumber_66 : decode cX8_takeNumber 66 = .ok (.aload_n 0, 1) := by decide +kernel
theorem dX8_takeNumber_67 : decode cX8_takeNumber 67 = .ok (.getfield 29, 3) := by decide +kernel
theorem dX8_takeNumber_70 : decode cX8_takeNumber 70 = .ok (.invokestatic 58, 3) := by decide +kernel
theorem dX8_takeNumber_73 : decode cX8_takeNumber 73 = .ok (.iadd, 1) := by decide +kernel
theorem dX8_takeNumber_74 : decode cX8_takeNumber 74 = .ok (.bipush 48, 2) := by decide +kernel
theorem dX8_takeNumber_76 : decode cX8_takeNumber 76 = .ok (.isub, 1) := by decide +kernel
theorem dX8_takeNumber_77 : decode cX8_takeNumber 77 = .ok (.invokestatic 41, 3) := by decide +kernel
theorem dX8_takeNumber_80 : decode cX8_takeNumber 80 = .ok (.istore_n 3, 1) := by decide +kernel
theorem dX8_takeNumber_81 : decode cX8_takeNumber 81 = .ok (.aload_n 0, 1) := by decide +kernel
theorem dX8_takeNumber_82 : decode cX8_takeNumber 82 = .ok (.dup, 1) := by decide +kernel
theorem dX8_takeNumber_83 : decode cX8_takeNumber 83 = .ok (.getfield 29, 3) := by decide +kernel
theorem dX8_takeNumber_86 : decode cX8_takeNumber 86 = .ok (.iconst 1, 1) := by decide +kernel
theorem dX8_takeNumber_87 : decode cX8_takeNumber 87 = .ok (.iadd, 1) := by decide +kernel
theorem dX8_takeNumber_88 : decode cX8_takeNumber 88 = .ok (.putfield 29, 3) := by decide +kernel
theorem dX8_takeNumber_91 : decode cX8_takeNumber 91 = .ok (.goto (-63), 3) := by decide +kernel
theorem dX8_takeNumber_94 : decode cX8_takeNumber 94 = .ok (.aload_n 0, 1) := by decide +kernel
theorem dX8_takeNumber_95 : decode cX8_takeNumber 95 = .ok (.aload_n 0, 1) := by decide +kernel
theorem dX8_takeNumber_96 : decode cX8_takeNumber 96 = .ok (.getfield 29, 3) := by decide +kernel
theorem dX8_takeNumber_99 : decode cX8_takeNumber 99 = .ok (.putfield 35, 3) := by decide +kernel
theorem dX8_takeNumber_102 : decode cX8_takeNumber 102 = .ok (.iload_n 3, 1) := by decide +kernel
theorem dX8_takeNumber_103 : decode cX8_takeNumber 103 = .ok (.iload_n 1, 1) := by decide +kernel
theorem dX8_takeNumber_104 : decode cX8_takeNumber 104 = .ok (.if_icmp .lt 8, 3) := by decide +kernel
theorem dX8_takeNumber_107 : decode cX8_takeNumber 107 = .ok (.iload_n 3, 1) := by decide +kernel
theorem dX8_takeNumber_108 : decode cX8_takeNumber 108 = .ok (.iload_n 2, 1) := by decide +kernel
theorem dX8_takeNumber_109 : decode cX8_takeNumber 109 = .ok (.if_icmp .le 11, 3) := by decide +kernel
theorem dX8_takeNumber_112 : decode cX8_takeNumber 112 = .ok (.aload_n 0, 1) := by decide +kernel
theorem dX8_takeNumber_113 : decode cX8_takeNumber 113 = .ok (.iconst 2, 1) := by decide +kernel
theorem dX8_takeNumber_114 : decode cX8_takeNumber 114 = .ok (.invokevirtual 63, 3) := by decide +kernel
theorem dX8_takeNumber_117 : decode cX8_takeNumber 117 = .ok (.pop, 1) := by decide +kernel
theorem dX8_takeNumber_118 : decode cX8_takeNumber 118 = .ok (.iconst (-1), 1) := by decide +kernel
theorem dX8_takeNumber_119 : decode cX8_takeNumber 119 = .ok (.ireturn, 1) := by decide +kernel
theorem dX8_takeNumber_120 : decode cX8_takeNumber 120 = .ok (.iload_n 3, 1) := by decide +kernel
theorem dX8_takeNumber_121 : decode cX8_takeNumber 121 = .ok (.ireturn, 1) := by decide +kernel
theorem dX8_takeWord_0 : decode cX8_takeWord 0 = .ok (.aload_n 0, 1) := by decide +kernel
theorem dX8_takeWord_1 : decode cX8_takeWord 1 = .ok (.invokevirtual 47, 3) := by decide +kernel
theorem dX8_takeWord_4 : decode cX8_takeWord 4 = .ok (.invokestatic 66, 3) := by decide +kernel
theorem dX8_takeWord_7 : decode cX8_takeWord 7 = .ok (.ifCond .ne 9, 3) := by decide +kernel
theorem dX8_takeWord_10 : decode cX8_takeWord 10 = .ok (.aload_n 0, 1) := by decide +kernel
theorem dX8_takeWord_11 : decode cX8_takeWord 11 = .ok (.iconst 1, 1) := by decide +kernel
theorem dX8_takeWord_12 : decode cX8_takeWord 12 = .ok (.invokevirtual 51, 3) := by decide +kernel
theorem dX8_takeWord_15 : decode cX8_takeWord 15 = .ok (.ireturn, 1) := by decide +kernel
theorem dX8_takeWord_16 : decode cX8_takeWord 16 = .ok (.aload_n 0, 1) := by decide +kernel
theorem dX8_takeWord_17 : decode cX8_takeWord 17 = .ok (.aload_n 0, 1) := by decide +kernel
theorem dX8_takeWord_18 : decode cX8_takeWord 18 = .ok (.getfield 29, 3) := by decide +kernel
theorem dX8_takeWord_21 : decode cX8_takeWord 21 = .ok (.putfield 32, 3) := by decide +kernel
theorem dX8_takeWord_24 : decode cX8_takeWord 24 = .ok (.aload_n 0, 1) := by decide +kernel
theorem dX8_takeWord_25 : decode cX8_takeWord 25 = .ok (.getfield 29, 3) := by decide +kernel
theorem dX8_takeWord_28 : decode cX8_takeWord 28 = .ok (.aload_n 0, 1) := by decide +kernel
theorem dX8_takeWord_29 : decode cX8_takeWord 29 = .ok (.getfield 26, 3) := by decide +kernel
theorem dX8_takeWord_32 : decode cX8_takeWord 32 = .ok (.if_icmp .ge 33, 3) := by decide +kernel
theorem dX8_takeWord_35 : decode cX8_takeWord 35 = .ok (.aload_n 0, 1) := by decide +kernel
theorem dX8_takeWord_36 : decode cX8_takeWord 36 = .ok (.getfield 9, 3) := by decide +kernel
theorem dX8_takeWord_39 : decode cX8_takeWord 39 = .ok (.aload_n 0, 1) := by decide +kernel
theorem dX8_takeWord_40 : decode cX8_takeWord 40 = .ok (.getfield 29, 3) := by decide +kernel
theorem dX8_takeWord_43 : decode cX8_takeWord 43 = .ok (.invokestatic 58, 3) := by decide +kernel
theorem dX8_takeWord_46 : decode cX8_takeWord 46 = .ok (.invokestatic 66, 3) := by decide +kernel
theorem dX8_takeWord_49 : decode cX8_takeWord 49 = .ok (.ifCond .eq 16, 3) := by decide +kernel
theorem dX8_takeWord_52 : decode cX8_takeWord 52 = .ok (.aload_n 0, 1) := by decide +kernel
theorem dX8_takeWord_53 : decode cX8_takeWord 53 = .ok (.dup, 1) := by decide +kernel
theorem dX8_takeWord_54 : decode cX8_takeWord 54 = .ok (.getfield 29, 3) := by decide +kernel
theorem dX8_takeWord_57 : decode cX8_takeWord 57 = .ok (.iconst 1, 1) := by decide +kernel
theorem dX8_takeWord_58 : decode cX8_takeWord 58 = .ok (.iadd, 1) := by decide +kernel
theorem dX8_takeWord_59 : decode cX8_takeWord 59 = .ok (.putfield 29, 3) := by decide +kernel
theorem dX8_takeWord_62 : decode cX8_takeWord 62 = .ok (.goto (-38), 3) := by decide +kernel
theorem dX8_takeWord_65 : decode cX8_takeWord 65 = .ok (.aload_n 0, 1) := by decide +kernel
theorem dX8_takeWord_66 : decode cX8_takeWord 66 = .ok (.aload_n 0, 1) := by decide +kernel
theorem dX8_takeWord_67 : decode cX8_takeWord 67 = .ok (.getfield 29, 3) := by decide +kernel
theorem dX8_takeWord_70 : decode cX8_takeWord 70 = .ok (.putfield 35, 3) := by decide +kernel
theorem dX8_takeWord_73 : decode cX8_takeWord 73 = .ok (.iconst 1, 1) := by decide +kernel
theorem dX8_takeWord_74 : decode cX8_takeWord 74 = .ok (.ireturn, 1) := by decide +kernel
theorem dX8_isWord_0 : decode cX8_isWord 0 = .ok (.aload_n 0, 1) := by decide +kernel
theorem dX8_isWord_1 : decode cX8_isWord 1 = .ok (.getfield 35, 3) := by decide +kernel
theorem dX8_isWord_4 : decode cX8_isWord 4 = .ok (.aload_n 0, 1) := by decide +kernel
theorem dX8_isWord_5 : decode cX8_isWord 5 = .ok (.getfield 32, 3) := by decide +kernel
theorem dX8_isWord_8 : decode cX8_isWord 8 = .ok (.isub, 1) := by decide +kernel
theorem dX8_isWord_9 : decode cX8_isWord 9 = .ok (.aload_n 1, 1) := by decide +kernel
theorem dX8_isWord_10 : decode cX8_isWord 10 = .ok (.invokevirtual 69, 3) := by decide +kernel
theorem dX8_isWord_13 : decode cX8_isWord 13 = .ok (.if_icmp .eq 5, 3) := by decide +kernel
theorem dX8_isWord_16 : decode cX8_isWord 16 = .ok (.iconst 0, 1) := by decide +kernel
theorem dX8_isWord_17 : decode cX8_isWord 17 = .ok (.ireturn, 1) := by decide +kernel
theorem dX8_isWord_18 : decode cX8_isWord 18 = .ok (.iconst 0, 1) := by decide +kernel
theorem dX8_isWord_19 : decode cX8_isWord 19 = .ok (.istore_n 2, 1) := by decide +kernel
theorem dX8_isWord_20 : decode cX8_isWord 20 = .ok (.iload_n 2, 1) := by decide +kernel
theorem dX8_isWord_21 : decode cX8_isWord 21 = .ok (.aload_n 1, 1) := by decide +kernel
theorem dX8_isWord_22 : decode cX8_isWord 22 = .ok (.invokevirtual 69, 3) := by decide +kernel
theorem dX8_isWord_25 : decode cX8_isWord 25 = .ok (.if_icmp .ge 45, 3) := by decide +kernel
theorem dX8_isWord_28 : decode cX8_isWord 28 = .ok (.aload_n 0, 1) := by decide +kernel
theorem dX8_isWord_29 : decode cX8_isWord 29 = .ok (.getfield 32, 3) := by decide +kernel
theorem dX8_isWord_32 : decode cX8_isWord 32 = .ok (.iload_n 2, 1) := by decide +kernel
theorem dX8_isWord_33 : decode cX8_isWord 33 = .ok (.iadd, 1) := by decide +kernel
theorem dX8_isWord_34 : decode cX8_isWord 34 = .ok (.istore_n 3, 1) := by decide +kernel
theorem dX8_isWord_35 : decode cX8_isWord 35 = .ok (.iload_n 3, 1) := by decide +kernel
theorem dX8_isWord_36 : decode cX8_isWord 36 = .ok (.ifCond .lt 26, 3) := by decide +kernel
theorem dX8_isWord_39 : decode cX8_isWord 39 = .ok (.iload_n 3, 1) := by decide +kernel
theorem dX8_isWord_40 : decode cX8_isWord 40 = .ok (.aload_n 0, 1) := by decide +kernel
theorem dX8_isWord_41 : decode cX8_isWord 41 = .ok (.getfield 9, 3) := by decide +kernel
theorem dX8_isWord_44 : decode cX8_isWord 44 = .ok (.arraylength, 1) := by decide +kernel
theorem dX8_isWord_45 : decode cX8_isWord 45 = .ok (.if_icmp .ge 17, 3) := by decide +kernel
theorem dX8_isWord_48 : decode cX8_isWord 48 = .ok (.aload_n 0, 1) := by decide +kernel
theorem dX8_isWord_49 : decode cX8_isWord 49 = .ok (.getfield 9, 3) := by decide +kernel
theorem dX8_isWord_52 : decode cX8_isWord 52 = .ok (.iload_n 3, 1) := by decide +kernel
theorem dX8_isWord_53 : decode cX8_isWord 53 = .ok (.iaload, 1) := by decide +kernel
theorem dX8_isWord_54 : decode cX8_isWord 54 = .ok (.aload_n 1, 1) := by decide +kernel
theorem dX8_isWord_55 : decode cX8_isWord 55 = .ok (.iload_n 2, 1) := by decide +kernel
theorem dX8_isWord_56 : decode cX8_isWord 56 = .ok (.invokevirtual 73, 3) := by decide +kernel
theorem dX8_isWord_59 : decode cX8_isWord 59 = .ok (.if_icmp .eq 5, 3) := by decide +kernel
theorem dX8_isWord_62 : decode cX8_isWord 62 = .ok (.iconst 0, 1) := by decide +kernel
theorem dX8_isWord_63 : decode cX8_isWord 63 = .ok (.ireturn, 1) := by decide +kernel
theorem dX8_isWord_64 : decode cX8_isWord 64 = .ok (.iinc 2 1, 3) := by decide +kernel
theorem dX8_isWord_67 : decode cX8_isWord 67 = .ok (.goto (-47), 3) := by decide +kernel
theorem dX8_isWord_70 : decode cX8_isWord 70 = .ok (.iconst 1, 1) := by decide +kernel
theorem dX8_isWord_71 : decode cX8_isWord 71 = .ok (.ireturn, 1) := by decide +kernel
theorem dX8_isDigit_0 : decode cX8_isDigit 0 = .ok (.iload_n 0, 1) := by decide +kernel
theorem dX8_isDigit_1 : decode cX8_isDigit 1 = .ok (.bipush 48, 2) := by decide +kernel
theorem dX8_isDigit_3 : decode cX8_isDigit 3 = .ok (.if_icmp .lt 13, 3) := by decide +kernel
theorem dX8_isDigit_6 : decode cX8_isDigit 6 = .ok (.iload_n 0, 1) := by decide +kernel
theorem dX8_isDigit_7 : decode cX8_isDigit 7 = .ok (.bipush 57, 2) := by decide +kernel
theorem dX8_isDigit_9 : decode cX8_isDigit 9 = .ok (.if_icmp .gt 7, 3) := by decide +kernel
theorem dX8_isDigit_12 : decode cX8_isDigit 12 = .ok (.iconst 1, 1) := by decide +kernel
theorem dX8_isDigit_13 : decode cX8_isDigit 13 = .ok (.goto 4, 3) := by decide +kernel
theorem dX8_isDigit_16 : decode cX8_isDigit 16 = .ok (.iconst 0, 1) := by decide +kernel
theorem dX8_isDigit_17 : decode cX8_isDigit 17 = .ok (.ireturn, 1) := by decide +kernel
theorem dX8_isLetter_0 : decode cX8_isLetter 0 = .ok (.iload_n 0, 1) := by decide +kernel
theorem dX8_isLetter_1 : decode cX8_isLetter 1 = .ok (.bipush 97, 2) := by decide +kernel
theorem dX8_isLetter_3 : decode cX8_isLetter 3 = .ok (.if_icmp .lt 13, 3) := by decide +kernel
theorem dX8_isLetter_6 : decode cX8_isLetter 6 = .ok (.iload_n 0, 1) := by decide +kernel
theorem dX8_isLetter_7 : decode cX8_isLetter 7 = .ok (.bipush 122, 2) := by decide +kernel
theorem dX8_isLetter_9 : decode cX8_isLetter 9 = .ok (.if_icmp .gt 7, 3) := by decide +kernel
theorem dX8_isLetter_12 : decode cX8_isLetter 12 = .ok (.iconst 1, 1) := by decide +kernel
theorem dX8_isLetter_13 : decode cX8_isLetter 13 = .ok (.goto 4, 3) := by decide +kernel
theorem dX8_isLetter_16 : decode cX8_isLetter 16 = .ok (.iconst 0, 1) := by decide +kernel
theorem dX8_isLetter_17 : decode cX8_isLetter 17 = .ok (.ireturn, 1) := by decide +kernel
theorem dX9_init_0 : decode cX9_init 0 = .ok (.aload_n 0, 1) := by decide +kernel
theorem dX9_init_1 : decode cX9_init 1 = .ok (.invokespecial 1, 3) := by decide +kernel
theorem dX9_init_4 : decode cX9_init 4 = .ok (.aload_n 0, 1) := by decide +kernel
theorem dX9_init_5 : decode cX9_init 5 = .ok (.new 7, 3) := by decide +kernel
theorem dX9_init_8 : decode cX9_init 8 = .ok (.dup, 1) := by decide +kernel
theorem dX9_init_9 : decode cX9_init 9 = .ok (.invokespecial 9, 3) := by decide +kernel
theorem dX9_init_12 : decode cX9_init 12 = .ok (.putfield 10, 3) := by decide +kernel
theorem dX9_init_15 : decode cX9_init 15 = .ok (.aload_n 0, 1) := by decide +kernel
theorem dX9_init_16 : decode cX9_init 16 = .ok (.new 16, 3) := by decide +kernel
theorem dX9_init_19 : decode cX9_init 19 = .ok (.dup, 1) := by decide +kernel
theorem dX9_init_20 : decode cX9_init 20 = .ok (.invokespecial 18, 3) := by decide +kernel
theorem dX9_init_23 : decode cX9_init 23 = .ok (.putfield 19, 3) := by decide +kernel
theorem dX9_init_26 : decode cX9_init 26 = .ok (.aload_n 0, 1) := by decide +kernel
theorem dX9_init_27 : decode cX9_init 27 = .ok (.new 16, 3) := by decide +kernel
theorem dX9_init_30 : decode cX9_init 30 = .ok (.dup, 1) := by decide +kernel
theorem dX9_init_31 : decode cX9_init 31 = .ok (.invokespecial 18, 3) := by decide +kernel
theorem dX9_init_34 : decode cX9_init 34 = .ok (.putfield 23, 3) := by decide +kernel
theorem dX9_init_37 : decode cX9_init 37 = .ok (.aload_n 0, 1) := by decide +kernel
theorem dX9_init_38 : decode cX9_init 38 = .ok (.new 26, 3) := by decide +kernel
theorem dX9_init_41 : decode cX9_init 41 = .ok (.dup, 1) := by decide +kernel
theorem dX9_init_42 : decode cX9_init 42 = .ok (.invokespecial 28, 3) := by decide +kernel
theorem dX9_init_45 : decode cX9_init 45 = .ok (.putfield 29, 3) := by decide +kernel
theorem dX9_init_48 : decode cX9_init 48 = .ok (.aload_n 0, 1) := by decide +kernel
theorem dX9_init_49 : decode cX9_init 49 = .ok (.new 26, 3) := by decide +kernel
theorem dX9_init_52 : decode cX9_init 52 = .ok (.dup, 1) := by decide +kernel
theorem dX9_init_53 : decode cX9_init 53 = .ok (.invokespecial 28, 3) := by decide +kernel
theorem dX9_init_56 : decode cX9_init 56 = .ok (.putfield 33, 3) := by decide +kernel
theorem dX9_init_59 : decode cX9_init 59 = .ok (.aload_n 0, 1) := by decide +kernel
theorem dX9_init_60 : decode cX9_init 60 = .ok (.new 36, 3) := by decide +kernel
theorem dX9_init_63 : decode cX9_init 63 = .ok (.dup, 1) := by decide +kernel
theorem dX9_init_64 : decode cX9_init 64 = .ok (.invokespecial 38, 3) := by decide +kernel
theorem dX9_init_67 : decode cX9_init 67 = .ok (.putfield 39, 3) := by decide +kernel
theorem dX9_init_70 : decode cX9_init 70 = .ok (.aload_n 0, 1) := by decide +kernel
theorem dX9_init_71 : decode cX9_init 71 = .ok (.new 43, 3) := by decide +kernel
theorem dX9_init_74 : decode cX9_init 74 = .ok (.dup, 1) := by decide +kernel
theorem dX9_init_75 : decode cX9_init 75 = .ok (.invokespecial 45, 3) := by decide +kernel
theorem dX9_init_78 : decode cX9_init 78 = .ok (.putfield 46, 3) := by decide +kernel
theorem dX9_init_81 : decode cX9_init 81 = .ok (.aload_n 0, 1) := by decide +kernel
theorem dX9_init_82 : decode cX9_init 82 = .ok (.new 43, 3) := by decide +kernel
theorem dX9_init_85 : decode cX9_init 85 = .ok (.dup, 1) := by decide +kernel
theorem dX9_init_86 : decode cX9_init 86 = .ok (.invokespecial 45, 3) := by decide +kernel
theorem dX9_init_89 : decode cX9_init 89 = .ok (.putfield 50, 3) := by decide +kernel
theorem dX9_init_92 : decode cX9_init 92 = .ok (.aload_n 0, 1) := by decide +kernel
theorem dX9_init_93 : decode cX9_init 93 = .ok (.new 53, 3) := by decide +kernel
theorem dX9_init_96 : decode cX9_init 96 = .ok (.dup, 1) := by decide +kernel
theorem dX9_init_97 : decode cX9_init 97 = .ok (.invokespecial 55, 3) := by decide +kernel
theorem dX9_init_100 : decode cX9_init 100 = .ok (.putfield 56, 3) := by decide +kernel
theorem dX9_init_103 : decode cX9_init 103 = .ok (.aload_n 0, 1) := by decide +kernel
theorem dX9_init_104 : decode cX9_init 104 = .ok (.new 60, 3) := by decide +kernel
theorem dX9_init_107 : decode cX9_init 107 = .ok (.dup, 1) := by decide +kernel
theorem dX9_init_108 : decode cX9_init 108 = .ok (.invokespecial 62, 3) := by decide +kernel
theorem dX9_init_111 : decode cX9_init 111 = .ok (.putfield 63, 3) := by decide +kernel
theorem dX9_init_114 : decode cX9_init 114 = .ok (.aload_n 0, 1) := by decide +kernel
theorem dX9_init_115 : decode cX9_init 115 = .ok (.new 67, 3) := by decide +kernel
theorem dX9_init_118 : decode cX9_init 118 = .ok (.dup, 1) := by decide +kernel
theorem dX9_init_119 : decode cX9_init 119 = .ok (.aload_n 0, 1) := by decide +kernel
theorem dX9_init_120 : decode cX9_init 120 = .ok (.getfield 19, 3) := by decide +kernel
theorem dX9_init_123 : decode cX9_init 123 = .ok (.aload_n 0, 1) := by decide +kernel
theorem dX9_init_124 : decode cX9_init 124 = .ok (.getfield 29, 3) := by decide +kernel
theorem dX9_init_127 : decode cX9_init 127 = .ok (.aload_n 0, 1) := by decide +kernel
theorem dX9_init_128 : decode cX9_init 128 = .ok (.getfield 56, 3) := by decide +kernel
theorem dX9_init_131 : decode cX9_init 131 = .ok (.invokespecial 69, 3) := by decide +kernel
theorem dX9_init_134 : decode cX9_init 134 = .ok (.putfield 72, 3) := by decide +kernel
theorem dX9_init_137 : decode cX9_init 137 = .ok (.aload_n 0, 1) := by decide +kernel
theorem dX9_init_138 : decode cX9_init 138 = .ok (.invokevirtual 76, 3) := by decide +kernel
theorem dX9_init_141 : decode cX9_init 141 = .ok (.return_, 1) := by decide +kernel
theorem dX9_feed_0 : decode cX9_feed 0 = .ok (.aload_n 0, 1) := by decide +kernel
theorem dX9_feed_1 : decode cX9_feed 1 = .ok (.getfield 10, 3) := by decide +kernel
theorem dX9_feed_4 : decode cX9_feed 4 = .ok (.bipush 20, 2) := by decide +kernel
theorem dX9_feed_6 : decode cX9_feed 6 = .ok (.invokevirtual 79, 3) := by decide +kernel
theorem dX9_feed_9 : decode cX9_feed 9 = .ok (.ifCond .ne 5, 3) := by decide +kernel
theorem dX9_feed_12 : decode cX9_feed 12 = .ok (.iconst (-1), 1) := by decide +kernel
theorem dX9_feed_13 : decode cX9_feed 13 = .ok (.ireturn, 1) := by decide +kernel
theorem dX9_feed_14 : decode cX9_feed 14 = .ok (.aload_n 0, 1) := by decide +kernel
theorem dX9_feed_15 : decode cX9_feed 15 = .ok (.getfield 10, 3) := by decide +kernel
theorem dX9_feed_18 : decode cX9_feed 18 = .ok (.iload_n 1, 1) := by decide +kernel
theorem dX9_feed_19 : decode cX9_feed 19 = .ok (.invokevirtual 83, 3) := by decide +kernel
theorem dX9_feed_22 : decode cX9_feed 22 = .ok (.aload_n 0, 1) := by decide +kernel
theorem dX9_feed_23 : decode cX9_feed 23 = .ok (.getfield 10, 3) := by decide +kernel
theorem dX9_feed_26 : decode cX9_feed 26 = .ok (.iload_n 2, 1) := by decide +kernel
theorem dX9_feed_27 : decode cX9_feed 27 = .ok (.invokevirtual 83, 3) := by decide +kernel
theorem dX9_feed_30 : decode cX9_feed 30 = .ok (.aload_n 0, 1) := by decide +kernel
theorem dX9_feed_31 : decode cX9_feed 31 = .ok (.getfield 10, 3) := by decide +kernel
theorem dX9_feed_34 : decode cX9_feed 34 = .ok (.iload_n 3, 1) := by decide +kernel
theorem dX9_feed_35 : decode cX9_feed 35 = .ok (.invokevirtual 83, 3) := by decide +kernel
theorem dX9_feed_38 : decode cX9_feed 38 = .ok (.aload_n 0, 1) := by decide +kernel
theorem dX9_feed_39 : decode cX9_feed 39 = .ok (.getfield 10, 3) := by decide +kernel
theorem dX9_feed_42 : decode cX9_feed 42 = .ok (.iload 4, 2) := by decide +kernel
theorem dX9_feed_44 : decode cX9_feed 44 = .ok (.invokevirtual 83, 3) := by decide +kernel
theorem dX9_feed_47 : decode cX9_feed 47 = .ok (.aload_n 0, 1) := by decide +kernel
theorem dX9_feed_48 : decode cX9_feed 48 = .ok (.getfield 10, 3) := by decide +kernel
theorem dX9_feed_51 : decode cX9_feed 51 = .ok (.iload 5, 2) := by decide +kernel
theorem dX9_feed_53 : decode cX9_feed 53 = .ok (.invokevirtual 83, 3) := by decide +kernel
theorem dX9_feed_56 : decode cX9_feed 56 = .ok (.aload_n 0, 1) := by decide +kernel
theorem dX9_feed_57 : decode cX9_feed 57 = .ok (.getfield 10, 3) := by decide +kernel
theorem dX9_feed_60 : decode cX9_feed 60 = .ok (.getfield 87, 3) := by decide +kernel
theorem dX9_feed_63 : decode cX9_feed 63 = .ok (.ireturn, 1) := by decide +kernel
theorem dX9_street_0 : decode cX9_street 0 = .ok (.aload_n 0, 1) := by decide +kernel
theorem dX9_street_1 : decode cX9_street 1 = .ok (.iload_n 1, 1) := by decide +kernel
theorem dX9_street_2 : decode cX9_street 2 = .ok (.sipush 600, 3) := by decide +kernel
theorem dX9_street_5 : decode cX9_street 5 = .ok (.invokevirtual 91, 3) := by decide +kernel
theorem dX9_street_8 : decode cX9_street 8 = .ok (.aload_n 0, 1) := by decide +kernel
theorem dX9_street_9 : decode cX9_street 9 = .ok (.getfield 10, 3) := by decide +kernel
theorem dX9_street_12 : decode cX9_street 12 = .ok (.iload_n 1, 1) := by decide +kernel
theorem dX9_street_13 : decode cX9_street 13 = .ok (.invokevirtual 95, 3) := by decide +kernel
theorem dX9_street_16 : decode cX9_street 16 = .ok (.aload_n 0, 1) := by decide +kernel
theorem dX9_street_17 : decode cX9_street 17 = .ok (.getfield 23, 3) := by decide +kernel
theorem dX9_street_20 : decode cX9_street 20 = .ok (.aload_n 0, 1) := by decide +kernel
theorem dX9_street_21 : decode cX9_street 21 = .ok (.getfield 10, 3) := by decide +kernel
theorem dX9_street_24 : decode cX9_street 24 = .ok (.invokevirtual 98, 3) := by decide +kernel
theorem dX9_street_27 : decode cX9_street 27 = .ok (.ifCond .ne 11, 3) := by decide +kernel
theorem dX9_street_30 : decode cX9_street 30 = .ok (.aload_n 0, 1) := by decide +kernel
theorem dX9_street_31 : decode cX9_street 31 = .ok (.getfield 10, 3) := by decide +kernel
theorem dX9_street_34 : decode cX9_street 34 = .ok (.invokevirtual 102, 3) := by decide +kernel
theorem dX9_street_37 : decode cX9_street 37 = .ok (.ireturn, 1) := by decide +kernel
theorem dX9_street_38 : decode cX9_street 38 = .ok (.aload_n 0, 1) := by decide +kernel
theorem dX9_street_39 : decode cX9_street 39 = .ok (.getfield 19, 3) := by decide +kernel
theorem dX9_street_42 : decode cX9_street 42 = .ok (.aload_n 0, 1) := by decide +kernel
theorem dX9_street_43 : decode cX9_street 43 = .ok (.getfield 23, 3) := by decide +kernel
theorem dX9_street_46 : decode cX9_street 46 = .ok (.invokevirtual 106, 3) := by decide +kernel
theorem dX9_street_49 : decode cX9_street 49 = .ok (.aload_n 0, 1) := by decide +kernel
theorem dX9_street_50 : decode cX9_street 50 = .ok (.invokevirtual 76, 3) := by decide +kernel
theorem dX9_street_53 : decode cX9_street 53 = .ok (.aload_n 0, 1) := by decide +kernel
theorem dX9_street_54 : decode cX9_street 54 = .ok (.getfield 19, 3) := by decide +kernel
theorem dX9_street_57 : decode cX9_street 57 = .ok (.getfield 110, 3) := by decide +kernel
theorem dX9_street_60 : decode cX9_street 60 = .ok (.ireturn, 1) := by decide +kernel
theorem dX9_law_0 : decode cX9_law 0 = .ok (.aload_n 0, 1) := by decide +kernel
theorem dX9_law_1 : decode cX9_law 1 = .ok (.iload_n 1, 1) := by decide +kernel
theorem dX9_law_2 : decode cX9_law 2 = .ok (.sipush 150, 3) := by decide +kernel
theorem dX9_law_5 : decode cX9_law 5 = .ok (.invokevirtual 91, 3) := by decide +kernel
theorem dX9_law_8 : decode cX9_law 8 = .ok (.aload_n 0, 1) := by decide +kernel
theorem dX9_law_9 : decode cX9_law 9 = .ok (.getfield 10, 3) := by decide +kernel
theorem dX9_law_12 : decode cX9_law 12 = .ok (.iload_n 1, 1) := by decide +kernel
theorem dX9_law_13 : decode cX9_law 13 = .ok (.invokevirtual 95, 3) := by decide +kernel
theorem dX9_law_16 : decode cX9_law 16 = .ok (.aload_n 0, 1) := by decide +kernel
theorem dX9_law_17 : decode cX9_law 17 = .ok (.getfield 33, 3) := by decide +kernel
theorem dX9_law_20 : decode cX9_law 20 = .ok (.aload_n 0, 1) := by decide +kernel
theorem dX9_law_21 : decode cX9_law 21 = .ok (.getfield 10, 3) := by decide +kernel
theorem dX9_law_24 : decode cX9_law 24 = .ok (.invokevirtual 113, 3) := by decide +kernel
theorem dX9_law_27 : decode cX9_law 27 = .ok (.ifCond .ne 11, 3) := by decide +kernel
theorem dX9_law_30 : decode cX9_law 30 = .ok (.aload_n 0, 1) := by decide +kernel
theorem dX9_law_31 : decode cX9_law 31 = .ok (.getfield 10, 3) := by decide +kernel
theorem dX9_law_34 : decode cX9_law 34 = .ok (.invokevirtual 102, 3) := by decide +kernel
theorem dX9_law_37 : decode cX9_law 37 = .ok (.ireturn, 1) := by decide +kernel
theorem dX9_law_38 : decode cX9_law 38 = .ok (.aload_n 0, 1) := by decide +kernel
theorem dX9_law_39 : decode cX9_law 39 = .ok (.getfield 29, 3) := by decide +kernel
theorem dX9_law_42 : decode cX9_law 42 = .ok (.aload_n 0, 1) := by decide +kernel
theorem dX9_law_43 : decode cX9_law 43 = .ok (.getfield 33, 3) := by decide +kernel
theorem dX9_law_46 : decode cX9_law 46 = .ok (.invokevirtual 114, 3) := by decide +kernel
theorem dX9_law_49 : decode cX9_law 49 = .ok (.iconst 1, 1) := by decide +kernel
theorem dX9_law_50 : decode cX9_law 50 = .ok (.ireturn, 1) := by decide +kernel
theorem dX9_work_0 : decode cX9_work 0 = .ok (.aload_n 0, 1) := by decide +kernel
theorem dX9_work_1 : decode cX9_work 1 = .ok (.iload_n 1, 1) := by decide +kernel
theorem dX9_work_2 : decode cX9_work 2 = .ok (.sipush 150, 3) := by decide +kernel
theorem dX9_work_5 : decode cX9_work 5 = .ok (.invokevirtual 91, 3) := by decide +kernel
theorem dX9_work_8 : decode cX9_work 8 = .ok (.aload_n 0, 1) := by decide +kernel
theorem dX9_work_9 : decode cX9_work 9 = .ok (.getfield 63, 3) := by decide +kernel
theorem dX9_work_12 : decode cX9_work 12 = .ok (.invokevirtual 117, 3) := by decide +kernel
theorem dX9_work_15 : decode cX9_work 15 = .ok (.ifCond .eq 14, 3) := by decide +kernel
theorem dX9_work_18 : decode cX9_work 18 = .ok (.aload_n 0, 1) := by decide +kernel
theorem dX9_work_19 : decode cX9_work 19 = .ok (.getfield 10, 3) := by decide +kernel
theorem dX9_work_22 : decode cX9_work 22 = .ok (.iconst 0, 1) := by decide +kernel
theorem dX9_work_23 : decode cX9_work 23 = .ok (.invokevirtual 95, 3) := by decide +kernel
theorem dX9_work_26 : decode cX9_work 26 = .ok (.bipush (-20), 2) := by decide +kernel
theorem dX9_work_28 : decode cX9_work 28 = .ok (.ireturn, 1) := by decide +kernel
theorem dX9_work_29 : decode cX9_work 29 = .ok (.aload_n 0, 1) := by decide +kernel
theorem dX9_work_30 : decode cX9_work 30 = .ok (.getfield 10, 3) := by decide +kernel
theorem dX9_work_33 : decode cX9_work 33 = .ok (.iload_n 1, 1) := by decide +kernel
theorem dX9_work_34 : decode cX9_work 34 = .ok (.invokevirtual 95, 3) := by decide +kernel
theorem dX9_work_37 : decode cX9_work 37 = .ok (.aload_n 0, 1) := by decide +kernel
theorem dX9_work_38 : decode cX9_work 38 = .ok (.getfield 39, 3) := by decide +kernel
theorem dX9_work_41 : decode cX9_work 41 = .ok (.aload_n 0, 1) := by decide +kernel
theorem dX9_work_42 : decode cX9_work 42 = .ok (.getfield 10, 3) := by decide +kernel
theorem dX9_work_45 : decode cX9_work 45 = .ok (.aload_n 0, 1) := by decide +kernel
theorem dX9_work_46 : decode cX9_work 46 = .ok (.getfield 19, 3) := by decide +kernel
theorem dX9_work_49 : decode cX9_work 49 = .ok (.invokevirtual 121, 3) := by decide +kernel
theorem dX9_work_52 : decode cX9_work 52 = .ok (.ifCond .ne 11, 3) := by decide +kernel
theorem dX9_work_55 : decode cX9_work 55 = .ok (.aload_n 0, 1) := by decide +kernel
theorem dX9_work_56 : decode cX9_work 56 = .ok (.getfield 10, 3) := by decide +kernel
theorem dX9_work_59 : decode cX9_work 59 = .ok (.invokevirtual 102, 3) := by decide +kernel
theorem dX9_work_62 : decode cX9_work 62 = .ok (.ireturn, 1) := by decide +kernel
theorem dX9_work_63 : decode cX9_work 63 = .ok (.aload_n 0, 1) := by decide +kernel
theorem dX9_work_64 : decode cX9_work 64 = .ok (.getfield 63, 3) := by decide +kernel
theorem dX9_work_67 : decode cX9_work 67 = .ok (.aload_n 0, 1) := by decide +kernel
theorem dX9_work_68 : decode cX9_work 68 = .ok (.getfield 56, 3) := by decide +kernel
theorem dX9_work_71 : decode cX9_work 71 = .ok (.invokevirtual 124, 3) := by decide +kernel
theorem dX9_work_74 : decode cX9_work 74 = .ok (.aload_n 0, 1) := by decide +kernel
theorem dX9_work_75 : decode cX9_work 75 = .ok (.getfield 39, 3) := by decide +kernel
theorem dX9_work_78 : decode cX9_work 78 = .ok (.aload_n 0, 1) := by decide +kernel
theorem dX9_work_79 : decode cX9_work 79 = .ok (.getfield 56, 3) := by decide +kernel
theorem dX9_work_82 : decode cX9_work 82 = .ok (.aload_n 0, 1) := by decide +kernel
theorem dX9_work_83 : decode cX9_work 83 = .ok (.getfield 19, 3) := by decide +kernel
theorem dX9_work_86 : decode cX9_work 86 = .ok (.aload_n 0, 1) := by decide +kernel
theorem dX9_work_87 : decode cX9_work 87 = .ok (.getfield 29, 3) := by decide +kernel
theorem dX9_work_90 : decode cX9_work 90 = .ok (.invokevirtual 128, 3) := by decide +kernel
theorem dX9_work_93 : decode cX9_work 93 = .ok (.istore_n 2, 1) := by decide +kernel
theorem dX9_work_94 : decode cX9_work 94 = .ok (.aload_n 0, 1) := by decide +kernel
theorem dX9_work_95 : decode cX9_work 95 = .ok (.aload_n 0, 1) := by decide +kernel
theorem dX9_work_96 : decode cX9_work 96 = .ok (.getfield 39, 3) := by decide +kernel
theorem dX9_work_99 : decode cX9_work 99 = .ok (.getfield 132, 3) := by decide +kernel
theorem dX9_work_102 : decode cX9_work 102 = .ok (.putfield 135, 3) := by decide +kernel
theorem dX9_work_105 : decode cX9_work 105 = .ok (.iload_n 2, 1) := by decide +kernel
theorem dX9_work_106 : decode cX9_work 106 = .ok (.ireturn, 1) := by decide +kernel
theorem dX9_stains_0 : decode cX9_stains 0 = .ok (.aload_n 0, 1) := by decide +kernel
theorem dX9_stains_1 : decode cX9_stains 1 = .ok (.iload_n 1, 1) := by decide +kernel
theorem dX9_stains_2 : decode cX9_stains 2 = .ok (.bipush 60, 2) := by decide +kernel
theorem dX9_stains_4 : decode cX9_stains 4 = .ok (.invokevirtual 91, 3) := by decide +kernel
theorem dX9_stains_7 : decode cX9_stains 7 = .ok (.aload_n 0, 1) := by decide +kernel
theorem dX9_stains_8 : decode cX9_stains 8 = .ok (.getfield 10, 3) := by decide +kernel
theorem dX9_stains_11 : decode cX9_stains 11 = .ok (.iload_n 1, 1) := by decide +kernel
theorem dX9_stains_12 : decode cX9_stains 12 = .ok (.invokevirtual 95, 3) := by decide +kernel
theorem dX9_stains_15 : decode cX9_stains 15 = .ok (.aload_n 0, 1) := by decide +kernel
theorem dX9_stains_16 : decode cX9_stains 16 = .ok (.getfield 50, 3) := by decide +kernel
theorem dX9_stains_19 : decode cX9_stains 19 = .ok (.aload_n 0, 1) := by decide +kernel
theorem dX9_stains_20 : decode cX9_stains 20 = .ok (.getfield 10, 3) := by decide +kernel
theorem dX9_stains_23 : decode cX9_stains 23 = .ok (.aload_n 0, 1) := by decide +kernel
theorem dX9_stains_24 : decode cX9_stains 24 = .ok (.getfield 19, 3) := by decide +kernel
theorem dX9_stains_27 : decode cX9_stains 27 = .ok (.getfield 138, 3) := by decide +kernel
theorem dX9_stains_30 : decode cX9_stains 30 = .ok (.invokevirtual 141, 3) := by decide +kernel
theorem dX9_stains_33 : decode cX9_stains 33 = .ok (.ifCond .ne 11, 3) := by decide +kernel
theorem dX9_stains_36 : decode cX9_stains 36 = .ok (.aload_n 0, 1) := by decide +kernel
theorem dX9_stains_37 : decode cX9_stains 37 = .ok (.getfield 10, 3) := by decide +kernel
theorem dX9_stains_40 : decode cX9_stains 40 = .ok (.invokevirtual 102, 3) := by decide +kernel
theorem dX9_stains_43 : decode cX9_stains 43 = .ok (.ireturn, 1) := by decide +kernel
theorem dX9_stains_44 : decode cX9_stains 44 = .ok (.aload_n 0, 1) := by decide +kernel
theorem dX9_stains_45 : decode cX9_stains 45 = .ok (.getfield 46, 3) := by decide +kernel
theorem dX9_stains_48 : decode cX9_stains 48 = .ok (.aload_n 0, 1) := by decide +kernel
theorem dX9_stains_49 : decode cX9_stains 49 = .ok (.getfield 50, 3) := by decide +kernel
theorem dX9_stains_52 : decode cX9_stains 52 = .ok (.invokevirtual 144, 3) := by decide +kernel
theorem dX9_stains_55 : decode cX9_stains 55 = .ok (.aload_n 0, 1) := by decide +kernel
theorem dX9_stains_56 : decode cX9_stains 56 = .ok (.getfield 46, 3) := by decide +kernel
theorem dX9_stains_59 : decode cX9_stains 59 = .ok (.getfield 147, 3) := by decide +kernel
theorem dX9_stains_62 : decode cX9_stains 62 = .ok (.ireturn, 1) := by decide +kernel
theorem dX9_fault_0 : decode cX9_fault 0 = .ok (.aload_n 0, 1) := by decide +kernel
theorem dX9_fault_1 : decode cX9_fault 1 = .ok (.getfield 10, 3) := by decide +kernel
theorem dX9_fault_4 : decode cX9_fault 4 = .ok (.getfield 150, 3) := by decide +kernel
theorem dX9_fault_7 : decode cX9_fault 7 = .ok (.ireturn, 1) := by decide +kernel
theorem dX9_undo_0 : decode cX9_undo 0 = .ok (.aload_n 0, 1) := by decide +kernel
theorem dX9_undo_1 : decode cX9_undo 1 = .ok (.getfield 63, 3) := by decide +kernel
theorem dX9_undo_4 : decode cX9_undo 4 = .ok (.aload_n 0, 1) := by decide +kernel
theorem dX9_undo_5 : decode cX9_undo 5 = .ok (.getfield 56, 3) := by decide +kernel
theorem dX9_undo_8 : decode cX9_undo 8 = .ok (.invokevirtual 153, 3) := by decide +kernel
theorem dX9_undo_11 : decode cX9_undo 11 = .ok (.ifCond .ne 5, 3) := by decide +kernel
theorem dX9_undo_14 : decode cX9_undo 14 = .ok (.iconst (-1), 1) := by decide +kernel
theorem dX9_undo_15 : decode cX9_undo 15 = .ok (.ireturn, 1) := by decide +kernel
theorem dX9_undo_16 : decode cX9_undo 16 = .ok (.aload_n 0, 1) := by decide +kernel
theorem dX9_undo_17 : decode cX9_undo 17 = .ok (.iconst 0, 1) := by decide +kernel
theorem dX9_undo_18 : decode cX9_undo 18 = .ok (.putfield 135, 3) := by decide +kernel
theorem dX9_undo_21 : decode cX9_undo 21 = .ok (.aload_n 0, 1) := by decide +kernel
theorem dX9_undo_22 : decode cX9_undo 22 = .ok (.getfield 63, 3) := by decide +kernel
theorem dX9_undo_25 : decode cX9_undo 25 = .ok (.getfield 157, 3) := by decide +kernel
theorem dX9_undo_28 : decode cX9_undo 28 = .ok (.ireturn, 1) := by decide +kernel
theorem dX9_told_0 : decode cX9_told 0 = .ok (.aload_n 0, 1) := by decide +kernel
theorem dX9_told_1 : decode cX9_told 1 = .ok (.iload_n 1, 1) := by decide +kernel
theorem dX9_told_2 : decode cX9_told 2 = .ok (.iconst 0, 1) := by decide +kernel
theorem dX9_told_3 : decode cX9_told 3 = .ok (.bipush 11, 2) := by decide +kernel
theorem dX9_told_5 : decode cX9_told 5 = .ok (.invokevirtual 160, 3) := by decide +kernel
theorem dX9_told_8 : decode cX9_told 8 = .ok (.iload_n 1, 1) := by decide +kernel
theorem dX9_told_9 : decode cX9_told 9 = .ok (.tableswitch 159 0 10 #[59, 67, 75, 83, 91, 99, 114, 122, 130, 135, 147], 59) := by decide +kernel
theorem dX9_told_68 : decode cX9_told 68 = .ok (.aload_n 0, 1) := by decide +kernel
theorem dX9_told_69 : decode cX9_told 69 = .ok (.getfield 19, 3) := by decide +kernel
theorem dX9_told_72 : decode cX9_told 72 = .ok (.getfield 138, 3) := by decide +kernel
theorem dX9_told_75 : decode cX9_told 75 = .ok (.ireturn, 1) := by decide +kernel
theorem dX9_told_76 : decode cX9_told 76 = .ok (.aload_n 0, 1) := by decide +kernel
theorem dX9_told_77 : decode cX9_told 77 = .ok (.getfield 19, 3) := by decide +kernel
theorem dX9_told_80 : decode cX9_told 80 = .ok (.getfield 110, 3) := by decide +kernel
theorem dX9_told_83 : decode cX9_told 83 = .ok (.ireturn, 1) := by decide +kernel
theorem dX9_told_84 : decode cX9_told 84 = .ok (.aload_n 0, 1) := by decide +kernel
theorem dX9_told_85 : decode cX9_told 85 = .ok (.getfield 19, 3) := by decide +kernel
theorem dX9_told_88 : decode cX9_told 88 = .ok (.getfield 164, 3) := by decide +kernel
theorem dX9_told_91 : decode cX9_told 91 = .ok (.ireturn, 1) := by decide +kernel
theorem dX9_told_92 : decode cX9_told 92 = .ok (.aload_n 0, 1) := by decide +kernel
theorem dX9_told_93 : decode cX9_told 93 = .ok (.getfield 19, 3) := by decide +kernel
theorem dX9_told_96 : decode cX9_told 96 = .ok (.getfield 167, 3) := by decide +kernel
theorem dX9_told_99 : decode cX9_told 99 = .ok (.ireturn, 1) := by decide +kernel
theorem dX9_told_100 : decode cX9_told 100 = .ok (.aload_n 0, 1) := by decide +kernel
theorem dX9_told_101 : decode cX9_told 101 = .ok (.getfield 56, 3) := by decide +kernel
theorem dX9_told_104 : decode cX9_told 104 = .ok (.invokevirtual 170, 3) := by decide +kernel
theorem dX9_told_107 : decode cX9_told 107 = .ok (.ireturn, 1) := by decide +kernel
theorem dX9_told_108 : decode cX9_told 108 = .ok (.aload_n 0, 1) := by decide +kernel
theorem dX9_told_109 : decode cX9_told 109 = .ok (.getfield 19, 3) := by decide +kernel
theorem dX9_told_112 : decode cX9_told 112 = .ok (.aload_n 0, 1) := by decide +kernel
theorem dX9_told_113 : decode cX9_told 113 = .ok (.getfield 56, 3) := by decide +kernel
theorem dX9_told_116 : decode cX9_told 116 = .ok (.invokevirtual 170, 3) := by decide +kernel
theorem dX9_told_119 : decode cX9_told 119 = .ok (.invokevirtual 173, 3) := by decide +kernel
theorem dX9_told_122 : decode cX9_told 122 = .ok (.ireturn, 1) := by decide +kernel
theorem dX9_told_123 : decode cX9_told 123 = .ok (.aload_n 0, 1) := by decide +kernel
theorem dX9_told_124 : decode cX9_told 124 = .ok (.getfield 19, 3) := by decide +kernel
theorem dX9_told_127 : decode cX9_told 127 = .ok (.getfield 177, 3) := by decide +kernel
theorem dX9_told_130 : decode cX9_told 130 = .ok (.ireturn, 1) := by decide +kernel
theorem dX9_told_131 : decode cX9_told 131 = .ok (.aload_n 0, 1) := by decide +kernel
theorem dX9_told_132 : decode cX9_told 132 = .ok (.getfield 46, 3) := by decide +kernel
theorem dX9_told_135 : decode cX9_told 135 = .ok (.getfield 147, 3) := by decide +kernel
theorem dX9_told_138 : decode cX9_told 138 = .ok (.ireturn, 1) := by decide +kernel
theorem dX9_told_139 : decode cX9_told 139 = .ok (.aload_n 0, 1) := by decide +kernel
theorem dX9_told_140 : decode cX9_told 140 = .ok (.getfield 135, 3) := by decide +kernel
theorem dX9_told_143 : decode cX9_told 143 = .ok (.ireturn, 1) := by decide +kernel
theorem dX9_told_144 : decode cX9_told 144 = .ok (.aload_n 0, 1) := by decide +kernel
theorem dX9_told_145 : decode cX9_told 145 = .ok (.getfield 56, 3) := by decide +kernel
theorem dX9_told_148 : decode cX9_told 148 = .ok (.aload_n 0, 1) := by decide +kernel
theorem dX9_told_149 : decode cX9_told 149 = .ok (.getfield 19, 3) := by decide +kernel
theorem dX9_told_152 : decode cX9_told 152 = .ok (.invokevirtual 180, 3) := by decide +kernel
theorem dX9_told_155 : decode cX9_told 155 = .ok (.ireturn, 1) := by decide +kernel
theorem dX9_told_156 : decode cX9_told 156 = .ok (.aload_n 0, 1) := by decide +kernel
theorem dX9_told_157 : decode cX9_told 157 = .ok (.getfield 56, 3) := by decide +kernel
theorem dX9_told_160 : decode cX9_told 160 = .ok (.aload_n 0, 1) := by decide +kernel
theorem dX9_told_161 : decode cX9_told 161 = .ok (.getfield 19, 3) := by decide +kernel
theorem dX9_told_164 : decode cX9_told 164 = .ok (.invokevirtual 184, 3) := by decide +kernel
theorem dX9_told_167 : decode cX9_told 167 = .ok (.ireturn, 1) := by decide +kernel
theorem dX9_told_168 : decode cX9_told 168 = .ok (.aload_n 0, 1) := by decide +kernel
theorem dX9_told_169 : decode cX9_told 169 = .ok (.getfield 56, 3) := by decide +kernel
theorem dX9_told_172 : decode cX9_told 172 = .ok (.aload_n 0, 1) := by decide +kernel
theorem dX9_told_173 : decode cX9_told 173 = .ok (.getfield 19, 3) := by decide +kernel
theorem dX9_told_176 : decode cX9_told 176 = .ok (.invokevirtual 187, 3) := by decide +kernel
theorem dX9_told_179 : decode cX9_told 179 = .ok (.ireturn, 1) := by decide +kernel
theorem dX9_house_0 : decode cX9_house 0 = .ok (.aload_n 0, 1) := by decide +kernel
theorem dX9_house_1 : decode cX9_house 1 = .ok (.iload_n 1, 1) := by decide +kernel
theorem dX9_house_2 : decode cX9_house 2 = .ok (.invokevirtual 190, 3) := by decide +kernel
theorem dX9_house_5 : decode cX9_house 5 = .ok (.aload_n 0, 1) := by decide +kernel
theorem dX9_house_6 : decode cX9_house 6 = .ok (.iload_n 2, 1) := by decide +kernel
theorem dX9_house_7 : decode cX9_house 7 = .ok (.iconst 0, 1) := by decide +kernel
theorem dX9_house_8 : decode cX9_house 8 = .ok (.iconst 4, 1) := by decide +kernel
theorem dX9_house_9 : decode cX9_house 9 = .ok (.invokevirtual 160, 3) := by decide +kernel
theorem dX9_house_12 : decode cX9_house 12 = .ok (.iload_n 2, 1) := by decide +kernel
theorem dX9_house_13 : decode cX9_house 13 = .ok (.tableswitch 89 0 3 #[31, 42, 53, 76], 31) := by decide +kernel
theorem dX9_house_44 : decode cX9_house 44 = .ok (.aload_n 0, 1) := by decide +kernel
theorem dX9_house_45 : decode cX9_house 45 = .ok (.getfield 56, 3) := by decide +kernel
theorem dX9_house_48 : decode cX9_house 48 = .ok (.bipush 50, 2) := by decide +kernel
theorem dX9_house_50 : decode cX9_house 50 = .ok (.iload_n 1, 1) := by decide +kernel
theorem dX9_house_51 : decode cX9_house 51 = .ok (.invokevirtual 193, 3) := by decide +kernel
theorem dX9_house_54 : decode cX9_house 54 = .ok (.ireturn, 1) := by decide +kernel
theorem dX9_house_55 : decode cX9_house 55 = .ok (.aload_n 0, 1) := by decide +kernel
theorem dX9_house_56 : decode cX9_house 56 = .ok (.getfield 56, 3) := by decide +kernel
theorem dX9_house_59 : decode cX9_house 59 = .ok (.bipush 56, 2) := by decide +kernel
theorem dX9_house_61 : decode cX9_house 61 = .ok (.iload_n 1, 1) := by decide +kernel
theorem dX9_house_62 : decode cX9_house 62 = .ok (.invokevirtual 193, 3) := by decide +kernel
theorem dX9_house_65 : decode cX9_house 65 = .ok (.ireturn, 1) := by decide +kernel
theorem dX9_house_66 : decode cX9_house 66 = .ok (.aload_n 0, 1) := by decide +kernel
theorem dX9_house_67 : decode cX9_house 67 = .ok (.getfield 56, 3) := by decide +kernel
theorem dX9_house_70 : decode cX9_house 70 = .ok (.iload_n 1, 1) := by decide +kernel
theorem dX9_house_71 : decode cX9_house 71 = .ok (.aload_n 0, 1) := by decide +kernel
theorem dX9_house_72 : decode cX9_house 72 = .ok (.getfield 19, 3) := by decide +kernel
theorem dX9_house_75 : decode cX9_house 75 = .ok (.aload_n 0, 1) := by decide +kernel
theorem dX9_house_76 : decode cX9_house 76 = .ok (.getfield 56, 3) := by decide +kernel
theorem dX9_house_79 : decode cX9_house 79 = .ok (.invokevirtual 170, 3) := by decide +kernel
theorem dX9_house_82 : decode cX9_house 82 = .ok (.invokevirtual 173, 3) := by decide +kernel
theorem dX9_house_85 : decode cX9_house 85 = .ok (.invokevirtual 197, 3) := by decide +kernel
theorem dX9_house_88 : decode cX9_house 88 = .ok (.ireturn, 1) := by decide +kernel
theorem dX9_house_89 : decode cX9_house 89 = .ok (.aload_n 0, 1) := by decide +kernel
theorem dX9_house_90 : decode cX9_house 90 = .ok (.getfield 56, 3) := by decide +kernel
theorem dX9_house_93 : decode cX9_house 93 = .ok (.aload_n 0, 1) := by decide +kernel
theorem dX9_house_94 : decode cX9_house 94 = .ok (.getfield 19, 3) := by decide +kernel
theorem dX9_house_97 : decode cX9_house 97 = .ok (.iload_n 1, 1) := by decide +kernel
theorem dX9_house_98 : decode cX9_house 98 = .ok (.invokevirtual 200, 3) := by decide +kernel
theorem dX9_house_101 : decode cX9_house 101 = .ok (.ireturn, 1) := by decide +kernel
theorem dX9_house_102 : decode cX9_house 102 = .ok (.aload_n 0, 1) := by decide +kernel
theorem dX9_house_103 : decode cX9_house 103 = .ok (.getfield 56, 3) := by decide +kernel
theorem dX9_house_106 : decode cX9_house 106 = .ok (.bipush 62, 2) := by decide +kernel
theorem dX9_house_108 : decode cX9_house 108 = .ok (.iload_n 1, 1) := by decide +kernel
theorem dX9_house_109 : decode cX9_house 109 = .ok (.invokevirtual 193, 3) := by decide +kernel
theorem dX9_house_112 : decode cX9_house 112 = .ok (.ireturn, 1) := by decide +kernel
theorem dX9_thing_0 : decode cX9_thing 0 = .ok (.aload_n 0, 1) := by decide +kernel
theorem dX9_thing_1 : decode cX9_thing 1 = .ok (.iload_n 1, 1) := by decide +kernel
theorem dX9_thing_2 : decode cX9_thing 2 = .ok (.aload_n 0, 1) := by decide +kernel
theorem dX9_thing_3 : decode cX9_thing 3 = .ok (.getfield 19, 3) := by decide +kernel
theorem dX9_thing_6 : decode cX9_thing 6 = .ok (.getfield 110, 3) := by decide +kernel
theorem dX9_thing_9 : decode cX9_thing 9 = .ok (.invokevirtual 204, 3) := by decide +kernel
theorem dX9_thing_12 : decode cX9_thing 12 = .ok (.aload_n 0, 1) := by decide +kernel
theorem dX9_thing_13 : decode cX9_thing 13 = .ok (.iload_n 2, 1) := by decide +kernel
theorem dX9_thing_14 : decode cX9_thing 14 = .ok (.iconst 0, 1) := by decide +kernel
theorem dX9_thing_15 : decode cX9_thing 15 = .ok (.bipush 6, 2) := by decide +kernel
theorem dX9_thing_17 : decode cX9_thing 17 = .ok (.invokevirtual 160, 3) := by decide +kernel
theorem dX9_thing_20 : decode cX9_thing 20 = .ok (.iload_n 2, 1) := by decide +kernel
theorem dX9_thing_21 : decode cX9_thing 21 = .ok (.tableswitch 106 0 5 #[39, 51, 63, 74, 84, 95], 39) := by decide +kernel
theorem dX9_thing_60 : decode cX9_thing 60 = .ok (.aload_n 0, 1) := by decide +kernel
theorem dX9_thing_61 : decode cX9_thing 61 = .ok (.getfield 19, 3) := by decide +kernel
theorem dX9_thing_64 : decode cX9_thing 64 = .ok (.getfield 207, 3) := by decide +kernel
theorem dX9_thing_67 : decode cX9_thing 67 = .ok (.iload_n 1, 1) := by decide +kernel
theorem dX9_thing_68 : decode cX9_thing 68 = .ok (.invokestatic 211, 3) := by decide +kernel
theorem dX9_thing_71 : decode cX9_thing 71 = .ok (.ireturn, 1) := by decide +kernel
theorem dX9_thing_72 : decode cX9_thing 72 = .ok (.aload_n 0, 1) := by decide +kernel
theorem dX9_thing_73 : decode cX9_thing 73 = .ok (.getfield 19, 3) := by decide +kernel
theorem dX9_thing_76 : decode cX9_thing 76 = .ok (.getfield 215, 3) := by decide +kernel
theorem dX9_thing_79 : decode cX9_thing 79 = .ok (.iload_n 1, 1) := by decide +kernel
theorem dX9_thing_80 : decode cX9_thing 80 = .ok (.invokestatic 211, 3) := by decide +kernel
theorem dX9_thing_83 : decode cX9_thing 83 = .ok (.ireturn, 1) := by decide +kernel
theorem dX9_thing_84 : decode cX9_thing 84 = .ok (.aload_n 0, 1) := by decide +kernel
theorem dX9_thing_85 : decode cX9_thing 85 = .ok (.getfield 56, 3) := by decide +kernel
theorem dX9_thing_88 : decode cX9_thing 88 = .ok (.bipush 40, 2) := by decide +kernel
theorem dX9_thing_90 : decode cX9_thing 90 = .ok (.iload_n 1, 1) := by decide +kernel
theorem dX9_thing_91 : decode cX9_thing 91 = .ok (.invokevirtual 193, 3) := by decide +kernel
theorem dX9_thing_94 : decode cX9_thing 94 = .ok (.ireturn, 1) := by decide +kernel
theorem dX9_thing_95 : decode cX9_thing 95 = .ok (.aload_n 0, 1) := by decide +kernel
theorem dX9_thing_96 : decode cX9_thing 96 = .ok (.getfield 56, 3) := by decide +kernel
theorem dX9_thing_99 : decode cX9_thing 99 = .ok (.iconst 0, 1) := by decide +kernel
theorem dX9_thing_100 : decode cX9_thing 100 = .ok (.iload_n 1, 1) := by decide +kernel
theorem dX9_thing_101 : decode cX9_thing 101 = .ok (.invokevirtual 193, 3) := by decide +kernel
theorem dX9_thing_104 : decode cX9_thing 104 = .ok (.ireturn, 1) := by decide +kernel
theorem dX9_thing_105 : decode cX9_thing 105 = .ok (.aload_n 0, 1) := by decide +kernel
theorem dX9_thing_106 : decode cX9_thing 106 = .ok (.getfield 56, 3) := by decide +kernel
theorem dX9_thing_109 : decode cX9_thing 109 = .ok (.bipush 10, 2) := by decide +kernel
theorem dX9_thing_111 : decode cX9_thing 111 = .ok (.iload_n 1, 1) := by decide +kernel
theorem dX9_thing_112 : decode cX9_thing 112 = .ok (.invokevirtual 193, 3) := by decide +kernel
theorem dX9_thing_115 : decode cX9_thing 115 = .ok (.ireturn, 1) := by decide +kernel
theorem dX9_thing_116 : decode cX9_thing 116 = .ok (.aload_n 0, 1) := by decide +kernel
theorem dX9_thing_117 : decode cX9_thing 117 = .ok (.getfield 56, 3) := by decide +kernel
theorem dX9_thing_120 : decode cX9_thing 120 = .ok (.bipush 20, 2) := by decide +kernel
theorem dX9_thing_122 : decode cX9_thing 122 = .ok (.iload_n 1, 1) := by decide +kernel
theorem dX9_thing_123 : decode cX9_thing 123 = .ok (.invokevirtual 193, 3) := by decide +kernel
theorem dX9_thing_126 : decode cX9_thing 126 = .ok (.ireturn, 1) := by decide +kernel
theorem dX9_thing_127 : decode cX9_thing 127 = .ok (.aload_n 0, 1) := by decide +kernel
theorem dX9_thing_128 : decode cX9_thing 128 = .ok (.getfield 56, 3) := by decide +kernel
theorem dX9_thing_131 : decode cX9_thing 131 = .ok (.bipush 30, 2) := by decide +kernel
theorem dX9_thing_133 : decode cX9_thing 133 = .ok (.iload_n 1, 1) := by decide +kernel
theorem dX9_thing_134 : decode cX9_thing 134 = .ok (.invokevirtual 193, 3) := by decide +kernel
theorem dX9_thing_137 : decode cX9_thing 137 = .ok (.ireturn, 1) := by decide +kernel
theorem dX9_height_0 : decode cX9_height 0 = .ok (.aload_n 0, 1) := by decide +kernel
theorem dX9_height_1 : decode cX9_height 1 = .ok (.iload_n 1, 1) := by decide +kernel
theorem dX9_height_2 : decode cX9_height 2 = .ok (.iconst 0, 1) := by decide +kernel
theorem dX9_height_3 : decode cX9_height 3 = .ok (.bipush 99, 2) := by decide +kernel
theorem dX9_height_5 : decode cX9_height 5 = .ok (.invokevirtual 160, 3) := by decide +kernel
theorem dX9_height_8 : decode cX9_height 8 = .ok (.aload_n 0, 1) := by decide +kernel
theorem dX9_height_9 : decode cX9_height 9 = .ok (.getfield 19, 3) := by decide +kernel
theorem dX9_height_12 : decode cX9_height 12 = .ok (.aload_n 0, 1) := by decide +kernel
theorem dX9_height_13 : decode cX9_height 13 = .ok (.getfield 56, 3) := by decide +kernel
theorem dX9_height_16 : decode cX9_height 16 = .ok (.invokevirtual 170, 3) := by decide +kernel
theorem dX9_height_19 : decode cX9_height 19 = .ok (.iload_n 1, 1) := by decide +kernel
theorem dX9_height_20 : decode cX9_height 20 = .ok (.iadd, 1) := by decide +kernel
theorem dX9_height_21 : decode cX9_height 21 = .ok (.invokevirtual 173, 3) := by decide +kernel
theorem dX9_height_24 : decode cX9_height 24 = .ok (.ireturn, 1) := by decide +kernel
theorem dX9_find_0 : decode cX9_find 0 = .ok (.aload_n 0, 1) := by decide +kernel
theorem dX9_find_1 : decode cX9_find 1 = .ok (.iload_n 1, 1) := by decide +kernel
theorem dX9_find_2 : decode cX9_find 2 = .ok (.aload_n 0, 1) := by decide +kernel
theorem dX9_find_3 : decode cX9_find 3 = .ok (.getfield 19, 3) := by decide +kernel
theorem dX9_find_6 : decode cX9_find 6 = .ok (.getfield 167, 3) := by decide +kernel
theorem dX9_find_9 : decode cX9_find 9 = .ok (.invokevirtual 204, 3) := by decide +kernel
theorem dX9_find_12 : decode cX9_find 12 = .ok (.aload_n 0, 1) := by decide +kernel
theorem dX9_find_13 : decode cX9_find 13 = .ok (.iload_n 2, 1) := by decide +kernel
theorem dX9_find_14 : decode cX9_find 14 = .ok (.iconst 0, 1) := by decide +kernel
theorem dX9_find_15 : decode cX9_find 15 = .ok (.iconst 1, 1) := by decide +kernel
theorem dX9_find_16 : decode cX9_find 16 = .ok (.invokevirtual 160, 3) := by decide +kernel
theorem dX9_find_19 : decode cX9_find 19 = .ok (.iload_n 2, 1) := by decide +kernel
theorem dX9_find_20 : decode cX9_find 20 = .ok (.ifCond .ne 17, 3) := by decide +kernel
theorem dX9_find_23 : decode cX9_find 23 = .ok (.aload_n 0, 1) := by decide +kernel
theorem dX9_find_24 : decode cX9_find 24 = .ok (.getfield 19, 3) := by decide +kernel
theorem dX9_find_27 : decode cX9_find 27 = .ok (.getfield 218, 3) := by decide +kernel
theorem dX9_find_30 : decode cX9_find 30 = .ok (.iload_n 1, 1) := by decide +kernel
theorem dX9_find_31 : decode cX9_find 31 = .ok (.invokestatic 211, 3) := by decide +kernel
theorem dX9_find_34 : decode cX9_find 34 = .ok (.goto 14, 3) := by decide +kernel
theorem dX9_find_37 : decode cX9_find 37 = .ok (.aload_n 0, 1) := by decide +kernel
theorem dX9_find_38 : decode cX9_find 38 = .ok (.getfield 19, 3) := by decide +kernel
theorem dX9_find_41 : decode cX9_find 41 = .ok (.getfield 221, 3) := by decide +kernel
theorem dX9_find_44 : decode cX9_find 44 = .ok (.iload_n 1, 1) := by decide +kernel
theorem dX9_find_45 : decode cX9_find 45 = .ok (.invokestatic 211, 3) := by decide +kernel
theorem dX9_find_48 : decode cX9_find 48 = .ok (.ireturn, 1) := by decide +kernel
theorem dX9_due_0 : decode cX9_due 0 = .ok (.aload_n 0, 1) := by decide +kernel
theorem dX9_due_1 : decode cX9_due 1 = .ok (.iload_n 1, 1) := by decide +kernel
theorem dX9_due_2 : decode cX9_due 2 = .ok (.invokevirtual 190, 3) := by decide +kernel
theorem dX9_due_5 : decode cX9_due 5 = .ok (.aload_n 0, 1) := by decide +kernel
theorem dX9_due_6 : decode cX9_due 6 = .ok (.getfield 72, 3) := by decide +kernel
theorem dX9_due_9 : decode cX9_due 9 = .ok (.iload_n 1, 1) := by decide +kernel
theorem dX9_due_10 : decode cX9_due 10 = .ok (.iconst 1, 1) := by decide +kernel
theorem dX9_due_11 : decode cX9_due 11 = .ok (.invokevirtual 224, 3) := by decide +kernel
theorem dX9_due_14 : decode cX9_due 14 = .ok (.ireturn, 1) := by decide +kernel
theorem dX9_would_0 : decode cX9_would 0 = .ok (.aload_n 0, 1) := by decide +kernel
theorem dX9_would_1 : decode cX9_would 1 = .ok (.iload_n 1, 1) := by decide +kernel
theorem dX9_would_2 : decode cX9_would 2 = .ok (.iconst 1, 1) := by decide +kernel
theorem dX9_would_3 : decode cX9_would 3 = .ok (.bipush 60, 2) := by decide +kernel
theorem dX9_would_5 : decode cX9_would 5 = .ok (.invokevirtual 160, 3) := by decide +kernel
theorem dX9_would_8 : decode cX9_would 8 = .ok (.aload_n 0, 1) := by decide +kernel
theorem dX9_would_9 : decode cX9_would 9 = .ok (.iload_n 2, 1) := by decide +kernel
theorem dX9_would_10 : decode cX9_would 10 = .ok (.iconst 0, 1) := by decide +kernel
theorem dX9_would_11 : decode cX9_would 11 = .ok (.bipush 10, 2) := by decide +kernel
theorem dX9_would_13 : decode cX9_would 13 = .ok (.invokevirtual 160, 3) := by decide +kernel
theorem dX9_would_16 : decode cX9_would 16 = .ok (.aload_n 0, 1) := by decide +kernel
theorem dX9_would_17 : decode cX9_would 17 = .ok (.iload_n 3, 1) := by decide +kernel
theorem dX9_would_18 : decode cX9_would 18 = .ok (.iconst 0, 1) := by decide +kernel
theorem dX9_would_19 : decode cX9_would 19 = .ok (.bipush 10, 2) := by decide +kernel
theorem dX9_would_21 : decode cX9_would 21 = .ok (.invokevirtual 160, 3) := by decide +kernel
theorem dX9_would_24 : decode cX9_would 24 = .ok (.aload_n 0, 1) := by decide +kernel
theorem dX9_would_25 : decode cX9_would 25 = .ok (.iload 4, 2) := by decide +kernel
theorem dX9_would_27 : decode cX9_would 27 = .ok (.iconst 0, 1) := by decide +kernel
theorem dX9_would_28 : decode cX9_would 28 = .ok (.sipush 999, 3) := by decide +kernel
theorem dX9_would_31 : decode cX9_would 31 = .ok (.invokevirtual 160, 3) := by decide +kernel
theorem dX9_would_34 : decode cX9_would 34 = .ok (.aload_n 0, 1) := by decide +kernel
theorem dX9_would_35 : decode cX9_would 35 = .ok (.iload 5, 2) := by decide +kernel
theorem dX9_would_37 : decode cX9_would 37 = .ok (.iconst 0, 1) := by decide +kernel
theorem dX9_would_38 : decode cX9_would 38 = .ok (.bipush 40, 2) := by decide +kernel
theorem dX9_would_40 : decode cX9_would 40 = .ok (.invokevirtual 160, 3) := by decide +kernel
theorem dX9_would_43 : decode cX9_would 43 = .ok (.aload_n 0, 1) := by decide +kernel
theorem dX9_would_44 : decode cX9_would 44 = .ok (.iload 6, 2) := by decide +kernel
theorem dX9_would_46 : decode cX9_would 46 = .ok (.iconst 0, 1) := by decide +kernel
theorem dX9_would_47 : decode cX9_would 47 = .ok (.iconst 5, 1) := by decide +kernel
theorem dX9_would_48 : decode cX9_would 48 = .ok (.invokevirtual 160, 3) := by decide +kernel
theorem dX9_would_51 : decode cX9_would 51 = .ok (.aload_n 0, 1) := by decide +kernel
theorem dX9_would_52 : decode cX9_would 52 = .ok (.getfield 29, 3) := by decide +kernel
theorem dX9_would_55 : decode cX9_would 55 = .ok (.iload_n 1, 1) := by decide +kernel
theorem dX9_would_56 : decode cX9_would 56 = .ok (.iload_n 2, 1) := by decide +kernel
theorem dX9_would_57 : decode cX9_would 57 = .ok (.iload_n 3, 1) := by decide +kernel
theorem dX9_would_58 : decode cX9_would 58 = .ok (.iload 4, 2) := by decide +kernel
theorem dX9_would_60 : decode cX9_would 60 = .ok (.iload 5, 2) := by decide +kernel
theorem dX9_would_62 : decode cX9_would 62 = .ok (.iload 6, 2) := by decide +kernel
theorem dX9_would_64 : decode cX9_would 64 = .ok (.invokevirtual 227, 3) := by decide +kernel
theorem dX9_would_67 : decode cX9_would 67 = .ok (.ireturn, 1) := by decide +kernel
theorem dX9_ahead_0 : decode cX9_ahead 0 = .ok (.aload_n 0, 1) := by decide +kernel
theorem dX9_ahead_1 : decode cX9_ahead 1 = .ok (.iload_n 1, 1) := by decide +kernel
theorem dX9_ahead_2 : decode cX9_ahead 2 = .ok (.iconst 0, 1) := by decide +kernel
theorem dX9_ahead_3 : decode cX9_ahead 3 = .ok (.bipush 60, 2) := by decide +kernel
theorem dX9_ahead_5 : decode cX9_ahead 5 = .ok (.invokevirtual 160, 3) := by decide +kernel
theorem dX9_ahead_8 : decode cX9_ahead 8 = .ok (.aload_n 0, 1) := by decide +kernel
theorem dX9_ahead_9 : decode cX9_ahead 9 = .ok (.iload_n 2, 1) := by decide +kernel
theorem dX9_ahead_10 : decode cX9_ahead 10 = .ok (.iconst 0, 1) := by decide +kernel
theorem dX9_ahead_11 : decode cX9_ahead 11 = .ok (.iconst 3, 1) := by decide +kernel
theorem dX9_ahead_12 : decode cX9_ahead 12 = .ok (.invokevirtual 160, 3) := by decide +kernel
theorem dX9_ahead_15 : decode cX9_ahead 15 = .ok (.aload_n 0, 1) := by decide +kernel
theorem dX9_ahead_16 : decode cX9_ahead 16 = .ok (.getfield 72, 3) := by decide +kernel
theorem dX9_ahead_19 : decode cX9_ahead 19 = .ok (.iload_n 1, 1) := by decide +kernel
theorem dX9_ahead_20 : decode cX9_ahead 20 = .ok (.iload_n 2, 1) := by decide +kernel
theorem dX9_ahead_21 : decode cX9_ahead 21 = .ok (.invokevirtual 231, 3) := by decide +kernel
theorem dX9_ahead_24 : decode cX9_ahead 24 = .ok (.ireturn, 1) := by decide +kernel
theorem dX9_comes_0 : decode cX9_comes 0 = .ok (.aload_n 0, 1) := by decide +kernel
theorem dX9_comes_1 : decode cX9_comes 1 = .ok (.iload_n 1, 1) := by decide +kernel
theorem dX9_comes_2 : decode cX9_comes 2 = .ok (.invokevirtual 190, 3) := by decide +kernel
theorem dX9_comes_5 : decode cX9_comes 5 = .ok (.aload_n 0, 1) := by decide +kernel
theorem dX9_comes_6 : decode cX9_comes 6 = .ok (.getfield 72, 3) := by decide +kernel
theorem dX9_comes_9 : decode cX9_comes 9 = .ok (.iload_n 1, 1) := by decide +kernel
theorem dX9_comes_10 : decode cX9_comes 10 = .ok (.invokevirtual 234, 3) := by decide +kernel
theorem dX9_comes_13 : decode cX9_comes 13 = .ok (.ireturn, 1) := by decide +kernel
theorem dX9_spring_0 : decode cX9_spring 0 = .ok (.aload_n 0, 1) := by decide +kernel
theorem dX9_spring_1 : decode cX9_spring 1 = .ok (.iload_n 1, 1) := by decide +kernel
theorem dX9_spring_2 : decode cX9_spring 2 = .ok (.iconst 0, 1) := by decide +kernel
theorem dX9_spring_3 : decode cX9_spring 3 = .ok (.iconst 1, 1) := by decide +kernel
theorem dX9_spring_4 : decode cX9_spring 4 = .ok (.invokevirtual 160, 3) := by decide +kernel
theorem dX9_spring_7 : decode cX9_spring 7 = .ok (.aload_n 0, 1) := by decide +kernel
theorem dX9_spring_8 : decode cX9_spring 8 = .ok (.getfield 72, 3) := by decide +kernel
theorem dX9_spring_11 : decode cX9_spring 11 = .ok (.invokevirtual 237, 3) := by decide +kernel
theorem dX9_spring_14 : decode cX9_spring 14 = .ok (.istore_n 2, 1) := by decide +kernel
theorem dX9_spring_15 : decode cX9_spring 15 = .ok (.iload_n 1, 1) := by decide +kernel
theorem dX9_spring_16 : decode cX9_spring 16 = .ok (.ifCond .ne 7, 3) := by decide +kernel
theorem dX9_spring_19 : decode cX9_spring 19 = .ok (.iload_n 2, 1) := by decide +kernel
theorem dX9_spring_20 : decode cX9_spring 20 = .ok (.goto 11, 3) := by decide +kernel
theorem dX9_spring_23 : decode cX9_spring 23 = .ok (.aload_n 0, 1) := by decide +kernel
theorem dX9_spring_24 : decode cX9_spring 24 = .ok (.getfield 72, 3) := by decide +kernel
theorem dX9_spring_27 : decode cX9_spring 27 = .ok (.iload_n 2, 1) := by decide +kernel
theorem dX9_spring_28 : decode cX9_spring 28 = .ok (.invokevirtual 240, 3) := by decide +kernel
theorem dX9_spring_31 : decode cX9_spring 31 = .ok (.ireturn, 1) := by decide +kernel
theorem dX9_carry_0 : decode cX9_carry 0 = .ok (.aload_n 0, 1) := by decide +kernel
theorem dX9_carry_1 : decode cX9_carry 1 = .ok (.iload_n 1, 1) := by decide +kernel
theorem dX9_carry_2 : decode cX9_carry 2 = .ok (.iconst 0, 1) := by decide +kernel
theorem dX9_carry_3 : decode cX9_carry 3 = .ok (.bipush 99, 2) := by decide +kernel
theorem dX9_carry_5 : decode cX9_carry 5 = .ok (.invokevirtual 160, 3) := by decide +kernel
theorem dX9_carry_8 : decode cX9_carry 8 = .ok (.aload_n 0, 1) := by decide +kernel
theorem dX9_carry_9 : decode cX9_carry 9 = .ok (.iload_n 2, 1) := by decide +kernel
theorem dX9_carry_10 : decode cX9_carry 10 = .ok (.iconst 0, 1) := by decide +kernel
theorem dX9_carry_11 : decode cX9_carry 11 = .ok (.bipush 24, 2) := by decide +kernel
theorem dX9_carry_13 : decode cX9_carry 13 = .ok (.invokevirtual 160, 3) := by decide +kernel
theorem dX9_carry_16 : decode cX9_carry 16 = .ok (.aload_n 0, 1) := by decide +kernel
theorem dX9_carry_17 : decode cX9_carry 17 = .ok (.iload_n 3, 1) := by decide +kernel
theorem dX9_carry_18 : decode cX9_carry 18 = .ok (.iconst 0, 1) := by decide +kernel
theorem dX9_carry_19 : decode cX9_carry 19 = .ok (.iconst 1, 1) := by decide +kernel
theorem dX9_carry_20 : decode cX9_carry 20 = .ok (.invokevirtual 160, 3) := by decide +kernel
theorem dX9_carry_23 : decode cX9_carry 23 = .ok (.aload_n 0, 1) := by decide +kernel
theorem dX9_carry_24 : decode cX9_carry 24 = .ok (.getfield 72, 3) := by decide +kernel
theorem dX9_carry_27 : decode cX9_carry 27 = .ok (.iload_n 1, 1) := by decide +kernel
theorem dX9_carry_28 : decode cX9_carry 28 = .ok (.iload_n 2, 1) := by decide +kernel
theorem dX9_carry_29 : decode cX9_carry 29 = .ok (.iload_n 3, 1) := by decide +kernel
theorem dX9_carry_30 : decode cX9_carry 30 = .ok (.invokevirtual 243, 3) := by decide +kernel
theorem dX9_carry_33 : decode cX9_carry 33 = .ok (.ireturn, 1) := by decide +kernel
theorem dX9_rent_0 : decode cX9_rent 0 = .ok (.aload_n 0, 1) := by decide +kernel
theorem dX9_rent_1 : decode cX9_rent 1 = .ok (.iload_n 1, 1) := by decide +kernel
theorem dX9_rent_2 : decode cX9_rent 2 = .ok (.iconst 0, 1) := by decide +kernel
theorem dX9_rent_3 : decode cX9_rent 3 = .ok (.sipush 9999, 3) := by decide +kernel
theorem dX9_rent_6 : decode cX9_rent 6 = .ok (.invokevirtual 160, 3) := by decide +kernel
theorem dX9_rent_9 : decode cX9_rent 9 = .ok (.aload_n 0, 1) := by decide +kernel
theorem dX9_rent_10 : decode cX9_rent 10 = .ok (.iload_n 2, 1) := by decide +kernel
theorem dX9_rent_11 : decode cX9_rent 11 = .ok (.iconst 0, 1) := by decide +kernel
theorem dX9_rent_12 : decode cX9_rent 12 = .ok (.bipush 24, 2) := by decide +kernel
theorem dX9_rent_14 : decode cX9_rent 14 = .ok (.invokevirtual 160, 3) := by decide +kernel
theorem dX9_rent_17 : decode cX9_rent 17 = .ok (.aload_n 0, 1) := by decide +kernel
theorem dX9_rent_18 : decode cX9_rent 18 = .ok (.getfield 72, 3) := by decide +kernel
theorem dX9_rent_21 : decode cX9_rent 21 = .ok (.iload_n 1, 1) := by decide +kernel
theorem dX9_rent_22 : decode cX9_rent 22 = .ok (.iload_n 2, 1) := by decide +kernel
theorem dX9_rent_23 : decode cX9_rent 23 = .ok (.invokevirtual 247, 3) := by decide +kernel
theorem dX9_rent_26 : decode cX9_rent 26 = .ok (.ireturn, 1) := by decide +kernel
theorem dX9_bags_0 : decode cX9_bags 0 = .ok (.aload_n 0, 1) := by decide +kernel
theorem dX9_bags_1 : decode cX9_bags 1 = .ok (.iload_n 1, 1) := by decide +kernel
theorem dX9_bags_2 : decode cX9_bags 2 = .ok (.invokevirtual 250, 3) := by decide +kernel
theorem dX9_bags_5 : decode cX9_bags 5 = .ok (.aload_n 0, 1) := by decide +kernel
theorem dX9_bags_6 : decode cX9_bags 6 = .ok (.iload_n 2, 1) := by decide +kernel
theorem dX9_bags_7 : decode cX9_bags 7 = .ok (.iconst 0, 1) := by decide +kernel
theorem dX9_bags_8 : decode cX9_bags 8 = .ok (.bipush 24, 2) := by decide +kernel
theorem dX9_bags_10 : decode cX9_bags 10 = .ok (.invokevirtual 160, 3) := by decide +kernel
theorem dX9_bags_13 : decode cX9_bags 13 = .ok (.aload_n 0, 1) := by decide +kernel
theorem dX9_bags_14 : decode cX9_bags 14 = .ok (.getfield 72, 3) := by decide +kernel
theorem dX9_bags_17 : decode cX9_bags 17 = .ok (.iload_n 1, 1) := by decide +kernel
theorem dX9_bags_18 : decode cX9_bags 18 = .ok (.iload_n 2, 1) := by decide +kernel
theorem dX9_bags_19 : decode cX9_bags 19 = .ok (.invokevirtual 253, 3) := by decide +kernel
theorem dX9_bags_22 : decode cX9_bags 22 = .ok (.ireturn, 1) := by decide +kernel
theorem dX9_parlour_0 : decode cX9_parlour 0 = .ok (.aload_n 0, 1) := by decide +kernel
theorem dX9_parlour_1 : decode cX9_parlour 1 = .ok (.iload_n 1, 1) := by decide +kernel
theorem dX9_parlour_2 : decode cX9_parlour 2 = .ok (.iconst 0, 1) := by decide +kernel
theorem dX9_parlour_3 : decode cX9_parlour 3 = .ok (.bipush 12, 2) := by decide +kernel
theorem dX9_parlour_5 : decode cX9_parlour 5 = .ok (.invokevirtual 160, 3) := by decide +kernel
theorem dX9_parlour_8 : decode cX9_parlour 8 = .ok (.aload_n 0, 1) := by decide +kernel
theorem dX9_parlour_9 : decode cX9_parlour 9 = .ok (.iload_n 2, 1) := by decide +kernel
theorem dX9_parlour_10 : decode cX9_parlour 10 = .ok (.iconst 0, 1) := by decide +kernel
theorem dX9_parlour_11 : decode cX9_parlour 11 = .ok (.bipush 16, 2) := by decide +kernel
