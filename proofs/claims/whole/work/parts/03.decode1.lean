theorem dX9_parlour_13 : decode cX9_parlour 13 = .ok (.invokevirtual 160, 3) := by decide +kernel
theorem dX9_parlour_16 : decode cX9_parlour 16 = .ok (.aload_n 0, 1) := by decide +kernel
theorem dX9_parlour_17 : decode cX9_parlour 17 = .ok (.iload_n 3, 1) := by decide +kernel
theorem dX9_parlour_18 : decode cX9_parlour 18 = .ok (.iconst 0, 1) := by decide +kernel
theorem dX9_parlour_19 : decode cX9_parlour 19 = .ok (.iconst 2, 1) := by decide +kernel
theorem dX9_parlour_20 : decode cX9_parlour 20 = .ok (.invokevirtual 160, 3) := by decide +kernel
theorem dX9_parlour_23 : decode cX9_parlour 23 = .ok (.iload_n 1, 1) := by decide +kernel
theorem dX9_parlour_24 : decode cX9_parlour 24 = .ok (.iload_n 2, 1) := by decide +kernel
theorem dX9_parlour_25 : decode cX9_parlour 25 = .ok (.iload_n 3, 1) := by decide +kernel
theorem dX9_parlour_26 : decode cX9_parlour 26 = .ok (.invokestatic 256, 3) := by decide +kernel
theorem dX9_parlour_29 : decode cX9_parlour 29 = .ok (.ireturn, 1) := by decide +kernel
theorem dX9_in_0 : decode cX9_in 0 = .ok (.aload_n 0, 1) := by decide +kernel
theorem dX9_in_1 : decode cX9_in 1 = .ok (.iload_n 1, 1) := by decide +kernel
theorem dX9_in_2 : decode cX9_in 2 = .ok (.iconst 0, 1) := by decide +kernel
theorem dX9_in_3 : decode cX9_in 3 = .ok (.iconst 2, 1) := by decide +kernel
theorem dX9_in_4 : decode cX9_in 4 = .ok (.invokevirtual 160, 3) := by decide +kernel
theorem dX9_in_7 : decode cX9_in 7 = .ok (.iload_n 1, 1) := by decide +kernel
theorem dX9_in_8 : decode cX9_in 8 = .ok (.ifCond .ne 19, 3) := by decide +kernel
theorem dX9_in_11 : decode cX9_in 11 = .ok (.aload_n 0, 1) := by decide +kernel
theorem dX9_in_12 : decode cX9_in 12 = .ok (.getfield 46, 3) := by decide +kernel
theorem dX9_in_15 : decode cX9_in 15 = .ok (.aload_n 0, 1) := by decide +kernel
theorem dX9_in_16 : decode cX9_in 16 = .ok (.getfield 19, 3) := by decide +kernel
theorem dX9_in_19 : decode cX9_in 19 = .ok (.aload_n 0, 1) := by decide +kernel
theorem dX9_in_20 : decode cX9_in 20 = .ok (.getfield 56, 3) := by decide +kernel
theorem dX9_in_23 : decode cX9_in 23 = .ok (.invokevirtual 261, 3) := by decide +kernel
theorem dX9_in_26 : decode cX9_in 26 = .ok (.ireturn, 1) := by decide +kernel
theorem dX9_in_27 : decode cX9_in 27 = .ok (.aload_n 0, 1) := by decide +kernel
theorem dX9_in_28 : decode cX9_in 28 = .ok (.getfield 46, 3) := by decide +kernel
theorem dX9_in_31 : decode cX9_in 31 = .ok (.aload_n 0, 1) := by decide +kernel
theorem dX9_in_32 : decode cX9_in 32 = .ok (.getfield 19, 3) := by decide +kernel
theorem dX9_in_35 : decode cX9_in 35 = .ok (.aload_n 0, 1) := by decide +kernel
theorem dX9_in_36 : decode cX9_in 36 = .ok (.getfield 56, 3) := by decide +kernel
theorem dX9_in_39 : decode cX9_in 39 = .ok (.invokevirtual 265, 3) := by decide +kernel
theorem dX9_in_42 : decode cX9_in 42 = .ok (.istore_n 2, 1) := by decide +kernel
theorem dX9_in_43 : decode cX9_in 43 = .ok (.iload_n 2, 1) := by decide +kernel
theorem dX9_in_44 : decode cX9_in 44 = .ok (.iload_n 2, 1) := by decide +kernel
theorem dX9_in_45 : decode cX9_in 45 = .ok (.ineg, 1) := by decide +kernel
theorem dX9_in_46 : decode cX9_in 46 = .ok (.iand, 1) := by decide +kernel
theorem dX9_in_47 : decode cX9_in 47 = .ok (.istore_n 3, 1) := by decide +kernel
theorem dX9_in_48 : decode cX9_in 48 = .ok (.iload_n 1, 1) := by decide +kernel
theorem dX9_in_49 : decode cX9_in 49 = .ok (.iconst 1, 1) := by decide +kernel
theorem dX9_in_50 : decode cX9_in 50 = .ok (.if_icmp .ne 13, 3) := by decide +kernel
theorem dX9_in_53 : decode cX9_in 53 = .ok (.iload_n 2, 1) := by decide +kernel
theorem dX9_in_54 : decode cX9_in 54 = .ok (.ifCond .ne 7, 3) := by decide +kernel
theorem dX9_in_57 : decode cX9_in 57 = .ok (.iconst (-1), 1) := by decide +kernel
theorem dX9_in_58 : decode cX9_in 58 = .ok (.goto 4, 3) := by decide +kernel
theorem dX9_in_61 : decode cX9_in 61 = .ok (.iload_n 3, 1) := by decide +kernel
theorem dX9_in_62 : decode cX9_in 62 = .ok (.ireturn, 1) := by decide +kernel
theorem dX9_in_63 : decode cX9_in 63 = .ok (.iload_n 3, 1) := by decide +kernel
theorem dX9_in_64 : decode cX9_in 64 = .ok (.iload_n 2, 1) := by decide +kernel
theorem dX9_in_65 : decode cX9_in 65 = .ok (.if_icmp .ne 7, 3) := by decide +kernel
theorem dX9_in_68 : decode cX9_in 68 = .ok (.iload_n 3, 1) := by decide +kernel
theorem dX9_in_69 : decode cX9_in 69 = .ok (.goto 4, 3) := by decide +kernel
theorem dX9_in_72 : decode cX9_in 72 = .ok (.iconst 0, 1) := by decide +kernel
theorem dX9_in_73 : decode cX9_in 73 = .ok (.ireturn, 1) := by decide +kernel
theorem dX9_board_0 : decode cX9_board 0 = .ok (.aload_n 0, 1) := by decide +kernel
theorem dX9_board_1 : decode cX9_board 1 = .ok (.iload_n 1, 1) := by decide +kernel
theorem dX9_board_2 : decode cX9_board 2 = .ok (.iconst 0, 1) := by decide +kernel
theorem dX9_board_3 : decode cX9_board 3 = .ok (.iconst 1, 1) := by decide +kernel
theorem dX9_board_4 : decode cX9_board 4 = .ok (.invokevirtual 160, 3) := by decide +kernel
theorem dX9_board_7 : decode cX9_board 7 = .ok (.aload_n 0, 1) := by decide +kernel
theorem dX9_board_8 : decode cX9_board 8 = .ok (.getfield 46, 3) := by decide +kernel
theorem dX9_board_11 : decode cX9_board 11 = .ok (.aload_n 0, 1) := by decide +kernel
theorem dX9_board_12 : decode cX9_board 12 = .ok (.getfield 19, 3) := by decide +kernel
theorem dX9_board_15 : decode cX9_board 15 = .ok (.aload_n 0, 1) := by decide +kernel
theorem dX9_board_16 : decode cX9_board 16 = .ok (.getfield 56, 3) := by decide +kernel
theorem dX9_board_19 : decode cX9_board 19 = .ok (.invokevirtual 268, 3) := by decide +kernel
theorem dX9_board_22 : decode cX9_board 22 = .ok (.istore_n 2, 1) := by decide +kernel
theorem dX9_board_23 : decode cX9_board 23 = .ok (.iload_n 1, 1) := by decide +kernel
theorem dX9_board_24 : decode cX9_board 24 = .ok (.ifCond .eq 8, 3) := by decide +kernel
theorem dX9_board_27 : decode cX9_board 27 = .ok (.iload_n 2, 1) := by decide +kernel
theorem dX9_board_28 : decode cX9_board 28 = .ok (.iconst (-1), 1) := by decide +kernel
theorem dX9_board_29 : decode cX9_board 29 = .ok (.if_icmp .ne 7, 3) := by decide +kernel
theorem dX9_board_32 : decode cX9_board 32 = .ok (.iload_n 2, 1) := by decide +kernel
theorem dX9_board_33 : decode cX9_board 33 = .ok (.goto 19, 3) := by decide +kernel
theorem dX9_board_36 : decode cX9_board 36 = .ok (.aload_n 0, 1) := by decide +kernel
theorem dX9_board_37 : decode cX9_board 37 = .ok (.getfield 46, 3) := by decide +kernel
theorem dX9_board_40 : decode cX9_board 40 = .ok (.aload_n 0, 1) := by decide +kernel
theorem dX9_board_41 : decode cX9_board 41 = .ok (.getfield 19, 3) := by decide +kernel
theorem dX9_board_44 : decode cX9_board 44 = .ok (.aload_n 0, 1) := by decide +kernel
theorem dX9_board_45 : decode cX9_board 45 = .ok (.getfield 56, 3) := by decide +kernel
theorem dX9_board_48 : decode cX9_board 48 = .ok (.iload_n 2, 1) := by decide +kernel
theorem dX9_board_49 : decode cX9_board 49 = .ok (.invokevirtual 271, 3) := by decide +kernel
theorem dX9_board_52 : decode cX9_board 52 = .ok (.ireturn, 1) := by decide +kernel
theorem dX9_drift_0 : decode cX9_drift 0 = .ok (.aload_n 0, 1) := by decide +kernel
theorem dX9_drift_1 : decode cX9_drift 1 = .ok (.iload_n 1, 1) := by decide +kernel
theorem dX9_drift_2 : decode cX9_drift 2 = .ok (.invokevirtual 190, 3) := by decide +kernel
theorem dX9_drift_5 : decode cX9_drift 5 = .ok (.aload_n 0, 1) := by decide +kernel
theorem dX9_drift_6 : decode cX9_drift 6 = .ok (.iload_n 2, 1) := by decide +kernel
theorem dX9_drift_7 : decode cX9_drift 7 = .ok (.iconst 1, 1) := by decide +kernel
theorem dX9_drift_8 : decode cX9_drift 8 = .ok (.bipush 20, 2) := by decide +kernel
theorem dX9_drift_10 : decode cX9_drift 10 = .ok (.invokevirtual 160, 3) := by decide +kernel
theorem dX9_drift_13 : decode cX9_drift 13 = .ok (.aload_n 0, 1) := by decide +kernel
theorem dX9_drift_14 : decode cX9_drift 14 = .ok (.iload_n 3, 1) := by decide +kernel
theorem dX9_drift_15 : decode cX9_drift 15 = .ok (.iconst 0, 1) := by decide +kernel
theorem dX9_drift_16 : decode cX9_drift 16 = .ok (.bipush 24, 2) := by decide +kernel
theorem dX9_drift_18 : decode cX9_drift 18 = .ok (.invokevirtual 160, 3) := by decide +kernel
theorem dX9_drift_21 : decode cX9_drift 21 = .ok (.aload_n 0, 1) := by decide +kernel
theorem dX9_drift_22 : decode cX9_drift 22 = .ok (.getfield 72, 3) := by decide +kernel
theorem dX9_drift_25 : decode cX9_drift 25 = .ok (.iload_n 1, 1) := by decide +kernel
theorem dX9_drift_26 : decode cX9_drift 26 = .ok (.iload_n 2, 1) := by decide +kernel
theorem dX9_drift_27 : decode cX9_drift 27 = .ok (.iload_n 3, 1) := by decide +kernel
theorem dX9_drift_28 : decode cX9_drift 28 = .ok (.invokevirtual 275, 3) := by decide +kernel
theorem dX9_drift_31 : decode cX9_drift 31 = .ok (.ireturn, 1) := by decide +kernel
theorem dX9_whence_0 : decode cX9_whence 0 = .ok (.aload_n 0, 1) := by decide +kernel
theorem dX9_whence_1 : decode cX9_whence 1 = .ok (.iload_n 1, 1) := by decide +kernel
theorem dX9_whence_2 : decode cX9_whence 2 = .ok (.invokevirtual 190, 3) := by decide +kernel
theorem dX9_whence_5 : decode cX9_whence 5 = .ok (.aload_n 0, 1) := by decide +kernel
theorem dX9_whence_6 : decode cX9_whence 6 = .ok (.iload_n 2, 1) := by decide +kernel
theorem dX9_whence_7 : decode cX9_whence 7 = .ok (.iconst 0, 1) := by decide +kernel
theorem dX9_whence_8 : decode cX9_whence 8 = .ok (.bipush 24, 2) := by decide +kernel
theorem dX9_whence_10 : decode cX9_whence 10 = .ok (.invokevirtual 160, 3) := by decide +kernel
theorem dX9_whence_13 : decode cX9_whence 13 = .ok (.aload_n 0, 1) := by decide +kernel
theorem dX9_whence_14 : decode cX9_whence 14 = .ok (.iload_n 3, 1) := by decide +kernel
theorem dX9_whence_15 : decode cX9_whence 15 = .ok (.iconst 0, 1) := by decide +kernel
theorem dX9_whence_16 : decode cX9_whence 16 = .ok (.iconst 2, 1) := by decide +kernel
theorem dX9_whence_17 : decode cX9_whence 17 = .ok (.invokevirtual 160, 3) := by decide +kernel
theorem dX9_whence_20 : decode cX9_whence 20 = .ok (.aload_n 0, 1) := by decide +kernel
theorem dX9_whence_21 : decode cX9_whence 21 = .ok (.getfield 72, 3) := by decide +kernel
theorem dX9_whence_24 : decode cX9_whence 24 = .ok (.iload_n 1, 1) := by decide +kernel
theorem dX9_whence_25 : decode cX9_whence 25 = .ok (.iload_n 2, 1) := by decide +kernel
theorem dX9_whence_26 : decode cX9_whence 26 = .ok (.iload_n 3, 1) := by decide +kernel
theorem dX9_whence_27 : decode cX9_whence 27 = .ok (.invokevirtual 278, 3) := by decide +kernel
theorem dX9_whence_30 : decode cX9_whence 30 = .ok (.ireturn, 1) := by decide +kernel
theorem dX9_gain_0 : decode cX9_gain 0 = .ok (.aload_n 0, 1) := by decide +kernel
theorem dX9_gain_1 : decode cX9_gain 1 = .ok (.iload_n 1, 1) := by decide +kernel
theorem dX9_gain_2 : decode cX9_gain 2 = .ok (.invokevirtual 190, 3) := by decide +kernel
theorem dX9_gain_5 : decode cX9_gain 5 = .ok (.aload_n 0, 1) := by decide +kernel
theorem dX9_gain_6 : decode cX9_gain 6 = .ok (.iload_n 2, 1) := by decide +kernel
theorem dX9_gain_7 : decode cX9_gain 7 = .ok (.iconst 0, 1) := by decide +kernel
theorem dX9_gain_8 : decode cX9_gain 8 = .ok (.bipush 60, 2) := by decide +kernel
theorem dX9_gain_10 : decode cX9_gain 10 = .ok (.invokevirtual 160, 3) := by decide +kernel
theorem dX9_gain_13 : decode cX9_gain 13 = .ok (.aload_n 0, 1) := by decide +kernel
theorem dX9_gain_14 : decode cX9_gain 14 = .ok (.iload_n 3, 1) := by decide +kernel
theorem dX9_gain_15 : decode cX9_gain 15 = .ok (.iconst 0, 1) := by decide +kernel
theorem dX9_gain_16 : decode cX9_gain 16 = .ok (.iconst 1, 1) := by decide +kernel
theorem dX9_gain_17 : decode cX9_gain 17 = .ok (.invokevirtual 160, 3) := by decide +kernel
theorem dX9_gain_20 : decode cX9_gain 20 = .ok (.aload_n 0, 1) := by decide +kernel
theorem dX9_gain_21 : decode cX9_gain 21 = .ok (.getfield 72, 3) := by decide +kernel
theorem dX9_gain_24 : decode cX9_gain 24 = .ok (.iload_n 1, 1) := by decide +kernel
theorem dX9_gain_25 : decode cX9_gain 25 = .ok (.iload_n 2, 1) := by decide +kernel
theorem dX9_gain_26 : decode cX9_gain 26 = .ok (.iload_n 3, 1) := by decide +kernel
theorem dX9_gain_27 : decode cX9_gain 27 = .ok (.invokevirtual 281, 3) := by decide +kernel
theorem dX9_gain_30 : decode cX9_gain 30 = .ok (.ireturn, 1) := by decide +kernel
theorem dX9_share_0 : decode cX9_share 0 = .ok (.aload_n 0, 1) := by decide +kernel
theorem dX9_share_1 : decode cX9_share 1 = .ok (.iload_n 1, 1) := by decide +kernel
theorem dX9_share_2 : decode cX9_share 2 = .ok (.invokevirtual 190, 3) := by decide +kernel
theorem dX9_share_5 : decode cX9_share 5 = .ok (.aload_n 0, 1) := by decide +kernel
theorem dX9_share_6 : decode cX9_share 6 = .ok (.iload_n 2, 1) := by decide +kernel
theorem dX9_share_7 : decode cX9_share 7 = .ok (.invokevirtual 250, 3) := by decide +kernel
theorem dX9_share_10 : decode cX9_share 10 = .ok (.aload_n 0, 1) := by decide +kernel
theorem dX9_share_11 : decode cX9_share 11 = .ok (.iload_n 3, 1) := by decide +kernel
theorem dX9_share_12 : decode cX9_share 12 = .ok (.iconst 0, 1) := by decide +kernel
theorem dX9_share_13 : decode cX9_share 13 = .ok (.sipush 999, 3) := by decide +kernel
theorem dX9_share_16 : decode cX9_share 16 = .ok (.invokevirtual 160, 3) := by decide +kernel
theorem dX9_share_19 : decode cX9_share 19 = .ok (.iload_n 2, 1) := by decide +kernel
theorem dX9_share_20 : decode cX9_share 20 = .ok (.iload_n 1, 1) := by decide +kernel
theorem dX9_share_21 : decode cX9_share 21 = .ok (.ishr, 1) := by decide +kernel
theorem dX9_share_22 : decode cX9_share 22 = .ok (.iconst 1, 1) := by decide +kernel
theorem dX9_share_23 : decode cX9_share 23 = .ok (.iand, 1) := by decide +kernel
theorem dX9_share_24 : decode cX9_share 24 = .ok (.ifCond .ne 5, 3) := by decide +kernel
theorem dX9_share_27 : decode cX9_share 27 = .ok (.iconst 0, 1) := by decide +kernel
theorem dX9_share_28 : decode cX9_share 28 = .ok (.ireturn, 1) := by decide +kernel
theorem dX9_share_29 : decode cX9_share 29 = .ok (.aload_n 0, 1) := by decide +kernel
theorem dX9_share_30 : decode cX9_share 30 = .ok (.getfield 56, 3) := by decide +kernel
theorem dX9_share_33 : decode cX9_share 33 = .ok (.bipush 62, 2) := by decide +kernel
theorem dX9_share_35 : decode cX9_share 35 = .ok (.iload_n 1, 1) := by decide +kernel
theorem dX9_share_36 : decode cX9_share 36 = .ok (.invokevirtual 193, 3) := by decide +kernel
theorem dX9_share_39 : decode cX9_share 39 = .ok (.aload_n 0, 1) := by decide +kernel
theorem dX9_share_40 : decode cX9_share 40 = .ok (.getfield 56, 3) := by decide +kernel
theorem dX9_share_43 : decode cX9_share 43 = .ok (.aload_n 0, 1) := by decide +kernel
theorem dX9_share_44 : decode cX9_share 44 = .ok (.getfield 19, 3) := by decide +kernel
theorem dX9_share_47 : decode cX9_share 47 = .ok (.iload_n 2, 1) := by decide +kernel
theorem dX9_share_48 : decode cX9_share 48 = .ok (.iload_n 3, 1) := by decide +kernel
theorem dX9_share_49 : decode cX9_share 49 = .ok (.invokevirtual 284, 3) := by decide +kernel
theorem dX9_share_52 : decode cX9_share 52 = .ok (.invokestatic 288, 3) := by decide +kernel
theorem dX9_share_55 : decode cX9_share 55 = .ok (.ireturn, 1) := by decide +kernel
theorem dX9_soaked_0 : decode cX9_soaked 0 = .ok (.aload_n 0, 1) := by decide +kernel
theorem dX9_soaked_1 : decode cX9_soaked 1 = .ok (.iload_n 1, 1) := by decide +kernel
theorem dX9_soaked_2 : decode cX9_soaked 2 = .ok (.aload_n 0, 1) := by decide +kernel
theorem dX9_soaked_3 : decode cX9_soaked 3 = .ok (.getfield 19, 3) := by decide +kernel
theorem dX9_soaked_6 : decode cX9_soaked 6 = .ok (.getfield 110, 3) := by decide +kernel
theorem dX9_soaked_9 : decode cX9_soaked 9 = .ok (.invokevirtual 204, 3) := by decide +kernel
theorem dX9_soaked_12 : decode cX9_soaked 12 = .ok (.aload_n 0, 1) := by decide +kernel
theorem dX9_soaked_13 : decode cX9_soaked 13 = .ok (.iload_n 2, 1) := by decide +kernel
theorem dX9_soaked_14 : decode cX9_soaked 14 = .ok (.iconst 0, 1) := by decide +kernel
theorem dX9_soaked_15 : decode cX9_soaked 15 = .ok (.bipush 60, 2) := by decide +kernel
theorem dX9_soaked_17 : decode cX9_soaked 17 = .ok (.invokevirtual 160, 3) := by decide +kernel
theorem dX9_soaked_20 : decode cX9_soaked 20 = .ok (.aload_n 0, 1) := by decide +kernel
theorem dX9_soaked_21 : decode cX9_soaked 21 = .ok (.getfield 72, 3) := by decide +kernel
theorem dX9_soaked_24 : decode cX9_soaked 24 = .ok (.iload_n 1, 1) := by decide +kernel
theorem dX9_soaked_25 : decode cX9_soaked 25 = .ok (.iload_n 2, 1) := by decide +kernel
theorem dX9_soaked_26 : decode cX9_soaked 26 = .ok (.invokevirtual 293, 3) := by decide +kernel
theorem dX9_soaked_29 : decode cX9_soaked 29 = .ok (.ireturn, 1) := by decide +kernel
theorem dX9_snaps_0 : decode cX9_snaps 0 = .ok (.aload_n 0, 1) := by decide +kernel
theorem dX9_snaps_1 : decode cX9_snaps 1 = .ok (.iload_n 1, 1) := by decide +kernel
theorem dX9_snaps_2 : decode cX9_snaps 2 = .ok (.aload_n 0, 1) := by decide +kernel
theorem dX9_snaps_3 : decode cX9_snaps 3 = .ok (.getfield 19, 3) := by decide +kernel
theorem dX9_snaps_6 : decode cX9_snaps 6 = .ok (.getfield 110, 3) := by decide +kernel
theorem dX9_snaps_9 : decode cX9_snaps 9 = .ok (.invokevirtual 204, 3) := by decide +kernel
theorem dX9_snaps_12 : decode cX9_snaps 12 = .ok (.aload_n 0, 1) := by decide +kernel
theorem dX9_snaps_13 : decode cX9_snaps 13 = .ok (.getfield 72, 3) := by decide +kernel
theorem dX9_snaps_16 : decode cX9_snaps 16 = .ok (.iload_n 1, 1) := by decide +kernel
theorem dX9_snaps_17 : decode cX9_snaps 17 = .ok (.invokevirtual 296, 3) := by decide +kernel
theorem dX9_snaps_20 : decode cX9_snaps 20 = .ok (.ireturn, 1) := by decide +kernel
theorem dX9_fullest_0 : decode cX9_fullest 0 = .ok (.aload_n 0, 1) := by decide +kernel
theorem dX9_fullest_1 : decode cX9_fullest 1 = .ok (.iload_n 1, 1) := by decide +kernel
theorem dX9_fullest_2 : decode cX9_fullest 2 = .ok (.iconst 0, 1) := by decide +kernel
theorem dX9_fullest_3 : decode cX9_fullest 3 = .ok (.iconst 1, 1) := by decide +kernel
theorem dX9_fullest_4 : decode cX9_fullest 4 = .ok (.invokevirtual 160, 3) := by decide +kernel
theorem dX9_fullest_7 : decode cX9_fullest 7 = .ok (.iconst (-1), 1) := by decide +kernel
theorem dX9_fullest_8 : decode cX9_fullest 8 = .ok (.istore_n 2, 1) := by decide +kernel
theorem dX9_fullest_9 : decode cX9_fullest 9 = .ok (.iconst 0, 1) := by decide +kernel
theorem dX9_fullest_10 : decode cX9_fullest 10 = .ok (.istore_n 3, 1) := by decide +kernel
theorem dX9_fullest_11 : decode cX9_fullest 11 = .ok (.iconst 0, 1) := by decide +kernel
theorem dX9_fullest_12 : decode cX9_fullest 12 = .ok (.istore 4, 2) := by decide +kernel
theorem dX9_fullest_14 : decode cX9_fullest 14 = .ok (.iload 4, 2) := by decide +kernel
theorem dX9_fullest_16 : decode cX9_fullest 16 = .ok (.aload_n 0, 1) := by decide +kernel
theorem dX9_fullest_17 : decode cX9_fullest 17 = .ok (.getfield 19, 3) := by decide +kernel
theorem dX9_fullest_20 : decode cX9_fullest 20 = .ok (.getfield 138, 3) := by decide +kernel
theorem dX9_fullest_23 : decode cX9_fullest 23 = .ok (.if_icmp .ge 39, 3) := by decide +kernel
theorem dX9_fullest_26 : decode cX9_fullest 26 = .ok (.aload_n 0, 1) := by decide +kernel
theorem dX9_fullest_27 : decode cX9_fullest 27 = .ok (.getfield 56, 3) := by decide +kernel
theorem dX9_fullest_30 : decode cX9_fullest 30 = .ok (.aload_n 0, 1) := by decide +kernel
theorem dX9_fullest_31 : decode cX9_fullest 31 = .ok (.getfield 19, 3) := by decide +kernel
theorem dX9_fullest_34 : decode cX9_fullest 34 = .ok (.iload 4, 2) := by decide +kernel
theorem dX9_fullest_36 : decode cX9_fullest 36 = .ok (.invokevirtual 200, 3) := by decide +kernel
theorem dX9_fullest_39 : decode cX9_fullest 39 = .ok (.invokestatic 299, 3) := by decide +kernel
theorem dX9_fullest_42 : decode cX9_fullest 42 = .ok (.istore 5, 2) := by decide +kernel
theorem dX9_fullest_44 : decode cX9_fullest 44 = .ok (.iload 5, 2) := by decide +kernel
theorem dX9_fullest_46 : decode cX9_fullest 46 = .ok (.iload_n 3, 1) := by decide +kernel
theorem dX9_fullest_47 : decode cX9_fullest 47 = .ok (.if_icmp .le 9, 3) := by decide +kernel
theorem dX9_fullest_50 : decode cX9_fullest 50 = .ok (.iload 4, 2) := by decide +kernel
theorem dX9_fullest_52 : decode cX9_fullest 52 = .ok (.istore_n 2, 1) := by decide +kernel
theorem dX9_fullest_53 : decode cX9_fullest 53 = .ok (.iload 5, 2) := by decide +kernel
theorem dX9_fullest_55 : decode cX9_fullest 55 = .ok (.istore_n 3, 1) := by decide +kernel
theorem dX9_fullest_56 : decode cX9_fullest 56 = .ok (.iinc 4 1, 3) := by decide +kernel
theorem dX9_fullest_59 : decode cX9_fullest 59 = .ok (.goto (-45), 3) := by decide +kernel
theorem dX9_fullest_62 : decode cX9_fullest 62 = .ok (.iload_n 1, 1) := by decide +kernel
theorem dX9_fullest_63 : decode cX9_fullest 63 = .ok (.ifCond .eq 8, 3) := by decide +kernel
theorem dX9_fullest_66 : decode cX9_fullest 66 = .ok (.iload_n 2, 1) := by decide +kernel
theorem dX9_fullest_67 : decode cX9_fullest 67 = .ok (.iconst (-1), 1) := by decide +kernel
theorem dX9_fullest_68 : decode cX9_fullest 68 = .ok (.if_icmp .ne 7, 3) := by decide +kernel
theorem dX9_fullest_71 : decode cX9_fullest 71 = .ok (.iload_n 2, 1) := by decide +kernel
theorem dX9_fullest_72 : decode cX9_fullest 72 = .ok (.goto 4, 3) := by decide +kernel
theorem dX9_fullest_75 : decode cX9_fullest 75 = .ok (.iload_n 3, 1) := by decide +kernel
theorem dX9_fullest_76 : decode cX9_fullest 76 = .ok (.ireturn, 1) := by decide +kernel
theorem dX9_pays_0 : decode cX9_pays 0 = .ok (.aload_n 0, 1) := by decide +kernel
theorem dX9_pays_1 : decode cX9_pays 1 = .ok (.iload_n 1, 1) := by decide +kernel
theorem dX9_pays_2 : decode cX9_pays 2 = .ok (.invokevirtual 190, 3) := by decide +kernel
theorem dX9_pays_5 : decode cX9_pays 5 = .ok (.aload_n 0, 1) := by decide +kernel
theorem dX9_pays_6 : decode cX9_pays 6 = .ok (.iload_n 2, 1) := by decide +kernel
theorem dX9_pays_7 : decode cX9_pays 7 = .ok (.iconst 0, 1) := by decide +kernel
theorem dX9_pays_8 : decode cX9_pays 8 = .ok (.bipush 60, 2) := by decide +kernel
theorem dX9_pays_10 : decode cX9_pays 10 = .ok (.invokevirtual 160, 3) := by decide +kernel
theorem dX9_pays_13 : decode cX9_pays 13 = .ok (.aload_n 0, 1) := by decide +kernel
theorem dX9_pays_14 : decode cX9_pays 14 = .ok (.getfield 72, 3) := by decide +kernel
theorem dX9_pays_17 : decode cX9_pays 17 = .ok (.iload_n 1, 1) := by decide +kernel
theorem dX9_pays_18 : decode cX9_pays 18 = .ok (.iload_n 2, 1) := by decide +kernel
theorem dX9_pays_19 : decode cX9_pays 19 = .ok (.invokevirtual 224, 3) := by decide +kernel
theorem dX9_pays_22 : decode cX9_pays 22 = .ok (.ireturn, 1) := by decide +kernel
theorem dX9_neap_0 : decode cX9_neap 0 = .ok (.aload_n 0, 1) := by decide +kernel
theorem dX9_neap_1 : decode cX9_neap 1 = .ok (.iload_n 1, 1) := by decide +kernel
theorem dX9_neap_2 : decode cX9_neap 2 = .ok (.iconst 0, 1) := by decide +kernel
theorem dX9_neap_3 : decode cX9_neap 3 = .ok (.iconst 1, 1) := by decide +kernel
theorem dX9_neap_4 : decode cX9_neap 4 = .ok (.invokevirtual 160, 3) := by decide +kernel
theorem dX9_neap_7 : decode cX9_neap 7 = .ok (.aload_n 0, 1) := by decide +kernel
theorem dX9_neap_8 : decode cX9_neap 8 = .ok (.getfield 72, 3) := by decide +kernel
theorem dX9_neap_11 : decode cX9_neap 11 = .ok (.iload_n 1, 1) := by decide +kernel
theorem dX9_neap_12 : decode cX9_neap 12 = .ok (.invokevirtual 304, 3) := by decide +kernel
theorem dX9_neap_15 : decode cX9_neap 15 = .ok (.ireturn, 1) := by decide +kernel
theorem dX9_loads_0 : decode cX9_loads 0 = .ok (.aload_n 0, 1) := by decide +kernel
theorem dX9_loads_1 : decode cX9_loads 1 = .ok (.iload_n 1, 1) := by decide +kernel
theorem dX9_loads_2 : decode cX9_loads 2 = .ok (.invokevirtual 190, 3) := by decide +kernel
theorem dX9_loads_5 : decode cX9_loads 5 = .ok (.aload_n 0, 1) := by decide +kernel
theorem dX9_loads_6 : decode cX9_loads 6 = .ok (.iload_n 2, 1) := by decide +kernel
theorem dX9_loads_7 : decode cX9_loads 7 = .ok (.iconst 0, 1) := by decide +kernel
theorem dX9_loads_8 : decode cX9_loads 8 = .ok (.iconst 1, 1) := by decide +kernel
theorem dX9_loads_9 : decode cX9_loads 9 = .ok (.invokevirtual 160, 3) := by decide +kernel
theorem dX9_loads_12 : decode cX9_loads 12 = .ok (.iconst 0, 1) := by decide +kernel
theorem dX9_loads_13 : decode cX9_loads 13 = .ok (.istore_n 3, 1) := by decide +kernel
theorem dX9_loads_14 : decode cX9_loads 14 = .ok (.iconst 0, 1) := by decide +kernel
theorem dX9_loads_15 : decode cX9_loads 15 = .ok (.istore 4, 2) := by decide +kernel
theorem dX9_loads_17 : decode cX9_loads 17 = .ok (.iload 4, 2) := by decide +kernel
theorem dX9_loads_19 : decode cX9_loads 19 = .ok (.aload_n 0, 1) := by decide +kernel
theorem dX9_loads_20 : decode cX9_loads 20 = .ok (.getfield 19, 3) := by decide +kernel
theorem dX9_loads_23 : decode cX9_loads 23 = .ok (.getfield 110, 3) := by decide +kernel
theorem dX9_loads_26 : decode cX9_loads 26 = .ok (.if_icmp .ge 53, 3) := by decide +kernel
theorem dX9_loads_29 : decode cX9_loads 29 = .ok (.aload_n 0, 1) := by decide +kernel
theorem dX9_loads_30 : decode cX9_loads 30 = .ok (.getfield 56, 3) := by decide +kernel
theorem dX9_loads_33 : decode cX9_loads 33 = .ok (.iconst 0, 1) := by decide +kernel
theorem dX9_loads_34 : decode cX9_loads 34 = .ok (.iload 4, 2) := by decide +kernel
theorem dX9_loads_36 : decode cX9_loads 36 = .ok (.invokevirtual 193, 3) := by decide +kernel
theorem dX9_loads_39 : decode cX9_loads 39 = .ok (.iload_n 1, 1) := by decide +kernel
theorem dX9_loads_40 : decode cX9_loads 40 = .ok (.if_icmp .ne 33, 3) := by decide +kernel
theorem dX9_loads_43 : decode cX9_loads 43 = .ok (.aload_n 0, 1) := by decide +kernel
theorem dX9_loads_44 : decode cX9_loads 44 = .ok (.getfield 56, 3) := by decide +kernel
theorem dX9_loads_47 : decode cX9_loads 47 = .ok (.bipush 10, 2) := by decide +kernel
theorem dX9_loads_49 : decode cX9_loads 49 = .ok (.iload 4, 2) := by decide +kernel
theorem dX9_loads_51 : decode cX9_loads 51 = .ok (.invokevirtual 193, 3) := by decide +kernel
theorem dX9_loads_54 : decode cX9_loads 54 = .ok (.iload_n 2, 1) := by decide +kernel
theorem dX9_loads_55 : decode cX9_loads 55 = .ok (.if_icmp .ne 18, 3) := by decide +kernel
theorem dX9_loads_58 : decode cX9_loads 58 = .ok (.iload_n 3, 1) := by decide +kernel
theorem dX9_loads_59 : decode cX9_loads 59 = .ok (.aload_n 0, 1) := by decide +kernel
theorem dX9_loads_60 : decode cX9_loads 60 = .ok (.getfield 19, 3) := by decide +kernel
theorem dX9_loads_63 : decode cX9_loads 63 = .ok (.getfield 207, 3) := by decide +kernel
theorem dX9_loads_66 : decode cX9_loads 66 = .ok (.iload 4, 2) := by decide +kernel
theorem dX9_loads_68 : decode cX9_loads 68 = .ok (.invokestatic 211, 3) := by decide +kernel
theorem dX9_loads_71 : decode cX9_loads 71 = .ok (.iadd, 1) := by decide +kernel
theorem dX9_loads_72 : decode cX9_loads 72 = .ok (.istore_n 3, 1) := by decide +kernel
theorem dX9_loads_73 : decode cX9_loads 73 = .ok (.iinc 4 1, 3) := by decide +kernel
theorem dX9_loads_76 : decode cX9_loads 76 = .ok (.goto (-59), 3) := by decide +kernel
theorem dX9_loads_79 : decode cX9_loads 79 = .ok (.iload_n 3, 1) := by decide +kernel
theorem dX9_loads_80 : decode cX9_loads 80 = .ok (.ireturn, 1) := by decide +kernel
theorem dX9_dearest_0 : decode cX9_dearest 0 = .ok (.aload_n 0, 1) := by decide +kernel
theorem dX9_dearest_1 : decode cX9_dearest 1 = .ok (.iload_n 1, 1) := by decide +kernel
theorem dX9_dearest_2 : decode cX9_dearest 2 = .ok (.iconst 0, 1) := by decide +kernel
theorem dX9_dearest_3 : decode cX9_dearest 3 = .ok (.iconst 1, 1) := by decide +kernel
theorem dX9_dearest_4 : decode cX9_dearest 4 = .ok (.invokevirtual 160, 3) := by decide +kernel
theorem dX9_dearest_7 : decode cX9_dearest 7 = .ok (.iconst (-1), 1) := by decide +kernel
theorem dX9_dearest_8 : decode cX9_dearest 8 = .ok (.istore_n 2, 1) := by decide +kernel
theorem dX9_dearest_9 : decode cX9_dearest 9 = .ok (.iconst 0, 1) := by decide +kernel
theorem dX9_dearest_10 : decode cX9_dearest 10 = .ok (.istore_n 3, 1) := by decide +kernel
theorem dX9_dearest_11 : decode cX9_dearest 11 = .ok (.iconst 0, 1) := by decide +kernel
theorem dX9_dearest_12 : decode cX9_dearest 12 = .ok (.istore 4, 2) := by decide +kernel
theorem dX9_dearest_14 : decode cX9_dearest 14 = .ok (.iload 4, 2) := by decide +kernel
theorem dX9_dearest_16 : decode cX9_dearest 16 = .ok (.aload_n 0, 1) := by decide +kernel
theorem dX9_dearest_17 : decode cX9_dearest 17 = .ok (.getfield 19, 3) := by decide +kernel
theorem dX9_dearest_20 : decode cX9_dearest 20 = .ok (.getfield 138, 3) := by decide +kernel
theorem dX9_dearest_23 : decode cX9_dearest 23 = .ok (.if_icmp .ge 34, 3) := by decide +kernel
theorem dX9_dearest_26 : decode cX9_dearest 26 = .ok (.aload_n 0, 1) := by decide +kernel
theorem dX9_dearest_27 : decode cX9_dearest 27 = .ok (.getfield 56, 3) := by decide +kernel
theorem dX9_dearest_30 : decode cX9_dearest 30 = .ok (.bipush 62, 2) := by decide +kernel
theorem dX9_dearest_32 : decode cX9_dearest 32 = .ok (.iload 4, 2) := by decide +kernel
theorem dX9_dearest_34 : decode cX9_dearest 34 = .ok (.invokevirtual 193, 3) := by decide +kernel
theorem dX9_dearest_37 : decode cX9_dearest 37 = .ok (.istore 5, 2) := by decide +kernel
theorem dX9_dearest_39 : decode cX9_dearest 39 = .ok (.iload 5, 2) := by decide +kernel
theorem dX9_dearest_41 : decode cX9_dearest 41 = .ok (.iload_n 3, 1) := by decide +kernel
theorem dX9_dearest_42 : decode cX9_dearest 42 = .ok (.if_icmp .le 9, 3) := by decide +kernel
theorem dX9_dearest_45 : decode cX9_dearest 45 = .ok (.iload 4, 2) := by decide +kernel
theorem dX9_dearest_47 : decode cX9_dearest 47 = .ok (.istore_n 2, 1) := by decide +kernel
theorem dX9_dearest_48 : decode cX9_dearest 48 = .ok (.iload 5, 2) := by decide +kernel
theorem dX9_dearest_50 : decode cX9_dearest 50 = .ok (.istore_n 3, 1) := by decide +kernel
theorem dX9_dearest_51 : decode cX9_dearest 51 = .ok (.iinc 4 1, 3) := by decide +kernel
theorem dX9_dearest_54 : decode cX9_dearest 54 = .ok (.goto (-40), 3) := by decide +kernel
theorem dX9_dearest_57 : decode cX9_dearest 57 = .ok (.iload_n 1, 1) := by decide +kernel
theorem dX9_dearest_58 : decode cX9_dearest 58 = .ok (.ifCond .eq 8, 3) := by decide +kernel
theorem dX9_dearest_61 : decode cX9_dearest 61 = .ok (.iload_n 2, 1) := by decide +kernel
theorem dX9_dearest_62 : decode cX9_dearest 62 = .ok (.iconst (-1), 1) := by decide +kernel
theorem dX9_dearest_63 : decode cX9_dearest 63 = .ok (.if_icmp .ne 7, 3) := by decide +kernel
theorem dX9_dearest_66 : decode cX9_dearest 66 = .ok (.iload_n 2, 1) := by decide +kernel
theorem dX9_dearest_67 : decode cX9_dearest 67 = .ok (.goto 4, 3) := by decide +kernel
theorem dX9_dearest_70 : decode cX9_dearest 70 = .ok (.iload_n 3, 1) := by decide +kernel
theorem dX9_dearest_71 : decode cX9_dearest 71 = .ok (.ireturn, 1) := by decide +kernel
theorem dX9_dry_0 : decode cX9_dry 0 = .ok (.aload_n 0, 1) := by decide +kernel
theorem dX9_dry_1 : decode cX9_dry 1 = .ok (.iload_n 1, 1) := by decide +kernel
theorem dX9_dry_2 : decode cX9_dry 2 = .ok (.invokevirtual 250, 3) := by decide +kernel
theorem dX9_dry_5 : decode cX9_dry 5 = .ok (.aload_n 0, 1) := by decide +kernel
theorem dX9_dry_6 : decode cX9_dry 6 = .ok (.iload_n 2, 1) := by decide +kernel
theorem dX9_dry_7 : decode cX9_dry 7 = .ok (.iconst 0, 1) := by decide +kernel
theorem dX9_dry_8 : decode cX9_dry 8 = .ok (.bipush 60, 2) := by decide +kernel
theorem dX9_dry_10 : decode cX9_dry 10 = .ok (.invokevirtual 160, 3) := by decide +kernel
theorem dX9_dry_13 : decode cX9_dry 13 = .ok (.iconst 0, 1) := by decide +kernel
theorem dX9_dry_14 : decode cX9_dry 14 = .ok (.istore_n 3, 1) := by decide +kernel
theorem dX9_dry_15 : decode cX9_dry 15 = .ok (.iconst 0, 1) := by decide +kernel
theorem dX9_dry_16 : decode cX9_dry 16 = .ok (.istore 4, 2) := by decide +kernel
theorem dX9_dry_18 : decode cX9_dry 18 = .ok (.iload 4, 2) := by decide +kernel
theorem dX9_dry_20 : decode cX9_dry 20 = .ok (.iload_n 2, 1) := by decide +kernel
theorem dX9_dry_21 : decode cX9_dry 21 = .ok (.if_icmp .ge 25, 3) := by decide +kernel
theorem dX9_dry_24 : decode cX9_dry 24 = .ok (.aload_n 0, 1) := by decide +kernel
theorem dX9_dry_25 : decode cX9_dry 25 = .ok (.getfield 72, 3) := by decide +kernel
theorem dX9_dry_28 : decode cX9_dry 28 = .ok (.iload_n 1, 1) := by decide +kernel
theorem dX9_dry_29 : decode cX9_dry 29 = .ok (.iload 4, 2) := by decide +kernel
theorem dX9_dry_31 : decode cX9_dry 31 = .ok (.invokevirtual 307, 3) := by decide +kernel
theorem dX9_dry_34 : decode cX9_dry 34 = .ok (.ifCond .ne 6, 3) := by decide +kernel
theorem dX9_dry_37 : decode cX9_dry 37 = .ok (.iinc 3 1, 3) := by decide +kernel
theorem dX9_dry_40 : decode cX9_dry 40 = .ok (.iinc 4 1, 3) := by decide +kernel
theorem dX9_dry_43 : decode cX9_dry 43 = .ok (.goto (-25), 3) := by decide +kernel
theorem dX9_dry_46 : decode cX9_dry 46 = .ok (.iload_n 3, 1) := by decide +kernel
theorem dX9_dry_47 : decode cX9_dry 47 = .ok (.ireturn, 1) := by decide +kernel
theorem dX9_year_0 : decode cX9_year 0 = .ok (.aload_n 0, 1) := by decide +kernel
theorem dX9_year_1 : decode cX9_year 1 = .ok (.iload_n 2, 1) := by decide +kernel
theorem dX9_year_2 : decode cX9_year 2 = .ok (.iload_n 3, 1) := by decide +kernel
theorem dX9_year_3 : decode cX9_year 3 = .ok (.iload 4, 2) := by decide +kernel
theorem dX9_year_5 : decode cX9_year 5 = .ok (.invokevirtual 311, 3) := by decide +kernel
theorem dX9_year_8 : decode cX9_year 8 = .ok (.aload_n 0, 1) := by decide +kernel
theorem dX9_year_9 : decode cX9_year 9 = .ok (.iload 5, 2) := by decide +kernel
theorem dX9_year_11 : decode cX9_year 11 = .ok (.iconst 0, 1) := by decide +kernel
theorem dX9_year_12 : decode cX9_year 12 = .ok (.iconst 3, 1) := by decide +kernel
theorem dX9_year_13 : decode cX9_year 13 = .ok (.invokevirtual 160, 3) := by decide +kernel
theorem dX9_year_16 : decode cX9_year 16 = .ok (.aload_n 0, 1) := by decide +kernel
theorem dX9_year_17 : decode cX9_year 17 = .ok (.getfield 72, 3) := by decide +kernel
theorem dX9_year_20 : decode cX9_year 20 = .ok (.iload_n 1, 1) := by decide +kernel
theorem dX9_year_21 : decode cX9_year 21 = .ok (.iload_n 2, 1) := by decide +kernel
theorem dX9_year_22 : decode cX9_year 22 = .ok (.iload_n 3, 1) := by decide +kernel
theorem dX9_year_23 : decode cX9_year 23 = .ok (.iload 4, 2) := by decide +kernel
theorem dX9_year_25 : decode cX9_year 25 = .ok (.iload 5, 2) := by decide +kernel
theorem dX9_year_27 : decode cX9_year 27 = .ok (.invokevirtual 314, 3) := by decide +kernel
theorem dX9_year_30 : decode cX9_year 30 = .ok (.ireturn, 1) := by decide +kernel
theorem dX9_span_0 : decode cX9_span 0 = .ok (.aload_n 0, 1) := by decide +kernel
theorem dX9_span_1 : decode cX9_span 1 = .ok (.iload_n 2, 1) := by decide +kernel
theorem dX9_span_2 : decode cX9_span 2 = .ok (.iconst 1, 1) := by decide +kernel
theorem dX9_span_3 : decode cX9_span 3 = .ok (.bipush 20, 2) := by decide +kernel
theorem dX9_span_5 : decode cX9_span 5 = .ok (.invokevirtual 160, 3) := by decide +kernel
theorem dX9_span_8 : decode cX9_span 8 = .ok (.aload_n 0, 1) := by decide +kernel
theorem dX9_span_9 : decode cX9_span 9 = .ok (.iload_n 3, 1) := by decide +kernel
theorem dX9_span_10 : decode cX9_span 10 = .ok (.iload 4, 2) := by decide +kernel
theorem dX9_span_12 : decode cX9_span 12 = .ok (.iload 5, 2) := by decide +kernel
theorem dX9_span_14 : decode cX9_span 14 = .ok (.invokevirtual 311, 3) := by decide +kernel
theorem dX9_span_17 : decode cX9_span 17 = .ok (.aload_n 0, 1) := by decide +kernel
theorem dX9_span_18 : decode cX9_span 18 = .ok (.iload 6, 2) := by decide +kernel
theorem dX9_span_20 : decode cX9_span 20 = .ok (.iconst 0, 1) := by decide +kernel
theorem dX9_span_21 : decode cX9_span 21 = .ok (.iconst 2, 1) := by decide +kernel
theorem dX9_span_22 : decode cX9_span 22 = .ok (.invokevirtual 160, 3) := by decide +kernel
theorem dX9_span_25 : decode cX9_span 25 = .ok (.aload_n 0, 1) := by decide +kernel
theorem dX9_span_26 : decode cX9_span 26 = .ok (.iload 7, 2) := by decide +kernel
theorem dX9_span_28 : decode cX9_span 28 = .ok (.iconst 0, 1) := by decide +kernel
theorem dX9_span_29 : decode cX9_span 29 = .ok (.aload_n 0, 1) := by decide +kernel
theorem dX9_span_30 : decode cX9_span 30 = .ok (.getfield 19, 3) := by decide +kernel
theorem dX9_span_33 : decode cX9_span 33 = .ok (.getfield 110, 3) := by decide +kernel
theorem dX9_span_36 : decode cX9_span 36 = .ok (.iconst 1, 1) := by decide +kernel
theorem dX9_span_37 : decode cX9_span 37 = .ok (.isub, 1) := by decide +kernel
theorem dX9_span_38 : decode cX9_span 38 = .ok (.invokevirtual 160, 3) := by decide +kernel
theorem dX9_span_41 : decode cX9_span 41 = .ok (.bipush 10, 2) := by decide +kernel
theorem dX9_span_43 : decode cX9_span 43 = .ok (.istore 8, 2) := by decide +kernel
theorem dX9_span_45 : decode cX9_span 45 = .ok (.iconst 0, 1) := by decide +kernel
theorem dX9_span_46 : decode cX9_span 46 = .ok (.istore 9, 2) := by decide +kernel
theorem dX9_span_48 : decode cX9_span 48 = .ok (.iconst 0, 1) := by decide +kernel
theorem dX9_span_49 : decode cX9_span 49 = .ok (.istore 10, 2) := by decide +kernel
theorem dX9_span_51 : decode cX9_span 51 = .ok (.iconst 0, 1) := by decide +kernel
theorem dX9_span_52 : decode cX9_span 52 = .ok (.istore 11, 2) := by decide +kernel
theorem dX9_span_54 : decode cX9_span 54 = .ok (.iload 11, 2) := by decide +kernel
theorem dX9_span_56 : decode cX9_span 56 = .ok (.iload_n 2, 1) := by decide +kernel
theorem dX9_span_57 : decode cX9_span 57 = .ok (.if_icmp .ge 76, 3) := by decide +kernel
theorem dX9_span_60 : decode cX9_span 60 = .ok (.aload_n 0, 1) := by decide +kernel
theorem dX9_span_61 : decode cX9_span 61 = .ok (.getfield 72, 3) := by decide +kernel
theorem dX9_span_64 : decode cX9_span 64 = .ok (.iload_n 1, 1) := by decide +kernel
theorem dX9_span_65 : decode cX9_span 65 = .ok (.iload 11, 2) := by decide +kernel
theorem dX9_span_67 : decode cX9_span 67 = .ok (.iadd, 1) := by decide +kernel
theorem dX9_span_68 : decode cX9_span 68 = .ok (.iload_n 3, 1) := by decide +kernel
theorem dX9_span_69 : decode cX9_span 69 = .ok (.iload 4, 2) := by decide +kernel
theorem dX9_span_71 : decode cX9_span 71 = .ok (.iload 5, 2) := by decide +kernel
theorem dX9_span_73 : decode cX9_span 73 = .ok (.invokevirtual 318, 3) := by decide +kernel
theorem dX9_span_76 : decode cX9_span 76 = .ok (.pop, 1) := by decide +kernel
theorem dX9_span_77 : decode cX9_span 77 = .ok (.iload 8, 2) := by decide +kernel
theorem dX9_span_79 : decode cX9_span 79 = .ok (.aload_n 0, 1) := by decide +kernel
theorem dX9_span_80 : decode cX9_span 80 = .ok (.getfield 72, 3) := by decide +kernel
theorem dX9_span_83 : decode cX9_span 83 = .ok (.invokevirtual 322, 3) := by decide +kernel
theorem dX9_span_86 : decode cX9_span 86 = .ok (.invokestatic 288, 3) := by decide +kernel
theorem dX9_span_89 : decode cX9_span 89 = .ok (.istore 8, 2) := by decide +kernel
theorem dX9_span_91 : decode cX9_span 91 = .ok (.iload 9, 2) := by decide +kernel
theorem dX9_span_93 : decode cX9_span 93 = .ok (.aload_n 0, 1) := by decide +kernel
theorem dX9_span_94 : decode cX9_span 94 = .ok (.getfield 72, 3) := by decide +kernel
theorem dX9_span_97 : decode cX9_span 97 = .ok (.invokevirtual 322, 3) := by decide +kernel
theorem dX9_span_100 : decode cX9_span 100 = .ok (.invokestatic 325, 3) := by decide +kernel
theorem dX9_span_103 : decode cX9_span 103 = .ok (.istore 9, 2) := by decide +kernel
theorem dX9_span_105 : decode cX9_span 105 = .ok (.iload 10, 2) := by decide +kernel
theorem dX9_span_107 : decode cX9_span 107 = .ok (.aload_n 0, 1) := by decide +kernel
theorem dX9_span_108 : decode cX9_span 108 = .ok (.getfield 72, 3) := by decide +kernel
theorem dX9_span_111 : decode cX9_span 111 = .ok (.iload 7, 2) := by decide +kernel
theorem dX9_span_113 : decode cX9_span 113 = .ok (.invokevirtual 328, 3) := by decide +kernel
theorem dX9_span_116 : decode cX9_span 116 = .ok (.ifCond .eq 7, 3) := by decide +kernel
theorem dX9_span_119 : decode cX9_span 119 = .ok (.iconst 0, 1) := by decide +kernel
theorem dX9_span_120 : decode cX9_span 120 = .ok (.goto 4, 3) := by decide +kernel
theorem dX9_span_123 : decode cX9_span 123 = .ok (.iconst 1, 1) := by decide +kernel
theorem dX9_span_124 : decode cX9_span 124 = .ok (.iadd, 1) := by decide +kernel
theorem dX9_span_125 : decode cX9_span 125 = .ok (.istore 10, 2) := by decide +kernel
theorem dX9_span_127 : decode cX9_span 127 = .ok (.iinc 11 1, 3) := by decide +kernel
theorem dX9_span_130 : decode cX9_span 130 = .ok (.goto (-76), 3) := by decide +kernel
theorem dX9_span_133 : decode cX9_span 133 = .ok (.iload 6, 2) := by decide +kernel
theorem dX9_span_135 : decode cX9_span 135 = .ok (.ifCond .ne 8, 3) := by decide +kernel
theorem dX9_span_138 : decode cX9_span 138 = .ok (.iload 8, 2) := by decide +kernel
theorem dX9_span_140 : decode cX9_span 140 = .ok (.goto 16, 3) := by decide +kernel
theorem dX9_span_143 : decode cX9_span 143 = .ok (.iload 6, 2) := by decide +kernel
theorem dX9_span_145 : decode cX9_span 145 = .ok (.iconst 1, 1) := by decide +kernel
theorem dX9_span_146 : decode cX9_span 146 = .ok (.if_icmp .ne 8, 3) := by decide +kernel
theorem dX9_span_149 : decode cX9_span 149 = .ok (.iload 9, 2) := by decide +kernel
theorem dX9_span_151 : decode cX9_span 151 = .ok (.goto 5, 3) := by decide +kernel
theorem dX9_span_154 : decode cX9_span 154 = .ok (.iload 10, 2) := by decide +kernel
theorem dX9_span_156 : decode cX9_span 156 = .ok (.ireturn, 1) := by decide +kernel
theorem dX9_image_0 : decode cX9_image 0 = .ok (.aload_n 0, 1) := by decide +kernel
theorem dX9_image_1 : decode cX9_image 1 = .ok (.getfield 63, 3) := by decide +kernel
theorem dX9_image_4 : decode cX9_image 4 = .ok (.aload_n 0, 1) := by decide +kernel
theorem dX9_image_5 : decode cX9_image 5 = .ok (.getfield 56, 3) := by decide +kernel
theorem dX9_image_8 : decode cX9_image 8 = .ok (.invokevirtual 331, 3) := by decide +kernel
theorem dX9_image_11 : decode cX9_image 11 = .ok (.ifCond .eq 13, 3) := by decide +kernel
theorem dX9_image_14 : decode cX9_image 14 = .ok (.aload_n 0, 1) := by decide +kernel
theorem dX9_image_15 : decode cX9_image 15 = .ok (.getfield 63, 3) := by decide +kernel
theorem dX9_image_18 : decode cX9_image 18 = .ok (.getfield 334, 3) := by decide +kernel
theorem dX9_image_21 : decode cX9_image 21 = .ok (.goto 4, 3) := by decide +kernel
theorem dX9_image_24 : decode cX9_image 24 = .ok (.iconst (-1), 1) := by decide +kernel
theorem dX9_image_25 : decode cX9_image 25 = .ok (.ireturn, 1) := by decide +kernel
theorem dX9_restore_0 : decode cX9_restore 0 = .ok (.aload_n 0, 1) := by decide +kernel
theorem dX9_restore_1 : decode cX9_restore 1 = .ok (.getfield 63, 3) := by decide +kernel
theorem dX9_restore_4 : decode cX9_restore 4 = .ok (.aload_n 0, 1) := by decide +kernel
theorem dX9_restore_5 : decode cX9_restore 5 = .ok (.getfield 56, 3) := by decide +kernel
theorem dX9_restore_8 : decode cX9_restore 8 = .ok (.invokevirtual 337, 3) := by decide +kernel
theorem dX9_restore_11 : decode cX9_restore 11 = .ok (.ifCond .ne 5, 3) := by decide +kernel
theorem dX9_restore_14 : decode cX9_restore 14 = .ok (.iconst (-1), 1) := by decide +kernel
theorem dX9_restore_15 : decode cX9_restore 15 = .ok (.ireturn, 1) := by decide +kernel
theorem dX9_restore_16 : decode cX9_restore 16 = .ok (.aload_n 0, 1) := by decide +kernel
theorem dX9_restore_17 : decode cX9_restore 17 = .ok (.iconst 0, 1) := by decide +kernel
theorem dX9_restore_18 : decode cX9_restore 18 = .ok (.putfield 135, 3) := by decide +kernel
theorem dX9_restore_21 : decode cX9_restore 21 = .ok (.aload_n 0, 1) := by decide +kernel
theorem dX9_restore_22 : decode cX9_restore 22 = .ok (.getfield 63, 3) := by decide +kernel
theorem dX9_restore_25 : decode cX9_restore 25 = .ok (.getfield 334, 3) := by decide +kernel
theorem dX9_restore_28 : decode cX9_restore 28 = .ok (.ireturn, 1) := by decide +kernel
theorem dX9_status_0 : decode cX9_status 0 = .ok (.iload_n 1, 1) := by decide +kernel
theorem dX9_status_1 : decode cX9_status 1 = .ok (.ifCond .ne 10, 3) := by decide +kernel
theorem dX9_status_4 : decode cX9_status 4 = .ok (.aload_n 0, 1) := by decide +kernel
theorem dX9_status_5 : decode cX9_status 5 = .ok (.getfield 340, 3) := by decide +kernel
theorem dX9_status_8 : decode cX9_status 8 = .ok (.goto 16, 3) := by decide +kernel
theorem dX9_status_11 : decode cX9_status 11 = .ok (.iload_n 1, 1) := by decide +kernel
theorem dX9_status_12 : decode cX9_status 12 = .ok (.iconst 1, 1) := by decide +kernel
theorem dX9_status_13 : decode cX9_status 13 = .ok (.if_icmp .ne 10, 3) := by decide +kernel
theorem dX9_status_16 : decode cX9_status 16 = .ok (.aload_n 0, 1) := by decide +kernel
theorem dX9_status_17 : decode cX9_status 17 = .ok (.getfield 343, 3) := by decide +kernel
theorem dX9_status_20 : decode cX9_status 20 = .ok (.goto 4, 3) := by decide +kernel
theorem dX9_status_23 : decode cX9_status 23 = .ok (.iconst (-1), 1) := by decide +kernel
theorem dX9_status_24 : decode cX9_status 24 = .ok (.ireturn, 1) := by decide +kernel
theorem dX9_count_0 : decode cX9_count 0 = .ok (.iload_n 1, 1) := by decide +kernel
theorem dX9_count_1 : decode cX9_count 1 = .ok (.ifCond .ne 13, 3) := by decide +kernel
theorem dX9_count_4 : decode cX9_count 4 = .ok (.aload_n 0, 1) := by decide +kernel
theorem dX9_count_5 : decode cX9_count 5 = .ok (.getfield 63, 3) := by decide +kernel
theorem dX9_count_8 : decode cX9_count 8 = .ok (.getfield 334, 3) := by decide +kernel
theorem dX9_count_11 : decode cX9_count 11 = .ok (.goto 34, 3) := by decide +kernel
theorem dX9_count_14 : decode cX9_count 14 = .ok (.iload_n 1, 1) := by decide +kernel
theorem dX9_count_15 : decode cX9_count 15 = .ok (.iconst 1, 1) := by decide +kernel
theorem dX9_count_16 : decode cX9_count 16 = .ok (.if_icmp .ne 13, 3) := by decide +kernel
theorem dX9_count_19 : decode cX9_count 19 = .ok (.aload_n 0, 1) := by decide +kernel
theorem dX9_count_20 : decode cX9_count 20 = .ok (.getfield 10, 3) := by decide +kernel
theorem dX9_count_23 : decode cX9_count 23 = .ok (.getfield 87, 3) := by decide +kernel
theorem dX9_count_26 : decode cX9_count 26 = .ok (.goto 19, 3) := by decide +kernel
theorem dX9_count_29 : decode cX9_count 29 = .ok (.iload_n 1, 1) := by decide +kernel
theorem dX9_count_30 : decode cX9_count 30 = .ok (.iconst 2, 1) := by decide +kernel
theorem dX9_count_31 : decode cX9_count 31 = .ok (.if_icmp .ne 13, 3) := by decide +kernel
theorem dX9_count_34 : decode cX9_count 34 = .ok (.aload_n 0, 1) := by decide +kernel
theorem dX9_count_35 : decode cX9_count 35 = .ok (.getfield 63, 3) := by decide +kernel
theorem dX9_count_38 : decode cX9_count 38 = .ok (.getfield 157, 3) := by decide +kernel
theorem dX9_count_41 : decode cX9_count 41 = .ok (.goto 4, 3) := by decide +kernel
theorem dX9_count_44 : decode cX9_count 44 = .ok (.iconst (-1), 1) := by decide +kernel
theorem dX9_count_45 : decode cX9_count 45 = .ok (.ireturn, 1) := by decide +kernel
theorem dX9_openStreet_0 : decode cX9_openStreet 0 = .ok (.aload_n 0, 1) := by decide +kernel
theorem dX9_openStreet_1 : decode cX9_openStreet 1 = .ok (.getfield 29, 3) := by decide +kernel
theorem dX9_openStreet_4 : decode cX9_openStreet 4 = .ok (.invokevirtual 346, 3) := by decide +kernel
theorem dX9_openStreet_7 : decode cX9_openStreet 7 = .ok (.aload_n 0, 1) := by decide +kernel
theorem dX9_openStreet_8 : decode cX9_openStreet 8 = .ok (.getfield 46, 3) := by decide +kernel
theorem dX9_openStreet_11 : decode cX9_openStreet 11 = .ok (.invokevirtual 349, 3) := by decide +kernel
theorem dX9_openStreet_14 : decode cX9_openStreet 14 = .ok (.aload_n 0, 1) := by decide +kernel
theorem dX9_openStreet_15 : decode cX9_openStreet 15 = .ok (.getfield 63, 3) := by decide +kernel
theorem dX9_openStreet_18 : decode cX9_openStreet 18 = .ok (.invokevirtual 352, 3) := by decide +kernel
theorem dX9_openStreet_21 : decode cX9_openStreet 21 = .ok (.aload_n 0, 1) := by decide +kernel
theorem dX9_openStreet_22 : decode cX9_openStreet 22 = .ok (.getfield 56, 3) := by decide +kernel
theorem dX9_openStreet_25 : decode cX9_openStreet 25 = .ok (.aload_n 0, 1) := by decide +kernel
theorem dX9_openStreet_26 : decode cX9_openStreet 26 = .ok (.getfield 19, 3) := by decide +kernel
theorem dX9_openStreet_29 : decode cX9_openStreet 29 = .ok (.invokevirtual 353, 3) := by decide +kernel
theorem dX9_openStreet_32 : decode cX9_openStreet 32 = .ok (.aload_n 0, 1) := by decide +kernel
theorem dX9_openStreet_33 : decode cX9_openStreet 33 = .ok (.iconst 0, 1) := by decide +kernel
theorem dX9_openStreet_34 : decode cX9_openStreet 34 = .ok (.putfield 135, 3) := by decide +kernel
theorem dX9_openStreet_37 : decode cX9_openStreet 37 = .ok (.return_, 1) := by decide +kernel
theorem dX9_needElement_0 : decode cX9_needElement 0 = .ok (.iload_n 1, 1) := by decide +kernel
theorem dX9_needElement_1 : decode cX9_needElement 1 = .ok (.ifCond .lt 8, 3) := by decide +kernel
theorem dX9_needElement_4 : decode cX9_needElement 4 = .ok (.iload_n 1, 1) := by decide +kernel
theorem dX9_needElement_5 : decode cX9_needElement 5 = .ok (.iload_n 2, 1) := by decide +kernel
theorem dX9_needElement_6 : decode cX9_needElement 6 = .ok (.if_icmp .lt 24, 3) := by decide +kernel
theorem dX9_needElement_9 : decode cX9_needElement 9 = .ok (.aload_n 0, 1) := by decide +kernel
theorem dX9_needElement_10 : decode cX9_needElement 10 = .ok (.dup, 1) := by decide +kernel
theorem dX9_needElement_11 : decode cX9_needElement 11 = .ok (.getfield 340, 3) := by decide +kernel
theorem dX9_needElement_14 : decode cX9_needElement 14 = .ok (.iconst 1, 1) := by decide +kernel
theorem dX9_needElement_15 : decode cX9_needElement 15 = .ok (.iadd, 1) := by decide +kernel
theorem dX9_needElement_16 : decode cX9_needElement 16 = .ok (.putfield 340, 3) := by decide +kernel
theorem dX9_needElement_19 : decode cX9_needElement 19 = .ok (.new 356, 3) := by decide +kernel
theorem dX9_needElement_22 : decode cX9_needElement 22 = .ok (.dup, 1) := by decide +kernel
theorem dX9_needElement_23 : decode cX9_needElement 23 = .ok (.ldc_w 358, 3) := by decide +kernel
theorem dX9_needElement_26 : decode cX9_needElement 26 = .ok (.invokespecial 360, 3) := by decide +kernel
theorem dX9_needElement_29 : decode cX9_needElement 29 = .ok (.athrow, 1) := by decide +kernel
theorem dX9_needElement_30 : decode cX9_needElement 30 = .ok (.return_, 1) := by decide +kernel
theorem dX9_needHouse_0 : decode cX9_needHouse 0 = .ok (.aload_n 0, 1) := by decide +kernel
theorem dX9_needHouse_1 : decode cX9_needHouse 1 = .ok (.iload_n 1, 1) := by decide +kernel
theorem dX9_needHouse_2 : decode cX9_needHouse 2 = .ok (.aload_n 0, 1) := by decide +kernel
theorem dX9_needHouse_3 : decode cX9_needHouse 3 = .ok (.getfield 19, 3) := by decide +kernel
theorem dX9_needHouse_6 : decode cX9_needHouse 6 = .ok (.getfield 138, 3) := by decide +kernel
theorem dX9_needHouse_9 : decode cX9_needHouse 9 = .ok (.invokevirtual 204, 3) := by decide +kernel
theorem dX9_needHouse_12 : decode cX9_needHouse 12 = .ok (.return_, 1) := by decide +kernel
theorem dX9_needRange_0 : decode cX9_needRange 0 = .ok (.iload_n 1, 1) := by decide +kernel
theorem dX9_needRange_1 : decode cX9_needRange 1 = .ok (.iload_n 2, 1) := by decide +kernel
theorem dX9_needRange_2 : decode cX9_needRange 2 = .ok (.if_icmp .lt 8, 3) := by decide +kernel
theorem dX9_needRange_5 : decode cX9_needRange 5 = .ok (.iload_n 1, 1) := by decide +kernel
theorem dX9_needRange_6 : decode cX9_needRange 6 = .ok (.iload_n 3, 1) := by decide +kernel
theorem dX9_needRange_7 : decode cX9_needRange 7 = .ok (.if_icmp .le 24, 3) := by decide +kernel
theorem dX9_needRange_10 : decode cX9_needRange 10 = .ok (.aload_n 0, 1) := by decide +kernel
theorem dX9_needRange_11 : decode cX9_needRange 11 = .ok (.dup, 1) := by decide +kernel
theorem dX9_needRange_12 : decode cX9_needRange 12 = .ok (.getfield 343, 3) := by decide +kernel
theorem dX9_needRange_15 : decode cX9_needRange 15 = .ok (.iconst 1, 1) := by decide +kernel
theorem dX9_needRange_16 : decode cX9_needRange 16 = .ok (.iadd, 1) := by decide +kernel
theorem dX9_needRange_17 : decode cX9_needRange 17 = .ok (.putfield 343, 3) := by decide +kernel
theorem dX9_needRange_20 : decode cX9_needRange 20 = .ok (.new 363, 3) := by decide +kernel
theorem dX9_needRange_23 : decode cX9_needRange 23 = .ok (.dup, 1) := by decide +kernel
theorem dX9_needRange_24 : decode cX9_needRange 24 = .ok (.ldc_w 365, 3) := by decide +kernel
theorem dX9_needRange_27 : decode cX9_needRange 27 = .ok (.invokespecial 367, 3) := by decide +kernel
theorem dX9_needRange_30 : decode cX9_needRange 30 = .ok (.athrow, 1) := by decide +kernel
theorem dX9_needRange_31 : decode cX9_needRange 31 = .ok (.return_, 1) := by decide +kernel
theorem dX9_needHouses_0 : decode cX9_needHouses 0 = .ok (.aload_n 0, 1) := by decide +kernel
theorem dX9_needHouses_1 : decode cX9_needHouses 1 = .ok (.iload_n 1, 1) := by decide +kernel
theorem dX9_needHouses_2 : decode cX9_needHouses 2 = .ok (.iconst 0, 1) := by decide +kernel
theorem dX9_needHouses_3 : decode cX9_needHouses 3 = .ok (.iconst 1, 1) := by decide +kernel
theorem dX9_needHouses_4 : decode cX9_needHouses 4 = .ok (.aload_n 0, 1) := by decide +kernel
theorem dX9_needHouses_5 : decode cX9_needHouses 5 = .ok (.getfield 19, 3) := by decide +kernel
theorem dX9_needHouses_8 : decode cX9_needHouses 8 = .ok (.getfield 138, 3) := by decide +kernel
theorem dX9_needHouses_11 : decode cX9_needHouses 11 = .ok (.ishl, 1) := by decide +kernel
theorem dX9_needHouses_12 : decode cX9_needHouses 12 = .ok (.iconst 1, 1) := by decide +kernel
theorem dX9_needHouses_13 : decode cX9_needHouses 13 = .ok (.isub, 1) := by decide +kernel
theorem dX9_needHouses_14 : decode cX9_needHouses 14 = .ok (.invokevirtual 160, 3) := by decide +kernel
theorem dX9_needHouses_17 : decode cX9_needHouses 17 = .ok (.return_, 1) := by decide +kernel
theorem dX9_needText_0 : decode cX9_needText 0 = .ok (.aload_n 0, 1) := by decide +kernel
theorem dX9_needText_1 : decode cX9_needText 1 = .ok (.iload_n 1, 1) := by decide +kernel
theorem dX9_needText_2 : decode cX9_needText 2 = .ok (.iconst 0, 1) := by decide +kernel
theorem dX9_needText_3 : decode cX9_needText 3 = .ok (.iload_n 2, 1) := by decide +kernel
theorem dX9_needText_4 : decode cX9_needText 4 = .ok (.aload_n 0, 1) := by decide +kernel
theorem dX9_needText_5 : decode cX9_needText 5 = .ok (.getfield 10, 3) := by decide +kernel
theorem dX9_needText_8 : decode cX9_needText 8 = .ok (.getfield 87, 3) := by decide +kernel
theorem dX9_needText_11 : decode cX9_needText 11 = .ok (.invokestatic 288, 3) := by decide +kernel
theorem dX9_needText_14 : decode cX9_needText 14 = .ok (.invokevirtual 160, 3) := by decide +kernel
theorem dX9_needText_17 : decode cX9_needText 17 = .ok (.return_, 1) := by decide +kernel
theorem dX9_needYear_0 : decode cX9_needYear 0 = .ok (.aload_n 0, 1) := by decide +kernel
theorem dX9_needYear_1 : decode cX9_needYear 1 = .ok (.iload_n 1, 1) := by decide +kernel
theorem dX9_needYear_2 : decode cX9_needYear 2 = .ok (.iconst 1, 1) := by decide +kernel
theorem dX9_needYear_3 : decode cX9_needYear 3 = .ok (.bipush 96, 2) := by decide +kernel
theorem dX9_needYear_5 : decode cX9_needYear 5 = .ok (.invokevirtual 160, 3) := by decide +kernel
theorem dX9_needYear_8 : decode cX9_needYear 8 = .ok (.aload_n 0, 1) := by decide +kernel
theorem dX9_needYear_9 : decode cX9_needYear 9 = .ok (.iload_n 2, 1) := by decide +kernel
theorem dX9_needYear_10 : decode cX9_needYear 10 = .ok (.iconst 0, 1) := by decide +kernel
theorem dX9_needYear_11 : decode cX9_needYear 11 = .ok (.bipush 16, 2) := by decide +kernel
theorem dX9_needYear_13 : decode cX9_needYear 13 = .ok (.invokevirtual 160, 3) := by decide +kernel
theorem dX9_needYear_16 : decode cX9_needYear 16 = .ok (.aload_n 0, 1) := by decide +kernel
theorem dX9_needYear_17 : decode cX9_needYear 17 = .ok (.iload_n 3, 1) := by decide +kernel
theorem dX9_needYear_18 : decode cX9_needYear 18 = .ok (.iconst 0, 1) := by decide +kernel
theorem dX9_needYear_19 : decode cX9_needYear 19 = .ok (.bipush 20, 2) := by decide +kernel
theorem dX9_needYear_21 : decode cX9_needYear 21 = .ok (.invokevirtual 160, 3) := by decide +kernel
theorem dX9_needYear_24 : decode cX9_needYear 24 = .ok (.return_, 1) := by decide +kernel
theorem dX9_at_0 : decode cX9_at 0 = .ok (.iload_n 1, 1) := by decide +kernel
theorem dX9_at_1 : decode cX9_at 1 = .ok (.ifCond .lt 15, 3) := by decide +kernel
theorem dX9_at_4 : decode cX9_at 4 = .ok (.iload_n 1, 1) := by decide +kernel
theorem dX9_at_5 : decode cX9_at 5 = .ok (.aload_n 0, 1) := by decide +kernel
theorem dX9_at_6 : decode cX9_at 6 = .ok (.arraylength, 1) := by decide +kernel
theorem dX9_at_7 : decode cX9_at 7 = .ok (.if_icmp .ge 9, 3) := by decide +kernel
theorem dX9_at_10 : decode cX9_at 10 = .ok (.aload_n 0, 1) := by decide +kernel
theorem dX9_at_11 : decode cX9_at 11 = .ok (.iload_n 1, 1) := by decide +kernel
theorem dX9_at_12 : decode cX9_at 12 = .ok (.iaload, 1) := by decide +kernel
theorem dX9_at_13 : decode cX9_at 13 = .ok (.goto 4, 3) := by decide +kernel
theorem dX9_at_16 : decode cX9_at 16 = .ok (.iconst 0, 1) := by decide +kernel
theorem dX9_at_17 : decode cX9_at 17 = .ok (.ireturn, 1) := by decide +kernel
theorem dX9_put_0 : decode cX9_put 0 = .ok (.iload_n 1, 1) := by decide +kernel
theorem dX9_put_1 : decode cX9_put 1 = .ok (.ifCond .lt 13, 3) := by decide +kernel
theorem dX9_put_4 : decode cX9_put 4 = .ok (.iload_n 1, 1) := by decide +kernel
theorem dX9_put_5 : decode cX9_put 5 = .ok (.aload_n 0, 1) := by decide +kernel
theorem dX9_put_6 : decode cX9_put 6 = .ok (.arraylength, 1) := by decide +kernel
theorem dX9_put_7 : decode cX9_put 7 = .ok (.if_icmp .ge 7, 3) := by decide +kernel
theorem dX9_put_10 : decode cX9_put 10 = .ok (.aload_n 0, 1) := by decide +kernel
theorem dX9_put_11 : decode cX9_put 11 = .ok (.iload_n 1, 1) := by decide +kernel
theorem dX9_put_12 : decode cX9_put 12 = .ok (.iload_n 2, 1) := by decide +kernel
theorem dX9_put_13 : decode cX9_put 13 = .ok (.iastore, 1) := by decide +kernel
theorem dX9_put_14 : decode cX9_put 14 = .ok (.return_, 1) := by decide +kernel
theorem dX9_copyRow_0 : decode cX9_copyRow 0 = .ok (.iload 4, 2) := by decide +kernel
theorem dX9_copyRow_2 : decode cX9_copyRow 2 = .ok (.ifCond .lt 38, 3) := by decide +kernel
theorem dX9_copyRow_5 : decode cX9_copyRow 5 = .ok (.iload_n 1, 1) := by decide +kernel
theorem dX9_copyRow_6 : decode cX9_copyRow 6 = .ok (.ifCond .lt 34, 3) := by decide +kernel
theorem dX9_copyRow_9 : decode cX9_copyRow 9 = .ok (.iload_n 3, 1) := by decide +kernel
theorem dX9_copyRow_10 : decode cX9_copyRow 10 = .ok (.ifCond .lt 30, 3) := by decide +kernel
theorem dX9_copyRow_13 : decode cX9_copyRow 13 = .ok (.iload_n 1, 1) := by decide +kernel
theorem dX9_copyRow_14 : decode cX9_copyRow 14 = .ok (.aload_n 0, 1) := by decide +kernel
theorem dX9_copyRow_15 : decode cX9_copyRow 15 = .ok (.arraylength, 1) := by decide +kernel
theorem dX9_copyRow_16 : decode cX9_copyRow 16 = .ok (.iload 4, 2) := by decide +kernel
theorem dX9_copyRow_18 : decode cX9_copyRow 18 = .ok (.isub, 1) := by decide +kernel
theorem dX9_copyRow_19 : decode cX9_copyRow 19 = .ok (.if_icmp .gt 21, 3) := by decide +kernel
theorem dX9_copyRow_22 : decode cX9_copyRow 22 = .ok (.iload_n 3, 1) := by decide +kernel
theorem dX9_copyRow_23 : decode cX9_copyRow 23 = .ok (.aload_n 2, 1) := by decide +kernel
theorem dX9_copyRow_24 : decode cX9_copyRow 24 = .ok (.arraylength, 1) := by decide +kernel
theorem dX9_copyRow_25 : decode cX9_copyRow 25 = .ok (.iload 4, 2) := by decide +kernel
theorem dX9_copyRow_27 : decode cX9_copyRow 27 = .ok (.isub, 1) := by decide +kernel
theorem dX9_copyRow_28 : decode cX9_copyRow 28 = .ok (.if_icmp .gt 12, 3) := by decide +kernel
theorem dX9_copyRow_31 : decode cX9_copyRow 31 = .ok (.aload_n 0, 1) := by decide +kernel
theorem dX9_copyRow_32 : decode cX9_copyRow 32 = .ok (.iload_n 1, 1) := by decide +kernel
theorem dX9_copyRow_33 : decode cX9_copyRow 33 = .ok (.aload_n 2, 1) := by decide +kernel
theorem dX9_copyRow_34 : decode cX9_copyRow 34 = .ok (.iload_n 3, 1) := by decide +kernel
theorem dX9_copyRow_35 : decode cX9_copyRow 35 = .ok (.iload 4, 2) := by decide +kernel
theorem dX9_copyRow_37 : decode cX9_copyRow 37 = .ok (.invokestatic 368, 3) := by decide +kernel
theorem dX9_copyRow_40 : decode cX9_copyRow 40 = .ok (.return_, 1) := by decide +kernel
theorem dX9_copyWhole_0 : decode cX9_copyWhole 0 = .ok (.aload_n 0, 1) := by decide +kernel
theorem dX9_copyWhole_1 : decode cX9_copyWhole 1 = .ok (.iconst 0, 1) := by decide +kernel
theorem dX9_copyWhole_2 : decode cX9_copyWhole 2 = .ok (.aload_n 1, 1) := by decide +kernel
theorem dX9_copyWhole_3 : decode cX9_copyWhole 3 = .ok (.iconst 0, 1) := by decide +kernel
theorem dX9_copyWhole_4 : decode cX9_copyWhole 4 = .ok (.aload_n 0, 1) := by decide +kernel
theorem dX9_copyWhole_5 : decode cX9_copyWhole 5 = .ok (.arraylength, 1) := by decide +kernel
theorem dX9_copyWhole_6 : decode cX9_copyWhole 6 = .ok (.invokestatic 374, 3) := by decide +kernel
theorem dX9_copyWhole_9 : decode cX9_copyWhole 9 = .ok (.return_, 1) := by decide +kernel
theorem dX10_init_0 : decode cX10_init 0 = .ok (.aload_n 0, 1) := by decide +kernel
theorem dX10_init_1 : decode cX10_init 1 = .ok (.invokespecial 1, 3) := by decide +kernel
theorem dX10_init_4 : decode cX10_init 4 = .ok (.aload_n 0, 1) := by decide +kernel
theorem dX10_init_5 : decode cX10_init 5 = .ok (.iconst (-1), 1) := by decide +kernel
theorem dX10_init_6 : decode cX10_init 6 = .ok (.putfield 9, 3) := by decide +kernel
theorem dX10_init_9 : decode cX10_init 9 = .ok (.aload_n 0, 1) := by decide +kernel
theorem dX10_init_10 : decode cX10_init 10 = .ok (.sipush 600, 3) := by decide +kernel
theorem dX10_init_13 : decode cX10_init 13 = .ok (.newarray .int, 2) := by decide +kernel
theorem dX10_init_15 : decode cX10_init 15 = .ok (.putfield 13, 3) := by decide +kernel
theorem dX10_init_18 : decode cX10_init 18 = .ok (.aload_n 0, 1) := by decide +kernel
theorem dX10_init_19 : decode cX10_init 19 = .ok (.iconst 2, 1) := by decide +kernel
theorem dX10_init_20 : decode cX10_init 20 = .ok (.newarray .int, 2) := by decide +kernel
theorem dX10_init_22 : decode cX10_init 22 = .ok (.putfield 17, 3) := by decide +kernel
theorem dX10_init_25 : decode cX10_init 25 = .ok (.aload_n 0, 1) := by decide +kernel
theorem dX10_init_26 : decode cX10_init 26 = .ok (.bipush 6, 2) := by decide +kernel
theorem dX10_init_28 : decode cX10_init 28 = .ok (.newarray .int, 2) := by decide +kernel
theorem dX10_init_30 : decode cX10_init 30 = .ok (.putfield 20, 3) := by decide +kernel
theorem dX10_init_33 : decode cX10_init 33 = .ok (.aload_n 0, 1) := by decide +kernel
theorem dX10_init_34 : decode cX10_init 34 = .ok (.bipush 6, 2) := by decide +kernel
theorem dX10_init_36 : decode cX10_init 36 = .ok (.newarray .int, 2) := by decide +kernel
theorem dX10_init_38 : decode cX10_init 38 = .ok (.putfield 23, 3) := by decide +kernel
theorem dX10_init_41 : decode cX10_init 41 = .ok (.aload_n 0, 1) := by decide +kernel
theorem dX10_init_42 : decode cX10_init 42 = .ok (.bipush 6, 2) := by decide +kernel
theorem dX10_init_44 : decode cX10_init 44 = .ok (.newarray .int, 2) := by decide +kernel
theorem dX10_init_46 : decode cX10_init 46 = .ok (.putfield 26, 3) := by decide +kernel
theorem dX10_init_49 : decode cX10_init 49 = .ok (.aload_n 0, 1) := by decide +kernel
theorem dX10_init_50 : decode cX10_init 50 = .ok (.bipush 6, 2) := by decide +kernel
theorem dX10_init_52 : decode cX10_init 52 = .ok (.newarray .int, 2) := by decide +kernel
theorem dX10_init_54 : decode cX10_init 54 = .ok (.putfield 29, 3) := by decide +kernel
theorem dX10_init_57 : decode cX10_init 57 = .ok (.aload_n 0, 1) := by decide +kernel
theorem dX10_init_58 : decode cX10_init 58 = .ok (.bipush 12, 2) := by decide +kernel
theorem dX10_init_60 : decode cX10_init 60 = .ok (.newarray .int, 2) := by decide +kernel
theorem dX10_init_62 : decode cX10_init 62 = .ok (.putfield 32, 3) := by decide +kernel
theorem dX10_init_65 : decode cX10_init 65 = .ok (.aload_n 0, 1) := by decide +kernel
theorem dX10_init_66 : decode cX10_init 66 = .ok (.bipush 12, 2) := by decide +kernel
theorem dX10_init_68 : decode cX10_init 68 = .ok (.newarray .int, 2) := by decide +kernel
theorem dX10_init_70 : decode cX10_init 70 = .ok (.putfield 35, 3) := by decide +kernel
theorem dX10_init_73 : decode cX10_init 73 = .ok (.aload_n 0, 1) := by decide +kernel
theorem dX10_init_74 : decode cX10_init 74 = .ok (.bipush 10, 2) := by decide +kernel
theorem dX10_init_76 : decode cX10_init 76 = .ok (.iconst 4, 1) := by decide +kernel
theorem dX10_init_77 : decode cX10_init 77 = .ok (.multianewarray 38 2, 4) := by decide +kernel
theorem dX10_init_81 : decode cX10_init 81 = .ok (.putfield 40, 3) := by decide +kernel
theorem dX10_init_84 : decode cX10_init 84 = .ok (.aload_n 0, 1) := by decide +kernel
theorem dX10_init_85 : decode cX10_init 85 = .ok (.bipush 10, 2) := by decide +kernel
theorem dX10_init_87 : decode cX10_init 87 = .ok (.iconst 4, 1) := by decide +kernel
theorem dX10_init_88 : decode cX10_init 88 = .ok (.multianewarray 38 2, 4) := by decide +kernel
theorem dX10_init_92 : decode cX10_init 92 = .ok (.putfield 43, 3) := by decide +kernel
theorem dX10_init_95 : decode cX10_init 95 = .ok (.aload_n 0, 1) := by decide +kernel
theorem dX10_init_96 : decode cX10_init 96 = .ok (.bipush 6, 2) := by decide +kernel
theorem dX10_init_98 : decode cX10_init 98 = .ok (.iconst 2, 1) := by decide +kernel
theorem dX10_init_99 : decode cX10_init 99 = .ok (.multianewarray 38 2, 4) := by decide +kernel
theorem dX10_init_103 : decode cX10_init 103 = .ok (.putfield 46, 3) := by decide +kernel
theorem dX10_init_106 : decode cX10_init 106 = .ok (.aload_n 0, 1) := by decide +kernel
theorem dX10_init_107 : decode cX10_init 107 = .ok (.bipush 6, 2) := by decide +kernel
theorem dX10_init_109 : decode cX10_init 109 = .ok (.iconst 2, 1) := by decide +kernel
theorem dX10_init_110 : decode cX10_init 110 = .ok (.multianewarray 38 2, 4) := by decide +kernel
theorem dX10_init_114 : decode cX10_init 114 = .ok (.putfield 49, 3) := by decide +kernel
theorem dX10_init_117 : decode cX10_init 117 = .ok (.aload_n 0, 1) := by decide +kernel
theorem dX10_init_118 : decode cX10_init 118 = .ok (.sipush 160, 3) := by decide +kernel
theorem dX10_init_121 : decode cX10_init 121 = .ok (.iconst 2, 1) := by decide +kernel
theorem dX10_init_122 : decode cX10_init 122 = .ok (.multianewarray 38 2, 4) := by decide +kernel
theorem dX10_init_126 : decode cX10_init 126 = .ok (.putfield 52, 3) := by decide +kernel
theorem dX10_init_129 : decode cX10_init 129 = .ok (.aload_n 0, 1) := by decide +kernel
theorem dX10_init_130 : decode cX10_init 130 = .ok (.sipush 160, 3) := by decide +kernel
theorem dX10_init_133 : decode cX10_init 133 = .ok (.iconst 2, 1) := by decide +kernel
theorem dX10_init_134 : decode cX10_init 134 = .ok (.multianewarray 38 2, 4) := by decide +kernel
theorem dX10_init_138 : decode cX10_init 138 = .ok (.putfield 55, 3) := by decide +kernel
theorem dX10_init_141 : decode cX10_init 141 = .ok (.aload_n 0, 1) := by decide +kernel
theorem dX10_init_142 : decode cX10_init 142 = .ok (.bipush 6, 2) := by decide +kernel
theorem dX10_init_144 : decode cX10_init 144 = .ok (.iconst 2, 1) := by decide +kernel
theorem dX10_init_145 : decode cX10_init 145 = .ok (.multianewarray 38 2, 4) := by decide +kernel
theorem dX10_init_149 : decode cX10_init 149 = .ok (.putfield 58, 3) := by decide +kernel
theorem dX10_init_152 : decode cX10_init 152 = .ok (.aload_n 0, 1) := by decide +kernel
theorem dX10_init_153 : decode cX10_init 153 = .ok (.bipush 6, 2) := by decide +kernel
theorem dX10_init_155 : decode cX10_init 155 = .ok (.iconst 2, 1) := by decide +kernel
theorem dX10_init_156 : decode cX10_init 156 = .ok (.multianewarray 38 2, 4) := by decide +kernel
theorem dX10_init_160 : decode cX10_init 160 = .ok (.putfield 61, 3) := by decide +kernel
theorem dX10_init_163 : decode cX10_init 163 = .ok (.aload_n 0, 1) := by decide +kernel
theorem dX10_init_164 : decode cX10_init 164 = .ok (.sipush 160, 3) := by decide +kernel
theorem dX10_init_167 : decode cX10_init 167 = .ok (.newarray .int, 2) := by decide +kernel
theorem dX10_init_169 : decode cX10_init 169 = .ok (.putfield 64, 3) := by decide +kernel
theorem dX10_init_172 : decode cX10_init 172 = .ok (.aload_n 0, 1) := by decide +kernel
theorem dX10_init_173 : decode cX10_init 173 = .ok (.bipush 7, 2) := by decide +kernel
theorem dX10_init_175 : decode cX10_init 175 = .ok (.newarray .int, 2) := by decide +kernel
theorem dX10_init_177 : decode cX10_init 177 = .ok (.putfield 67, 3) := by decide +kernel
theorem dX10_init_180 : decode cX10_init 180 = .ok (.aload_n 0, 1) := by decide +kernel
theorem dX10_init_181 : decode cX10_init 181 = .ok (.bipush 80, 2) := by decide +kernel
theorem dX10_init_183 : decode cX10_init 183 = .ok (.iconst 3, 1) := by decide +kernel
theorem dX10_init_184 : decode cX10_init 184 = .ok (.multianewarray 38 2, 4) := by decide +kernel
theorem dX10_init_188 : decode cX10_init 188 = .ok (.putfield 70, 3) := by decide +kernel
theorem dX10_init_191 : decode cX10_init 191 = .ok (.aload_n 0, 1) := by decide +kernel
theorem dX10_init_192 : decode cX10_init 192 = .ok (.bipush 63, 2) := by decide +kernel
theorem dX10_init_194 : decode cX10_init 194 = .ok (.newarray .int, 2) := by decide +kernel
theorem dX10_init_196 : decode cX10_init 196 = .ok (.putfield 73, 3) := by decide +kernel
theorem dX10_init_199 : decode cX10_init 199 = .ok (.aload_n 0, 1) := by decide +kernel
theorem dX10_init_200 : decode cX10_init 200 = .ok (.bipush 63, 2) := by decide +kernel
theorem dX10_init_202 : decode cX10_init 202 = .ok (.newarray .int, 2) := by decide +kernel
theorem dX10_init_204 : decode cX10_init 204 = .ok (.putfield 76, 3) := by decide +kernel
theorem dX10_init_207 : decode cX10_init 207 = .ok (.aload_n 0, 1) := by decide +kernel
theorem dX10_init_208 : decode cX10_init 208 = .ok (.bipush 6, 2) := by decide +kernel
theorem dX10_init_210 : decode cX10_init 210 = .ok (.newarray .int, 2) := by decide +kernel
theorem dX10_init_212 : decode cX10_init 212 = .ok (.putfield 79, 3) := by decide +kernel
theorem dX10_init_215 : decode cX10_init 215 = .ok (.aload_n 0, 1) := by decide +kernel
theorem dX10_init_216 : decode cX10_init 216 = .ok (.bipush 6, 2) := by decide +kernel
theorem dX10_init_218 : decode cX10_init 218 = .ok (.newarray .int, 2) := by decide +kernel
theorem dX10_init_220 : decode cX10_init 220 = .ok (.putfield 82, 3) := by decide +kernel
theorem dX10_init_223 : decode cX10_init 223 = .ok (.aload_n 0, 1) := by decide +kernel
theorem dX10_init_224 : decode cX10_init 224 = .ok (.bipush 6, 2) := by decide +kernel
theorem dX10_init_226 : decode cX10_init 226 = .ok (.newarray .int, 2) := by decide +kernel
theorem dX10_init_228 : decode cX10_init 228 = .ok (.putfield 85, 3) := by decide +kernel
theorem dX10_init_231 : decode cX10_init 231 = .ok (.aload_n 0, 1) := by decide +kernel
theorem dX10_init_232 : decode cX10_init 232 = .ok (.bipush 16, 2) := by decide +kernel
theorem dX10_init_234 : decode cX10_init 234 = .ok (.bipush 63, 2) := by decide +kernel
theorem dX10_init_236 : decode cX10_init 236 = .ok (.multianewarray 38 2, 4) := by decide +kernel
theorem dX10_init_240 : decode cX10_init 240 = .ok (.putfield 88, 3) := by decide +kernel
theorem dX10_init_243 : decode cX10_init 243 = .ok (.aload_n 0, 1) := by decide +kernel
theorem dX10_init_244 : decode cX10_init 244 = .ok (.iconst 3, 1) := by decide +kernel
theorem dX10_init_245 : decode cX10_init 245 = .ok (.sipush 1072, 3) := by decide +kernel
theorem dX10_init_248 : decode cX10_init 248 = .ok (.multianewarray 38 2, 4) := by decide +kernel
theorem dX10_init_252 : decode cX10_init 252 = .ok (.putfield 91, 3) := by decide +kernel
theorem dX10_init_255 : decode cX10_init 255 = .ok (.aload_n 0, 1) := by decide +kernel
theorem dX10_init_256 : decode cX10_init 256 = .ok (.bipush 61, 2) := by decide +kernel
theorem dX10_init_258 : decode cX10_init 258 = .ok (.newarray .int, 2) := by decide +kernel
theorem dX10_init_260 : decode cX10_init 260 = .ok (.putfield 94, 3) := by decide +kernel
theorem dX10_init_263 : decode cX10_init 263 = .ok (.aload_n 0, 1) := by decide +kernel
theorem dX10_init_264 : decode cX10_init 264 = .ok (.invokevirtual 97, 3) := by decide +kernel
theorem dX10_init_267 : decode cX10_init 267 = .ok (.aload_n 0, 1) := by decide +kernel
theorem dX10_init_268 : decode cX10_init 268 = .ok (.invokevirtual 100, 3) := by decide +kernel
theorem dX10_init_271 : decode cX10_init 271 = .ok (.return_, 1) := by decide +kernel
theorem dX10_tellsNothing_0 : decode cX10_tellsNothing 0 = .ok (.iconst 0, 1) := by decide +kernel
theorem dX10_tellsNothing_1 : decode cX10_tellsNothing 1 = .ok (.istore_n 1, 1) := by decide +kernel
theorem dX10_tellsNothing_2 : decode cX10_tellsNothing 2 = .ok (.iload_n 1, 1) := by decide +kernel
theorem dX10_tellsNothing_3 : decode cX10_tellsNothing 3 = .ok (.iconst 4, 1) := by decide +kernel
theorem dX10_tellsNothing_4 : decode cX10_tellsNothing 4 = .ok (.if_icmp .ge 16, 3) := by decide +kernel
theorem dX10_tellsNothing_7 : decode cX10_tellsNothing 7 = .ok (.aload_n 0, 1) := by decide +kernel
theorem dX10_tellsNothing_8 : decode cX10_tellsNothing 8 = .ok (.getfield 20, 3) := by decide +kernel
theorem dX10_tellsNothing_11 : decode cX10_tellsNothing 11 = .ok (.iload_n 1, 1) := by decide +kernel
theorem dX10_tellsNothing_12 : decode cX10_tellsNothing 12 = .ok (.iconst 0, 1) := by decide +kernel
theorem dX10_tellsNothing_13 : decode cX10_tellsNothing 13 = .ok (.iastore, 1) := by decide +kernel
theorem dX10_tellsNothing_14 : decode cX10_tellsNothing 14 = .ok (.iinc 1 1, 3) := by decide +kernel
theorem dX10_tellsNothing_17 : decode cX10_tellsNothing 17 = .ok (.goto (-15), 3) := by decide +kernel
theorem dX10_tellsNothing_20 : decode cX10_tellsNothing 20 = .ok (.aload_n 0, 1) := by decide +kernel
theorem dX10_tellsNothing_21 : decode cX10_tellsNothing 21 = .ok (.getfield 20, 3) := by decide +kernel
theorem dX10_tellsNothing_24 : decode cX10_tellsNothing 24 = .ok (.iconst 4, 1) := by decide +kernel
theorem dX10_tellsNothing_25 : decode cX10_tellsNothing 25 = .ok (.bipush 10, 2) := by decide +kernel
theorem dX10_tellsNothing_27 : decode cX10_tellsNothing 27 = .ok (.iastore, 1) := by decide +kernel
theorem dX10_tellsNothing_28 : decode cX10_tellsNothing 28 = .ok (.aload_n 0, 1) := by decide +kernel
theorem dX10_tellsNothing_29 : decode cX10_tellsNothing 29 = .ok (.getfield 20, 3) := by decide +kernel
theorem dX10_tellsNothing_32 : decode cX10_tellsNothing 32 = .ok (.iconst 5, 1) := by decide +kernel
theorem dX10_tellsNothing_33 : decode cX10_tellsNothing 33 = .ok (.iconst 3, 1) := by decide +kernel
theorem dX10_tellsNothing_34 : decode cX10_tellsNothing 34 = .ok (.iastore, 1) := by decide +kernel
theorem dX10_tellsNothing_35 : decode cX10_tellsNothing 35 = .ok (.return_, 1) := by decide +kernel
theorem dX10_thrown_0 : decode cX10_thrown 0 = .ok (.aload_n 0, 1) := by decide +kernel
theorem dX10_thrown_1 : decode cX10_thrown 1 = .ok (.getfield 103, 3) := by decide +kernel
theorem dX10_thrown_4 : decode cX10_thrown 4 = .ok (.ireturn, 1) := by decide +kernel
theorem dX10_bad_0 : decode cX10_bad 0 = .ok (.iload_n 1, 1) := by decide +kernel
theorem dX10_bad_1 : decode cX10_bad 1 = .ok (.ifCond .eq 25, 3) := by decide +kernel
theorem dX10_bad_4 : decode cX10_bad 4 = .ok (.aload_n 0, 1) := by decide +kernel
theorem dX10_bad_5 : decode cX10_bad 5 = .ok (.getfield 103, 3) := by decide +kernel
theorem dX10_bad_8 : decode cX10_bad 8 = .ok (.ifCond .ne 18, 3) := by decide +kernel
theorem dX10_bad_11 : decode cX10_bad 11 = .ok (.aload_n 0, 1) := by decide +kernel
theorem dX10_bad_12 : decode cX10_bad 12 = .ok (.iload_n 2, 1) := by decide +kernel
theorem dX10_bad_13 : decode cX10_bad 13 = .ok (.putfield 103, 3) := by decide +kernel
theorem dX10_bad_16 : decode cX10_bad 16 = .ok (.aload_n 0, 1) := by decide +kernel
theorem dX10_bad_17 : decode cX10_bad 17 = .ok (.getfield 17, 3) := by decide +kernel
theorem dX10_bad_20 : decode cX10_bad 20 = .ok (.iload_n 3, 1) := by decide +kernel
theorem dX10_bad_21 : decode cX10_bad 21 = .ok (.dup2, 1) := by decide +kernel
theorem dX10_bad_22 : decode cX10_bad 22 = .ok (.iaload, 1) := by decide +kernel
theorem dX10_bad_23 : decode cX10_bad 23 = .ok (.iconst 1, 1) := by decide +kernel
theorem dX10_bad_24 : decode cX10_bad 24 = .ok (.iadd, 1) := by decide +kernel
theorem dX10_bad_25 : decode cX10_bad 25 = .ok (.iastore, 1) := by decide +kernel
theorem dX10_bad_26 : decode cX10_bad 26 = .ok (.aload_n 0, 1) := by decide +kernel
theorem dX10_bad_27 : decode cX10_bad 27 = .ok (.getfield 103, 3) := by decide +kernel
theorem dX10_bad_30 : decode cX10_bad 30 = .ok (.ifCond .eq 7, 3) := by decide +kernel
theorem dX10_bad_33 : decode cX10_bad 33 = .ok (.iconst 1, 1) := by decide +kernel
theorem dX10_bad_34 : decode cX10_bad 34 = .ok (.goto 4, 3) := by decide +kernel
theorem dX10_bad_37 : decode cX10_bad 37 = .ok (.iconst 0, 1) := by decide +kernel
theorem dX10_bad_38 : decode cX10_bad 38 = .ok (.ireturn, 1) := by decide +kernel
theorem dX10_isIn_0 : decode cX10_isIn 0 = .ok (.iload_n 0, 1) := by decide +kernel
theorem dX10_isIn_1 : decode cX10_isIn 1 = .ok (.iload_n 1, 1) := by decide +kernel
theorem dX10_isIn_2 : decode cX10_isIn 2 = .ok (.if_icmp .lt 12, 3) := by decide +kernel
theorem dX10_isIn_5 : decode cX10_isIn 5 = .ok (.iload_n 0, 1) := by decide +kernel
theorem dX10_isIn_6 : decode cX10_isIn 6 = .ok (.iload_n 2, 1) := by decide +kernel
theorem dX10_isIn_7 : decode cX10_isIn 7 = .ok (.if_icmp .gt 7, 3) := by decide +kernel
theorem dX10_isIn_10 : decode cX10_isIn 10 = .ok (.iconst 1, 1) := by decide +kernel
theorem dX10_isIn_11 : decode cX10_isIn 11 = .ok (.goto 4, 3) := by decide +kernel
theorem dX10_isIn_14 : decode cX10_isIn 14 = .ok (.iconst 0, 1) := by decide +kernel
theorem dX10_isIn_15 : decode cX10_isIn 15 = .ok (.ireturn, 1) := by decide +kernel
theorem dX10_less_0 : decode cX10_less 0 = .ok (.iload_n 0, 1) := by decide +kernel
theorem dX10_less_1 : decode cX10_less 1 = .ok (.iload_n 1, 1) := by decide +kernel
theorem dX10_less_2 : decode cX10_less 2 = .ok (.if_icmp .ge 7, 3) := by decide +kernel
theorem dX10_less_5 : decode cX10_less 5 = .ok (.iload_n 0, 1) := by decide +kernel
theorem dX10_less_6 : decode cX10_less 6 = .ok (.goto 4, 3) := by decide +kernel
theorem dX10_less_9 : decode cX10_less 9 = .ok (.iload_n 1, 1) := by decide +kernel
theorem dX10_less_10 : decode cX10_less 10 = .ok (.ireturn, 1) := by decide +kernel
theorem dX10_more_0 : decode cX10_more 0 = .ok (.iload_n 0, 1) := by decide +kernel
theorem dX10_more_1 : decode cX10_more 1 = .ok (.iload_n 1, 1) := by decide +kernel
theorem dX10_more_2 : decode cX10_more 2 = .ok (.if_icmp .le 7, 3) := by decide +kernel
theorem dX10_more_5 : decode cX10_more 5 = .ok (.iload_n 0, 1) := by decide +kernel
theorem dX10_more_6 : decode cX10_more 6 = .ok (.goto 4, 3) := by decide +kernel
theorem dX10_more_9 : decode cX10_more 9 = .ok (.iload_n 1, 1) := by decide +kernel
theorem dX10_more_10 : decode cX10_more 10 = .ok (.ireturn, 1) := by decide +kernel
theorem dX10_has_0 : decode cX10_has 0 = .ok (.iload_n 0, 1) := by decide +kernel
theorem dX10_has_1 : decode cX10_has 1 = .ok (.iload_n 1, 1) := by decide +kernel
theorem dX10_has_2 : decode cX10_has 2 = .ok (.ishr, 1) := by decide +kernel
theorem dX10_has_3 : decode cX10_has 3 = .ok (.iconst 1, 1) := by decide +kernel
theorem dX10_has_4 : decode cX10_has 4 = .ok (.iand, 1) := by decide +kernel
theorem dX10_has_5 : decode cX10_has 5 = .ok (.iconst 1, 1) := by decide +kernel
theorem dX10_has_6 : decode cX10_has 6 = .ok (.if_icmp .ne 7, 3) := by decide +kernel
theorem dX10_has_9 : decode cX10_has 9 = .ok (.iconst 1, 1) := by decide +kernel
theorem dX10_has_10 : decode cX10_has 10 = .ok (.goto 4, 3) := by decide +kernel
theorem dX10_has_13 : decode cX10_has 13 = .ok (.iconst 0, 1) := by decide +kernel
theorem dX10_has_14 : decode cX10_has 14 = .ok (.ireturn, 1) := by decide +kernel
theorem dX10_feed_0 : decode cX10_feed 0 = .ok (.aload_n 0, 1) := by decide +kernel
theorem dX10_feed_1 : decode cX10_feed 1 = .ok (.iconst 0, 1) := by decide +kernel
theorem dX10_feed_2 : decode cX10_feed 2 = .ok (.putfield 103, 3) := by decide +kernel
theorem dX10_feed_5 : decode cX10_feed 5 = .ok (.aload_n 0, 1) := by decide +kernel
theorem dX10_feed_6 : decode cX10_feed 6 = .ok (.getfield 106, 3) := by decide +kernel
theorem dX10_feed_9 : decode cX10_feed 9 = .ok (.bipush 20, 2) := by decide +kernel
theorem dX10_feed_11 : decode cX10_feed 11 = .ok (.iadd, 1) := by decide +kernel
theorem dX10_feed_12 : decode cX10_feed 12 = .ok (.sipush 600, 3) := by decide +kernel
theorem dX10_feed_15 : decode cX10_feed 15 = .ok (.if_icmp .le 5, 3) := by decide +kernel
theorem dX10_feed_18 : decode cX10_feed 18 = .ok (.iconst (-1), 1) := by decide +kernel
theorem dX10_feed_19 : decode cX10_feed 19 = .ok (.ireturn, 1) := by decide +kernel
theorem dX10_feed_20 : decode cX10_feed 20 = .ok (.iconst 0, 1) := by decide +kernel
theorem dX10_feed_21 : decode cX10_feed 21 = .ok (.istore 6, 2) := by decide +kernel
theorem dX10_feed_23 : decode cX10_feed 23 = .ok (.iload 6, 2) := by decide +kernel
theorem dX10_feed_25 : decode cX10_feed 25 = .ok (.bipush 20, 2) := by decide +kernel
theorem dX10_feed_27 : decode cX10_feed 27 = .ok (.if_icmp .ge 93, 3) := by decide +kernel
theorem dX10_feed_30 : decode cX10_feed 30 = .ok (.iload 6, 2) := by decide +kernel
theorem dX10_feed_32 : decode cX10_feed 32 = .ok (.iconst 4, 1) := by decide +kernel
theorem dX10_feed_33 : decode cX10_feed 33 = .ok (.if_icmp .ge 7, 3) := by decide +kernel
theorem dX10_feed_36 : decode cX10_feed 36 = .ok (.iload_n 1, 1) := by decide +kernel
theorem dX10_feed_37 : decode cX10_feed 37 = .ok (.goto 39, 3) := by decide +kernel
theorem dX10_feed_40 : decode cX10_feed 40 = .ok (.iload 6, 2) := by decide +kernel
theorem dX10_feed_42 : decode cX10_feed 42 = .ok (.bipush 8, 2) := by decide +kernel
theorem dX10_feed_44 : decode cX10_feed 44 = .ok (.if_icmp .ge 7, 3) := by decide +kernel
theorem dX10_feed_47 : decode cX10_feed 47 = .ok (.iload_n 2, 1) := by decide +kernel
theorem dX10_feed_48 : decode cX10_feed 48 = .ok (.goto 28, 3) := by decide +kernel
theorem dX10_feed_51 : decode cX10_feed 51 = .ok (.iload 6, 2) := by decide +kernel
theorem dX10_feed_53 : decode cX10_feed 53 = .ok (.bipush 12, 2) := by decide +kernel
theorem dX10_feed_55 : decode cX10_feed 55 = .ok (.if_icmp .ge 7, 3) := by decide +kernel
theorem dX10_feed_58 : decode cX10_feed 58 = .ok (.iload_n 3, 1) := by decide +kernel
theorem dX10_feed_59 : decode cX10_feed 59 = .ok (.goto 17, 3) := by decide +kernel
theorem dX10_feed_62 : decode cX10_feed 62 = .ok (.iload 6, 2) := by decide +kernel
theorem dX10_feed_64 : decode cX10_feed 64 = .ok (.bipush 16, 2) := by decide +kernel
theorem dX10_feed_66 : decode cX10_feed 66 = .ok (.if_icmp .ge 8, 3) := by decide +kernel
theorem dX10_feed_69 : decode cX10_feed 69 = .ok (.iload 4, 2) := by decide +kernel
theorem dX10_feed_71 : decode cX10_feed 71 = .ok (.goto 5, 3) := by decide +kernel
theorem dX10_feed_74 : decode cX10_feed 74 = .ok (.iload 5, 2) := by decide +kernel
theorem dX10_feed_76 : decode cX10_feed 76 = .ok (.istore 7, 2) := by decide +kernel
theorem dX10_feed_78 : decode cX10_feed 78 = .ok (.aload_n 0, 1) := by decide +kernel
theorem dX10_feed_79 : decode cX10_feed 79 = .ok (.getfield 13, 3) := by decide +kernel
theorem dX10_feed_82 : decode cX10_feed 82 = .ok (.aload_n 0, 1) := by decide +kernel
theorem dX10_feed_83 : decode cX10_feed 83 = .ok (.getfield 106, 3) := by decide +kernel
theorem dX10_feed_86 : decode cX10_feed 86 = .ok (.iload 7, 2) := by decide +kernel
theorem dX10_feed_88 : decode cX10_feed 88 = .ok (.bipush 24, 2) := by decide +kernel
theorem dX10_feed_90 : decode cX10_feed 90 = .ok (.bipush 8, 2) := by decide +kernel
theorem dX10_feed_92 : decode cX10_feed 92 = .ok (.iload 6, 2) := by decide +kernel
theorem dX10_feed_94 : decode cX10_feed 94 = .ok (.iconst 4, 1) := by decide +kernel
theorem dX10_feed_95 : decode cX10_feed 95 = .ok (.irem, 1) := by decide +kernel
theorem dX10_feed_96 : decode cX10_feed 96 = .ok (.imul, 1) := by decide +kernel
theorem dX10_feed_97 : decode cX10_feed 97 = .ok (.isub, 1) := by decide +kernel
theorem dX10_feed_98 : decode cX10_feed 98 = .ok (.ishr, 1) := by decide +kernel
theorem dX10_feed_99 : decode cX10_feed 99 = .ok (.sipush 255, 3) := by decide +kernel
theorem dX10_feed_102 : decode cX10_feed 102 = .ok (.iand, 1) := by decide +kernel
theorem dX10_feed_103 : decode cX10_feed 103 = .ok (.iastore, 1) := by decide +kernel
theorem dX10_feed_104 : decode cX10_feed 104 = .ok (.aload_n 0, 1) := by decide +kernel
theorem dX10_feed_105 : decode cX10_feed 105 = .ok (.dup, 1) := by decide +kernel
theorem dX10_feed_106 : decode cX10_feed 106 = .ok (.getfield 106, 3) := by decide +kernel
theorem dX10_feed_109 : decode cX10_feed 109 = .ok (.iconst 1, 1) := by decide +kernel
theorem dX10_feed_110 : decode cX10_feed 110 = .ok (.iadd, 1) := by decide +kernel
theorem dX10_feed_111 : decode cX10_feed 111 = .ok (.putfield 106, 3) := by decide +kernel
theorem dX10_feed_114 : decode cX10_feed 114 = .ok (.iinc 6 1, 3) := by decide +kernel
theorem dX10_feed_117 : decode cX10_feed 117 = .ok (.goto (-94), 3) := by decide +kernel
theorem dX10_feed_120 : decode cX10_feed 120 = .ok (.aload_n 0, 1) := by decide +kernel
theorem dX10_feed_121 : decode cX10_feed 121 = .ok (.getfield 106, 3) := by decide +kernel
theorem dX10_feed_124 : decode cX10_feed 124 = .ok (.ireturn, 1) := by decide +kernel
theorem dX10_byteAt_0 : decode cX10_byteAt 0 = .ok (.iload_n 1, 1) := by decide +kernel
theorem dX10_byteAt_1 : decode cX10_byteAt 1 = .ok (.aload_n 0, 1) := by decide +kernel
theorem dX10_byteAt_2 : decode cX10_byteAt 2 = .ok (.getfield 109, 3) := by decide +kernel
theorem dX10_byteAt_5 : decode cX10_byteAt 5 = .ok (.if_icmp .lt 7, 3) := by decide +kernel
theorem dX10_byteAt_8 : decode cX10_byteAt 8 = .ok (.iconst (-1), 1) := by decide +kernel
theorem dX10_byteAt_9 : decode cX10_byteAt 9 = .ok (.goto 9, 3) := by decide +kernel
theorem dX10_byteAt_12 : decode cX10_byteAt 12 = .ok (.aload_n 0, 1) := by decide +kernel
theorem dX10_byteAt_13 : decode cX10_byteAt 13 = .ok (.getfield 13, 3) := by decide +kernel
theorem dX10_byteAt_16 : decode cX10_byteAt 16 = .ok (.iload_n 1, 1) := by decide +kernel
theorem dX10_byteAt_17 : decode cX10_byteAt 17 = .ok (.iaload, 1) := by decide +kernel
theorem dX10_byteAt_18 : decode cX10_byteAt 18 = .ok (.ireturn, 1) := by decide +kernel
theorem dX10_blanks_0 : decode cX10_blanks 0 = .ok (.aload_n 0, 1) := by decide +kernel
theorem dX10_blanks_1 : decode cX10_blanks 1 = .ok (.aload_n 0, 1) := by decide +kernel
theorem dX10_blanks_2 : decode cX10_blanks 2 = .ok (.getfield 112, 3) := by decide +kernel
theorem dX10_blanks_5 : decode cX10_blanks 5 = .ok (.invokevirtual 115, 3) := by decide +kernel
theorem dX10_blanks_8 : decode cX10_blanks 8 = .ok (.bipush 32, 2) := by decide +kernel
theorem dX10_blanks_10 : decode cX10_blanks 10 = .ok (.if_icmp .ne 16, 3) := by decide +kernel
theorem dX10_blanks_13 : decode cX10_blanks 13 = .ok (.aload_n 0, 1) := by decide +kernel
theorem dX10_blanks_14 : decode cX10_blanks 14 = .ok (.dup, 1) := by decide +kernel
theorem dX10_blanks_15 : decode cX10_blanks 15 = .ok (.getfield 112, 3) := by decide +kernel
theorem dX10_blanks_18 : decode cX10_blanks 18 = .ok (.iconst 1, 1) := by decide +kernel
theorem dX10_blanks_19 : decode cX10_blanks 19 = .ok (.iadd, 1) := by decide +kernel
theorem dX10_blanks_20 : decode cX10_blanks 20 = .ok (.putfield 112, 3) := by decide +kernel
theorem dX10_blanks_23 : decode cX10_blanks 23 = .ok (.goto (-23), 3) := by decide +kernel
theorem dX10_blanks_26 : decode cX10_blanks 26 = .ok (.return_, 1) := by decide +kernel
theorem dX10_wrong_0 : decode cX10_wrong 0 = .ok (.aload_n 0, 1) := by decide +kernel
theorem dX10_wrong_1 : decode cX10_wrong 1 = .ok (.getfield 119, 3) := by decide +kernel
theorem dX10_wrong_4 : decode cX10_wrong 4 = .ok (.ifCond .ne 13, 3) := by decide +kernel
theorem dX10_wrong_7 : decode cX10_wrong 7 = .ok (.aload_n 0, 1) := by decide +kernel
theorem dX10_wrong_8 : decode cX10_wrong 8 = .ok (.iload_n 1, 1) := by decide +kernel
theorem dX10_wrong_9 : decode cX10_wrong 9 = .ok (.putfield 119, 3) := by decide +kernel
theorem dX10_wrong_12 : decode cX10_wrong 12 = .ok (.aload_n 0, 1) := by decide +kernel
theorem dX10_wrong_13 : decode cX10_wrong 13 = .ok (.iload_n 2, 1) := by decide +kernel
theorem dX10_wrong_14 : decode cX10_wrong 14 = .ok (.putfield 122, 3) := by decide +kernel
theorem dX10_wrong_17 : decode cX10_wrong 17 = .ok (.return_, 1) := by decide +kernel
theorem dX10_isDigit_0 : decode cX10_isDigit 0 = .ok (.iload_n 0, 1) := by decide +kernel
theorem dX10_isDigit_1 : decode cX10_isDigit 1 = .ok (.bipush 48, 2) := by decide +kernel
theorem dX10_isDigit_3 : decode cX10_isDigit 3 = .ok (.if_icmp .lt 13, 3) := by decide +kernel
theorem dX10_isDigit_6 : decode cX10_isDigit 6 = .ok (.iload_n 0, 1) := by decide +kernel
theorem dX10_isDigit_7 : decode cX10_isDigit 7 = .ok (.bipush 57, 2) := by decide +kernel
theorem dX10_isDigit_9 : decode cX10_isDigit 9 = .ok (.if_icmp .gt 7, 3) := by decide +kernel
theorem dX10_isDigit_12 : decode cX10_isDigit 12 = .ok (.iconst 1, 1) := by decide +kernel
theorem dX10_isDigit_13 : decode cX10_isDigit 13 = .ok (.goto 4, 3) := by decide +kernel
theorem dX10_isDigit_16 : decode cX10_isDigit 16 = .ok (.iconst 0, 1) := by decide +kernel
theorem dX10_isDigit_17 : decode cX10_isDigit 17 = .ok (.ireturn, 1) := by decide +kernel
theorem dX10_isSmall_0 : decode cX10_isSmall 0 = .ok (.iload_n 0, 1) := by decide +kernel
theorem dX10_isSmall_1 : decode cX10_isSmall 1 = .ok (.bipush 97, 2) := by decide +kernel
theorem dX10_isSmall_3 : decode cX10_isSmall 3 = .ok (.if_icmp .lt 13, 3) := by decide +kernel
theorem dX10_isSmall_6 : decode cX10_isSmall 6 = .ok (.iload_n 0, 1) := by decide +kernel
theorem dX10_isSmall_7 : decode cX10_isSmall 7 = .ok (.bipush 122, 2) := by decide +kernel
theorem dX10_isSmall_9 : decode cX10_isSmall 9 = .ok (.if_icmp .gt 7, 3) := by decide +kernel
theorem dX10_isSmall_12 : decode cX10_isSmall 12 = .ok (.iconst 1, 1) := by decide +kernel
theorem dX10_isSmall_13 : decode cX10_isSmall 13 = .ok (.goto 4, 3) := by decide +kernel
theorem dX10_isSmall_16 : decode cX10_isSmall 16 = .ok (.iconst 0, 1) := by decide +kernel
theorem dX10_isSmall_17 : decode cX10_isSmall 17 = .ok (.ireturn, 1) := by decide +kernel
theorem dX10_number_0 : decode cX10_number 0 = .ok (.aload_n 0, 1) := by decide +kernel
theorem dX10_number_1 : decode cX10_number 1 = .ok (.getfield 119, 3) := by decide +kernel
theorem dX10_number_4 : decode cX10_number 4 = .ok (.ifCond .eq 5, 3) := by decide +kernel
theorem dX10_number_7 : decode cX10_number 7 = .ok (.iconst 0, 1) := by decide +kernel
theorem dX10_number_8 : decode cX10_number 8 = .ok (.ireturn, 1) := by decide +kernel
theorem dX10_number_9 : decode cX10_number 9 = .ok (.aload_n 0, 1) := by decide +kernel
theorem dX10_number_10 : decode cX10_number 10 = .ok (.invokevirtual 125, 3) := by decide +kernel
theorem dX10_number_13 : decode cX10_number 13 = .ok (.aload_n 0, 1) := by decide +kernel
theorem dX10_number_14 : decode cX10_number 14 = .ok (.getfield 112, 3) := by decide +kernel
theorem dX10_number_17 : decode cX10_number 17 = .ok (.istore_n 3, 1) := by decide +kernel
theorem dX10_number_18 : decode cX10_number 18 = .ok (.iconst 0, 1) := by decide +kernel
theorem dX10_number_19 : decode cX10_number 19 = .ok (.istore 4, 2) := by decide +kernel
theorem dX10_number_21 : decode cX10_number 21 = .ok (.aload_n 0, 1) := by decide +kernel
theorem dX10_number_22 : decode cX10_number 22 = .ok (.aload_n 0, 1) := by decide +kernel
theorem dX10_number_23 : decode cX10_number 23 = .ok (.getfield 112, 3) := by decide +kernel
theorem dX10_number_26 : decode cX10_number 26 = .ok (.invokevirtual 115, 3) := by decide +kernel
theorem dX10_number_29 : decode cX10_number 29 = .ok (.invokestatic 128, 3) := by decide +kernel
theorem dX10_number_32 : decode cX10_number 32 = .ok (.ifCond .ne 12, 3) := by decide +kernel
theorem dX10_number_35 : decode cX10_number 35 = .ok (.aload_n 0, 1) := by decide +kernel
theorem dX10_number_36 : decode cX10_number 36 = .ok (.iconst 1, 1) := by decide +kernel
theorem dX10_number_37 : decode cX10_number 37 = .ok (.aload_n 0, 1) := by decide +kernel
theorem dX10_number_38 : decode cX10_number 38 = .ok (.getfield 112, 3) := by decide +kernel
theorem dX10_number_41 : decode cX10_number 41 = .ok (.invokevirtual 132, 3) := by decide +kernel
theorem dX10_number_44 : decode cX10_number 44 = .ok (.aload_n 0, 1) := by decide +kernel
theorem dX10_number_45 : decode cX10_number 45 = .ok (.aload_n 0, 1) := by decide +kernel
theorem dX10_number_46 : decode cX10_number 46 = .ok (.getfield 112, 3) := by decide +kernel
theorem dX10_number_49 : decode cX10_number 49 = .ok (.invokevirtual 115, 3) := by decide +kernel
theorem dX10_number_52 : decode cX10_number 52 = .ok (.invokestatic 128, 3) := by decide +kernel
theorem dX10_number_55 : decode cX10_number 55 = .ok (.ifCond .eq 51, 3) := by decide +kernel
theorem dX10_number_58 : decode cX10_number 58 = .ok (.bipush 10, 2) := by decide +kernel
theorem dX10_number_60 : decode cX10_number 60 = .ok (.iload 4, 2) := by decide +kernel
theorem dX10_number_62 : decode cX10_number 62 = .ok (.imul, 1) := by decide +kernel
theorem dX10_number_63 : decode cX10_number 63 = .ok (.aload_n 0, 1) := by decide +kernel
theorem dX10_number_64 : decode cX10_number 64 = .ok (.aload_n 0, 1) := by decide +kernel
theorem dX10_number_65 : decode cX10_number 65 = .ok (.getfield 112, 3) := by decide +kernel
theorem dX10_number_68 : decode cX10_number 68 = .ok (.invokevirtual 115, 3) := by decide +kernel
theorem dX10_number_71 : decode cX10_number 71 = .ok (.iadd, 1) := by decide +kernel
theorem dX10_number_72 : decode cX10_number 72 = .ok (.bipush 48, 2) := by decide +kernel
theorem dX10_number_74 : decode cX10_number 74 = .ok (.isub, 1) := by decide +kernel
theorem dX10_number_75 : decode cX10_number 75 = .ok (.istore 4, 2) := by decide +kernel
theorem dX10_number_77 : decode cX10_number 77 = .ok (.iload 4, 2) := by decide +kernel
theorem dX10_number_79 : decode cX10_number 79 = .ok (.ldc 136, 2) := by decide +kernel
theorem dX10_number_81 : decode cX10_number 81 = .ok (.if_icmp .le 8, 3) := by decide +kernel
theorem dX10_number_84 : decode cX10_number 84 = .ok (.ldc 136, 2) := by decide +kernel
theorem dX10_number_86 : decode cX10_number 86 = .ok (.goto 5, 3) := by decide +kernel
theorem dX10_number_89 : decode cX10_number 89 = .ok (.iload 4, 2) := by decide +kernel
theorem dX10_number_91 : decode cX10_number 91 = .ok (.istore 4, 2) := by decide +kernel
theorem dX10_number_93 : decode cX10_number 93 = .ok (.aload_n 0, 1) := by decide +kernel
theorem dX10_number_94 : decode cX10_number 94 = .ok (.dup, 1) := by decide +kernel
theorem dX10_number_95 : decode cX10_number 95 = .ok (.getfield 112, 3) := by decide +kernel
theorem dX10_number_98 : decode cX10_number 98 = .ok (.iconst 1, 1) := by decide +kernel
theorem dX10_number_99 : decode cX10_number 99 = .ok (.iadd, 1) := by decide +kernel
theorem dX10_number_100 : decode cX10_number 100 = .ok (.putfield 112, 3) := by decide +kernel
theorem dX10_number_103 : decode cX10_number 103 = .ok (.goto (-59), 3) := by decide +kernel
theorem dX10_number_106 : decode cX10_number 106 = .ok (.iload 4, 2) := by decide +kernel
theorem dX10_number_108 : decode cX10_number 108 = .ok (.iload_n 1, 1) := by decide +kernel
theorem dX10_number_109 : decode cX10_number 109 = .ok (.iload_n 2, 1) := by decide +kernel
theorem dX10_number_110 : decode cX10_number 110 = .ok (.invokestatic 137, 3) := by decide +kernel
theorem dX10_number_113 : decode cX10_number 113 = .ok (.ifCond .ne 9, 3) := by decide +kernel
theorem dX10_number_116 : decode cX10_number 116 = .ok (.aload_n 0, 1) := by decide +kernel
theorem dX10_number_117 : decode cX10_number 117 = .ok (.iconst 2, 1) := by decide +kernel
theorem dX10_number_118 : decode cX10_number 118 = .ok (.iload_n 3, 1) := by decide +kernel
theorem dX10_number_119 : decode cX10_number 119 = .ok (.invokevirtual 132, 3) := by decide +kernel
theorem dX10_number_122 : decode cX10_number 122 = .ok (.aload_n 0, 1) := by decide +kernel
theorem dX10_number_123 : decode cX10_number 123 = .ok (.getfield 119, 3) := by decide +kernel
theorem dX10_number_126 : decode cX10_number 126 = .ok (.ifCond .ne 8, 3) := by decide +kernel
theorem dX10_number_129 : decode cX10_number 129 = .ok (.iload 4, 2) := by decide +kernel
theorem dX10_number_131 : decode cX10_number 131 = .ok (.goto 4, 3) := by decide +kernel
theorem dX10_number_134 : decode cX10_number 134 = .ok (.iconst 0, 1) := by decide +kernel
theorem dX10_number_135 : decode cX10_number 135 = .ok (.ireturn, 1) := by decide +kernel
theorem dX10_wordHere_0 : decode cX10_wordHere 0 = .ok (.aload_n 0, 1) := by decide +kernel
theorem dX10_wordHere_1 : decode cX10_wordHere 1 = .ok (.invokevirtual 125, 3) := by decide +kernel
theorem dX10_wordHere_4 : decode cX10_wordHere 4 = .ok (.lconst 0, 1) := by decide +kernel
theorem dX10_wordHere_5 : decode cX10_wordHere 5 = .ok (.lstore_n 1, 1) := by decide +kernel
theorem dX10_wordHere_6 : decode cX10_wordHere 6 = .ok (.iconst 0, 1) := by decide +kernel
theorem dX10_wordHere_7 : decode cX10_wordHere 7 = .ok (.istore_n 3, 1) := by decide +kernel
theorem dX10_wordHere_8 : decode cX10_wordHere 8 = .ok (.aload_n 0, 1) := by decide +kernel
theorem dX10_wordHere_9 : decode cX10_wordHere 9 = .ok (.aload_n 0, 1) := by decide +kernel
theorem dX10_wordHere_10 : decode cX10_wordHere 10 = .ok (.getfield 112, 3) := by decide +kernel
theorem dX10_wordHere_13 : decode cX10_wordHere 13 = .ok (.iload_n 3, 1) := by decide +kernel
theorem dX10_wordHere_14 : decode cX10_wordHere 14 = .ok (.iadd, 1) := by decide +kernel
theorem dX10_wordHere_15 : decode cX10_wordHere 15 = .ok (.invokevirtual 115, 3) := by decide +kernel
theorem dX10_wordHere_18 : decode cX10_wordHere 18 = .ok (.invokestatic 141, 3) := by decide +kernel
theorem dX10_wordHere_21 : decode cX10_wordHere 21 = .ok (.ifCond .eq 43, 3) := by decide +kernel
theorem dX10_wordHere_24 : decode cX10_wordHere 24 = .ok (.iload_n 3, 1) := by decide +kernel
theorem dX10_wordHere_25 : decode cX10_wordHere 25 = .ok (.bipush 7, 2) := by decide +kernel
theorem dX10_wordHere_27 : decode cX10_wordHere 27 = .ok (.if_icmp .ge 29, 3) := by decide +kernel
theorem dX10_wordHere_30 : decode cX10_wordHere 30 = .ok (.ldc2_w 144, 3) := by decide +kernel
theorem dX10_wordHere_33 : decode cX10_wordHere 33 = .ok (.lload_n 1, 1) := by decide +kernel
theorem dX10_wordHere_34 : decode cX10_wordHere 34 = .ok (.lmul, 1) := by decide +kernel
theorem dX10_wordHere_35 : decode cX10_wordHere 35 = .ok (.aload_n 0, 1) := by decide +kernel
theorem dX10_wordHere_36 : decode cX10_wordHere 36 = .ok (.aload_n 0, 1) := by decide +kernel
theorem dX10_wordHere_37 : decode cX10_wordHere 37 = .ok (.getfield 112, 3) := by decide +kernel
theorem dX10_wordHere_40 : decode cX10_wordHere 40 = .ok (.iload_n 3, 1) := by decide +kernel
theorem dX10_wordHere_41 : decode cX10_wordHere 41 = .ok (.iadd, 1) := by decide +kernel
theorem dX10_wordHere_42 : decode cX10_wordHere 42 = .ok (.invokevirtual 115, 3) := by decide +kernel
theorem dX10_wordHere_45 : decode cX10_wordHere 45 = .ok (.i2l, 1) := by decide +kernel
theorem dX10_wordHere_46 : decode cX10_wordHere 46 = .ok (.ladd, 1) := by decide +kernel
theorem dX10_wordHere_47 : decode cX10_wordHere 47 = .ok (.ldc2_w 146, 3) := by decide +kernel
theorem dX10_wordHere_50 : decode cX10_wordHere 50 = .ok (.lsub, 1) := by decide +kernel
theorem dX10_wordHere_51 : decode cX10_wordHere 51 = .ok (.lconst 1, 1) := by decide +kernel
theorem dX10_wordHere_52 : decode cX10_wordHere 52 = .ok (.ladd, 1) := by decide +kernel
theorem dX10_wordHere_53 : decode cX10_wordHere 53 = .ok (.goto 4, 3) := by decide +kernel
theorem dX10_wordHere_56 : decode cX10_wordHere 56 = .ok (.lload_n 1, 1) := by decide +kernel
theorem dX10_wordHere_57 : decode cX10_wordHere 57 = .ok (.lstore_n 1, 1) := by decide +kernel
theorem dX10_wordHere_58 : decode cX10_wordHere 58 = .ok (.iinc 3 1, 3) := by decide +kernel
theorem dX10_wordHere_61 : decode cX10_wordHere 61 = .ok (.goto (-53), 3) := by decide +kernel
theorem dX10_wordHere_64 : decode cX10_wordHere 64 = .ok (.iload_n 3, 1) := by decide +kernel
theorem dX10_wordHere_65 : decode cX10_wordHere 65 = .ok (.bipush 7, 2) := by decide +kernel
theorem dX10_wordHere_67 : decode cX10_wordHere 67 = .ok (.if_icmp .le 9, 3) := by decide +kernel
theorem dX10_wordHere_70 : decode cX10_wordHere 70 = .ok (.ldc2_w 148, 3) := by decide +kernel
theorem dX10_wordHere_73 : decode cX10_wordHere 73 = .ok (.goto 4, 3) := by decide +kernel
theorem dX10_wordHere_76 : decode cX10_wordHere 76 = .ok (.lload_n 1, 1) := by decide +kernel
theorem dX10_wordHere_77 : decode cX10_wordHere 77 = .ok (.lreturn, 1) := by decide +kernel
theorem dX10_seven_0 : decode cX10_seven 0 = .ok (.ldc2_w 144, 3) := by decide +kernel
theorem dX10_seven_3 : decode cX10_seven 3 = .ok (.ldc2_w 144, 3) := by decide +kernel
theorem dX10_seven_6 : decode cX10_seven 6 = .ok (.iload_n 0, 1) := by decide +kernel
theorem dX10_seven_7 : decode cX10_seven 7 = .ok (.i2l, 1) := by decide +kernel
theorem dX10_seven_8 : decode cX10_seven 8 = .ok (.lmul, 1) := by decide +kernel
theorem dX10_seven_9 : decode cX10_seven 9 = .ok (.iload_n 1, 1) := by decide +kernel
theorem dX10_seven_10 : decode cX10_seven 10 = .ok (.i2l, 1) := by decide +kernel
theorem dX10_seven_11 : decode cX10_seven 11 = .ok (.ladd, 1) := by decide +kernel
theorem dX10_seven_12 : decode cX10_seven 12 = .ok (.lmul, 1) := by decide +kernel
theorem dX10_seven_13 : decode cX10_seven 13 = .ok (.iload_n 2, 1) := by decide +kernel
theorem dX10_seven_14 : decode cX10_seven 14 = .ok (.i2l, 1) := by decide +kernel
theorem dX10_seven_15 : decode cX10_seven 15 = .ok (.ladd, 1) := by decide +kernel
theorem dX10_seven_16 : decode cX10_seven 16 = .ok (.lstore 7, 2) := by decide +kernel
theorem dX10_seven_18 : decode cX10_seven 18 = .ok (.iload_n 3, 1) := by decide +kernel
theorem dX10_seven_19 : decode cX10_seven 19 = .ok (.ifCond .ne 8, 3) := by decide +kernel
theorem dX10_seven_22 : decode cX10_seven 22 = .ok (.lload 7, 2) := by decide +kernel
theorem dX10_seven_24 : decode cX10_seven 24 = .ok (.goto 12, 3) := by decide +kernel
theorem dX10_seven_27 : decode cX10_seven 27 = .ok (.ldc2_w 144, 3) := by decide +kernel
theorem dX10_seven_30 : decode cX10_seven 30 = .ok (.lload 7, 2) := by decide +kernel
theorem dX10_seven_32 : decode cX10_seven 32 = .ok (.lmul, 1) := by decide +kernel
theorem dX10_seven_33 : decode cX10_seven 33 = .ok (.iload_n 3, 1) := by decide +kernel
theorem dX10_seven_34 : decode cX10_seven 34 = .ok (.i2l, 1) := by decide +kernel
theorem dX10_seven_35 : decode cX10_seven 35 = .ok (.ladd, 1) := by decide +kernel
theorem dX10_seven_36 : decode cX10_seven 36 = .ok (.lstore 7, 2) := by decide +kernel
theorem dX10_seven_38 : decode cX10_seven 38 = .ok (.iload 4, 2) := by decide +kernel
theorem dX10_seven_40 : decode cX10_seven 40 = .ok (.ifCond .ne 8, 3) := by decide +kernel
theorem dX10_seven_43 : decode cX10_seven 43 = .ok (.lload 7, 2) := by decide +kernel
theorem dX10_seven_45 : decode cX10_seven 45 = .ok (.goto 13, 3) := by decide +kernel
theorem dX10_seven_48 : decode cX10_seven 48 = .ok (.ldc2_w 144, 3) := by decide +kernel
theorem dX10_seven_51 : decode cX10_seven 51 = .ok (.lload 7, 2) := by decide +kernel
theorem dX10_seven_53 : decode cX10_seven 53 = .ok (.lmul, 1) := by decide +kernel
theorem dX10_seven_54 : decode cX10_seven 54 = .ok (.iload 4, 2) := by decide +kernel
theorem dX10_seven_56 : decode cX10_seven 56 = .ok (.i2l, 1) := by decide +kernel
theorem dX10_seven_57 : decode cX10_seven 57 = .ok (.ladd, 1) := by decide +kernel
theorem dX10_seven_58 : decode cX10_seven 58 = .ok (.lstore 7, 2) := by decide +kernel
theorem dX10_seven_60 : decode cX10_seven 60 = .ok (.iload 5, 2) := by decide +kernel
theorem dX10_seven_62 : decode cX10_seven 62 = .ok (.ifCond .ne 8, 3) := by decide +kernel
theorem dX10_seven_65 : decode cX10_seven 65 = .ok (.lload 7, 2) := by decide +kernel
theorem dX10_seven_67 : decode cX10_seven 67 = .ok (.goto 13, 3) := by decide +kernel
theorem dX10_seven_70 : decode cX10_seven 70 = .ok (.ldc2_w 144, 3) := by decide +kernel
theorem dX10_seven_73 : decode cX10_seven 73 = .ok (.lload 7, 2) := by decide +kernel
theorem dX10_seven_75 : decode cX10_seven 75 = .ok (.lmul, 1) := by decide +kernel
theorem dX10_seven_76 : decode cX10_seven 76 = .ok (.iload 5, 2) := by decide +kernel
theorem dX10_seven_78 : decode cX10_seven 78 = .ok (.i2l, 1) := by decide +kernel
theorem dX10_seven_79 : decode cX10_seven 79 = .ok (.ladd, 1) := by decide +kernel
theorem dX10_seven_80 : decode cX10_seven 80 = .ok (.lstore 7, 2) := by decide +kernel
theorem dX10_seven_82 : decode cX10_seven 82 = .ok (.iload 6, 2) := by decide +kernel
theorem dX10_seven_84 : decode cX10_seven 84 = .ok (.ifCond .ne 8, 3) := by decide +kernel
theorem dX10_seven_87 : decode cX10_seven 87 = .ok (.lload 7, 2) := by decide +kernel
theorem dX10_seven_89 : decode cX10_seven 89 = .ok (.goto 13, 3) := by decide +kernel
theorem dX10_seven_92 : decode cX10_seven 92 = .ok (.ldc2_w 144, 3) := by decide +kernel
theorem dX10_seven_95 : decode cX10_seven 95 = .ok (.lload 7, 2) := by decide +kernel
theorem dX10_seven_97 : decode cX10_seven 97 = .ok (.lmul, 1) := by decide +kernel
theorem dX10_seven_98 : decode cX10_seven 98 = .ok (.iload 6, 2) := by decide +kernel
theorem dX10_seven_100 : decode cX10_seven 100 = .ok (.i2l, 1) := by decide +kernel
theorem dX10_seven_101 : decode cX10_seven 101 = .ok (.ladd, 1) := by decide +kernel
theorem dX10_seven_102 : decode cX10_seven 102 = .ok (.lreturn, 1) := by decide +kernel
theorem dX10_isWord_0 : decode cX10_isWord 0 = .ok (.aload_n 0, 1) := by decide +kernel
theorem dX10_isWord_1 : decode cX10_isWord 1 = .ok (.getfield 119, 3) := by decide +kernel
theorem dX10_isWord_4 : decode cX10_isWord 4 = .ok (.ifCond .ne 29, 3) := by decide +kernel
theorem dX10_isWord_7 : decode cX10_isWord 7 = .ok (.aload_n 0, 1) := by decide +kernel
theorem dX10_isWord_8 : decode cX10_isWord 8 = .ok (.invokevirtual 150, 3) := by decide +kernel
theorem dX10_isWord_11 : decode cX10_isWord 11 = .ok (.iload_n 1, 1) := by decide +kernel
theorem dX10_isWord_12 : decode cX10_isWord 12 = .ok (.iload_n 2, 1) := by decide +kernel
theorem dX10_isWord_13 : decode cX10_isWord 13 = .ok (.iload_n 3, 1) := by decide +kernel
theorem dX10_isWord_14 : decode cX10_isWord 14 = .ok (.iload 4, 2) := by decide +kernel
theorem dX10_isWord_16 : decode cX10_isWord 16 = .ok (.iload 5, 2) := by decide +kernel
theorem dX10_isWord_18 : decode cX10_isWord 18 = .ok (.iload 6, 2) := by decide +kernel
theorem dX10_isWord_20 : decode cX10_isWord 20 = .ok (.iload 7, 2) := by decide +kernel
theorem dX10_isWord_22 : decode cX10_isWord 22 = .ok (.invokestatic 154, 3) := by decide +kernel
theorem dX10_isWord_25 : decode cX10_isWord 25 = .ok (.lcmp, 1) := by decide +kernel
theorem dX10_isWord_26 : decode cX10_isWord 26 = .ok (.ifCond .ne 7, 3) := by decide +kernel
theorem dX10_isWord_29 : decode cX10_isWord 29 = .ok (.iconst 1, 1) := by decide +kernel
theorem dX10_isWord_30 : decode cX10_isWord 30 = .ok (.goto 4, 3) := by decide +kernel
theorem dX10_isWord_33 : decode cX10_isWord 33 = .ok (.iconst 0, 1) := by decide +kernel
theorem dX10_isWord_34 : decode cX10_isWord 34 = .ok (.ireturn, 1) := by decide +kernel
theorem dX10_skipWord_0 : decode cX10_skipWord 0 = .ok (.aload_n 0, 1) := by decide +kernel
theorem dX10_skipWord_1 : decode cX10_skipWord 1 = .ok (.aload_n 0, 1) := by decide +kernel
theorem dX10_skipWord_2 : decode cX10_skipWord 2 = .ok (.getfield 112, 3) := by decide +kernel
theorem dX10_skipWord_5 : decode cX10_skipWord 5 = .ok (.invokevirtual 115, 3) := by decide +kernel
theorem dX10_skipWord_8 : decode cX10_skipWord 8 = .ok (.invokestatic 141, 3) := by decide +kernel
theorem dX10_skipWord_11 : decode cX10_skipWord 11 = .ok (.ifCond .eq 16, 3) := by decide +kernel
theorem dX10_skipWord_14 : decode cX10_skipWord 14 = .ok (.aload_n 0, 1) := by decide +kernel
theorem dX10_skipWord_15 : decode cX10_skipWord 15 = .ok (.dup, 1) := by decide +kernel
theorem dX10_skipWord_16 : decode cX10_skipWord 16 = .ok (.getfield 112, 3) := by decide +kernel
theorem dX10_skipWord_19 : decode cX10_skipWord 19 = .ok (.iconst 1, 1) := by decide +kernel
theorem dX10_skipWord_20 : decode cX10_skipWord 20 = .ok (.iadd, 1) := by decide +kernel
theorem dX10_skipWord_21 : decode cX10_skipWord 21 = .ok (.putfield 112, 3) := by decide +kernel
theorem dX10_skipWord_24 : decode cX10_skipWord 24 = .ok (.goto (-24), 3) := by decide +kernel
theorem dX10_skipWord_27 : decode cX10_skipWord 27 = .ok (.return_, 1) := by decide +kernel
theorem dX10_takes_0 : decode cX10_takes 0 = .ok (.aload_n 0, 1) := by decide +kernel
theorem dX10_takes_1 : decode cX10_takes 1 = .ok (.iload_n 1, 1) := by decide +kernel
theorem dX10_takes_2 : decode cX10_takes 2 = .ok (.iload_n 2, 1) := by decide +kernel
theorem dX10_takes_3 : decode cX10_takes 3 = .ok (.iload_n 3, 1) := by decide +kernel
theorem dX10_takes_4 : decode cX10_takes 4 = .ok (.iload 4, 2) := by decide +kernel
theorem dX10_takes_6 : decode cX10_takes 6 = .ok (.iload 5, 2) := by decide +kernel
theorem dX10_takes_8 : decode cX10_takes 8 = .ok (.iload 6, 2) := by decide +kernel
theorem dX10_takes_10 : decode cX10_takes 10 = .ok (.iload 7, 2) := by decide +kernel
theorem dX10_takes_12 : decode cX10_takes 12 = .ok (.invokevirtual 158, 3) := by decide +kernel
theorem dX10_takes_15 : decode cX10_takes 15 = .ok (.istore 8, 2) := by decide +kernel
theorem dX10_takes_17 : decode cX10_takes 17 = .ok (.iload 8, 2) := by decide +kernel
theorem dX10_takes_19 : decode cX10_takes 19 = .ok (.ifCond .eq 7, 3) := by decide +kernel
theorem dX10_takes_22 : decode cX10_takes 22 = .ok (.aload_n 0, 1) := by decide +kernel
theorem dX10_takes_23 : decode cX10_takes 23 = .ok (.invokevirtual 162, 3) := by decide +kernel
theorem dX10_takes_26 : decode cX10_takes 26 = .ok (.iload 8, 2) := by decide +kernel
theorem dX10_takes_28 : decode cX10_takes 28 = .ok (.ireturn, 1) := by decide +kernel
theorem dX10_sign_0 : decode cX10_sign 0 = .ok (.aload_n 0, 1) := by decide +kernel
theorem dX10_sign_1 : decode cX10_sign 1 = .ok (.getfield 119, 3) := by decide +kernel
theorem dX10_sign_4 : decode cX10_sign 4 = .ok (.ifCond .eq 4, 3) := by decide +kernel
theorem dX10_sign_7 : decode cX10_sign 7 = .ok (.return_, 1) := by decide +kernel
theorem dX10_sign_8 : decode cX10_sign 8 = .ok (.aload_n 0, 1) := by decide +kernel
theorem dX10_sign_9 : decode cX10_sign 9 = .ok (.invokevirtual 125, 3) := by decide +kernel
theorem dX10_sign_12 : decode cX10_sign 12 = .ok (.aload_n 0, 1) := by decide +kernel
theorem dX10_sign_13 : decode cX10_sign 13 = .ok (.aload_n 0, 1) := by decide +kernel
theorem dX10_sign_14 : decode cX10_sign 14 = .ok (.getfield 112, 3) := by decide +kernel
theorem dX10_sign_17 : decode cX10_sign 17 = .ok (.invokevirtual 115, 3) := by decide +kernel
theorem dX10_sign_20 : decode cX10_sign 20 = .ok (.iload_n 1, 1) := by decide +kernel
theorem dX10_sign_21 : decode cX10_sign 21 = .ok (.if_icmp .ne 16, 3) := by decide +kernel
theorem dX10_sign_24 : decode cX10_sign 24 = .ok (.aload_n 0, 1) := by decide +kernel
theorem dX10_sign_25 : decode cX10_sign 25 = .ok (.dup, 1) := by decide +kernel
theorem dX10_sign_26 : decode cX10_sign 26 = .ok (.getfield 112, 3) := by decide +kernel
theorem dX10_sign_29 : decode cX10_sign 29 = .ok (.iconst 1, 1) := by decide +kernel
theorem dX10_sign_30 : decode cX10_sign 30 = .ok (.iadd, 1) := by decide +kernel
theorem dX10_sign_31 : decode cX10_sign 31 = .ok (.putfield 112, 3) := by decide +kernel
theorem dX10_sign_34 : decode cX10_sign 34 = .ok (.goto 12, 3) := by decide +kernel
theorem dX10_sign_37 : decode cX10_sign 37 = .ok (.aload_n 0, 1) := by decide +kernel
theorem dX10_sign_38 : decode cX10_sign 38 = .ok (.iconst 1, 1) := by decide +kernel
theorem dX10_sign_39 : decode cX10_sign 39 = .ok (.aload_n 0, 1) := by decide +kernel
theorem dX10_sign_40 : decode cX10_sign 40 = .ok (.getfield 112, 3) := by decide +kernel
theorem dX10_sign_43 : decode cX10_sign 43 = .ok (.invokevirtual 132, 3) := by decide +kernel
theorem dX10_sign_46 : decode cX10_sign 46 = .ok (.return_, 1) := by decide +kernel
theorem dX10_takesSign_0 : decode cX10_takesSign 0 = .ok (.aload_n 0, 1) := by decide +kernel
theorem dX10_takesSign_1 : decode cX10_takesSign 1 = .ok (.getfield 119, 3) := by decide +kernel
theorem dX10_takesSign_4 : decode cX10_takesSign 4 = .ok (.ifCond .eq 5, 3) := by decide +kernel
theorem dX10_takesSign_7 : decode cX10_takesSign 7 = .ok (.iconst 0, 1) := by decide +kernel
theorem dX10_takesSign_8 : decode cX10_takesSign 8 = .ok (.ireturn, 1) := by decide +kernel
theorem dX10_takesSign_9 : decode cX10_takesSign 9 = .ok (.aload_n 0, 1) := by decide +kernel
theorem dX10_takesSign_10 : decode cX10_takesSign 10 = .ok (.invokevirtual 125, 3) := by decide +kernel
theorem dX10_takesSign_13 : decode cX10_takesSign 13 = .ok (.aload_n 0, 1) := by decide +kernel
theorem dX10_takesSign_14 : decode cX10_takesSign 14 = .ok (.aload_n 0, 1) := by decide +kernel
theorem dX10_takesSign_15 : decode cX10_takesSign 15 = .ok (.getfield 112, 3) := by decide +kernel
theorem dX10_takesSign_18 : decode cX10_takesSign 18 = .ok (.invokevirtual 115, 3) := by decide +kernel
theorem dX10_takesSign_21 : decode cX10_takesSign 21 = .ok (.iload_n 1, 1) := by decide +kernel
theorem dX10_takesSign_22 : decode cX10_takesSign 22 = .ok (.if_icmp .ne 7, 3) := by decide +kernel
theorem dX10_takesSign_25 : decode cX10_takesSign 25 = .ok (.iconst 1, 1) := by decide +kernel
theorem dX10_takesSign_26 : decode cX10_takesSign 26 = .ok (.goto 4, 3) := by decide +kernel
theorem dX10_takesSign_29 : decode cX10_takesSign 29 = .ok (.iconst 0, 1) := by decide +kernel
theorem dX10_takesSign_30 : decode cX10_takesSign 30 = .ok (.istore_n 2, 1) := by decide +kernel
theorem dX10_takesSign_31 : decode cX10_takesSign 31 = .ok (.iload_n 2, 1) := by decide +kernel
theorem dX10_takesSign_32 : decode cX10_takesSign 32 = .ok (.ifCond .eq 13, 3) := by decide +kernel
theorem dX10_takesSign_35 : decode cX10_takesSign 35 = .ok (.aload_n 0, 1) := by decide +kernel
theorem dX10_takesSign_36 : decode cX10_takesSign 36 = .ok (.dup, 1) := by decide +kernel
theorem dX10_takesSign_37 : decode cX10_takesSign 37 = .ok (.getfield 112, 3) := by decide +kernel
theorem dX10_takesSign_40 : decode cX10_takesSign 40 = .ok (.iconst 1, 1) := by decide +kernel
theorem dX10_takesSign_41 : decode cX10_takesSign 41 = .ok (.iadd, 1) := by decide +kernel
theorem dX10_takesSign_42 : decode cX10_takesSign 42 = .ok (.putfield 112, 3) := by decide +kernel
theorem dX10_takesSign_45 : decode cX10_takesSign 45 = .ok (.iload_n 2, 1) := by decide +kernel
theorem dX10_takesSign_46 : decode cX10_takesSign 46 = .ok (.ireturn, 1) := by decide +kernel
theorem dX10_starts_0 : decode cX10_starts 0 = .ok (.aload_n 0, 1) := by decide +kernel
theorem dX10_starts_1 : decode cX10_starts 1 = .ok (.iconst 0, 1) := by decide +kernel
theorem dX10_starts_2 : decode cX10_starts 2 = .ok (.putfield 106, 3) := by decide +kernel
theorem dX10_starts_5 : decode cX10_starts 5 = .ok (.aload_n 0, 1) := by decide +kernel
theorem dX10_starts_6 : decode cX10_starts 6 = .ok (.iload_n 1, 1) := by decide +kernel
theorem dX10_starts_7 : decode cX10_starts 7 = .ok (.putfield 109, 3) := by decide +kernel
theorem dX10_starts_10 : decode cX10_starts 10 = .ok (.aload_n 0, 1) := by decide +kernel
theorem dX10_starts_11 : decode cX10_starts 11 = .ok (.iconst 0, 1) := by decide +kernel
theorem dX10_starts_12 : decode cX10_starts 12 = .ok (.putfield 112, 3) := by decide +kernel
theorem dX10_starts_15 : decode cX10_starts 15 = .ok (.aload_n 0, 1) := by decide +kernel
theorem dX10_starts_16 : decode cX10_starts 16 = .ok (.iconst 0, 1) := by decide +kernel
theorem dX10_starts_17 : decode cX10_starts 17 = .ok (.putfield 119, 3) := by decide +kernel
theorem dX10_starts_20 : decode cX10_starts 20 = .ok (.aload_n 0, 1) := by decide +kernel
theorem dX10_starts_21 : decode cX10_starts 21 = .ok (.iconst (-1), 1) := by decide +kernel
theorem dX10_starts_22 : decode cX10_starts 22 = .ok (.putfield 122, 3) := by decide +kernel
theorem dX10_starts_25 : decode cX10_starts 25 = .ok (.aload_n 0, 1) := by decide +kernel
theorem dX10_starts_26 : decode cX10_starts 26 = .ok (.iconst 0, 1) := by decide +kernel
theorem dX10_starts_27 : decode cX10_starts 27 = .ok (.putfield 165, 3) := by decide +kernel
theorem dX10_starts_30 : decode cX10_starts 30 = .ok (.aload_n 0, 1) := by decide +kernel
theorem dX10_starts_31 : decode cX10_starts 31 = .ok (.iconst 0, 1) := by decide +kernel
theorem dX10_starts_32 : decode cX10_starts 32 = .ok (.putfield 168, 3) := by decide +kernel
theorem dX10_starts_35 : decode cX10_starts 35 = .ok (.aload_n 0, 1) := by decide +kernel
theorem dX10_starts_36 : decode cX10_starts 36 = .ok (.invokevirtual 125, 3) := by decide +kernel
theorem dX10_starts_39 : decode cX10_starts 39 = .ok (.return_, 1) := by decide +kernel
theorem dX10_ends_0 : decode cX10_ends 0 = .ok (.aload_n 0, 1) := by decide +kernel
theorem dX10_ends_1 : decode cX10_ends 1 = .ok (.aload_n 0, 1) := by decide +kernel
theorem dX10_ends_2 : decode cX10_ends 2 = .ok (.getfield 122, 3) := by decide +kernel
theorem dX10_ends_5 : decode cX10_ends 5 = .ok (.putfield 9, 3) := by decide +kernel
theorem dX10_ends_8 : decode cX10_ends 8 = .ok (.aload_n 0, 1) := by decide +kernel
theorem dX10_ends_9 : decode cX10_ends 9 = .ok (.getfield 119, 3) := by decide +kernel
theorem dX10_ends_12 : decode cX10_ends 12 = .ok (.bipush 10, 2) := by decide +kernel
theorem dX10_ends_14 : decode cX10_ends 14 = .ok (.isub, 1) := by decide +kernel
theorem dX10_ends_15 : decode cX10_ends 15 = .ok (.ireturn, 1) := by decide +kernel
theorem dX10_kindHere_0 : decode cX10_kindHere 0 = .ok (.aload_n 0, 1) := by decide +kernel
theorem dX10_kindHere_1 : decode cX10_kindHere 1 = .ok (.bipush 8, 2) := by decide +kernel
theorem dX10_kindHere_3 : decode cX10_kindHere 3 = .ok (.bipush 15, 2) := by decide +kernel
theorem dX10_kindHere_5 : decode cX10_kindHere 5 = .ok (.bipush 21, 2) := by decide +kernel
theorem dX10_kindHere_7 : decode cX10_kindHere 7 = .ok (.bipush 19, 2) := by decide +kernel
theorem dX10_kindHere_9 : decode cX10_kindHere 9 = .ok (.iconst 5, 1) := by decide +kernel
theorem dX10_kindHere_10 : decode cX10_kindHere 10 = .ok (.iconst 0, 1) := by decide +kernel
theorem dX10_kindHere_11 : decode cX10_kindHere 11 = .ok (.iconst 0, 1) := by decide +kernel
theorem dX10_kindHere_12 : decode cX10_kindHere 12 = .ok (.invokevirtual 158, 3) := by decide +kernel
theorem dX10_kindHere_15 : decode cX10_kindHere 15 = .ok (.ifCond .eq 5, 3) := by decide +kernel
theorem dX10_kindHere_18 : decode cX10_kindHere 18 = .ok (.iconst 0, 1) := by decide +kernel
theorem dX10_kindHere_19 : decode cX10_kindHere 19 = .ok (.ireturn, 1) := by decide +kernel
theorem dX10_kindHere_20 : decode cX10_kindHere 20 = .ok (.aload_n 0, 1) := by decide +kernel
theorem dX10_kindHere_21 : decode cX10_kindHere 21 = .ok (.bipush 20, 2) := by decide +kernel
theorem dX10_kindHere_23 : decode cX10_kindHere 23 = .ok (.bipush 8, 2) := by decide +kernel
theorem dX10_kindHere_25 : decode cX10_kindHere 25 = .ok (.bipush 9, 2) := by decide +kernel
theorem dX10_kindHere_27 : decode cX10_kindHere 27 = .ok (.bipush 14, 2) := by decide +kernel
theorem dX10_kindHere_29 : decode cX10_kindHere 29 = .ok (.bipush 7, 2) := by decide +kernel
theorem dX10_kindHere_31 : decode cX10_kindHere 31 = .ok (.iconst 0, 1) := by decide +kernel
theorem dX10_kindHere_32 : decode cX10_kindHere 32 = .ok (.iconst 0, 1) := by decide +kernel
theorem dX10_kindHere_33 : decode cX10_kindHere 33 = .ok (.invokevirtual 158, 3) := by decide +kernel
theorem dX10_kindHere_36 : decode cX10_kindHere 36 = .ok (.ifCond .eq 5, 3) := by decide +kernel
theorem dX10_kindHere_39 : decode cX10_kindHere 39 = .ok (.iconst 1, 1) := by decide +kernel
theorem dX10_kindHere_40 : decode cX10_kindHere 40 = .ok (.ireturn, 1) := by decide +kernel
theorem dX10_kindHere_41 : decode cX10_kindHere 41 = .ok (.aload_n 0, 1) := by decide +kernel
theorem dX10_kindHere_42 : decode cX10_kindHere 42 = .ok (.bipush 20, 2) := by decide +kernel
theorem dX10_kindHere_44 : decode cX10_kindHere 44 = .ok (.bipush 9, 2) := by decide +kernel
theorem dX10_kindHere_46 : decode cX10_kindHere 46 = .ok (.iconst 4, 1) := by decide +kernel
theorem dX10_kindHere_47 : decode cX10_kindHere 47 = .ok (.iconst 5, 1) := by decide +kernel
theorem dX10_kindHere_48 : decode cX10_kindHere 48 = .ok (.iconst 0, 1) := by decide +kernel
theorem dX10_kindHere_49 : decode cX10_kindHere 49 = .ok (.iconst 0, 1) := by decide +kernel
theorem dX10_kindHere_50 : decode cX10_kindHere 50 = .ok (.iconst 0, 1) := by decide +kernel
theorem dX10_kindHere_51 : decode cX10_kindHere 51 = .ok (.invokevirtual 158, 3) := by decide +kernel
theorem dX10_kindHere_54 : decode cX10_kindHere 54 = .ok (.ifCond .eq 5, 3) := by decide +kernel
theorem dX10_kindHere_57 : decode cX10_kindHere 57 = .ok (.iconst 2, 1) := by decide +kernel
theorem dX10_kindHere_58 : decode cX10_kindHere 58 = .ok (.ireturn, 1) := by decide +kernel
theorem dX10_kindHere_59 : decode cX10_kindHere 59 = .ok (.aload_n 0, 1) := by decide +kernel
theorem dX10_kindHere_60 : decode cX10_kindHere 60 = .ok (.bipush 6, 2) := by decide +kernel
theorem dX10_kindHere_62 : decode cX10_kindHere 62 = .ok (.bipush 9, 2) := by decide +kernel
theorem dX10_kindHere_64 : decode cX10_kindHere 64 = .ok (.bipush 14, 2) := by decide +kernel
theorem dX10_kindHere_66 : decode cX10_kindHere 66 = .ok (.iconst 4, 1) := by decide +kernel
theorem dX10_kindHere_67 : decode cX10_kindHere 67 = .ok (.iconst 0, 1) := by decide +kernel
theorem dX10_kindHere_68 : decode cX10_kindHere 68 = .ok (.iconst 0, 1) := by decide +kernel
theorem dX10_kindHere_69 : decode cX10_kindHere 69 = .ok (.iconst 0, 1) := by decide +kernel
theorem dX10_kindHere_70 : decode cX10_kindHere 70 = .ok (.invokevirtual 158, 3) := by decide +kernel
theorem dX10_kindHere_73 : decode cX10_kindHere 73 = .ok (.ifCond .eq 5, 3) := by decide +kernel
theorem dX10_kindHere_76 : decode cX10_kindHere 76 = .ok (.iconst 3, 1) := by decide +kernel
theorem dX10_kindHere_77 : decode cX10_kindHere 77 = .ok (.ireturn, 1) := by decide +kernel
theorem dX10_kindHere_78 : decode cX10_kindHere 78 = .ok (.aload_n 0, 1) := by decide +kernel
theorem dX10_kindHere_79 : decode cX10_kindHere 79 = .ok (.bipush 18, 2) := by decide +kernel
theorem dX10_kindHere_81 : decode cX10_kindHere 81 = .ok (.iconst 5, 1) := by decide +kernel
theorem dX10_kindHere_82 : decode cX10_kindHere 82 = .ok (.bipush 14, 2) := by decide +kernel
theorem dX10_kindHere_84 : decode cX10_kindHere 84 = .ok (.bipush 20, 2) := by decide +kernel
theorem dX10_kindHere_86 : decode cX10_kindHere 86 = .ok (.iconst 0, 1) := by decide +kernel
theorem dX10_kindHere_87 : decode cX10_kindHere 87 = .ok (.iconst 0, 1) := by decide +kernel
theorem dX10_kindHere_88 : decode cX10_kindHere 88 = .ok (.iconst 0, 1) := by decide +kernel
theorem dX10_kindHere_89 : decode cX10_kindHere 89 = .ok (.invokevirtual 158, 3) := by decide +kernel
theorem dX10_kindHere_92 : decode cX10_kindHere 92 = .ok (.ifCond .eq 5, 3) := by decide +kernel
theorem dX10_kindHere_95 : decode cX10_kindHere 95 = .ok (.iconst 4, 1) := by decide +kernel
theorem dX10_kindHere_96 : decode cX10_kindHere 96 = .ok (.ireturn, 1) := by decide +kernel
theorem dX10_kindHere_97 : decode cX10_kindHere 97 = .ok (.aload_n 0, 1) := by decide +kernel
theorem dX10_kindHere_98 : decode cX10_kindHere 98 = .ok (.bipush 18, 2) := by decide +kernel
theorem dX10_kindHere_100 : decode cX10_kindHere 100 = .ok (.bipush 15, 2) := by decide +kernel
theorem dX10_kindHere_102 : decode cX10_kindHere 102 = .ok (.bipush 16, 2) := by decide +kernel
theorem dX10_kindHere_104 : decode cX10_kindHere 104 = .ok (.iconst 5, 1) := by decide +kernel
theorem dX10_kindHere_105 : decode cX10_kindHere 105 = .ok (.iconst 0, 1) := by decide +kernel
theorem dX10_kindHere_106 : decode cX10_kindHere 106 = .ok (.iconst 0, 1) := by decide +kernel
theorem dX10_kindHere_107 : decode cX10_kindHere 107 = .ok (.iconst 0, 1) := by decide +kernel
theorem dX10_kindHere_108 : decode cX10_kindHere 108 = .ok (.invokevirtual 158, 3) := by decide +kernel
theorem dX10_kindHere_111 : decode cX10_kindHere 111 = .ok (.ifCond .eq 7, 3) := by decide +kernel
theorem dX10_kindHere_114 : decode cX10_kindHere 114 = .ok (.iconst 5, 1) := by decide +kernel
theorem dX10_kindHere_115 : decode cX10_kindHere 115 = .ok (.goto 4, 3) := by decide +kernel
theorem dX10_kindHere_118 : decode cX10_kindHere 118 = .ok (.iconst (-1), 1) := by decide +kernel
theorem dX10_kindHere_119 : decode cX10_kindHere 119 = .ok (.ireturn, 1) := by decide +kernel
theorem dX10_isFull_0 : decode cX10_isFull 0 = .ok (.iload_n 1, 1) := by decide +kernel
theorem dX10_isFull_1 : decode cX10_isFull 1 = .ok (.ifCond .ne 14, 3) := by decide +kernel
theorem dX10_isFull_4 : decode cX10_isFull 4 = .ok (.aload_n 0, 1) := by decide +kernel
theorem dX10_isFull_5 : decode cX10_isFull 5 = .ok (.getfield 20, 3) := by decide +kernel
theorem dX10_isFull_8 : decode cX10_isFull 8 = .ok (.iconst 0, 1) := by decide +kernel
theorem dX10_isFull_9 : decode cX10_isFull 9 = .ok (.iaload, 1) := by decide +kernel
theorem dX10_isFull_10 : decode cX10_isFull 10 = .ok (.bipush 6, 2) := by decide +kernel
theorem dX10_isFull_12 : decode cX10_isFull 12 = .ok (.if_icmp .eq 51, 3) := by decide +kernel
theorem dX10_isFull_15 : decode cX10_isFull 15 = .ok (.iload_n 1, 1) := by decide +kernel
theorem dX10_isFull_16 : decode cX10_isFull 16 = .ok (.iconst 1, 1) := by decide +kernel
theorem dX10_isFull_17 : decode cX10_isFull 17 = .ok (.if_icmp .ne 14, 3) := by decide +kernel
theorem dX10_isFull_20 : decode cX10_isFull 20 = .ok (.aload_n 0, 1) := by decide +kernel
theorem dX10_isFull_21 : decode cX10_isFull 21 = .ok (.getfield 20, 3) := by decide +kernel
theorem dX10_isFull_24 : decode cX10_isFull 24 = .ok (.iconst 1, 1) := by decide +kernel
theorem dX10_isFull_25 : decode cX10_isFull 25 = .ok (.iaload, 1) := by decide +kernel
theorem dX10_isFull_26 : decode cX10_isFull 26 = .ok (.bipush 10, 2) := by decide +kernel
theorem dX10_isFull_28 : decode cX10_isFull 28 = .ok (.if_icmp .eq 35, 3) := by decide +kernel
theorem dX10_isFull_31 : decode cX10_isFull 31 = .ok (.iload_n 1, 1) := by decide +kernel
theorem dX10_isFull_32 : decode cX10_isFull 32 = .ok (.iconst 2, 1) := by decide +kernel
theorem dX10_isFull_33 : decode cX10_isFull 33 = .ok (.if_icmp .ne 14, 3) := by decide +kernel
theorem dX10_isFull_36 : decode cX10_isFull 36 = .ok (.aload_n 0, 1) := by decide +kernel
theorem dX10_isFull_37 : decode cX10_isFull 37 = .ok (.getfield 20, 3) := by decide +kernel
theorem dX10_isFull_40 : decode cX10_isFull 40 = .ok (.iconst 2, 1) := by decide +kernel
theorem dX10_isFull_41 : decode cX10_isFull 41 = .ok (.iaload, 1) := by decide +kernel
theorem dX10_isFull_42 : decode cX10_isFull 42 = .ok (.bipush 12, 2) := by decide +kernel
theorem dX10_isFull_44 : decode cX10_isFull 44 = .ok (.if_icmp .eq 19, 3) := by decide +kernel
theorem dX10_isFull_47 : decode cX10_isFull 47 = .ok (.iload_n 1, 1) := by decide +kernel
theorem dX10_isFull_48 : decode cX10_isFull 48 = .ok (.iconst 3, 1) := by decide +kernel
theorem dX10_isFull_49 : decode cX10_isFull 49 = .ok (.if_icmp .ne 18, 3) := by decide +kernel
theorem dX10_isFull_52 : decode cX10_isFull 52 = .ok (.aload_n 0, 1) := by decide +kernel
theorem dX10_isFull_53 : decode cX10_isFull 53 = .ok (.getfield 20, 3) := by decide +kernel
theorem dX10_isFull_56 : decode cX10_isFull 56 = .ok (.iconst 3, 1) := by decide +kernel
theorem dX10_isFull_57 : decode cX10_isFull 57 = .ok (.iaload, 1) := by decide +kernel
theorem dX10_isFull_58 : decode cX10_isFull 58 = .ok (.bipush 6, 2) := by decide +kernel
theorem dX10_isFull_60 : decode cX10_isFull 60 = .ok (.if_icmp .ne 7, 3) := by decide +kernel
theorem dX10_isFull_63 : decode cX10_isFull 63 = .ok (.iconst 1, 1) := by decide +kernel
theorem dX10_isFull_64 : decode cX10_isFull 64 = .ok (.goto 4, 3) := by decide +kernel
theorem dX10_isFull_67 : decode cX10_isFull 67 = .ok (.iconst 0, 1) := by decide +kernel
theorem dX10_isFull_68 : decode cX10_isFull 68 = .ok (.ireturn, 1) := by decide +kernel
theorem dX10_clause_0 : decode cX10_clause 0 = .ok (.aload_n 0, 1) := by decide +kernel
theorem dX10_clause_1 : decode cX10_clause 1 = .ok (.invokevirtual 171, 3) := by decide +kernel
theorem dX10_clause_4 : decode cX10_clause 4 = .ok (.istore_n 1, 1) := by decide +kernel
theorem dX10_clause_5 : decode cX10_clause 5 = .ok (.iload_n 1, 1) := by decide +kernel
theorem dX10_clause_6 : decode cX10_clause 6 = .ok (.iconst (-1), 1) := by decide +kernel
theorem dX10_clause_7 : decode cX10_clause 7 = .ok (.if_icmp .ne 15, 3) := by decide +kernel
theorem dX10_clause_10 : decode cX10_clause 10 = .ok (.aload_n 0, 1) := by decide +kernel
theorem dX10_clause_11 : decode cX10_clause 11 = .ok (.iconst 1, 1) := by decide +kernel
theorem dX10_clause_12 : decode cX10_clause 12 = .ok (.aload_n 0, 1) := by decide +kernel
theorem dX10_clause_13 : decode cX10_clause 13 = .ok (.getfield 112, 3) := by decide +kernel
theorem dX10_clause_16 : decode cX10_clause 16 = .ok (.invokevirtual 132, 3) := by decide +kernel
theorem dX10_clause_19 : decode cX10_clause 19 = .ok (.goto 29, 3) := by decide +kernel
theorem dX10_clause_22 : decode cX10_clause 22 = .ok (.aload_n 0, 1) := by decide +kernel
theorem dX10_clause_23 : decode cX10_clause 23 = .ok (.getfield 165, 3) := by decide +kernel
theorem dX10_clause_26 : decode cX10_clause 26 = .ok (.bipush 60, 2) := by decide +kernel
theorem dX10_clause_28 : decode cX10_clause 28 = .ok (.if_icmp .eq 11, 3) := by decide +kernel
theorem dX10_clause_31 : decode cX10_clause 31 = .ok (.aload_n 0, 1) := by decide +kernel
theorem dX10_clause_32 : decode cX10_clause 32 = .ok (.iload_n 1, 1) := by decide +kernel
theorem dX10_clause_33 : decode cX10_clause 33 = .ok (.invokevirtual 175, 3) := by decide +kernel
theorem dX10_clause_36 : decode cX10_clause 36 = .ok (.ifCond .eq 12, 3) := by decide +kernel
theorem dX10_clause_39 : decode cX10_clause 39 = .ok (.aload_n 0, 1) := by decide +kernel
theorem dX10_clause_40 : decode cX10_clause 40 = .ok (.iconst 3, 1) := by decide +kernel
theorem dX10_clause_41 : decode cX10_clause 41 = .ok (.aload_n 0, 1) := by decide +kernel
theorem dX10_clause_42 : decode cX10_clause 42 = .ok (.getfield 112, 3) := by decide +kernel
theorem dX10_clause_45 : decode cX10_clause 45 = .ok (.invokevirtual 132, 3) := by decide +kernel
theorem dX10_clause_48 : decode cX10_clause 48 = .ok (.aload_n 0, 1) := by decide +kernel
theorem dX10_clause_49 : decode cX10_clause 49 = .ok (.getfield 119, 3) := by decide +kernel
theorem dX10_clause_52 : decode cX10_clause 52 = .ok (.ifCond .eq 4, 3) := by decide +kernel
theorem dX10_clause_55 : decode cX10_clause 55 = .ok (.return_, 1) := by decide +kernel
theorem dX10_clause_56 : decode cX10_clause 56 = .ok (.aload_n 0, 1) := by decide +kernel
theorem dX10_clause_57 : decode cX10_clause 57 = .ok (.invokevirtual 162, 3) := by decide +kernel
theorem dX10_clause_60 : decode cX10_clause 60 = .ok (.aload_n 0, 1) := by decide +kernel
theorem dX10_clause_61 : decode cX10_clause 61 = .ok (.dup, 1) := by decide +kernel
theorem dX10_clause_62 : decode cX10_clause 62 = .ok (.getfield 165, 3) := by decide +kernel
theorem dX10_clause_65 : decode cX10_clause 65 = .ok (.iconst 1, 1) := by decide +kernel
theorem dX10_clause_66 : decode cX10_clause 66 = .ok (.iadd, 1) := by decide +kernel
theorem dX10_clause_67 : decode cX10_clause 67 = .ok (.putfield 165, 3) := by decide +kernel
theorem dX10_clause_70 : decode cX10_clause 70 = .ok (.aload_n 0, 1) := by decide +kernel
theorem dX10_clause_71 : decode cX10_clause 71 = .ok (.getfield 20, 3) := by decide +kernel
theorem dX10_clause_74 : decode cX10_clause 74 = .ok (.iload_n 1, 1) := by decide +kernel
theorem dX10_clause_75 : decode cX10_clause 75 = .ok (.iaload, 1) := by decide +kernel
theorem dX10_clause_76 : decode cX10_clause 76 = .ok (.istore_n 2, 1) := by decide +kernel
theorem dX10_clause_77 : decode cX10_clause 77 = .ok (.iload_n 1, 1) := by decide +kernel
theorem dX10_clause_78 : decode cX10_clause 78 = .ok (.tableswitch 148 0 3 #[30, 46, 102, 118], 30) := by decide +kernel
theorem dX10_clause_108 : decode cX10_clause 108 = .ok (.aload_n 0, 1) := by decide +kernel
theorem dX10_clause_109 : decode cX10_clause 109 = .ok (.getfield 26, 3) := by decide +kernel
theorem dX10_clause_112 : decode cX10_clause 112 = .ok (.iload_n 2, 1) := by decide +kernel
theorem dX10_clause_113 : decode cX10_clause 113 = .ok (.aload_n 0, 1) := by decide +kernel
theorem dX10_clause_114 : decode cX10_clause 114 = .ok (.iconst 0, 1) := by decide +kernel
theorem dX10_clause_115 : decode cX10_clause 115 = .ok (.bipush 40, 2) := by decide +kernel
theorem dX10_clause_117 : decode cX10_clause 117 = .ok (.invokevirtual 178, 3) := by decide +kernel
theorem dX10_clause_120 : decode cX10_clause 120 = .ok (.iastore, 1) := by decide +kernel
theorem dX10_clause_121 : decode cX10_clause 121 = .ok (.goto 149, 3) := by decide +kernel
theorem dX10_clause_124 : decode cX10_clause 124 = .ok (.aload_n 0, 1) := by decide +kernel
theorem dX10_clause_125 : decode cX10_clause 125 = .ok (.getfield 40, 3) := by decide +kernel
theorem dX10_clause_128 : decode cX10_clause 128 = .ok (.iload_n 2, 1) := by decide +kernel
theorem dX10_clause_129 : decode cX10_clause 129 = .ok (.aaload, 1) := by decide +kernel
theorem dX10_clause_130 : decode cX10_clause 130 = .ok (.astore_n 3, 1) := by decide +kernel
theorem dX10_clause_131 : decode cX10_clause 131 = .ok (.aload_n 3, 1) := by decide +kernel
theorem dX10_clause_132 : decode cX10_clause 132 = .ok (.iconst 0, 1) := by decide +kernel
theorem dX10_clause_133 : decode cX10_clause 133 = .ok (.aload_n 0, 1) := by decide +kernel
theorem dX10_clause_134 : decode cX10_clause 134 = .ok (.iconst 0, 1) := by decide +kernel
theorem dX10_clause_135 : decode cX10_clause 135 = .ok (.aload_n 0, 1) := by decide +kernel
theorem dX10_clause_136 : decode cX10_clause 136 = .ok (.getfield 20, 3) := by decide +kernel
theorem dX10_clause_139 : decode cX10_clause 139 = .ok (.iconst 0, 1) := by decide +kernel
theorem dX10_clause_140 : decode cX10_clause 140 = .ok (.iaload, 1) := by decide +kernel
theorem dX10_clause_141 : decode cX10_clause 141 = .ok (.iconst 1, 1) := by decide +kernel
theorem dX10_clause_142 : decode cX10_clause 142 = .ok (.isub, 1) := by decide +kernel
theorem dX10_clause_143 : decode cX10_clause 143 = .ok (.invokevirtual 178, 3) := by decide +kernel
theorem dX10_clause_146 : decode cX10_clause 146 = .ok (.iastore, 1) := by decide +kernel
theorem dX10_clause_147 : decode cX10_clause 147 = .ok (.aload_n 3, 1) := by decide +kernel
theorem dX10_clause_148 : decode cX10_clause 148 = .ok (.iconst 1, 1) := by decide +kernel
theorem dX10_clause_149 : decode cX10_clause 149 = .ok (.aload_n 0, 1) := by decide +kernel
theorem dX10_clause_150 : decode cX10_clause 150 = .ok (.iconst 1, 1) := by decide +kernel
theorem dX10_clause_151 : decode cX10_clause 151 = .ok (.bipush 9, 2) := by decide +kernel
theorem dX10_clause_153 : decode cX10_clause 153 = .ok (.invokevirtual 178, 3) := by decide +kernel
theorem dX10_clause_156 : decode cX10_clause 156 = .ok (.iastore, 1) := by decide +kernel
theorem dX10_clause_157 : decode cX10_clause 157 = .ok (.aload_n 3, 1) := by decide +kernel
theorem dX10_clause_158 : decode cX10_clause 158 = .ok (.iconst 2, 1) := by decide +kernel
theorem dX10_clause_159 : decode cX10_clause 159 = .ok (.aload_n 0, 1) := by decide +kernel
theorem dX10_clause_160 : decode cX10_clause 160 = .ok (.iconst 1, 1) := by decide +kernel
theorem dX10_clause_161 : decode cX10_clause 161 = .ok (.bipush 20, 2) := by decide +kernel
theorem dX10_clause_163 : decode cX10_clause 163 = .ok (.invokevirtual 178, 3) := by decide +kernel
theorem dX10_clause_166 : decode cX10_clause 166 = .ok (.iastore, 1) := by decide +kernel
theorem dX10_clause_167 : decode cX10_clause 167 = .ok (.aload_n 3, 1) := by decide +kernel
theorem dX10_clause_168 : decode cX10_clause 168 = .ok (.iconst 3, 1) := by decide +kernel
theorem dX10_clause_169 : decode cX10_clause 169 = .ok (.aload_n 0, 1) := by decide +kernel
theorem dX10_clause_170 : decode cX10_clause 170 = .ok (.iconst 0, 1) := by decide +kernel
theorem dX10_clause_171 : decode cX10_clause 171 = .ok (.bipush 40, 2) := by decide +kernel
theorem dX10_clause_173 : decode cX10_clause 173 = .ok (.invokevirtual 178, 3) := by decide +kernel
theorem dX10_clause_176 : decode cX10_clause 176 = .ok (.iastore, 1) := by decide +kernel
theorem dX10_clause_177 : decode cX10_clause 177 = .ok (.goto 93, 3) := by decide +kernel
theorem dX10_clause_180 : decode cX10_clause 180 = .ok (.aload_n 0, 1) := by decide +kernel
theorem dX10_clause_181 : decode cX10_clause 181 = .ok (.getfield 32, 3) := by decide +kernel
theorem dX10_clause_184 : decode cX10_clause 184 = .ok (.iload_n 2, 1) := by decide +kernel
theorem dX10_clause_185 : decode cX10_clause 185 = .ok (.aload_n 0, 1) := by decide +kernel
theorem dX10_clause_186 : decode cX10_clause 186 = .ok (.iconst 0, 1) := by decide +kernel
theorem dX10_clause_187 : decode cX10_clause 187 = .ok (.bipush 60, 2) := by decide +kernel
theorem dX10_clause_189 : decode cX10_clause 189 = .ok (.invokevirtual 178, 3) := by decide +kernel
theorem dX10_clause_192 : decode cX10_clause 192 = .ok (.iastore, 1) := by decide +kernel
theorem dX10_clause_193 : decode cX10_clause 193 = .ok (.goto 77, 3) := by decide +kernel
theorem dX10_clause_196 : decode cX10_clause 196 = .ok (.aload_n 0, 1) := by decide +kernel
theorem dX10_clause_197 : decode cX10_clause 197 = .ok (.getfield 46, 3) := by decide +kernel
theorem dX10_clause_200 : decode cX10_clause 200 = .ok (.iload_n 2, 1) := by decide +kernel
theorem dX10_clause_201 : decode cX10_clause 201 = .ok (.aaload, 1) := by decide +kernel
theorem dX10_clause_202 : decode cX10_clause 202 = .ok (.astore_n 3, 1) := by decide +kernel
theorem dX10_clause_203 : decode cX10_clause 203 = .ok (.aload_n 3, 1) := by decide +kernel
theorem dX10_clause_204 : decode cX10_clause 204 = .ok (.iconst 0, 1) := by decide +kernel
theorem dX10_clause_205 : decode cX10_clause 205 = .ok (.aload_n 0, 1) := by decide +kernel
theorem dX10_clause_206 : decode cX10_clause 206 = .ok (.iconst 1, 1) := by decide +kernel
theorem dX10_clause_207 : decode cX10_clause 207 = .ok (.bipush 40, 2) := by decide +kernel
theorem dX10_clause_209 : decode cX10_clause 209 = .ok (.invokevirtual 178, 3) := by decide +kernel
theorem dX10_clause_212 : decode cX10_clause 212 = .ok (.iastore, 1) := by decide +kernel
theorem dX10_clause_213 : decode cX10_clause 213 = .ok (.aload_n 3, 1) := by decide +kernel
theorem dX10_clause_214 : decode cX10_clause 214 = .ok (.iconst 1, 1) := by decide +kernel
theorem dX10_clause_215 : decode cX10_clause 215 = .ok (.aload_n 0, 1) := by decide +kernel
theorem dX10_clause_216 : decode cX10_clause 216 = .ok (.iconst 0, 1) := by decide +kernel
theorem dX10_clause_217 : decode cX10_clause 217 = .ok (.bipush 16, 2) := by decide +kernel
theorem dX10_clause_219 : decode cX10_clause 219 = .ok (.invokevirtual 178, 3) := by decide +kernel
theorem dX10_clause_222 : decode cX10_clause 222 = .ok (.iastore, 1) := by decide +kernel
theorem dX10_clause_223 : decode cX10_clause 223 = .ok (.goto 47, 3) := by decide +kernel
theorem dX10_clause_226 : decode cX10_clause 226 = .ok (.aload_n 0, 1) := by decide +kernel
theorem dX10_clause_227 : decode cX10_clause 227 = .ok (.iload_n 1, 1) := by decide +kernel
theorem dX10_clause_228 : decode cX10_clause 228 = .ok (.iconst 4, 1) := by decide +kernel
theorem dX10_clause_229 : decode cX10_clause 229 = .ok (.if_icmp .ne 7, 3) := by decide +kernel
theorem dX10_clause_232 : decode cX10_clause 232 = .ok (.iconst 0, 1) := by decide +kernel
theorem dX10_clause_233 : decode cX10_clause 233 = .ok (.goto 4, 3) := by decide +kernel
theorem dX10_clause_236 : decode cX10_clause 236 = .ok (.iconst 1, 1) := by decide +kernel
theorem dX10_clause_237 : decode cX10_clause 237 = .ok (.iload_n 1, 1) := by decide +kernel
theorem dX10_clause_238 : decode cX10_clause 238 = .ok (.iconst 4, 1) := by decide +kernel
theorem dX10_clause_239 : decode cX10_clause 239 = .ok (.if_icmp .ne 8, 3) := by decide +kernel
theorem dX10_clause_242 : decode cX10_clause 242 = .ok (.bipush 40, 2) := by decide +kernel
theorem dX10_clause_244 : decode cX10_clause 244 = .ok (.goto 5, 3) := by decide +kernel
theorem dX10_clause_247 : decode cX10_clause 247 = .ok (.bipush 9, 2) := by decide +kernel
theorem dX10_clause_249 : decode cX10_clause 249 = .ok (.invokevirtual 178, 3) := by decide +kernel
theorem dX10_clause_252 : decode cX10_clause 252 = .ok (.istore_n 3, 1) := by decide +kernel
theorem dX10_clause_253 : decode cX10_clause 253 = .ok (.aload_n 0, 1) := by decide +kernel
theorem dX10_clause_254 : decode cX10_clause 254 = .ok (.getfield 119, 3) := by decide +kernel
theorem dX10_clause_257 : decode cX10_clause 257 = .ok (.ifCond .ne 13, 3) := by decide +kernel
theorem dX10_clause_260 : decode cX10_clause 260 = .ok (.aload_n 0, 1) := by decide +kernel
theorem dX10_clause_261 : decode cX10_clause 261 = .ok (.getfield 20, 3) := by decide +kernel
theorem dX10_clause_264 : decode cX10_clause 264 = .ok (.iload_n 1, 1) := by decide +kernel
theorem dX10_clause_265 : decode cX10_clause 265 = .ok (.iload_n 3, 1) := by decide +kernel
theorem dX10_clause_266 : decode cX10_clause 266 = .ok (.iastore, 1) := by decide +kernel
theorem dX10_clause_267 : decode cX10_clause 267 = .ok (.goto 3, 3) := by decide +kernel
theorem dX10_clause_270 : decode cX10_clause 270 = .ok (.iload_n 1, 1) := by decide +kernel
theorem dX10_clause_271 : decode cX10_clause 271 = .ok (.iconst 4, 1) := by decide +kernel
theorem dX10_clause_272 : decode cX10_clause 272 = .ok (.if_icmp .ge 24, 3) := by decide +kernel
theorem dX10_clause_275 : decode cX10_clause 275 = .ok (.aload_n 0, 1) := by decide +kernel
theorem dX10_clause_276 : decode cX10_clause 276 = .ok (.getfield 20, 3) := by decide +kernel
theorem dX10_clause_279 : decode cX10_clause 279 = .ok (.iload_n 1, 1) := by decide +kernel
theorem dX10_clause_280 : decode cX10_clause 280 = .ok (.dup2, 1) := by decide +kernel
theorem dX10_clause_281 : decode cX10_clause 281 = .ok (.iaload, 1) := by decide +kernel
theorem dX10_clause_282 : decode cX10_clause 282 = .ok (.aload_n 0, 1) := by decide +kernel
theorem dX10_clause_283 : decode cX10_clause 283 = .ok (.getfield 119, 3) := by decide +kernel
theorem dX10_clause_286 : decode cX10_clause 286 = .ok (.ifCond .ne 7, 3) := by decide +kernel
theorem dX10_clause_289 : decode cX10_clause 289 = .ok (.iconst 1, 1) := by decide +kernel
theorem dX10_clause_290 : decode cX10_clause 290 = .ok (.goto 4, 3) := by decide +kernel
theorem dX10_clause_293 : decode cX10_clause 293 = .ok (.iconst 0, 1) := by decide +kernel
theorem dX10_clause_294 : decode cX10_clause 294 = .ok (.iadd, 1) := by decide +kernel
theorem dX10_clause_295 : decode cX10_clause 295 = .ok (.iastore, 1) := by decide +kernel
theorem dX10_clause_296 : decode cX10_clause 296 = .ok (.aload_n 0, 1) := by decide +kernel
theorem dX10_clause_297 : decode cX10_clause 297 = .ok (.bipush 59, 2) := by decide +kernel
theorem dX10_clause_299 : decode cX10_clause 299 = .ok (.invokevirtual 182, 3) := by decide +kernel
theorem dX10_clause_302 : decode cX10_clause 302 = .ok (.return_, 1) := by decide +kernel
theorem dX10_street_0 : decode cX10_street 0 = .ok (.aload_n 0, 1) := by decide +kernel
theorem dX10_street_1 : decode cX10_street 1 = .ok (.iconst 0, 1) := by decide +kernel
theorem dX10_street_2 : decode cX10_street 2 = .ok (.putfield 103, 3) := by decide +kernel
theorem dX10_street_5 : decode cX10_street 5 = .ok (.aload_n 0, 1) := by decide +kernel
theorem dX10_street_6 : decode cX10_street 6 = .ok (.iload_n 1, 1) := by decide +kernel
theorem dX10_street_7 : decode cX10_street 7 = .ok (.iconst 0, 1) := by decide +kernel
theorem dX10_street_8 : decode cX10_street 8 = .ok (.aload_n 0, 1) := by decide +kernel
theorem dX10_street_9 : decode cX10_street 9 = .ok (.getfield 106, 3) := by decide +kernel
theorem dX10_street_12 : decode cX10_street 12 = .ok (.invokestatic 137, 3) := by decide +kernel
theorem dX10_street_15 : decode cX10_street 15 = .ok (.ifCond .ne 7, 3) := by decide +kernel
theorem dX10_street_18 : decode cX10_street 18 = .ok (.iconst 1, 1) := by decide +kernel
theorem dX10_street_19 : decode cX10_street 19 = .ok (.goto 4, 3) := by decide +kernel
theorem dX10_street_22 : decode cX10_street 22 = .ok (.iconst 0, 1) := by decide +kernel
theorem dX10_street_23 : decode cX10_street 23 = .ok (.iconst 1, 1) := by decide +kernel
theorem dX10_street_24 : decode cX10_street 24 = .ok (.iconst 1, 1) := by decide +kernel
theorem dX10_street_25 : decode cX10_street 25 = .ok (.invokevirtual 186, 3) := by decide +kernel
theorem dX10_street_28 : decode cX10_street 28 = .ok (.ifCond .eq 5, 3) := by decide +kernel
theorem dX10_street_31 : decode cX10_street 31 = .ok (.iconst 0, 1) := by decide +kernel
theorem dX10_street_32 : decode cX10_street 32 = .ok (.ireturn, 1) := by decide +kernel
theorem dX10_street_33 : decode cX10_street 33 = .ok (.aload_n 0, 1) := by decide +kernel
theorem dX10_street_34 : decode cX10_street 34 = .ok (.iload_n 1, 1) := by decide +kernel
theorem dX10_street_35 : decode cX10_street 35 = .ok (.invokevirtual 190, 3) := by decide +kernel
theorem dX10_street_38 : decode cX10_street 38 = .ok (.aload_n 0, 1) := by decide +kernel
theorem dX10_street_39 : decode cX10_street 39 = .ok (.invokevirtual 97, 3) := by decide +kernel
theorem dX10_street_42 : decode cX10_street 42 = .ok (.aload_n 0, 1) := by decide +kernel
theorem dX10_street_43 : decode cX10_street 43 = .ok (.getfield 119, 3) := by decide +kernel
theorem dX10_street_46 : decode cX10_street 46 = .ok (.ifCond .ne 25, 3) := by decide +kernel
theorem dX10_street_49 : decode cX10_street 49 = .ok (.aload_n 0, 1) := by decide +kernel
theorem dX10_street_50 : decode cX10_street 50 = .ok (.getfield 112, 3) := by decide +kernel
theorem dX10_street_53 : decode cX10_street 53 = .ok (.aload_n 0, 1) := by decide +kernel
theorem dX10_street_54 : decode cX10_street 54 = .ok (.getfield 109, 3) := by decide +kernel
theorem dX10_street_57 : decode cX10_street 57 = .ok (.if_icmp .ge 14, 3) := by decide +kernel
theorem dX10_street_60 : decode cX10_street 60 = .ok (.aload_n 0, 1) := by decide +kernel
theorem dX10_street_61 : decode cX10_street 61 = .ok (.invokevirtual 193, 3) := by decide +kernel
theorem dX10_street_64 : decode cX10_street 64 = .ok (.aload_n 0, 1) := by decide +kernel
theorem dX10_street_65 : decode cX10_street 65 = .ok (.invokevirtual 125, 3) := by decide +kernel
theorem dX10_street_68 : decode cX10_street 68 = .ok (.goto (-26), 3) := by decide +kernel
theorem dX10_street_71 : decode cX10_street 71 = .ok (.aload_n 0, 1) := by decide +kernel
theorem dX10_street_72 : decode cX10_street 72 = .ok (.getfield 119, 3) := by decide +kernel
theorem dX10_street_75 : decode cX10_street 75 = .ok (.ifCond .eq 8, 3) := by decide +kernel
theorem dX10_street_78 : decode cX10_street 78 = .ok (.aload_n 0, 1) := by decide +kernel
theorem dX10_street_79 : decode cX10_street 79 = .ok (.invokevirtual 196, 3) := by decide +kernel
theorem dX10_street_82 : decode cX10_street 82 = .ok (.ireturn, 1) := by decide +kernel
theorem dX10_street_83 : decode cX10_street 83 = .ok (.aload_n 0, 1) := by decide +kernel
theorem dX10_street_84 : decode cX10_street 84 = .ok (.iconst (-1), 1) := by decide +kernel
theorem dX10_street_85 : decode cX10_street 85 = .ok (.putfield 9, 3) := by decide +kernel
theorem dX10_street_88 : decode cX10_street 88 = .ok (.aload_n 0, 1) := by decide +kernel
theorem dX10_street_89 : decode cX10_street 89 = .ok (.invokevirtual 100, 3) := by decide +kernel
theorem dX10_street_92 : decode cX10_street 92 = .ok (.aload_n 0, 1) := by decide +kernel
theorem dX10_street_93 : decode cX10_street 93 = .ok (.getfield 23, 3) := by decide +kernel
theorem dX10_street_96 : decode cX10_street 96 = .ok (.iconst 1, 1) := by decide +kernel
theorem dX10_street_97 : decode cX10_street 97 = .ok (.iaload, 1) := by decide +kernel
theorem dX10_street_98 : decode cX10_street 98 = .ok (.ireturn, 1) := by decide +kernel
theorem dX10_lays_0 : decode cX10_lays 0 = .ok (.iconst 0, 1) := by decide +kernel
theorem dX10_lays_1 : decode cX10_lays 1 = .ok (.istore_n 3, 1) := by decide +kernel
theorem dX10_lays_2 : decode cX10_lays 2 = .ok (.iload_n 3, 1) := by decide +kernel
theorem dX10_lays_3 : decode cX10_lays 3 = .ok (.iload_n 2, 1) := by decide +kernel
theorem dX10_lays_4 : decode cX10_lays 4 = .ok (.if_icmp .ge 39, 3) := by decide +kernel
theorem dX10_lays_7 : decode cX10_lays 7 = .ok (.iconst 0, 1) := by decide +kernel
theorem dX10_lays_8 : decode cX10_lays 8 = .ok (.istore 4, 2) := by decide +kernel
theorem dX10_lays_10 : decode cX10_lays 10 = .ok (.iload 4, 2) := by decide +kernel
theorem dX10_lays_12 : decode cX10_lays 12 = .ok (.aload_n 1, 1) := by decide +kernel
theorem dX10_lays_13 : decode cX10_lays 13 = .ok (.iload_n 3, 1) := by decide +kernel
theorem dX10_lays_14 : decode cX10_lays 14 = .ok (.aaload, 1) := by decide +kernel
theorem dX10_lays_15 : decode cX10_lays 15 = .ok (.arraylength, 1) := by decide +kernel
theorem dX10_lays_16 : decode cX10_lays 16 = .ok (.if_icmp .ge 21, 3) := by decide +kernel
theorem dX10_lays_19 : decode cX10_lays 19 = .ok (.aload_n 1, 1) := by decide +kernel
theorem dX10_lays_20 : decode cX10_lays 20 = .ok (.iload_n 3, 1) := by decide +kernel
theorem dX10_lays_21 : decode cX10_lays 21 = .ok (.aaload, 1) := by decide +kernel
theorem dX10_lays_22 : decode cX10_lays 22 = .ok (.iload 4, 2) := by decide +kernel
theorem dX10_lays_24 : decode cX10_lays 24 = .ok (.aload_n 0, 1) := by decide +kernel
theorem dX10_lays_25 : decode cX10_lays 25 = .ok (.iload_n 3, 1) := by decide +kernel
theorem dX10_lays_26 : decode cX10_lays 26 = .ok (.aaload, 1) := by decide +kernel
theorem dX10_lays_27 : decode cX10_lays 27 = .ok (.iload 4, 2) := by decide +kernel
theorem dX10_lays_29 : decode cX10_lays 29 = .ok (.iaload, 1) := by decide +kernel
theorem dX10_lays_30 : decode cX10_lays 30 = .ok (.iastore, 1) := by decide +kernel
theorem dX10_lays_31 : decode cX10_lays 31 = .ok (.iinc 4 1, 3) := by decide +kernel
theorem dX10_lays_34 : decode cX10_lays 34 = .ok (.goto (-24), 3) := by decide +kernel
theorem dX10_lays_37 : decode cX10_lays 37 = .ok (.iinc 3 1, 3) := by decide +kernel
theorem dX10_lays_40 : decode cX10_lays 40 = .ok (.goto (-38), 3) := by decide +kernel
theorem dX10_lays_43 : decode cX10_lays 43 = .ok (.return_, 1) := by decide +kernel
theorem dX10_copies_0 : decode cX10_copies 0 = .ok (.iconst 0, 1) := by decide +kernel
theorem dX10_copies_1 : decode cX10_copies 1 = .ok (.istore_n 2, 1) := by decide +kernel
theorem dX10_copies_2 : decode cX10_copies 2 = .ok (.iload_n 2, 1) := by decide +kernel
theorem dX10_copies_3 : decode cX10_copies 3 = .ok (.bipush 63, 2) := by decide +kernel
theorem dX10_copies_5 : decode cX10_copies 5 = .ok (.if_icmp .ge 15, 3) := by decide +kernel
theorem dX10_copies_8 : decode cX10_copies 8 = .ok (.aload_n 1, 1) := by decide +kernel
theorem dX10_copies_9 : decode cX10_copies 9 = .ok (.iload_n 2, 1) := by decide +kernel
theorem dX10_copies_10 : decode cX10_copies 10 = .ok (.aload_n 0, 1) := by decide +kernel
theorem dX10_copies_11 : decode cX10_copies 11 = .ok (.iload_n 2, 1) := by decide +kernel
theorem dX10_copies_12 : decode cX10_copies 12 = .ok (.iaload, 1) := by decide +kernel
theorem dX10_copies_13 : decode cX10_copies 13 = .ok (.iastore, 1) := by decide +kernel
theorem dX10_copies_14 : decode cX10_copies 14 = .ok (.iinc 2 1, 3) := by decide +kernel
theorem dX10_copies_17 : decode cX10_copies 17 = .ok (.goto (-15), 3) := by decide +kernel
theorem dX10_copies_20 : decode cX10_copies 20 = .ok (.return_, 1) := by decide +kernel
theorem dX10_beginsAnew_0 : decode cX10_beginsAnew 0 = .ok (.iconst 0, 1) := by decide +kernel
theorem dX10_beginsAnew_1 : decode cX10_beginsAnew 1 = .ok (.istore_n 1, 1) := by decide +kernel
theorem dX10_beginsAnew_2 : decode cX10_beginsAnew 2 = .ok (.iload_n 1, 1) := by decide +kernel
theorem dX10_beginsAnew_3 : decode cX10_beginsAnew 3 = .ok (.bipush 6, 2) := by decide +kernel
theorem dX10_beginsAnew_5 : decode cX10_beginsAnew 5 = .ok (.if_icmp .ge 21, 3) := by decide +kernel
theorem dX10_beginsAnew_8 : decode cX10_beginsAnew 8 = .ok (.aload_n 0, 1) := by decide +kernel
theorem dX10_beginsAnew_9 : decode cX10_beginsAnew 9 = .ok (.getfield 23, 3) := by decide +kernel
theorem dX10_beginsAnew_12 : decode cX10_beginsAnew 12 = .ok (.iload_n 1, 1) := by decide +kernel
theorem dX10_beginsAnew_13 : decode cX10_beginsAnew 13 = .ok (.aload_n 0, 1) := by decide +kernel
theorem dX10_beginsAnew_14 : decode cX10_beginsAnew 14 = .ok (.getfield 20, 3) := by decide +kernel
theorem dX10_beginsAnew_17 : decode cX10_beginsAnew 17 = .ok (.iload_n 1, 1) := by decide +kernel
theorem dX10_beginsAnew_18 : decode cX10_beginsAnew 18 = .ok (.iaload, 1) := by decide +kernel
theorem dX10_beginsAnew_19 : decode cX10_beginsAnew 19 = .ok (.iastore, 1) := by decide +kernel
theorem dX10_beginsAnew_20 : decode cX10_beginsAnew 20 = .ok (.iinc 1 1, 3) := by decide +kernel
theorem dX10_beginsAnew_23 : decode cX10_beginsAnew 23 = .ok (.goto (-21), 3) := by decide +kernel
theorem dX10_beginsAnew_26 : decode cX10_beginsAnew 26 = .ok (.iconst 0, 1) := by decide +kernel
theorem dX10_beginsAnew_27 : decode cX10_beginsAnew 27 = .ok (.istore_n 1, 1) := by decide +kernel
theorem dX10_beginsAnew_28 : decode cX10_beginsAnew 28 = .ok (.iload_n 1, 1) := by decide +kernel
theorem dX10_beginsAnew_29 : decode cX10_beginsAnew 29 = .ok (.aload_n 0, 1) := by decide +kernel
theorem dX10_beginsAnew_30 : decode cX10_beginsAnew 30 = .ok (.getfield 23, 3) := by decide +kernel
theorem dX10_beginsAnew_33 : decode cX10_beginsAnew 33 = .ok (.iconst 0, 1) := by decide +kernel
theorem dX10_beginsAnew_34 : decode cX10_beginsAnew 34 = .ok (.iaload, 1) := by decide +kernel
theorem dX10_beginsAnew_35 : decode cX10_beginsAnew 35 = .ok (.if_icmp .ge 21, 3) := by decide +kernel
theorem dX10_beginsAnew_38 : decode cX10_beginsAnew 38 = .ok (.aload_n 0, 1) := by decide +kernel
theorem dX10_beginsAnew_39 : decode cX10_beginsAnew 39 = .ok (.getfield 29, 3) := by decide +kernel
theorem dX10_beginsAnew_42 : decode cX10_beginsAnew 42 = .ok (.iload_n 1, 1) := by decide +kernel
theorem dX10_beginsAnew_43 : decode cX10_beginsAnew 43 = .ok (.aload_n 0, 1) := by decide +kernel
theorem dX10_beginsAnew_44 : decode cX10_beginsAnew 44 = .ok (.getfield 26, 3) := by decide +kernel
theorem dX10_beginsAnew_47 : decode cX10_beginsAnew 47 = .ok (.iload_n 1, 1) := by decide +kernel
theorem dX10_beginsAnew_48 : decode cX10_beginsAnew 48 = .ok (.iaload, 1) := by decide +kernel
theorem dX10_beginsAnew_49 : decode cX10_beginsAnew 49 = .ok (.iastore, 1) := by decide +kernel
theorem dX10_beginsAnew_50 : decode cX10_beginsAnew 50 = .ok (.iinc 1 1, 3) := by decide +kernel
theorem dX10_beginsAnew_53 : decode cX10_beginsAnew 53 = .ok (.goto (-25), 3) := by decide +kernel
theorem dX10_beginsAnew_56 : decode cX10_beginsAnew 56 = .ok (.iconst 0, 1) := by decide +kernel
theorem dX10_beginsAnew_57 : decode cX10_beginsAnew 57 = .ok (.istore_n 1, 1) := by decide +kernel
theorem dX10_beginsAnew_58 : decode cX10_beginsAnew 58 = .ok (.iload_n 1, 1) := by decide +kernel
theorem dX10_beginsAnew_59 : decode cX10_beginsAnew 59 = .ok (.aload_n 0, 1) := by decide +kernel
theorem dX10_beginsAnew_60 : decode cX10_beginsAnew 60 = .ok (.getfield 23, 3) := by decide +kernel
theorem dX10_beginsAnew_63 : decode cX10_beginsAnew 63 = .ok (.iconst 2, 1) := by decide +kernel
theorem dX10_beginsAnew_64 : decode cX10_beginsAnew 64 = .ok (.iaload, 1) := by decide +kernel
theorem dX10_beginsAnew_65 : decode cX10_beginsAnew 65 = .ok (.if_icmp .ge 21, 3) := by decide +kernel
theorem dX10_beginsAnew_68 : decode cX10_beginsAnew 68 = .ok (.aload_n 0, 1) := by decide +kernel
theorem dX10_beginsAnew_69 : decode cX10_beginsAnew 69 = .ok (.getfield 35, 3) := by decide +kernel
theorem dX10_beginsAnew_72 : decode cX10_beginsAnew 72 = .ok (.iload_n 1, 1) := by decide +kernel
theorem dX10_beginsAnew_73 : decode cX10_beginsAnew 73 = .ok (.aload_n 0, 1) := by decide +kernel
theorem dX10_beginsAnew_74 : decode cX10_beginsAnew 74 = .ok (.getfield 32, 3) := by decide +kernel
theorem dX10_beginsAnew_77 : decode cX10_beginsAnew 77 = .ok (.iload_n 1, 1) := by decide +kernel
theorem dX10_beginsAnew_78 : decode cX10_beginsAnew 78 = .ok (.iaload, 1) := by decide +kernel
theorem dX10_beginsAnew_79 : decode cX10_beginsAnew 79 = .ok (.iastore, 1) := by decide +kernel
theorem dX10_beginsAnew_80 : decode cX10_beginsAnew 80 = .ok (.iinc 1 1, 3) := by decide +kernel
theorem dX10_beginsAnew_83 : decode cX10_beginsAnew 83 = .ok (.goto (-25), 3) := by decide +kernel
theorem dX10_beginsAnew_86 : decode cX10_beginsAnew 86 = .ok (.aload_n 0, 1) := by decide +kernel
theorem dX10_beginsAnew_87 : decode cX10_beginsAnew 87 = .ok (.getfield 40, 3) := by decide +kernel
theorem dX10_beginsAnew_90 : decode cX10_beginsAnew 90 = .ok (.aload_n 0, 1) := by decide +kernel
theorem dX10_beginsAnew_91 : decode cX10_beginsAnew 91 = .ok (.getfield 43, 3) := by decide +kernel
theorem dX10_beginsAnew_94 : decode cX10_beginsAnew 94 = .ok (.aload_n 0, 1) := by decide +kernel
theorem dX10_beginsAnew_95 : decode cX10_beginsAnew 95 = .ok (.getfield 23, 3) := by decide +kernel
theorem dX10_beginsAnew_98 : decode cX10_beginsAnew 98 = .ok (.iconst 1, 1) := by decide +kernel
theorem dX10_beginsAnew_99 : decode cX10_beginsAnew 99 = .ok (.iaload, 1) := by decide +kernel
theorem dX10_beginsAnew_100 : decode cX10_beginsAnew 100 = .ok (.invokestatic 199, 3) := by decide +kernel
theorem dX10_beginsAnew_103 : decode cX10_beginsAnew 103 = .ok (.aload_n 0, 1) := by decide +kernel
theorem dX10_beginsAnew_104 : decode cX10_beginsAnew 104 = .ok (.getfield 46, 3) := by decide +kernel
theorem dX10_beginsAnew_107 : decode cX10_beginsAnew 107 = .ok (.aload_n 0, 1) := by decide +kernel
theorem dX10_beginsAnew_108 : decode cX10_beginsAnew 108 = .ok (.getfield 49, 3) := by decide +kernel
theorem dX10_beginsAnew_111 : decode cX10_beginsAnew 111 = .ok (.aload_n 0, 1) := by decide +kernel
theorem dX10_beginsAnew_112 : decode cX10_beginsAnew 112 = .ok (.getfield 23, 3) := by decide +kernel
theorem dX10_beginsAnew_115 : decode cX10_beginsAnew 115 = .ok (.iconst 3, 1) := by decide +kernel
theorem dX10_beginsAnew_116 : decode cX10_beginsAnew 116 = .ok (.iaload, 1) := by decide +kernel
theorem dX10_beginsAnew_117 : decode cX10_beginsAnew 117 = .ok (.invokestatic 199, 3) := by decide +kernel
theorem dX10_beginsAnew_120 : decode cX10_beginsAnew 120 = .ok (.iconst 0, 1) := by decide +kernel
theorem dX10_beginsAnew_121 : decode cX10_beginsAnew 121 = .ok (.istore_n 1, 1) := by decide +kernel
theorem dX10_beginsAnew_122 : decode cX10_beginsAnew 122 = .ok (.iload_n 1, 1) := by decide +kernel
theorem dX10_beginsAnew_123 : decode cX10_beginsAnew 123 = .ok (.bipush 63, 2) := by decide +kernel
theorem dX10_beginsAnew_125 : decode cX10_beginsAnew 125 = .ok (.if_icmp .ge 16, 3) := by decide +kernel
theorem dX10_beginsAnew_128 : decode cX10_beginsAnew 128 = .ok (.aload_n 0, 1) := by decide +kernel
theorem dX10_beginsAnew_129 : decode cX10_beginsAnew 129 = .ok (.getfield 73, 3) := by decide +kernel
theorem dX10_beginsAnew_132 : decode cX10_beginsAnew 132 = .ok (.iload_n 1, 1) := by decide +kernel
theorem dX10_beginsAnew_133 : decode cX10_beginsAnew 133 = .ok (.iconst 0, 1) := by decide +kernel
theorem dX10_beginsAnew_134 : decode cX10_beginsAnew 134 = .ok (.iastore, 1) := by decide +kernel
theorem dX10_beginsAnew_135 : decode cX10_beginsAnew 135 = .ok (.iinc 1 1, 3) := by decide +kernel
theorem dX10_beginsAnew_138 : decode cX10_beginsAnew 138 = .ok (.goto (-16), 3) := by decide +kernel
theorem dX10_beginsAnew_141 : decode cX10_beginsAnew 141 = .ok (.iconst 0, 1) := by decide +kernel
theorem dX10_beginsAnew_142 : decode cX10_beginsAnew 142 = .ok (.istore_n 1, 1) := by decide +kernel
theorem dX10_beginsAnew_143 : decode cX10_beginsAnew 143 = .ok (.iload_n 1, 1) := by decide +kernel
theorem dX10_beginsAnew_144 : decode cX10_beginsAnew 144 = .ok (.aload_n 0, 1) := by decide +kernel
theorem dX10_beginsAnew_145 : decode cX10_beginsAnew 145 = .ok (.getfield 23, 3) := by decide +kernel
theorem dX10_beginsAnew_148 : decode cX10_beginsAnew 148 = .ok (.iconst 1, 1) := by decide +kernel
theorem dX10_beginsAnew_149 : decode cX10_beginsAnew 149 = .ok (.iaload, 1) := by decide +kernel
theorem dX10_beginsAnew_150 : decode cX10_beginsAnew 150 = .ok (.if_icmp .ge 42, 3) := by decide +kernel
theorem dX10_beginsAnew_153 : decode cX10_beginsAnew 153 = .ok (.aload_n 0, 1) := by decide +kernel
theorem dX10_beginsAnew_154 : decode cX10_beginsAnew 154 = .ok (.getfield 73, 3) := by decide +kernel
theorem dX10_beginsAnew_157 : decode cX10_beginsAnew 157 = .ok (.iconst 0, 1) := by decide +kernel
theorem dX10_beginsAnew_158 : decode cX10_beginsAnew 158 = .ok (.iload_n 1, 1) := by decide +kernel
theorem dX10_beginsAnew_159 : decode cX10_beginsAnew 159 = .ok (.iadd, 1) := by decide +kernel
theorem dX10_beginsAnew_160 : decode cX10_beginsAnew 160 = .ok (.aload_n 0, 1) := by decide +kernel
theorem dX10_beginsAnew_161 : decode cX10_beginsAnew 161 = .ok (.getfield 43, 3) := by decide +kernel
theorem dX10_beginsAnew_164 : decode cX10_beginsAnew 164 = .ok (.iload_n 1, 1) := by decide +kernel
theorem dX10_beginsAnew_165 : decode cX10_beginsAnew 165 = .ok (.aaload, 1) := by decide +kernel
theorem dX10_beginsAnew_166 : decode cX10_beginsAnew 166 = .ok (.iconst 0, 1) := by decide +kernel
theorem dX10_beginsAnew_167 : decode cX10_beginsAnew 167 = .ok (.iaload, 1) := by decide +kernel
theorem dX10_beginsAnew_168 : decode cX10_beginsAnew 168 = .ok (.iastore, 1) := by decide +kernel
theorem dX10_beginsAnew_169 : decode cX10_beginsAnew 169 = .ok (.aload_n 0, 1) := by decide +kernel
theorem dX10_beginsAnew_170 : decode cX10_beginsAnew 170 = .ok (.getfield 73, 3) := by decide +kernel
theorem dX10_beginsAnew_173 : decode cX10_beginsAnew 173 = .ok (.bipush 40, 2) := by decide +kernel
theorem dX10_beginsAnew_175 : decode cX10_beginsAnew 175 = .ok (.iload_n 1, 1) := by decide +kernel
theorem dX10_beginsAnew_176 : decode cX10_beginsAnew 176 = .ok (.iadd, 1) := by decide +kernel
theorem dX10_beginsAnew_177 : decode cX10_beginsAnew 177 = .ok (.aload_n 0, 1) := by decide +kernel
theorem dX10_beginsAnew_178 : decode cX10_beginsAnew 178 = .ok (.getfield 43, 3) := by decide +kernel
theorem dX10_beginsAnew_181 : decode cX10_beginsAnew 181 = .ok (.iload_n 1, 1) := by decide +kernel
theorem dX10_beginsAnew_182 : decode cX10_beginsAnew 182 = .ok (.aaload, 1) := by decide +kernel
theorem dX10_beginsAnew_183 : decode cX10_beginsAnew 183 = .ok (.iconst 3, 1) := by decide +kernel
theorem dX10_beginsAnew_184 : decode cX10_beginsAnew 184 = .ok (.iaload, 1) := by decide +kernel
theorem dX10_beginsAnew_185 : decode cX10_beginsAnew 185 = .ok (.iastore, 1) := by decide +kernel
theorem dX10_beginsAnew_186 : decode cX10_beginsAnew 186 = .ok (.iinc 1 1, 3) := by decide +kernel
theorem dX10_beginsAnew_189 : decode cX10_beginsAnew 189 = .ok (.goto (-46), 3) := by decide +kernel
theorem dX10_beginsAnew_192 : decode cX10_beginsAnew 192 = .ok (.aload_n 0, 1) := by decide +kernel
theorem dX10_beginsAnew_193 : decode cX10_beginsAnew 193 = .ok (.aload_n 0, 1) := by decide +kernel
theorem dX10_beginsAnew_194 : decode cX10_beginsAnew 194 = .ok (.getfield 23, 3) := by decide +kernel
theorem dX10_beginsAnew_197 : decode cX10_beginsAnew 197 = .ok (.iconst 4, 1) := by decide +kernel
theorem dX10_beginsAnew_198 : decode cX10_beginsAnew 198 = .ok (.iaload, 1) := by decide +kernel
theorem dX10_beginsAnew_199 : decode cX10_beginsAnew 199 = .ok (.putfield 203, 3) := by decide +kernel
theorem dX10_beginsAnew_202 : decode cX10_beginsAnew 202 = .ok (.aload_n 0, 1) := by decide +kernel
theorem dX10_beginsAnew_203 : decode cX10_beginsAnew 203 = .ok (.iconst 0, 1) := by decide +kernel
theorem dX10_beginsAnew_204 : decode cX10_beginsAnew 204 = .ok (.putfield 206, 3) := by decide +kernel
theorem dX10_beginsAnew_207 : decode cX10_beginsAnew 207 = .ok (.aload_n 0, 1) := by decide +kernel
theorem dX10_beginsAnew_208 : decode cX10_beginsAnew 208 = .ok (.iconst 0, 1) := by decide +kernel
theorem dX10_beginsAnew_209 : decode cX10_beginsAnew 209 = .ok (.putfield 209, 3) := by decide +kernel
theorem dX10_beginsAnew_212 : decode cX10_beginsAnew 212 = .ok (.aload_n 0, 1) := by decide +kernel
theorem dX10_beginsAnew_213 : decode cX10_beginsAnew 213 = .ok (.iconst 0, 1) := by decide +kernel
theorem dX10_beginsAnew_214 : decode cX10_beginsAnew 214 = .ok (.putfield 212, 3) := by decide +kernel
theorem dX10_beginsAnew_217 : decode cX10_beginsAnew 217 = .ok (.aload_n 0, 1) := by decide +kernel
theorem dX10_beginsAnew_218 : decode cX10_beginsAnew 218 = .ok (.iconst 0, 1) := by decide +kernel
theorem dX10_beginsAnew_219 : decode cX10_beginsAnew 219 = .ok (.putfield 215, 3) := by decide +kernel
theorem dX10_beginsAnew_222 : decode cX10_beginsAnew 222 = .ok (.aload_n 0, 1) := by decide +kernel
theorem dX10_beginsAnew_223 : decode cX10_beginsAnew 223 = .ok (.iconst 0, 1) := by decide +kernel
theorem dX10_beginsAnew_224 : decode cX10_beginsAnew 224 = .ok (.putfield 218, 3) := by decide +kernel
theorem dX10_beginsAnew_227 : decode cX10_beginsAnew 227 = .ok (.return_, 1) := by decide +kernel
theorem dX10_notes_0 : decode cX10_notes 0 = .ok (.aload_n 0, 1) := by decide +kernel
theorem dX10_notes_1 : decode cX10_notes 1 = .ok (.getfield 119, 3) := by decide +kernel
theorem dX10_notes_4 : decode cX10_notes 4 = .ok (.ifCond .eq 4, 3) := by decide +kernel
theorem dX10_notes_7 : decode cX10_notes 7 = .ok (.return_, 1) := by decide +kernel
theorem dX10_notes_8 : decode cX10_notes 8 = .ok (.aload_n 0, 1) := by decide +kernel
theorem dX10_notes_9 : decode cX10_notes 9 = .ok (.getfield 55, 3) := by decide +kernel
theorem dX10_notes_12 : decode cX10_notes 12 = .ok (.aload_n 0, 1) := by decide +kernel
theorem dX10_notes_13 : decode cX10_notes 13 = .ok (.getfield 221, 3) := by decide +kernel
theorem dX10_notes_16 : decode cX10_notes 16 = .ok (.aaload, 1) := by decide +kernel
theorem dX10_notes_17 : decode cX10_notes 17 = .ok (.iconst 0, 1) := by decide +kernel
theorem dX10_notes_18 : decode cX10_notes 18 = .ok (.iload_n 1, 1) := by decide +kernel
theorem dX10_notes_19 : decode cX10_notes 19 = .ok (.iastore, 1) := by decide +kernel
theorem dX10_notes_20 : decode cX10_notes 20 = .ok (.aload_n 0, 1) := by decide +kernel
theorem dX10_notes_21 : decode cX10_notes 21 = .ok (.getfield 55, 3) := by decide +kernel
theorem dX10_notes_24 : decode cX10_notes 24 = .ok (.aload_n 0, 1) := by decide +kernel
theorem dX10_notes_25 : decode cX10_notes 25 = .ok (.getfield 221, 3) := by decide +kernel
theorem dX10_notes_28 : decode cX10_notes 28 = .ok (.aaload, 1) := by decide +kernel
theorem dX10_notes_29 : decode cX10_notes 29 = .ok (.iconst 1, 1) := by decide +kernel
theorem dX10_notes_30 : decode cX10_notes 30 = .ok (.iload_n 2, 1) := by decide +kernel
theorem dX10_notes_31 : decode cX10_notes 31 = .ok (.iastore, 1) := by decide +kernel
theorem dX10_notes_32 : decode cX10_notes 32 = .ok (.aload_n 0, 1) := by decide +kernel
theorem dX10_notes_33 : decode cX10_notes 33 = .ok (.dup, 1) := by decide +kernel
theorem dX10_notes_34 : decode cX10_notes 34 = .ok (.getfield 221, 3) := by decide +kernel
theorem dX10_notes_37 : decode cX10_notes 37 = .ok (.iconst 1, 1) := by decide +kernel
theorem dX10_notes_38 : decode cX10_notes 38 = .ok (.iadd, 1) := by decide +kernel
theorem dX10_notes_39 : decode cX10_notes 39 = .ok (.putfield 221, 3) := by decide +kernel
theorem dX10_notes_42 : decode cX10_notes 42 = .ok (.return_, 1) := by decide +kernel
theorem dX10_opensOne_0 : decode cX10_opensOne 0 = .ok (.aload_n 0, 1) := by decide +kernel
theorem dX10_opensOne_1 : decode cX10_opensOne 1 = .ok (.getfield 119, 3) := by decide +kernel
theorem dX10_opensOne_4 : decode cX10_opensOne 4 = .ok (.ifCond .ne 24, 3) := by decide +kernel
theorem dX10_opensOne_7 : decode cX10_opensOne 7 = .ok (.aload_n 0, 1) := by decide +kernel
theorem dX10_opensOne_8 : decode cX10_opensOne 8 = .ok (.getfield 168, 3) := by decide +kernel
theorem dX10_opensOne_11 : decode cX10_opensOne 11 = .ok (.bipush 6, 2) := by decide +kernel
theorem dX10_opensOne_13 : decode cX10_opensOne 13 = .ok (.if_icmp .ne 15, 3) := by decide +kernel
theorem dX10_opensOne_16 : decode cX10_opensOne 16 = .ok (.aload_n 0, 1) := by decide +kernel
theorem dX10_opensOne_17 : decode cX10_opensOne 17 = .ok (.iconst 3, 1) := by decide +kernel
theorem dX10_opensOne_18 : decode cX10_opensOne 18 = .ok (.aload_n 0, 1) := by decide +kernel
theorem dX10_opensOne_19 : decode cX10_opensOne 19 = .ok (.getfield 112, 3) := by decide +kernel
theorem dX10_opensOne_22 : decode cX10_opensOne 22 = .ok (.invokevirtual 132, 3) := by decide +kernel
theorem dX10_opensOne_25 : decode cX10_opensOne 25 = .ok (.goto 20, 3) := by decide +kernel
theorem dX10_opensOne_28 : decode cX10_opensOne 28 = .ok (.aload_n 0, 1) := by decide +kernel
theorem dX10_opensOne_29 : decode cX10_opensOne 29 = .ok (.getfield 119, 3) := by decide +kernel
theorem dX10_opensOne_32 : decode cX10_opensOne 32 = .ok (.ifCond .ne 13, 3) := by decide +kernel
theorem dX10_opensOne_35 : decode cX10_opensOne 35 = .ok (.aload_n 0, 1) := by decide +kernel
theorem dX10_opensOne_36 : decode cX10_opensOne 36 = .ok (.dup, 1) := by decide +kernel
theorem dX10_opensOne_37 : decode cX10_opensOne 37 = .ok (.getfield 168, 3) := by decide +kernel
theorem dX10_opensOne_40 : decode cX10_opensOne 40 = .ok (.iconst 1, 1) := by decide +kernel
theorem dX10_opensOne_41 : decode cX10_opensOne 41 = .ok (.iadd, 1) := by decide +kernel
theorem dX10_opensOne_42 : decode cX10_opensOne 42 = .ok (.putfield 168, 3) := by decide +kernel
theorem dX10_opensOne_45 : decode cX10_opensOne 45 = .ok (.aload_n 0, 1) := by decide +kernel
theorem dX10_opensOne_46 : decode cX10_opensOne 46 = .ok (.getfield 119, 3) := by decide +kernel
theorem dX10_opensOne_49 : decode cX10_opensOne 49 = .ok (.ifCond .ne 7, 3) := by decide +kernel
theorem dX10_opensOne_52 : decode cX10_opensOne 52 = .ok (.iconst 1, 1) := by decide +kernel
theorem dX10_opensOne_53 : decode cX10_opensOne 53 = .ok (.goto 4, 3) := by decide +kernel
theorem dX10_opensOne_56 : decode cX10_opensOne 56 = .ok (.iconst 0, 1) := by decide +kernel
theorem dX10_opensOne_57 : decode cX10_opensOne 57 = .ok (.ireturn, 1) := by decide +kernel
theorem dX10_sum_0 : decode cX10_sum 0 = .ok (.aload_n 0, 1) := by decide +kernel
theorem dX10_sum_1 : decode cX10_sum 1 = .ok (.invokevirtual 224, 3) := by decide +kernel
theorem dX10_sum_4 : decode cX10_sum 4 = .ok (.aload_n 0, 1) := by decide +kernel
theorem dX10_sum_5 : decode cX10_sum 5 = .ok (.getfield 119, 3) := by decide +kernel
theorem dX10_sum_8 : decode cX10_sum 8 = .ok (.ifCond .ne 50, 3) := by decide +kernel
theorem dX10_sum_11 : decode cX10_sum 11 = .ok (.aload_n 0, 1) := by decide +kernel
theorem dX10_sum_12 : decode cX10_sum 12 = .ok (.bipush 43, 2) := by decide +kernel
theorem dX10_sum_14 : decode cX10_sum 14 = .ok (.invokevirtual 227, 3) := by decide +kernel
theorem dX10_sum_17 : decode cX10_sum 17 = .ok (.ifCond .eq 7, 3) := by decide +kernel
theorem dX10_sum_20 : decode cX10_sum 20 = .ok (.iconst 2, 1) := by decide +kernel
theorem dX10_sum_21 : decode cX10_sum 21 = .ok (.goto 17, 3) := by decide +kernel
theorem dX10_sum_24 : decode cX10_sum 24 = .ok (.aload_n 0, 1) := by decide +kernel
theorem dX10_sum_25 : decode cX10_sum 25 = .ok (.bipush 45, 2) := by decide +kernel
theorem dX10_sum_27 : decode cX10_sum 27 = .ok (.invokevirtual 227, 3) := by decide +kernel
theorem dX10_sum_30 : decode cX10_sum 30 = .ok (.ifCond .eq 7, 3) := by decide +kernel
theorem dX10_sum_33 : decode cX10_sum 33 = .ok (.iconst 3, 1) := by decide +kernel
theorem dX10_sum_34 : decode cX10_sum 34 = .ok (.goto 4, 3) := by decide +kernel
theorem dX10_sum_37 : decode cX10_sum 37 = .ok (.iconst (-1), 1) := by decide +kernel
theorem dX10_sum_38 : decode cX10_sum 38 = .ok (.istore_n 1, 1) := by decide +kernel
theorem dX10_sum_39 : decode cX10_sum 39 = .ok (.iload_n 1, 1) := by decide +kernel
theorem dX10_sum_40 : decode cX10_sum 40 = .ok (.iconst (-1), 1) := by decide +kernel
theorem dX10_sum_41 : decode cX10_sum 41 = .ok (.if_icmp .ne 4, 3) := by decide +kernel
theorem dX10_sum_44 : decode cX10_sum 44 = .ok (.return_, 1) := by decide +kernel
theorem dX10_sum_45 : decode cX10_sum 45 = .ok (.aload_n 0, 1) := by decide +kernel
theorem dX10_sum_46 : decode cX10_sum 46 = .ok (.invokevirtual 224, 3) := by decide +kernel
theorem dX10_sum_49 : decode cX10_sum 49 = .ok (.aload_n 0, 1) := by decide +kernel
theorem dX10_sum_50 : decode cX10_sum 50 = .ok (.iload_n 1, 1) := by decide +kernel
theorem dX10_sum_51 : decode cX10_sum 51 = .ok (.iconst 0, 1) := by decide +kernel
theorem dX10_sum_52 : decode cX10_sum 52 = .ok (.invokevirtual 230, 3) := by decide +kernel
theorem dX10_sum_55 : decode cX10_sum 55 = .ok (.goto (-51), 3) := by decide +kernel
theorem dX10_sum_58 : decode cX10_sum 58 = .ok (.return_, 1) := by decide +kernel
theorem dX10_product_0 : decode cX10_product 0 = .ok (.aload_n 0, 1) := by decide +kernel
theorem dX10_product_1 : decode cX10_product 1 = .ok (.invokevirtual 233, 3) := by decide +kernel
theorem dX10_product_4 : decode cX10_product 4 = .ok (.aload_n 0, 1) := by decide +kernel
theorem dX10_product_5 : decode cX10_product 5 = .ok (.getfield 119, 3) := by decide +kernel
theorem dX10_product_8 : decode cX10_product 8 = .ok (.ifCond .ne 50, 3) := by decide +kernel
theorem dX10_product_11 : decode cX10_product 11 = .ok (.aload_n 0, 1) := by decide +kernel
theorem dX10_product_12 : decode cX10_product 12 = .ok (.bipush 42, 2) := by decide +kernel
theorem dX10_product_14 : decode cX10_product 14 = .ok (.invokevirtual 227, 3) := by decide +kernel
theorem dX10_product_17 : decode cX10_product 17 = .ok (.ifCond .eq 7, 3) := by decide +kernel
theorem dX10_product_20 : decode cX10_product 20 = .ok (.iconst 4, 1) := by decide +kernel
theorem dX10_product_21 : decode cX10_product 21 = .ok (.goto 17, 3) := by decide +kernel
theorem dX10_product_24 : decode cX10_product 24 = .ok (.aload_n 0, 1) := by decide +kernel
theorem dX10_product_25 : decode cX10_product 25 = .ok (.bipush 47, 2) := by decide +kernel
theorem dX10_product_27 : decode cX10_product 27 = .ok (.invokevirtual 227, 3) := by decide +kernel
theorem dX10_product_30 : decode cX10_product 30 = .ok (.ifCond .eq 7, 3) := by decide +kernel
theorem dX10_product_33 : decode cX10_product 33 = .ok (.iconst 5, 1) := by decide +kernel
theorem dX10_product_34 : decode cX10_product 34 = .ok (.goto 4, 3) := by decide +kernel
theorem dX10_product_37 : decode cX10_product 37 = .ok (.iconst (-1), 1) := by decide +kernel
theorem dX10_product_38 : decode cX10_product 38 = .ok (.istore_n 1, 1) := by decide +kernel
theorem dX10_product_39 : decode cX10_product 39 = .ok (.iload_n 1, 1) := by decide +kernel
theorem dX10_product_40 : decode cX10_product 40 = .ok (.iconst (-1), 1) := by decide +kernel
theorem dX10_product_41 : decode cX10_product 41 = .ok (.if_icmp .ne 4, 3) := by decide +kernel
theorem dX10_product_44 : decode cX10_product 44 = .ok (.return_, 1) := by decide +kernel
theorem dX10_product_45 : decode cX10_product 45 = .ok (.aload_n 0, 1) := by decide +kernel
theorem dX10_product_46 : decode cX10_product 46 = .ok (.invokevirtual 233, 3) := by decide +kernel
theorem dX10_product_49 : decode cX10_product 49 = .ok (.aload_n 0, 1) := by decide +kernel
theorem dX10_product_50 : decode cX10_product 50 = .ok (.iload_n 1, 1) := by decide +kernel
theorem dX10_product_51 : decode cX10_product 51 = .ok (.iconst 0, 1) := by decide +kernel
theorem dX10_product_52 : decode cX10_product 52 = .ok (.invokevirtual 230, 3) := by decide +kernel
theorem dX10_product_55 : decode cX10_product 55 = .ok (.goto (-51), 3) := by decide +kernel
theorem dX10_product_58 : decode cX10_product 58 = .ok (.return_, 1) := by decide +kernel
theorem dX10_knownHere_0 : decode cX10_knownHere 0 = .ok (.aload_n 0, 1) := by decide +kernel
theorem dX10_knownHere_1 : decode cX10_knownHere 1 = .ok (.iconst 4, 1) := by decide +kernel
theorem dX10_knownHere_2 : decode cX10_knownHere 2 = .ok (.iconst 5, 1) := by decide +kernel
theorem dX10_knownHere_3 : decode cX10_knownHere 3 = .ok (.bipush 16, 2) := by decide +kernel
theorem dX10_knownHere_5 : decode cX10_knownHere 5 = .ok (.bipush 20, 2) := by decide +kernel
theorem dX10_knownHere_7 : decode cX10_knownHere 7 = .ok (.bipush 8, 2) := by decide +kernel
theorem dX10_knownHere_9 : decode cX10_knownHere 9 = .ok (.iconst 0, 1) := by decide +kernel
theorem dX10_knownHere_10 : decode cX10_knownHere 10 = .ok (.iconst 0, 1) := by decide +kernel
theorem dX10_knownHere_11 : decode cX10_knownHere 11 = .ok (.invokevirtual 236, 3) := by decide +kernel
theorem dX10_knownHere_14 : decode cX10_knownHere 14 = .ok (.ifCond .eq 5, 3) := by decide +kernel
theorem dX10_knownHere_17 : decode cX10_knownHere 17 = .ok (.iconst 0, 1) := by decide +kernel
theorem dX10_knownHere_18 : decode cX10_knownHere 18 = .ok (.ireturn, 1) := by decide +kernel
theorem dX10_knownHere_19 : decode cX10_knownHere 19 = .ok (.aload_n 0, 1) := by decide +kernel
theorem dX10_knownHere_20 : decode cX10_knownHere 20 = .ok (.bipush 12, 2) := by decide +kernel
theorem dX10_knownHere_22 : decode cX10_knownHere 22 = .ok (.bipush 15, 2) := by decide +kernel
theorem dX10_knownHere_24 : decode cX10_knownHere 24 = .ok (.bipush 19, 2) := by decide +kernel
theorem dX10_knownHere_26 : decode cX10_knownHere 26 = .ok (.bipush 20, 2) := by decide +kernel
theorem dX10_knownHere_28 : decode cX10_knownHere 28 = .ok (.iconst 0, 1) := by decide +kernel
theorem dX10_knownHere_29 : decode cX10_knownHere 29 = .ok (.iconst 0, 1) := by decide +kernel
theorem dX10_knownHere_30 : decode cX10_knownHere 30 = .ok (.iconst 0, 1) := by decide +kernel
theorem dX10_knownHere_31 : decode cX10_knownHere 31 = .ok (.invokevirtual 236, 3) := by decide +kernel
theorem dX10_knownHere_34 : decode cX10_knownHere 34 = .ok (.ifCond .eq 5, 3) := by decide +kernel
theorem dX10_knownHere_37 : decode cX10_knownHere 37 = .ok (.iconst 1, 1) := by decide +kernel
theorem dX10_knownHere_38 : decode cX10_knownHere 38 = .ok (.ireturn, 1) := by decide +kernel
theorem dX10_knownHere_39 : decode cX10_knownHere 39 = .ok (.aload_n 0, 1) := by decide +kernel
theorem dX10_knownHere_40 : decode cX10_knownHere 40 = .ok (.bipush 23, 2) := by decide +kernel
theorem dX10_knownHere_42 : decode cX10_knownHere 42 = .ok (.iconst 5, 1) := by decide +kernel
theorem dX10_knownHere_43 : decode cX10_knownHere 43 = .ok (.bipush 20, 2) := by decide +kernel
theorem dX10_knownHere_45 : decode cX10_knownHere 45 = .ok (.iconst 0, 1) := by decide +kernel
theorem dX10_knownHere_46 : decode cX10_knownHere 46 = .ok (.iconst 0, 1) := by decide +kernel
theorem dX10_knownHere_47 : decode cX10_knownHere 47 = .ok (.iconst 0, 1) := by decide +kernel
theorem dX10_knownHere_48 : decode cX10_knownHere 48 = .ok (.iconst 0, 1) := by decide +kernel
theorem dX10_knownHere_49 : decode cX10_knownHere 49 = .ok (.invokevirtual 236, 3) := by decide +kernel
theorem dX10_knownHere_52 : decode cX10_knownHere 52 = .ok (.ifCond .eq 5, 3) := by decide +kernel
theorem dX10_knownHere_55 : decode cX10_knownHere 55 = .ok (.iconst 2, 1) := by decide +kernel
theorem dX10_knownHere_56 : decode cX10_knownHere 56 = .ok (.ireturn, 1) := by decide +kernel
theorem dX10_knownHere_57 : decode cX10_knownHere 57 = .ok (.aload_n 0, 1) := by decide +kernel
theorem dX10_knownHere_58 : decode cX10_knownHere 58 = .ok (.bipush 20, 2) := by decide +kernel
theorem dX10_knownHere_60 : decode cX10_knownHere 60 = .ok (.bipush 9, 2) := by decide +kernel
theorem dX10_knownHere_62 : decode cX10_knownHere 62 = .ok (.iconst 4, 1) := by decide +kernel
theorem dX10_knownHere_63 : decode cX10_knownHere 63 = .ok (.iconst 5, 1) := by decide +kernel
theorem dX10_knownHere_64 : decode cX10_knownHere 64 = .ok (.iconst 0, 1) := by decide +kernel
theorem dX10_knownHere_65 : decode cX10_knownHere 65 = .ok (.iconst 0, 1) := by decide +kernel
theorem dX10_knownHere_66 : decode cX10_knownHere 66 = .ok (.iconst 0, 1) := by decide +kernel
theorem dX10_knownHere_67 : decode cX10_knownHere 67 = .ok (.invokevirtual 236, 3) := by decide +kernel
theorem dX10_knownHere_70 : decode cX10_knownHere 70 = .ok (.ifCond .eq 5, 3) := by decide +kernel
theorem dX10_knownHere_73 : decode cX10_knownHere 73 = .ok (.iconst 3, 1) := by decide +kernel
theorem dX10_knownHere_74 : decode cX10_knownHere 74 = .ok (.ireturn, 1) := by decide +kernel
theorem dX10_knownHere_75 : decode cX10_knownHere 75 = .ok (.aload_n 0, 1) := by decide +kernel
theorem dX10_knownHere_76 : decode cX10_knownHere 76 = .ok (.bipush 13, 2) := by decide +kernel
theorem dX10_knownHere_78 : decode cX10_knownHere 78 = .ok (.bipush 15, 2) := by decide +kernel
theorem dX10_knownHere_80 : decode cX10_knownHere 80 = .ok (.bipush 15, 2) := by decide +kernel
theorem dX10_knownHere_82 : decode cX10_knownHere 82 = .ok (.bipush 14, 2) := by decide +kernel
theorem dX10_knownHere_84 : decode cX10_knownHere 84 = .ok (.iconst 0, 1) := by decide +kernel
theorem dX10_knownHere_85 : decode cX10_knownHere 85 = .ok (.iconst 0, 1) := by decide +kernel
theorem dX10_knownHere_86 : decode cX10_knownHere 86 = .ok (.iconst 0, 1) := by decide +kernel
theorem dX10_knownHere_87 : decode cX10_knownHere 87 = .ok (.invokevirtual 236, 3) := by decide +kernel
theorem dX10_knownHere_90 : decode cX10_knownHere 90 = .ok (.ifCond .eq 5, 3) := by decide +kernel
theorem dX10_knownHere_93 : decode cX10_knownHere 93 = .ok (.iconst 4, 1) := by decide +kernel
theorem dX10_knownHere_94 : decode cX10_knownHere 94 = .ok (.ireturn, 1) := by decide +kernel
theorem dX10_knownHere_95 : decode cX10_knownHere 95 = .ok (.aload_n 0, 1) := by decide +kernel
theorem dX10_knownHere_96 : decode cX10_knownHere 96 = .ok (.bipush 18, 2) := by decide +kernel
theorem dX10_knownHere_98 : decode cX10_knownHere 98 = .ok (.iconst 5, 1) := by decide +kernel
theorem dX10_knownHere_99 : decode cX10_knownHere 99 = .ok (.bipush 14, 2) := by decide +kernel
theorem dX10_knownHere_101 : decode cX10_knownHere 101 = .ok (.bipush 20, 2) := by decide +kernel
theorem dX10_knownHere_103 : decode cX10_knownHere 103 = .ok (.iconst 0, 1) := by decide +kernel
theorem dX10_knownHere_104 : decode cX10_knownHere 104 = .ok (.iconst 0, 1) := by decide +kernel
theorem dX10_knownHere_105 : decode cX10_knownHere 105 = .ok (.iconst 0, 1) := by decide +kernel
theorem dX10_knownHere_106 : decode cX10_knownHere 106 = .ok (.invokevirtual 236, 3) := by decide +kernel
theorem dX10_knownHere_109 : decode cX10_knownHere 109 = .ok (.ifCond .eq 5, 3) := by decide +kernel
theorem dX10_knownHere_112 : decode cX10_knownHere 112 = .ok (.iconst 5, 1) := by decide +kernel
theorem dX10_knownHere_113 : decode cX10_knownHere 113 = .ok (.ireturn, 1) := by decide +kernel
theorem dX10_knownHere_114 : decode cX10_knownHere 114 = .ok (.aload_n 0, 1) := by decide +kernel
theorem dX10_knownHere_115 : decode cX10_knownHere 115 = .ok (.bipush 8, 2) := by decide +kernel
theorem dX10_knownHere_117 : decode cX10_knownHere 117 = .ok (.bipush 15, 2) := by decide +kernel
theorem dX10_knownHere_119 : decode cX10_knownHere 119 = .ok (.bipush 21, 2) := by decide +kernel
theorem dX10_knownHere_121 : decode cX10_knownHere 121 = .ok (.bipush 19, 2) := by decide +kernel
theorem dX10_knownHere_123 : decode cX10_knownHere 123 = .ok (.iconst 5, 1) := by decide +kernel
theorem dX10_knownHere_124 : decode cX10_knownHere 124 = .ok (.iconst 0, 1) := by decide +kernel
theorem dX10_knownHere_125 : decode cX10_knownHere 125 = .ok (.iconst 0, 1) := by decide +kernel
theorem dX10_knownHere_126 : decode cX10_knownHere 126 = .ok (.invokevirtual 236, 3) := by decide +kernel
theorem dX10_knownHere_129 : decode cX10_knownHere 129 = .ok (.ifCond .eq 8, 3) := by decide +kernel
theorem dX10_knownHere_132 : decode cX10_knownHere 132 = .ok (.bipush 6, 2) := by decide +kernel
theorem dX10_knownHere_134 : decode cX10_knownHere 134 = .ok (.goto 4, 3) := by decide +kernel
theorem dX10_knownHere_137 : decode cX10_knownHere 137 = .ok (.iconst (-1), 1) := by decide +kernel
theorem dX10_knownHere_138 : decode cX10_knownHere 138 = .ok (.ireturn, 1) := by decide +kernel
theorem dX10_one_0 : decode cX10_one 0 = .ok (.aload_n 0, 1) := by decide +kernel
theorem dX10_one_1 : decode cX10_one 1 = .ok (.getfield 119, 3) := by decide +kernel
theorem dX10_one_4 : decode cX10_one 4 = .ok (.ifCond .eq 4, 3) := by decide +kernel
theorem dX10_one_7 : decode cX10_one 7 = .ok (.return_, 1) := by decide +kernel
theorem dX10_one_8 : decode cX10_one 8 = .ok (.aload_n 0, 1) := by decide +kernel
theorem dX10_one_9 : decode cX10_one 9 = .ok (.invokevirtual 125, 3) := by decide +kernel
theorem dX10_one_12 : decode cX10_one 12 = .ok (.aload_n 0, 1) := by decide +kernel
theorem dX10_one_13 : decode cX10_one 13 = .ok (.bipush 12, 2) := by decide +kernel
theorem dX10_one_15 : decode cX10_one 15 = .ok (.iconst 5, 1) := by decide +kernel
theorem dX10_one_16 : decode cX10_one 16 = .ok (.iconst 1, 1) := by decide +kernel
theorem dX10_one_17 : decode cX10_one 17 = .ok (.bipush 19, 2) := by decide +kernel
theorem dX10_one_19 : decode cX10_one 19 = .ok (.bipush 20, 2) := by decide +kernel
theorem dX10_one_21 : decode cX10_one 21 = .ok (.iconst 0, 1) := by decide +kernel
theorem dX10_one_22 : decode cX10_one 22 = .ok (.iconst 0, 1) := by decide +kernel
theorem dX10_one_23 : decode cX10_one 23 = .ok (.invokevirtual 158, 3) := by decide +kernel
theorem dX10_one_26 : decode cX10_one 26 = .ok (.ifCond .eq 8, 3) := by decide +kernel
theorem dX10_one_29 : decode cX10_one 29 = .ok (.bipush 6, 2) := by decide +kernel
theorem dX10_one_31 : decode cX10_one 31 = .ok (.goto 27, 3) := by decide +kernel
theorem dX10_one_34 : decode cX10_one 34 = .ok (.aload_n 0, 1) := by decide +kernel
theorem dX10_one_35 : decode cX10_one 35 = .ok (.bipush 13, 2) := by decide +kernel
theorem dX10_one_37 : decode cX10_one 37 = .ok (.bipush 15, 2) := by decide +kernel
theorem dX10_one_39 : decode cX10_one 39 = .ok (.bipush 19, 2) := by decide +kernel
theorem dX10_one_41 : decode cX10_one 41 = .ok (.bipush 20, 2) := by decide +kernel
theorem dX10_one_43 : decode cX10_one 43 = .ok (.iconst 0, 1) := by decide +kernel
theorem dX10_one_44 : decode cX10_one 44 = .ok (.iconst 0, 1) := by decide +kernel
theorem dX10_one_45 : decode cX10_one 45 = .ok (.iconst 0, 1) := by decide +kernel
theorem dX10_one_46 : decode cX10_one 46 = .ok (.invokevirtual 158, 3) := by decide +kernel
theorem dX10_one_49 : decode cX10_one 49 = .ok (.ifCond .eq 8, 3) := by decide +kernel
theorem dX10_one_52 : decode cX10_one 52 = .ok (.bipush 7, 2) := by decide +kernel
theorem dX10_one_54 : decode cX10_one 54 = .ok (.goto 4, 3) := by decide +kernel
theorem dX10_one_57 : decode cX10_one 57 = .ok (.iconst (-1), 1) := by decide +kernel
theorem dX10_one_58 : decode cX10_one 58 = .ok (.istore_n 1, 1) := by decide +kernel
theorem dX10_one_59 : decode cX10_one 59 = .ok (.iload_n 1, 1) := by decide +kernel
theorem dX10_one_60 : decode cX10_one 60 = .ok (.iconst (-1), 1) := by decide +kernel
theorem dX10_one_61 : decode cX10_one 61 = .ok (.if_icmp .eq 58, 3) := by decide +kernel
theorem dX10_one_64 : decode cX10_one 64 = .ok (.aload_n 0, 1) := by decide +kernel
theorem dX10_one_65 : decode cX10_one 65 = .ok (.invokevirtual 239, 3) := by decide +kernel
theorem dX10_one_68 : decode cX10_one 68 = .ok (.ifCond .ne 4, 3) := by decide +kernel
theorem dX10_one_71 : decode cX10_one 71 = .ok (.return_, 1) := by decide +kernel
theorem dX10_one_72 : decode cX10_one 72 = .ok (.aload_n 0, 1) := by decide +kernel
theorem dX10_one_73 : decode cX10_one 73 = .ok (.invokevirtual 162, 3) := by decide +kernel
theorem dX10_one_76 : decode cX10_one 76 = .ok (.aload_n 0, 1) := by decide +kernel
theorem dX10_one_77 : decode cX10_one 77 = .ok (.bipush 91, 2) := by decide +kernel
theorem dX10_one_79 : decode cX10_one 79 = .ok (.invokevirtual 182, 3) := by decide +kernel
theorem dX10_one_82 : decode cX10_one 82 = .ok (.aload_n 0, 1) := by decide +kernel
theorem dX10_one_83 : decode cX10_one 83 = .ok (.invokevirtual 243, 3) := by decide +kernel
theorem dX10_one_86 : decode cX10_one 86 = .ok (.aload_n 0, 1) := by decide +kernel
theorem dX10_one_87 : decode cX10_one 87 = .ok (.bipush 44, 2) := by decide +kernel
theorem dX10_one_89 : decode cX10_one 89 = .ok (.invokevirtual 182, 3) := by decide +kernel
theorem dX10_one_92 : decode cX10_one 92 = .ok (.aload_n 0, 1) := by decide +kernel
theorem dX10_one_93 : decode cX10_one 93 = .ok (.invokevirtual 243, 3) := by decide +kernel
theorem dX10_one_96 : decode cX10_one 96 = .ok (.aload_n 0, 1) := by decide +kernel
theorem dX10_one_97 : decode cX10_one 97 = .ok (.bipush 93, 2) := by decide +kernel
theorem dX10_one_99 : decode cX10_one 99 = .ok (.invokevirtual 182, 3) := by decide +kernel
theorem dX10_one_102 : decode cX10_one 102 = .ok (.aload_n 0, 1) := by decide +kernel
theorem dX10_one_103 : decode cX10_one 103 = .ok (.iload_n 1, 1) := by decide +kernel
theorem dX10_one_104 : decode cX10_one 104 = .ok (.iconst 0, 1) := by decide +kernel
theorem dX10_one_105 : decode cX10_one 105 = .ok (.invokevirtual 230, 3) := by decide +kernel
theorem dX10_one_108 : decode cX10_one 108 = .ok (.aload_n 0, 1) := by decide +kernel
theorem dX10_one_109 : decode cX10_one 109 = .ok (.dup, 1) := by decide +kernel
theorem dX10_one_110 : decode cX10_one 110 = .ok (.getfield 168, 3) := by decide +kernel
theorem dX10_one_113 : decode cX10_one 113 = .ok (.iconst 1, 1) := by decide +kernel
theorem dX10_one_114 : decode cX10_one 114 = .ok (.isub, 1) := by decide +kernel
theorem dX10_one_115 : decode cX10_one 115 = .ok (.putfield 168, 3) := by decide +kernel
theorem dX10_one_118 : decode cX10_one 118 = .ok (.return_, 1) := by decide +kernel
theorem dX10_one_119 : decode cX10_one 119 = .ok (.aload_n 0, 1) := by decide +kernel
theorem dX10_one_120 : decode cX10_one 120 = .ok (.aload_n 0, 1) := by decide +kernel
theorem dX10_one_121 : decode cX10_one 121 = .ok (.getfield 112, 3) := by decide +kernel
theorem dX10_one_124 : decode cX10_one 124 = .ok (.invokevirtual 115, 3) := by decide +kernel
theorem dX10_one_127 : decode cX10_one 127 = .ok (.bipush 40, 2) := by decide +kernel
theorem dX10_one_129 : decode cX10_one 129 = .ok (.if_icmp .ne 42, 3) := by decide +kernel
theorem dX10_one_132 : decode cX10_one 132 = .ok (.aload_n 0, 1) := by decide +kernel
theorem dX10_one_133 : decode cX10_one 133 = .ok (.invokevirtual 239, 3) := by decide +kernel
theorem dX10_one_136 : decode cX10_one 136 = .ok (.ifCond .ne 4, 3) := by decide +kernel
theorem dX10_one_139 : decode cX10_one 139 = .ok (.return_, 1) := by decide +kernel
theorem dX10_one_140 : decode cX10_one 140 = .ok (.aload_n 0, 1) := by decide +kernel
theorem dX10_one_141 : decode cX10_one 141 = .ok (.dup, 1) := by decide +kernel
theorem dX10_one_142 : decode cX10_one 142 = .ok (.getfield 112, 3) := by decide +kernel
theorem dX10_one_145 : decode cX10_one 145 = .ok (.iconst 1, 1) := by decide +kernel
theorem dX10_one_146 : decode cX10_one 146 = .ok (.iadd, 1) := by decide +kernel
theorem dX10_one_147 : decode cX10_one 147 = .ok (.putfield 112, 3) := by decide +kernel
theorem dX10_one_150 : decode cX10_one 150 = .ok (.aload_n 0, 1) := by decide +kernel
theorem dX10_one_151 : decode cX10_one 151 = .ok (.invokevirtual 243, 3) := by decide +kernel
theorem dX10_one_154 : decode cX10_one 154 = .ok (.aload_n 0, 1) := by decide +kernel
theorem dX10_one_155 : decode cX10_one 155 = .ok (.bipush 41, 2) := by decide +kernel
theorem dX10_one_157 : decode cX10_one 157 = .ok (.invokevirtual 182, 3) := by decide +kernel
theorem dX10_one_160 : decode cX10_one 160 = .ok (.aload_n 0, 1) := by decide +kernel
theorem dX10_one_161 : decode cX10_one 161 = .ok (.dup, 1) := by decide +kernel
theorem dX10_one_162 : decode cX10_one 162 = .ok (.getfield 168, 3) := by decide +kernel
theorem dX10_one_165 : decode cX10_one 165 = .ok (.iconst 1, 1) := by decide +kernel
theorem dX10_one_166 : decode cX10_one 166 = .ok (.isub, 1) := by decide +kernel
theorem dX10_one_167 : decode cX10_one 167 = .ok (.putfield 168, 3) := by decide +kernel
theorem dX10_one_170 : decode cX10_one 170 = .ok (.return_, 1) := by decide +kernel
theorem dX10_one_171 : decode cX10_one 171 = .ok (.aload_n 0, 1) := by decide +kernel
theorem dX10_one_172 : decode cX10_one 172 = .ok (.invokevirtual 246, 3) := by decide +kernel
theorem dX10_one_175 : decode cX10_one 175 = .ok (.istore_n 2, 1) := by decide +kernel
theorem dX10_one_176 : decode cX10_one 176 = .ok (.iload_n 2, 1) := by decide +kernel
theorem dX10_one_177 : decode cX10_one 177 = .ok (.iconst (-1), 1) := by decide +kernel
theorem dX10_one_178 : decode cX10_one 178 = .ok (.if_icmp .eq 12, 3) := by decide +kernel
theorem dX10_one_181 : decode cX10_one 181 = .ok (.aload_n 0, 1) := by decide +kernel
theorem dX10_one_182 : decode cX10_one 182 = .ok (.iconst 1, 1) := by decide +kernel
theorem dX10_one_183 : decode cX10_one 183 = .ok (.iload_n 2, 1) := by decide +kernel
theorem dX10_one_184 : decode cX10_one 184 = .ok (.invokevirtual 230, 3) := by decide +kernel
theorem dX10_one_187 : decode cX10_one 187 = .ok (.goto 16, 3) := by decide +kernel
theorem dX10_one_190 : decode cX10_one 190 = .ok (.aload_n 0, 1) := by decide +kernel
theorem dX10_one_191 : decode cX10_one 191 = .ok (.iconst 0, 1) := by decide +kernel
theorem dX10_one_192 : decode cX10_one 192 = .ok (.aload_n 0, 1) := by decide +kernel
theorem dX10_one_193 : decode cX10_one 193 = .ok (.iconst 0, 1) := by decide +kernel
theorem dX10_one_194 : decode cX10_one 194 = .ok (.sipush 999, 3) := by decide +kernel
theorem dX10_one_197 : decode cX10_one 197 = .ok (.invokevirtual 178, 3) := by decide +kernel
theorem dX10_one_200 : decode cX10_one 200 = .ok (.invokevirtual 230, 3) := by decide +kernel
theorem dX10_one_203 : decode cX10_one 203 = .ok (.return_, 1) := by decide +kernel
theorem dX10_law_0 : decode cX10_law 0 = .ok (.aload_n 0, 1) := by decide +kernel
theorem dX10_law_1 : decode cX10_law 1 = .ok (.iconst 0, 1) := by decide +kernel
theorem dX10_law_2 : decode cX10_law 2 = .ok (.putfield 103, 3) := by decide +kernel
theorem dX10_law_5 : decode cX10_law 5 = .ok (.aload_n 0, 1) := by decide +kernel
theorem dX10_law_6 : decode cX10_law 6 = .ok (.iload_n 1, 1) := by decide +kernel
theorem dX10_law_7 : decode cX10_law 7 = .ok (.iconst 0, 1) := by decide +kernel
theorem dX10_law_8 : decode cX10_law 8 = .ok (.aload_n 0, 1) := by decide +kernel
theorem dX10_law_9 : decode cX10_law 9 = .ok (.getfield 106, 3) := by decide +kernel
theorem dX10_law_12 : decode cX10_law 12 = .ok (.invokestatic 137, 3) := by decide +kernel
theorem dX10_law_15 : decode cX10_law 15 = .ok (.ifCond .eq 10, 3) := by decide +kernel
theorem dX10_law_18 : decode cX10_law 18 = .ok (.iload_n 1, 1) := by decide +kernel
theorem dX10_law_19 : decode cX10_law 19 = .ok (.sipush 150, 3) := by decide +kernel
theorem dX10_law_22 : decode cX10_law 22 = .ok (.if_icmp .le 7, 3) := by decide +kernel
theorem dX10_law_25 : decode cX10_law 25 = .ok (.iconst 1, 1) := by decide +kernel
theorem dX10_law_26 : decode cX10_law 26 = .ok (.goto 4, 3) := by decide +kernel
theorem dX10_law_29 : decode cX10_law 29 = .ok (.iconst 0, 1) := by decide +kernel
theorem dX10_law_30 : decode cX10_law 30 = .ok (.iconst 1, 1) := by decide +kernel
theorem dX10_law_31 : decode cX10_law 31 = .ok (.iconst 1, 1) := by decide +kernel
theorem dX10_law_32 : decode cX10_law 32 = .ok (.invokevirtual 186, 3) := by decide +kernel
theorem dX10_law_35 : decode cX10_law 35 = .ok (.ifCond .eq 5, 3) := by decide +kernel
theorem dX10_law_38 : decode cX10_law 38 = .ok (.iconst 0, 1) := by decide +kernel
theorem dX10_law_39 : decode cX10_law 39 = .ok (.ireturn, 1) := by decide +kernel
theorem dX10_law_40 : decode cX10_law 40 = .ok (.aload_n 0, 1) := by decide +kernel
theorem dX10_law_41 : decode cX10_law 41 = .ok (.iload_n 1, 1) := by decide +kernel
theorem dX10_law_42 : decode cX10_law 42 = .ok (.invokevirtual 190, 3) := by decide +kernel
theorem dX10_law_45 : decode cX10_law 45 = .ok (.aload_n 0, 1) := by decide +kernel
theorem dX10_law_46 : decode cX10_law 46 = .ok (.iconst 0, 1) := by decide +kernel
theorem dX10_law_47 : decode cX10_law 47 = .ok (.putfield 221, 3) := by decide +kernel
theorem dX10_law_50 : decode cX10_law 50 = .ok (.aload_n 0, 1) := by decide +kernel
theorem dX10_law_51 : decode cX10_law 51 = .ok (.invokevirtual 243, 3) := by decide +kernel
theorem dX10_law_54 : decode cX10_law 54 = .ok (.aload_n 0, 1) := by decide +kernel
theorem dX10_law_55 : decode cX10_law 55 = .ok (.invokevirtual 125, 3) := by decide +kernel
theorem dX10_law_58 : decode cX10_law 58 = .ok (.aload_n 0, 1) := by decide +kernel
theorem dX10_law_59 : decode cX10_law 59 = .ok (.getfield 119, 3) := by decide +kernel
theorem dX10_law_62 : decode cX10_law 62 = .ok (.ifCond .ne 23, 3) := by decide +kernel
theorem dX10_law_65 : decode cX10_law 65 = .ok (.aload_n 0, 1) := by decide +kernel
theorem dX10_law_66 : decode cX10_law 66 = .ok (.getfield 112, 3) := by decide +kernel
theorem dX10_law_69 : decode cX10_law 69 = .ok (.aload_n 0, 1) := by decide +kernel
theorem dX10_law_70 : decode cX10_law 70 = .ok (.getfield 109, 3) := by decide +kernel
theorem dX10_law_73 : decode cX10_law 73 = .ok (.if_icmp .ge 12, 3) := by decide +kernel
theorem dX10_law_76 : decode cX10_law 76 = .ok (.aload_n 0, 1) := by decide +kernel
theorem dX10_law_77 : decode cX10_law 77 = .ok (.iconst 1, 1) := by decide +kernel
theorem dX10_law_78 : decode cX10_law 78 = .ok (.aload_n 0, 1) := by decide +kernel
theorem dX10_law_79 : decode cX10_law 79 = .ok (.getfield 112, 3) := by decide +kernel
theorem dX10_law_82 : decode cX10_law 82 = .ok (.invokevirtual 132, 3) := by decide +kernel
theorem dX10_law_85 : decode cX10_law 85 = .ok (.aload_n 0, 1) := by decide +kernel
theorem dX10_law_86 : decode cX10_law 86 = .ok (.getfield 119, 3) := by decide +kernel
theorem dX10_law_89 : decode cX10_law 89 = .ok (.ifCond .eq 8, 3) := by decide +kernel
theorem dX10_law_92 : decode cX10_law 92 = .ok (.aload_n 0, 1) := by decide +kernel
theorem dX10_law_93 : decode cX10_law 93 = .ok (.invokevirtual 196, 3) := by decide +kernel
theorem dX10_law_96 : decode cX10_law 96 = .ok (.ireturn, 1) := by decide +kernel
theorem dX10_law_97 : decode cX10_law 97 = .ok (.aload_n 0, 1) := by decide +kernel
theorem dX10_law_98 : decode cX10_law 98 = .ok (.iconst (-1), 1) := by decide +kernel
theorem dX10_law_99 : decode cX10_law 99 = .ok (.putfield 9, 3) := by decide +kernel
theorem dX10_law_102 : decode cX10_law 102 = .ok (.aload_n 0, 1) := by decide +kernel
theorem dX10_law_103 : decode cX10_law 103 = .ok (.aload_n 0, 1) := by decide +kernel
theorem dX10_law_104 : decode cX10_law 104 = .ok (.getfield 221, 3) := by decide +kernel
theorem dX10_law_107 : decode cX10_law 107 = .ok (.putfield 206, 3) := by decide +kernel
theorem dX10_law_110 : decode cX10_law 110 = .ok (.aload_n 0, 1) := by decide +kernel
theorem dX10_law_111 : decode cX10_law 111 = .ok (.getfield 55, 3) := by decide +kernel
theorem dX10_law_114 : decode cX10_law 114 = .ok (.aload_n 0, 1) := by decide +kernel
theorem dX10_law_115 : decode cX10_law 115 = .ok (.getfield 52, 3) := by decide +kernel
theorem dX10_law_118 : decode cX10_law 118 = .ok (.aload_n 0, 1) := by decide +kernel
theorem dX10_law_119 : decode cX10_law 119 = .ok (.getfield 206, 3) := by decide +kernel
theorem dX10_law_122 : decode cX10_law 122 = .ok (.invokestatic 199, 3) := by decide +kernel
theorem dX10_law_125 : decode cX10_law 125 = .ok (.iconst 1, 1) := by decide +kernel
theorem dX10_law_126 : decode cX10_law 126 = .ok (.ireturn, 1) := by decide +kernel
theorem dX10_by_0 : decode cX10_by 0 = .ok (.iload_n 0, 1) := by decide +kernel
theorem dX10_by_1 : decode cX10_by 1 = .ok (.tableswitch 75 2 6 #[35, 39, 43, 47, 69], 35) := by decide +kernel
theorem dX10_by_36 : decode cX10_by 36 = .ok (.iload_n 1, 1) := by decide +kernel
theorem dX10_by_37 : decode cX10_by 37 = .ok (.iload_n 2, 1) := by decide +kernel
theorem dX10_by_38 : decode cX10_by 38 = .ok (.iadd, 1) := by decide +kernel
theorem dX10_by_39 : decode cX10_by 39 = .ok (.ireturn, 1) := by decide +kernel
theorem dX10_by_40 : decode cX10_by 40 = .ok (.iload_n 1, 1) := by decide +kernel
theorem dX10_by_41 : decode cX10_by 41 = .ok (.iload_n 2, 1) := by decide +kernel
theorem dX10_by_42 : decode cX10_by 42 = .ok (.isub, 1) := by decide +kernel
theorem dX10_by_43 : decode cX10_by 43 = .ok (.ireturn, 1) := by decide +kernel
theorem dX10_by_44 : decode cX10_by 44 = .ok (.iload_n 1, 1) := by decide +kernel
theorem dX10_by_45 : decode cX10_by 45 = .ok (.iload_n 2, 1) := by decide +kernel
theorem dX10_by_46 : decode cX10_by 46 = .ok (.imul, 1) := by decide +kernel
theorem dX10_by_47 : decode cX10_by 47 = .ok (.ireturn, 1) := by decide +kernel
theorem dX10_by_48 : decode cX10_by 48 = .ok (.iload_n 2, 1) := by decide +kernel
theorem dX10_by_49 : decode cX10_by 49 = .ok (.ifCond .ne 7, 3) := by decide +kernel
theorem dX10_by_52 : decode cX10_by 52 = .ok (.iconst 0, 1) := by decide +kernel
theorem dX10_by_53 : decode cX10_by 53 = .ok (.goto 16, 3) := by decide +kernel
theorem dX10_by_56 : decode cX10_by 56 = .ok (.iload_n 2, 1) := by decide +kernel
theorem dX10_by_57 : decode cX10_by 57 = .ok (.iconst (-1), 1) := by decide +kernel
theorem dX10_by_58 : decode cX10_by 58 = .ok (.if_icmp .ne 8, 3) := by decide +kernel
theorem dX10_by_61 : decode cX10_by 61 = .ok (.iload_n 1, 1) := by decide +kernel
theorem dX10_by_62 : decode cX10_by 62 = .ok (.ineg, 1) := by decide +kernel
theorem dX10_by_63 : decode cX10_by 63 = .ok (.goto 6, 3) := by decide +kernel
theorem dX10_by_66 : decode cX10_by 66 = .ok (.iload_n 1, 1) := by decide +kernel
theorem dX10_by_67 : decode cX10_by 67 = .ok (.iload_n 2, 1) := by decide +kernel
theorem dX10_by_68 : decode cX10_by 68 = .ok (.idiv, 1) := by decide +kernel
theorem dX10_by_69 : decode cX10_by 69 = .ok (.ireturn, 1) := by decide +kernel
theorem dX10_by_70 : decode cX10_by 70 = .ok (.iload_n 1, 1) := by decide +kernel
theorem dX10_by_71 : decode cX10_by 71 = .ok (.iload_n 2, 1) := by decide +kernel
theorem dX10_by_72 : decode cX10_by 72 = .ok (.invokestatic 249, 3) := by decide +kernel
theorem dX10_by_75 : decode cX10_by 75 = .ok (.ireturn, 1) := by decide +kernel
theorem dX10_by_76 : decode cX10_by 76 = .ok (.iload_n 1, 1) := by decide +kernel
theorem dX10_by_77 : decode cX10_by 77 = .ok (.iload_n 2, 1) := by decide +kernel
theorem dX10_by_78 : decode cX10_by 78 = .ok (.invokestatic 252, 3) := by decide +kernel
theorem dX10_by_81 : decode cX10_by 81 = .ok (.ireturn, 1) := by decide +kernel
theorem dX10_byLaw_0 : decode cX10_byLaw 0 = .ok (.iconst 0, 1) := by decide +kernel
theorem dX10_byLaw_1 : decode cX10_byLaw 1 = .ok (.istore_n 1, 1) := by decide +kernel
theorem dX10_byLaw_2 : decode cX10_byLaw 2 = .ok (.aload_n 0, 1) := by decide +kernel
theorem dX10_byLaw_3 : decode cX10_byLaw 3 = .ok (.getfield 64, 3) := by decide +kernel
theorem dX10_byLaw_6 : decode cX10_byLaw 6 = .ok (.iconst 0, 1) := by decide +kernel
theorem dX10_byLaw_7 : decode cX10_byLaw 7 = .ok (.aload_n 0, 1) := by decide +kernel
theorem dX10_byLaw_8 : decode cX10_byLaw 8 = .ok (.getfield 67, 3) := by decide +kernel
theorem dX10_byLaw_11 : decode cX10_byLaw 11 = .ok (.iconst 0, 1) := by decide +kernel
theorem dX10_byLaw_12 : decode cX10_byLaw 12 = .ok (.iaload, 1) := by decide +kernel
theorem dX10_byLaw_13 : decode cX10_byLaw 13 = .ok (.iconst 4, 1) := by decide +kernel
theorem dX10_byLaw_14 : decode cX10_byLaw 14 = .ok (.idiv, 1) := by decide +kernel
theorem dX10_byLaw_15 : decode cX10_byLaw 15 = .ok (.iconst 3, 1) := by decide +kernel
theorem dX10_byLaw_16 : decode cX10_byLaw 16 = .ok (.aload_n 0, 1) := by decide +kernel
theorem dX10_byLaw_17 : decode cX10_byLaw 17 = .ok (.getfield 67, 3) := by decide +kernel
theorem dX10_byLaw_20 : decode cX10_byLaw 20 = .ok (.iconst 1, 1) := by decide +kernel
theorem dX10_byLaw_21 : decode cX10_byLaw 21 = .ok (.iaload, 1) := by decide +kernel
theorem dX10_byLaw_22 : decode cX10_byLaw 22 = .ok (.imul, 1) := by decide +kernel
theorem dX10_byLaw_23 : decode cX10_byLaw 23 = .ok (.iadd, 1) := by decide +kernel
theorem dX10_byLaw_24 : decode cX10_byLaw 24 = .ok (.aload_n 0, 1) := by decide +kernel
theorem dX10_byLaw_25 : decode cX10_byLaw 25 = .ok (.getfield 67, 3) := by decide +kernel
theorem dX10_byLaw_28 : decode cX10_byLaw 28 = .ok (.iconst 5, 1) := by decide +kernel
theorem dX10_byLaw_29 : decode cX10_byLaw 29 = .ok (.iaload, 1) := by decide +kernel
theorem dX10_byLaw_30 : decode cX10_byLaw 30 = .ok (.isub, 1) := by decide +kernel
theorem dX10_byLaw_31 : decode cX10_byLaw 31 = .ok (.iastore, 1) := by decide +kernel
theorem dX10_byLaw_32 : decode cX10_byLaw 32 = .ok (.iconst 0, 1) := by decide +kernel
theorem dX10_byLaw_33 : decode cX10_byLaw 33 = .ok (.istore_n 2, 1) := by decide +kernel
theorem dX10_byLaw_34 : decode cX10_byLaw 34 = .ok (.iload_n 2, 1) := by decide +kernel
theorem dX10_byLaw_35 : decode cX10_byLaw 35 = .ok (.aload_n 0, 1) := by decide +kernel
theorem dX10_byLaw_36 : decode cX10_byLaw 36 = .ok (.getfield 206, 3) := by decide +kernel
theorem dX10_byLaw_39 : decode cX10_byLaw 39 = .ok (.if_icmp .ge 104, 3) := by decide +kernel
theorem dX10_byLaw_42 : decode cX10_byLaw 42 = .ok (.aload_n 0, 1) := by decide +kernel
theorem dX10_byLaw_43 : decode cX10_byLaw 43 = .ok (.getfield 52, 3) := by decide +kernel
theorem dX10_byLaw_46 : decode cX10_byLaw 46 = .ok (.iload_n 2, 1) := by decide +kernel
theorem dX10_byLaw_47 : decode cX10_byLaw 47 = .ok (.aaload, 1) := by decide +kernel
theorem dX10_byLaw_48 : decode cX10_byLaw 48 = .ok (.iconst 0, 1) := by decide +kernel
theorem dX10_byLaw_49 : decode cX10_byLaw 49 = .ok (.iaload, 1) := by decide +kernel
theorem dX10_byLaw_50 : decode cX10_byLaw 50 = .ok (.iconst 2, 1) := by decide +kernel
theorem dX10_byLaw_51 : decode cX10_byLaw 51 = .ok (.if_icmp .ge 50, 3) := by decide +kernel
theorem dX10_byLaw_54 : decode cX10_byLaw 54 = .ok (.aload_n 0, 1) := by decide +kernel
theorem dX10_byLaw_55 : decode cX10_byLaw 55 = .ok (.getfield 64, 3) := by decide +kernel
theorem dX10_byLaw_58 : decode cX10_byLaw 58 = .ok (.iload_n 1, 1) := by decide +kernel
theorem dX10_byLaw_59 : decode cX10_byLaw 59 = .ok (.aload_n 0, 1) := by decide +kernel
theorem dX10_byLaw_60 : decode cX10_byLaw 60 = .ok (.getfield 52, 3) := by decide +kernel
theorem dX10_byLaw_63 : decode cX10_byLaw 63 = .ok (.iload_n 2, 1) := by decide +kernel
theorem dX10_byLaw_64 : decode cX10_byLaw 64 = .ok (.aaload, 1) := by decide +kernel
theorem dX10_byLaw_65 : decode cX10_byLaw 65 = .ok (.iconst 0, 1) := by decide +kernel
theorem dX10_byLaw_66 : decode cX10_byLaw 66 = .ok (.iaload, 1) := by decide +kernel
theorem dX10_byLaw_67 : decode cX10_byLaw 67 = .ok (.ifCond .ne 14, 3) := by decide +kernel
theorem dX10_byLaw_70 : decode cX10_byLaw 70 = .ok (.aload_n 0, 1) := by decide +kernel
theorem dX10_byLaw_71 : decode cX10_byLaw 71 = .ok (.getfield 52, 3) := by decide +kernel
theorem dX10_byLaw_74 : decode cX10_byLaw 74 = .ok (.iload_n 2, 1) := by decide +kernel
theorem dX10_byLaw_75 : decode cX10_byLaw 75 = .ok (.aaload, 1) := by decide +kernel
theorem dX10_byLaw_76 : decode cX10_byLaw 76 = .ok (.iconst 1, 1) := by decide +kernel
theorem dX10_byLaw_77 : decode cX10_byLaw 77 = .ok (.iaload, 1) := by decide +kernel
theorem dX10_byLaw_78 : decode cX10_byLaw 78 = .ok (.goto 16, 3) := by decide +kernel
theorem dX10_byLaw_81 : decode cX10_byLaw 81 = .ok (.aload_n 0, 1) := by decide +kernel
theorem dX10_byLaw_82 : decode cX10_byLaw 82 = .ok (.getfield 67, 3) := by decide +kernel
theorem dX10_byLaw_85 : decode cX10_byLaw 85 = .ok (.aload_n 0, 1) := by decide +kernel
theorem dX10_byLaw_86 : decode cX10_byLaw 86 = .ok (.getfield 52, 3) := by decide +kernel
theorem dX10_byLaw_89 : decode cX10_byLaw 89 = .ok (.iload_n 2, 1) := by decide +kernel
theorem dX10_byLaw_90 : decode cX10_byLaw 90 = .ok (.aaload, 1) := by decide +kernel
theorem dX10_byLaw_91 : decode cX10_byLaw 91 = .ok (.iconst 1, 1) := by decide +kernel
theorem dX10_byLaw_92 : decode cX10_byLaw 92 = .ok (.iaload, 1) := by decide +kernel
theorem dX10_byLaw_93 : decode cX10_byLaw 93 = .ok (.iaload, 1) := by decide +kernel
theorem dX10_byLaw_94 : decode cX10_byLaw 94 = .ok (.iastore, 1) := by decide +kernel
theorem dX10_byLaw_95 : decode cX10_byLaw 95 = .ok (.iinc 1 1, 3) := by decide +kernel
theorem dX10_byLaw_98 : decode cX10_byLaw 98 = .ok (.goto 39, 3) := by decide +kernel
theorem dX10_byLaw_101 : decode cX10_byLaw 101 = .ok (.iinc 1 (-1), 3) := by decide +kernel
theorem dX10_byLaw_104 : decode cX10_byLaw 104 = .ok (.aload_n 0, 1) := by decide +kernel
theorem dX10_byLaw_105 : decode cX10_byLaw 105 = .ok (.getfield 64, 3) := by decide +kernel
theorem dX10_byLaw_108 : decode cX10_byLaw 108 = .ok (.iload_n 1, 1) := by decide +kernel
theorem dX10_byLaw_109 : decode cX10_byLaw 109 = .ok (.iconst 1, 1) := by decide +kernel
theorem dX10_byLaw_110 : decode cX10_byLaw 110 = .ok (.isub, 1) := by decide +kernel
theorem dX10_byLaw_111 : decode cX10_byLaw 111 = .ok (.aload_n 0, 1) := by decide +kernel
theorem dX10_byLaw_112 : decode cX10_byLaw 112 = .ok (.getfield 52, 3) := by decide +kernel
theorem dX10_byLaw_115 : decode cX10_byLaw 115 = .ok (.iload_n 2, 1) := by decide +kernel
theorem dX10_byLaw_116 : decode cX10_byLaw 116 = .ok (.aaload, 1) := by decide +kernel
theorem dX10_byLaw_117 : decode cX10_byLaw 117 = .ok (.iconst 0, 1) := by decide +kernel
theorem dX10_byLaw_118 : decode cX10_byLaw 118 = .ok (.iaload, 1) := by decide +kernel
theorem dX10_byLaw_119 : decode cX10_byLaw 119 = .ok (.aload_n 0, 1) := by decide +kernel
theorem dX10_byLaw_120 : decode cX10_byLaw 120 = .ok (.getfield 64, 3) := by decide +kernel
theorem dX10_byLaw_123 : decode cX10_byLaw 123 = .ok (.iload_n 1, 1) := by decide +kernel
theorem dX10_byLaw_124 : decode cX10_byLaw 124 = .ok (.iconst 1, 1) := by decide +kernel
theorem dX10_byLaw_125 : decode cX10_byLaw 125 = .ok (.isub, 1) := by decide +kernel
theorem dX10_byLaw_126 : decode cX10_byLaw 126 = .ok (.iaload, 1) := by decide +kernel
theorem dX10_byLaw_127 : decode cX10_byLaw 127 = .ok (.aload_n 0, 1) := by decide +kernel
theorem dX10_byLaw_128 : decode cX10_byLaw 128 = .ok (.getfield 64, 3) := by decide +kernel
theorem dX10_byLaw_131 : decode cX10_byLaw 131 = .ok (.iload_n 1, 1) := by decide +kernel
theorem dX10_byLaw_132 : decode cX10_byLaw 132 = .ok (.iaload, 1) := by decide +kernel
theorem dX10_byLaw_133 : decode cX10_byLaw 133 = .ok (.invokestatic 255, 3) := by decide +kernel
theorem dX10_byLaw_136 : decode cX10_byLaw 136 = .ok (.iastore, 1) := by decide +kernel
theorem dX10_byLaw_137 : decode cX10_byLaw 137 = .ok (.iinc 2 1, 3) := by decide +kernel
theorem dX10_byLaw_140 : decode cX10_byLaw 140 = .ok (.goto (-106), 3) := by decide +kernel
theorem dX10_byLaw_143 : decode cX10_byLaw 143 = .ok (.bipush 99, 2) := by decide +kernel
theorem dX10_byLaw_145 : decode cX10_byLaw 145 = .ok (.iconst 0, 1) := by decide +kernel
theorem dX10_byLaw_146 : decode cX10_byLaw 146 = .ok (.aload_n 0, 1) := by decide +kernel
theorem dX10_byLaw_147 : decode cX10_byLaw 147 = .ok (.getfield 64, 3) := by decide +kernel
theorem dX10_byLaw_150 : decode cX10_byLaw 150 = .ok (.iconst 0, 1) := by decide +kernel
theorem dX10_byLaw_151 : decode cX10_byLaw 151 = .ok (.iaload, 1) := by decide +kernel
theorem dX10_byLaw_152 : decode cX10_byLaw 152 = .ok (.invokestatic 252, 3) := by decide +kernel
theorem dX10_byLaw_155 : decode cX10_byLaw 155 = .ok (.invokestatic 249, 3) := by decide +kernel
theorem dX10_byLaw_158 : decode cX10_byLaw 158 = .ok (.ireturn, 1) := by decide +kernel
theorem dX10_stepHere_0 : decode cX10_stepHere 0 = .ok (.aload_n 0, 1) := by decide +kernel
theorem dX10_stepHere_1 : decode cX10_stepHere 1 = .ok (.bipush 12, 2) := by decide +kernel
theorem dX10_stepHere_3 : decode cX10_stepHere 3 = .ok (.bipush 9, 2) := by decide +kernel
theorem dX10_stepHere_5 : decode cX10_stepHere 5 = .ok (.bipush 6, 2) := by decide +kernel
theorem dX10_stepHere_7 : decode cX10_stepHere 7 = .ok (.bipush 20, 2) := by decide +kernel
theorem dX10_stepHere_9 : decode cX10_stepHere 9 = .ok (.iconst 0, 1) := by decide +kernel
theorem dX10_stepHere_10 : decode cX10_stepHere 10 = .ok (.iconst 0, 1) := by decide +kernel
theorem dX10_stepHere_11 : decode cX10_stepHere 11 = .ok (.iconst 0, 1) := by decide +kernel
theorem dX10_stepHere_12 : decode cX10_stepHere 12 = .ok (.invokevirtual 158, 3) := by decide +kernel
theorem dX10_stepHere_15 : decode cX10_stepHere 15 = .ok (.ifCond .eq 5, 3) := by decide +kernel
theorem dX10_stepHere_18 : decode cX10_stepHere 18 = .ok (.iconst 0, 1) := by decide +kernel
theorem dX10_stepHere_19 : decode cX10_stepHere 19 = .ok (.ireturn, 1) := by decide +kernel
theorem dX10_stepHere_20 : decode cX10_stepHere 20 = .ok (.aload_n 0, 1) := by decide +kernel
theorem dX10_stepHere_21 : decode cX10_stepHere 21 = .ok (.bipush 12, 2) := by decide +kernel
theorem dX10_stepHere_23 : decode cX10_stepHere 23 = .ok (.bipush 15, 2) := by decide +kernel
theorem dX10_stepHere_25 : decode cX10_stepHere 25 = .ok (.bipush 23, 2) := by decide +kernel
theorem dX10_stepHere_27 : decode cX10_stepHere 27 = .ok (.iconst 5, 1) := by decide +kernel
theorem dX10_stepHere_28 : decode cX10_stepHere 28 = .ok (.bipush 18, 2) := by decide +kernel
theorem dX10_stepHere_30 : decode cX10_stepHere 30 = .ok (.iconst 0, 1) := by decide +kernel
theorem dX10_stepHere_31 : decode cX10_stepHere 31 = .ok (.iconst 0, 1) := by decide +kernel
theorem dX10_stepHere_32 : decode cX10_stepHere 32 = .ok (.invokevirtual 158, 3) := by decide +kernel
theorem dX10_stepHere_35 : decode cX10_stepHere 35 = .ok (.ifCond .eq 5, 3) := by decide +kernel
theorem dX10_stepHere_38 : decode cX10_stepHere 38 = .ok (.iconst 1, 1) := by decide +kernel
theorem dX10_stepHere_39 : decode cX10_stepHere 39 = .ok (.ireturn, 1) := by decide +kernel
theorem dX10_stepHere_40 : decode cX10_stepHere 40 = .ok (.aload_n 0, 1) := by decide +kernel
theorem dX10_stepHere_41 : decode cX10_stepHere 41 = .ok (.bipush 20, 2) := by decide +kernel
theorem dX10_stepHere_43 : decode cX10_stepHere 43 = .ok (.bipush 9, 2) := by decide +kernel
theorem dX10_stepHere_45 : decode cX10_stepHere 45 = .ok (.iconst 5, 1) := by decide +kernel
theorem dX10_stepHere_46 : decode cX10_stepHere 46 = .ok (.iconst 0, 1) := by decide +kernel
theorem dX10_stepHere_47 : decode cX10_stepHere 47 = .ok (.iconst 0, 1) := by decide +kernel
theorem dX10_stepHere_48 : decode cX10_stepHere 48 = .ok (.iconst 0, 1) := by decide +kernel
theorem dX10_stepHere_49 : decode cX10_stepHere 49 = .ok (.iconst 0, 1) := by decide +kernel
theorem dX10_stepHere_50 : decode cX10_stepHere 50 = .ok (.invokevirtual 158, 3) := by decide +kernel
theorem dX10_stepHere_53 : decode cX10_stepHere 53 = .ok (.ifCond .eq 5, 3) := by decide +kernel
theorem dX10_stepHere_56 : decode cX10_stepHere 56 = .ok (.iconst 2, 1) := by decide +kernel
theorem dX10_stepHere_57 : decode cX10_stepHere 57 = .ok (.ireturn, 1) := by decide +kernel
theorem dX10_stepHere_58 : decode cX10_stepHere 58 = .ok (.aload_n 0, 1) := by decide +kernel
theorem dX10_stepHere_59 : decode cX10_stepHere 59 = .ok (.bipush 21, 2) := by decide +kernel
theorem dX10_stepHere_61 : decode cX10_stepHere 61 = .ok (.bipush 14, 2) := by decide +kernel
theorem dX10_stepHere_63 : decode cX10_stepHere 63 = .ok (.bipush 20, 2) := by decide +kernel
theorem dX10_stepHere_65 : decode cX10_stepHere 65 = .ok (.bipush 9, 2) := by decide +kernel
theorem dX10_stepHere_67 : decode cX10_stepHere 67 = .ok (.iconst 5, 1) := by decide +kernel
theorem dX10_stepHere_68 : decode cX10_stepHere 68 = .ok (.iconst 0, 1) := by decide +kernel
theorem dX10_stepHere_69 : decode cX10_stepHere 69 = .ok (.iconst 0, 1) := by decide +kernel
theorem dX10_stepHere_70 : decode cX10_stepHere 70 = .ok (.invokevirtual 158, 3) := by decide +kernel
theorem dX10_stepHere_73 : decode cX10_stepHere 73 = .ok (.ifCond .eq 5, 3) := by decide +kernel
theorem dX10_stepHere_76 : decode cX10_stepHere 76 = .ok (.iconst 3, 1) := by decide +kernel
theorem dX10_stepHere_77 : decode cX10_stepHere 77 = .ok (.ireturn, 1) := by decide +kernel
theorem dX10_stepHere_78 : decode cX10_stepHere 78 = .ok (.aload_n 0, 1) := by decide +kernel
theorem dX10_stepHere_79 : decode cX10_stepHere 79 = .ok (.iconst 2, 1) := by decide +kernel
theorem dX10_stepHere_80 : decode cX10_stepHere 80 = .ok (.iconst 1, 1) := by decide +kernel
theorem dX10_stepHere_81 : decode cX10_stepHere 81 = .ok (.bipush 7, 2) := by decide +kernel
theorem dX10_stepHere_83 : decode cX10_stepHere 83 = .ok (.iconst 0, 1) := by decide +kernel
theorem dX10_stepHere_84 : decode cX10_stepHere 84 = .ok (.iconst 0, 1) := by decide +kernel
theorem dX10_stepHere_85 : decode cX10_stepHere 85 = .ok (.iconst 0, 1) := by decide +kernel
theorem dX10_stepHere_86 : decode cX10_stepHere 86 = .ok (.iconst 0, 1) := by decide +kernel
theorem dX10_stepHere_87 : decode cX10_stepHere 87 = .ok (.invokevirtual 158, 3) := by decide +kernel
theorem dX10_stepHere_90 : decode cX10_stepHere 90 = .ok (.ifCond .eq 5, 3) := by decide +kernel
theorem dX10_stepHere_93 : decode cX10_stepHere 93 = .ok (.iconst 4, 1) := by decide +kernel
theorem dX10_stepHere_94 : decode cX10_stepHere 94 = .ok (.ireturn, 1) := by decide +kernel
theorem dX10_stepHere_95 : decode cX10_stepHere 95 = .ok (.aload_n 0, 1) := by decide +kernel
theorem dX10_stepHere_96 : decode cX10_stepHere 96 = .ok (.bipush 20, 2) := by decide +kernel
theorem dX10_stepHere_98 : decode cX10_stepHere 98 = .ok (.bipush 9, 2) := by decide +kernel
theorem dX10_stepHere_100 : decode cX10_stepHere 100 = .ok (.iconst 4, 1) := by decide +kernel
theorem dX10_stepHere_101 : decode cX10_stepHere 101 = .ok (.iconst 5, 1) := by decide +kernel
theorem dX10_stepHere_102 : decode cX10_stepHere 102 = .ok (.iconst 0, 1) := by decide +kernel
theorem dX10_stepHere_103 : decode cX10_stepHere 103 = .ok (.iconst 0, 1) := by decide +kernel
theorem dX10_stepHere_104 : decode cX10_stepHere 104 = .ok (.iconst 0, 1) := by decide +kernel
theorem dX10_stepHere_105 : decode cX10_stepHere 105 = .ok (.invokevirtual 158, 3) := by decide +kernel
theorem dX10_stepHere_108 : decode cX10_stepHere 108 = .ok (.ifCond .eq 5, 3) := by decide +kernel
theorem dX10_stepHere_111 : decode cX10_stepHere 111 = .ok (.iconst 5, 1) := by decide +kernel
theorem dX10_stepHere_112 : decode cX10_stepHere 112 = .ok (.ireturn, 1) := by decide +kernel
theorem dX10_stepHere_113 : decode cX10_stepHere 113 = .ok (.aload_n 0, 1) := by decide +kernel
theorem dX10_stepHere_114 : decode cX10_stepHere 114 = .ok (.iconst 1, 1) := by decide +kernel
theorem dX10_stepHere_115 : decode cX10_stepHere 115 = .ok (.bipush 7, 2) := by decide +kernel
theorem dX10_stepHere_117 : decode cX10_stepHere 117 = .ok (.iconst 1, 1) := by decide +kernel
theorem dX10_stepHere_118 : decode cX10_stepHere 118 = .ok (.bipush 9, 2) := by decide +kernel
theorem dX10_stepHere_120 : decode cX10_stepHere 120 = .ok (.bipush 14, 2) := by decide +kernel
theorem dX10_stepHere_122 : decode cX10_stepHere 122 = .ok (.iconst 0, 1) := by decide +kernel
theorem dX10_stepHere_123 : decode cX10_stepHere 123 = .ok (.iconst 0, 1) := by decide +kernel
theorem dX10_stepHere_124 : decode cX10_stepHere 124 = .ok (.invokevirtual 158, 3) := by decide +kernel
theorem dX10_stepHere_127 : decode cX10_stepHere 127 = .ok (.ifCond .eq 8, 3) := by decide +kernel
theorem dX10_stepHere_130 : decode cX10_stepHere 130 = .ok (.bipush 6, 2) := by decide +kernel
theorem dX10_stepHere_132 : decode cX10_stepHere 132 = .ok (.goto 4, 3) := by decide +kernel
theorem dX10_stepHere_135 : decode cX10_stepHere 135 = .ok (.iconst (-1), 1) := by decide +kernel
theorem dX10_stepHere_136 : decode cX10_stepHere 136 = .ok (.ireturn, 1) := by decide +kernel
theorem dX10_readsStep_0 : decode cX10_readsStep 0 = .ok (.aload_n 0, 1) := by decide +kernel
theorem dX10_readsStep_1 : decode cX10_readsStep 1 = .ok (.invokevirtual 259, 3) := by decide +kernel
theorem dX10_readsStep_4 : decode cX10_readsStep 4 = .ok (.istore_n 1, 1) := by decide +kernel
theorem dX10_readsStep_5 : decode cX10_readsStep 5 = .ok (.iload_n 1, 1) := by decide +kernel
theorem dX10_readsStep_6 : decode cX10_readsStep 6 = .ok (.iconst (-1), 1) := by decide +kernel
theorem dX10_readsStep_7 : decode cX10_readsStep 7 = .ok (.if_icmp .ne 12, 3) := by decide +kernel
theorem dX10_readsStep_10 : decode cX10_readsStep 10 = .ok (.aload_n 0, 1) := by decide +kernel
theorem dX10_readsStep_11 : decode cX10_readsStep 11 = .ok (.iconst 1, 1) := by decide +kernel
theorem dX10_readsStep_12 : decode cX10_readsStep 12 = .ok (.aload_n 0, 1) := by decide +kernel
theorem dX10_readsStep_13 : decode cX10_readsStep 13 = .ok (.getfield 112, 3) := by decide +kernel
theorem dX10_readsStep_16 : decode cX10_readsStep 16 = .ok (.invokevirtual 132, 3) := by decide +kernel
theorem dX10_readsStep_19 : decode cX10_readsStep 19 = .ok (.iload_n 1, 1) := by decide +kernel
theorem dX10_readsStep_20 : decode cX10_readsStep 20 = .ok (.bipush 6, 2) := by decide +kernel
theorem dX10_readsStep_22 : decode cX10_readsStep 22 = .ok (.if_icmp .ne 11, 3) := by decide +kernel
theorem dX10_readsStep_25 : decode cX10_readsStep 25 = .ok (.aload_n 0, 1) := by decide +kernel
theorem dX10_readsStep_26 : decode cX10_readsStep 26 = .ok (.invokevirtual 239, 3) := by decide +kernel
theorem dX10_readsStep_29 : decode cX10_readsStep 29 = .ok (.ifCond .ne 4, 3) := by decide +kernel
theorem dX10_readsStep_32 : decode cX10_readsStep 32 = .ok (.return_, 1) := by decide +kernel
theorem dX10_readsStep_33 : decode cX10_readsStep 33 = .ok (.aload_n 0, 1) := by decide +kernel
theorem dX10_readsStep_34 : decode cX10_readsStep 34 = .ok (.getfield 119, 3) := by decide +kernel
theorem dX10_readsStep_37 : decode cX10_readsStep 37 = .ok (.ifCond .eq 4, 3) := by decide +kernel
theorem dX10_readsStep_40 : decode cX10_readsStep 40 = .ok (.return_, 1) := by decide +kernel
theorem dX10_readsStep_41 : decode cX10_readsStep 41 = .ok (.aload_n 0, 1) := by decide +kernel
theorem dX10_readsStep_42 : decode cX10_readsStep 42 = .ok (.invokevirtual 162, 3) := by decide +kernel
theorem dX10_readsStep_45 : decode cX10_readsStep 45 = .ok (.aload_n 0, 1) := by decide +kernel
theorem dX10_readsStep_46 : decode cX10_readsStep 46 = .ok (.getfield 70, 3) := by decide +kernel
theorem dX10_readsStep_49 : decode cX10_readsStep 49 = .ok (.aload_n 0, 1) := by decide +kernel
theorem dX10_readsStep_50 : decode cX10_readsStep 50 = .ok (.getfield 262, 3) := by decide +kernel
theorem dX10_readsStep_53 : decode cX10_readsStep 53 = .ok (.aaload, 1) := by decide +kernel
theorem dX10_readsStep_54 : decode cX10_readsStep 54 = .ok (.astore_n 2, 1) := by decide +kernel
theorem dX10_readsStep_55 : decode cX10_readsStep 55 = .ok (.aload_n 0, 1) := by decide +kernel
theorem dX10_readsStep_56 : decode cX10_readsStep 56 = .ok (.dup, 1) := by decide +kernel
theorem dX10_readsStep_57 : decode cX10_readsStep 57 = .ok (.getfield 262, 3) := by decide +kernel
theorem dX10_readsStep_60 : decode cX10_readsStep 60 = .ok (.iconst 1, 1) := by decide +kernel
theorem dX10_readsStep_61 : decode cX10_readsStep 61 = .ok (.iadd, 1) := by decide +kernel
theorem dX10_readsStep_62 : decode cX10_readsStep 62 = .ok (.putfield 262, 3) := by decide +kernel
theorem dX10_readsStep_65 : decode cX10_readsStep 65 = .ok (.aload_n 2, 1) := by decide +kernel
theorem dX10_readsStep_66 : decode cX10_readsStep 66 = .ok (.iconst 0, 1) := by decide +kernel
theorem dX10_readsStep_67 : decode cX10_readsStep 67 = .ok (.iload_n 1, 1) := by decide +kernel
theorem dX10_readsStep_68 : decode cX10_readsStep 68 = .ok (.iastore, 1) := by decide +kernel
theorem dX10_readsStep_69 : decode cX10_readsStep 69 = .ok (.iload_n 1, 1) := by decide +kernel
theorem dX10_readsStep_70 : decode cX10_readsStep 70 = .ok (.iconst 4, 1) := by decide +kernel
theorem dX10_readsStep_71 : decode cX10_readsStep 71 = .ok (.if_icmp .ge 19, 3) := by decide +kernel
theorem dX10_readsStep_74 : decode cX10_readsStep 74 = .ok (.aload_n 2, 1) := by decide +kernel
theorem dX10_readsStep_75 : decode cX10_readsStep 75 = .ok (.iconst 1, 1) := by decide +kernel
theorem dX10_readsStep_76 : decode cX10_readsStep 76 = .ok (.aload_n 0, 1) := by decide +kernel
theorem dX10_readsStep_77 : decode cX10_readsStep 77 = .ok (.iconst 0, 1) := by decide +kernel
theorem dX10_readsStep_78 : decode cX10_readsStep 78 = .ok (.aload_n 0, 1) := by decide +kernel
theorem dX10_readsStep_79 : decode cX10_readsStep 79 = .ok (.getfield 23, 3) := by decide +kernel
theorem dX10_readsStep_82 : decode cX10_readsStep 82 = .ok (.iconst 1, 1) := by decide +kernel
theorem dX10_readsStep_83 : decode cX10_readsStep 83 = .ok (.iaload, 1) := by decide +kernel
theorem dX10_readsStep_84 : decode cX10_readsStep 84 = .ok (.iconst 1, 1) := by decide +kernel
theorem dX10_readsStep_85 : decode cX10_readsStep 85 = .ok (.isub, 1) := by decide +kernel
theorem dX10_readsStep_86 : decode cX10_readsStep 86 = .ok (.invokevirtual 178, 3) := by decide +kernel
theorem dX10_readsStep_89 : decode cX10_readsStep 89 = .ok (.iastore, 1) := by decide +kernel
theorem dX10_readsStep_90 : decode cX10_readsStep 90 = .ok (.iload_n 1, 1) := by decide +kernel
theorem dX10_readsStep_91 : decode cX10_readsStep 91 = .ok (.iconst 4, 1) := by decide +kernel
theorem dX10_readsStep_92 : decode cX10_readsStep 92 = .ok (.if_icmp .ne 19, 3) := by decide +kernel
theorem dX10_readsStep_95 : decode cX10_readsStep 95 = .ok (.aload_n 2, 1) := by decide +kernel
theorem dX10_readsStep_96 : decode cX10_readsStep 96 = .ok (.iconst 1, 1) := by decide +kernel
theorem dX10_readsStep_97 : decode cX10_readsStep 97 = .ok (.aload_n 0, 1) := by decide +kernel
theorem dX10_readsStep_98 : decode cX10_readsStep 98 = .ok (.iconst 0, 1) := by decide +kernel
theorem dX10_readsStep_99 : decode cX10_readsStep 99 = .ok (.aload_n 0, 1) := by decide +kernel
theorem dX10_readsStep_100 : decode cX10_readsStep 100 = .ok (.getfield 23, 3) := by decide +kernel
theorem dX10_readsStep_103 : decode cX10_readsStep 103 = .ok (.iconst 0, 1) := by decide +kernel
theorem dX10_readsStep_104 : decode cX10_readsStep 104 = .ok (.iaload, 1) := by decide +kernel
theorem dX10_readsStep_105 : decode cX10_readsStep 105 = .ok (.iconst 1, 1) := by decide +kernel
theorem dX10_readsStep_106 : decode cX10_readsStep 106 = .ok (.isub, 1) := by decide +kernel
theorem dX10_readsStep_107 : decode cX10_readsStep 107 = .ok (.invokevirtual 178, 3) := by decide +kernel
theorem dX10_readsStep_110 : decode cX10_readsStep 110 = .ok (.iastore, 1) := by decide +kernel
theorem dX10_readsStep_111 : decode cX10_readsStep 111 = .ok (.iload_n 1, 1) := by decide +kernel
theorem dX10_readsStep_112 : decode cX10_readsStep 112 = .ok (.bipush 6, 2) := by decide +kernel
theorem dX10_readsStep_114 : decode cX10_readsStep 114 = .ok (.if_icmp .ne 70, 3) := by decide +kernel
theorem dX10_readsStep_117 : decode cX10_readsStep 117 = .ok (.aload_n 2, 1) := by decide +kernel
theorem dX10_readsStep_118 : decode cX10_readsStep 118 = .ok (.iconst 1, 1) := by decide +kernel
theorem dX10_readsStep_119 : decode cX10_readsStep 119 = .ok (.aload_n 0, 1) := by decide +kernel
theorem dX10_readsStep_120 : decode cX10_readsStep 120 = .ok (.iconst 0, 1) := by decide +kernel
theorem dX10_readsStep_121 : decode cX10_readsStep 121 = .ok (.bipush 20, 2) := by decide +kernel
theorem dX10_readsStep_123 : decode cX10_readsStep 123 = .ok (.invokevirtual 178, 3) := by decide +kernel
theorem dX10_readsStep_126 : decode cX10_readsStep 126 = .ok (.iastore, 1) := by decide +kernel
theorem dX10_readsStep_127 : decode cX10_readsStep 127 = .ok (.aload_n 0, 1) := by decide +kernel
theorem dX10_readsStep_128 : decode cX10_readsStep 128 = .ok (.bipush 91, 2) := by decide +kernel
theorem dX10_readsStep_130 : decode cX10_readsStep 130 = .ok (.invokevirtual 182, 3) := by decide +kernel
theorem dX10_readsStep_133 : decode cX10_readsStep 133 = .ok (.aload_n 0, 1) := by decide +kernel
theorem dX10_readsStep_134 : decode cX10_readsStep 134 = .ok (.invokevirtual 125, 3) := by decide +kernel
theorem dX10_readsStep_137 : decode cX10_readsStep 137 = .ok (.aload_n 0, 1) := by decide +kernel
theorem dX10_readsStep_138 : decode cX10_readsStep 138 = .ok (.getfield 119, 3) := by decide +kernel
theorem dX10_readsStep_141 : decode cX10_readsStep 141 = .ok (.ifCond .ne 27, 3) := by decide +kernel
theorem dX10_readsStep_144 : decode cX10_readsStep 144 = .ok (.aload_n 0, 1) := by decide +kernel
theorem dX10_readsStep_145 : decode cX10_readsStep 145 = .ok (.aload_n 0, 1) := by decide +kernel
theorem dX10_readsStep_146 : decode cX10_readsStep 146 = .ok (.getfield 112, 3) := by decide +kernel
theorem dX10_readsStep_149 : decode cX10_readsStep 149 = .ok (.invokevirtual 115, 3) := by decide +kernel
theorem dX10_readsStep_152 : decode cX10_readsStep 152 = .ok (.bipush 93, 2) := by decide +kernel
theorem dX10_readsStep_154 : decode cX10_readsStep 154 = .ok (.if_icmp .eq 14, 3) := by decide +kernel
theorem dX10_readsStep_157 : decode cX10_readsStep 157 = .ok (.aload_n 0, 1) := by decide +kernel
theorem dX10_readsStep_158 : decode cX10_readsStep 158 = .ok (.invokevirtual 265, 3) := by decide +kernel
theorem dX10_readsStep_161 : decode cX10_readsStep 161 = .ok (.aload_n 0, 1) := by decide +kernel
theorem dX10_readsStep_162 : decode cX10_readsStep 162 = .ok (.invokevirtual 125, 3) := by decide +kernel
theorem dX10_readsStep_165 : decode cX10_readsStep 165 = .ok (.goto (-28), 3) := by decide +kernel
theorem dX10_readsStep_168 : decode cX10_readsStep 168 = .ok (.aload_n 0, 1) := by decide +kernel
theorem dX10_readsStep_169 : decode cX10_readsStep 169 = .ok (.bipush 93, 2) := by decide +kernel
theorem dX10_readsStep_171 : decode cX10_readsStep 171 = .ok (.invokevirtual 182, 3) := by decide +kernel
theorem dX10_readsStep_174 : decode cX10_readsStep 174 = .ok (.aload_n 0, 1) := by decide +kernel
theorem dX10_readsStep_175 : decode cX10_readsStep 175 = .ok (.dup, 1) := by decide +kernel
theorem dX10_readsStep_176 : decode cX10_readsStep 176 = .ok (.getfield 168, 3) := by decide +kernel
theorem dX10_readsStep_179 : decode cX10_readsStep 179 = .ok (.iconst 1, 1) := by decide +kernel
theorem dX10_readsStep_180 : decode cX10_readsStep 180 = .ok (.isub, 1) := by decide +kernel
theorem dX10_readsStep_181 : decode cX10_readsStep 181 = .ok (.putfield 168, 3) := by decide +kernel
theorem dX10_readsStep_184 : decode cX10_readsStep 184 = .ok (.aload_n 2, 1) := by decide +kernel
theorem dX10_readsStep_185 : decode cX10_readsStep 185 = .ok (.iconst 2, 1) := by decide +kernel
theorem dX10_readsStep_186 : decode cX10_readsStep 186 = .ok (.aload_n 0, 1) := by decide +kernel
theorem dX10_readsStep_187 : decode cX10_readsStep 187 = .ok (.getfield 262, 3) := by decide +kernel
theorem dX10_readsStep_190 : decode cX10_readsStep 190 = .ok (.iastore, 1) := by decide +kernel
theorem dX10_readsStep_191 : decode cX10_readsStep 191 = .ok (.aload_n 0, 1) := by decide +kernel
theorem dX10_readsStep_192 : decode cX10_readsStep 192 = .ok (.bipush 59, 2) := by decide +kernel
theorem dX10_readsStep_194 : decode cX10_readsStep 194 = .ok (.invokevirtual 182, 3) := by decide +kernel
theorem dX10_readsStep_197 : decode cX10_readsStep 197 = .ok (.return_, 1) := by decide +kernel
theorem dX10_stains_0 : decode cX10_stains 0 = .ok (.aload_n 0, 1) := by decide +kernel
theorem dX10_stains_1 : decode cX10_stains 1 = .ok (.iconst 0, 1) := by decide +kernel
theorem dX10_stains_2 : decode cX10_stains 2 = .ok (.putfield 103, 3) := by decide +kernel
theorem dX10_stains_5 : decode cX10_stains 5 = .ok (.aload_n 0, 1) := by decide +kernel
theorem dX10_stains_6 : decode cX10_stains 6 = .ok (.iload_n 1, 1) := by decide +kernel
theorem dX10_stains_7 : decode cX10_stains 7 = .ok (.iconst 0, 1) := by decide +kernel
theorem dX10_stains_8 : decode cX10_stains 8 = .ok (.aload_n 0, 1) := by decide +kernel
theorem dX10_stains_9 : decode cX10_stains 9 = .ok (.getfield 106, 3) := by decide +kernel
theorem dX10_stains_12 : decode cX10_stains 12 = .ok (.invokestatic 137, 3) := by decide +kernel
theorem dX10_stains_15 : decode cX10_stains 15 = .ok (.ifCond .eq 9, 3) := by decide +kernel
theorem dX10_stains_18 : decode cX10_stains 18 = .ok (.iload_n 1, 1) := by decide +kernel
theorem dX10_stains_19 : decode cX10_stains 19 = .ok (.bipush 60, 2) := by decide +kernel
theorem dX10_stains_21 : decode cX10_stains 21 = .ok (.if_icmp .le 7, 3) := by decide +kernel
theorem dX10_stains_24 : decode cX10_stains 24 = .ok (.iconst 1, 1) := by decide +kernel
theorem dX10_stains_25 : decode cX10_stains 25 = .ok (.goto 4, 3) := by decide +kernel
theorem dX10_stains_28 : decode cX10_stains 28 = .ok (.iconst 0, 1) := by decide +kernel
theorem dX10_stains_29 : decode cX10_stains 29 = .ok (.iconst 1, 1) := by decide +kernel
theorem dX10_stains_30 : decode cX10_stains 30 = .ok (.iconst 1, 1) := by decide +kernel
theorem dX10_stains_31 : decode cX10_stains 31 = .ok (.invokevirtual 186, 3) := by decide +kernel
theorem dX10_stains_34 : decode cX10_stains 34 = .ok (.ifCond .eq 5, 3) := by decide +kernel
theorem dX10_stains_37 : decode cX10_stains 37 = .ok (.iconst 0, 1) := by decide +kernel
theorem dX10_stains_38 : decode cX10_stains 38 = .ok (.ireturn, 1) := by decide +kernel
theorem dX10_stains_39 : decode cX10_stains 39 = .ok (.aload_n 0, 1) := by decide +kernel
theorem dX10_stains_40 : decode cX10_stains 40 = .ok (.iload_n 1, 1) := by decide +kernel
theorem dX10_stains_41 : decode cX10_stains 41 = .ok (.invokevirtual 190, 3) := by decide +kernel
theorem dX10_stains_44 : decode cX10_stains 44 = .ok (.iconst 0, 1) := by decide +kernel
theorem dX10_stains_45 : decode cX10_stains 45 = .ok (.istore_n 2, 1) := by decide +kernel
theorem dX10_stains_46 : decode cX10_stains 46 = .ok (.iconst 0, 1) := by decide +kernel
theorem dX10_stains_47 : decode cX10_stains 47 = .ok (.istore_n 3, 1) := by decide +kernel
theorem dX10_stains_48 : decode cX10_stains 48 = .ok (.aload_n 0, 1) := by decide +kernel
theorem dX10_stains_49 : decode cX10_stains 49 = .ok (.getfield 119, 3) := by decide +kernel
theorem dX10_stains_52 : decode cX10_stains 52 = .ok (.ifCond .ne 117, 3) := by decide +kernel
theorem dX10_stains_55 : decode cX10_stains 55 = .ok (.aload_n 0, 1) := by decide +kernel
theorem dX10_stains_56 : decode cX10_stains 56 = .ok (.getfield 112, 3) := by decide +kernel
theorem dX10_stains_59 : decode cX10_stains 59 = .ok (.aload_n 0, 1) := by decide +kernel
theorem dX10_stains_60 : decode cX10_stains 60 = .ok (.getfield 109, 3) := by decide +kernel
theorem dX10_stains_63 : decode cX10_stains 63 = .ok (.if_icmp .ge 106, 3) := by decide +kernel
theorem dX10_stains_66 : decode cX10_stains 66 = .ok (.aload_n 0, 1) := by decide +kernel
theorem dX10_stains_67 : decode cX10_stains 67 = .ok (.getfield 112, 3) := by decide +kernel
theorem dX10_stains_70 : decode cX10_stains 70 = .ok (.istore 4, 2) := by decide +kernel
theorem dX10_stains_72 : decode cX10_stains 72 = .ok (.aload_n 0, 1) := by decide +kernel
theorem dX10_stains_73 : decode cX10_stains 73 = .ok (.iconst 0, 1) := by decide +kernel
theorem dX10_stains_74 : decode cX10_stains 74 = .ok (.aload_n 0, 1) := by decide +kernel
theorem dX10_stains_75 : decode cX10_stains 75 = .ok (.getfield 23, 3) := by decide +kernel
theorem dX10_stains_78 : decode cX10_stains 78 = .ok (.iconst 0, 1) := by decide +kernel
theorem dX10_stains_79 : decode cX10_stains 79 = .ok (.iaload, 1) := by decide +kernel
theorem dX10_stains_80 : decode cX10_stains 80 = .ok (.iconst 1, 1) := by decide +kernel
theorem dX10_stains_81 : decode cX10_stains 81 = .ok (.isub, 1) := by decide +kernel
theorem dX10_stains_82 : decode cX10_stains 82 = .ok (.invokevirtual 178, 3) := by decide +kernel
theorem dX10_stains_85 : decode cX10_stains 85 = .ok (.istore 5, 2) := by decide +kernel
theorem dX10_stains_87 : decode cX10_stains 87 = .ok (.aload_n 0, 1) := by decide +kernel
theorem dX10_stains_88 : decode cX10_stains 88 = .ok (.getfield 119, 3) := by decide +kernel
theorem dX10_stains_91 : decode cX10_stains 91 = .ok (.ifCond .ne 19, 3) := by decide +kernel
theorem dX10_stains_94 : decode cX10_stains 94 = .ok (.iload_n 3, 1) := by decide +kernel
theorem dX10_stains_95 : decode cX10_stains 95 = .ok (.iload 5, 2) := by decide +kernel
theorem dX10_stains_97 : decode cX10_stains 97 = .ok (.invokestatic 268, 3) := by decide +kernel
theorem dX10_stains_100 : decode cX10_stains 100 = .ok (.ifCond .eq 10, 3) := by decide +kernel
theorem dX10_stains_103 : decode cX10_stains 103 = .ok (.aload_n 0, 1) := by decide +kernel
theorem dX10_stains_104 : decode cX10_stains 104 = .ok (.iconst 2, 1) := by decide +kernel
theorem dX10_stains_105 : decode cX10_stains 105 = .ok (.iload 4, 2) := by decide +kernel
theorem dX10_stains_107 : decode cX10_stains 107 = .ok (.invokevirtual 132, 3) := by decide +kernel
theorem dX10_stains_110 : decode cX10_stains 110 = .ok (.aload_n 0, 1) := by decide +kernel
theorem dX10_stains_111 : decode cX10_stains 111 = .ok (.iconst 0, 1) := by decide +kernel
theorem dX10_stains_112 : decode cX10_stains 112 = .ok (.bipush 60, 2) := by decide +kernel
theorem dX10_stains_114 : decode cX10_stains 114 = .ok (.invokevirtual 178, 3) := by decide +kernel
theorem dX10_stains_117 : decode cX10_stains 117 = .ok (.istore 6, 2) := by decide +kernel
theorem dX10_stains_119 : decode cX10_stains 119 = .ok (.aload_n 0, 1) := by decide +kernel
theorem dX10_stains_120 : decode cX10_stains 120 = .ok (.bipush 59, 2) := by decide +kernel
theorem dX10_stains_122 : decode cX10_stains 122 = .ok (.invokevirtual 182, 3) := by decide +kernel
theorem dX10_stains_125 : decode cX10_stains 125 = .ok (.aload_n 0, 1) := by decide +kernel
theorem dX10_stains_126 : decode cX10_stains 126 = .ok (.getfield 119, 3) := by decide +kernel
theorem dX10_stains_129 : decode cX10_stains 129 = .ok (.ifCond .ne 33, 3) := by decide +kernel
theorem dX10_stains_132 : decode cX10_stains 132 = .ok (.iload_n 3, 1) := by decide +kernel
theorem dX10_stains_133 : decode cX10_stains 133 = .ok (.iconst 1, 1) := by decide +kernel
theorem dX10_stains_134 : decode cX10_stains 134 = .ok (.iload 5, 2) := by decide +kernel
theorem dX10_stains_136 : decode cX10_stains 136 = .ok (.ishl, 1) := by decide +kernel
theorem dX10_stains_137 : decode cX10_stains 137 = .ok (.ior, 1) := by decide +kernel
theorem dX10_stains_138 : decode cX10_stains 138 = .ok (.istore_n 3, 1) := by decide +kernel
theorem dX10_stains_139 : decode cX10_stains 139 = .ok (.aload_n 0, 1) := by decide +kernel
theorem dX10_stains_140 : decode cX10_stains 140 = .ok (.getfield 61, 3) := by decide +kernel
theorem dX10_stains_143 : decode cX10_stains 143 = .ok (.iload_n 2, 1) := by decide +kernel
theorem dX10_stains_144 : decode cX10_stains 144 = .ok (.aaload, 1) := by decide +kernel
theorem dX10_stains_145 : decode cX10_stains 145 = .ok (.iconst 0, 1) := by decide +kernel
theorem dX10_stains_146 : decode cX10_stains 146 = .ok (.iload 5, 2) := by decide +kernel
theorem dX10_stains_148 : decode cX10_stains 148 = .ok (.iastore, 1) := by decide +kernel
theorem dX10_stains_149 : decode cX10_stains 149 = .ok (.aload_n 0, 1) := by decide +kernel
theorem dX10_stains_150 : decode cX10_stains 150 = .ok (.getfield 61, 3) := by decide +kernel
theorem dX10_stains_153 : decode cX10_stains 153 = .ok (.iload_n 2, 1) := by decide +kernel
theorem dX10_stains_154 : decode cX10_stains 154 = .ok (.aaload, 1) := by decide +kernel
theorem dX10_stains_155 : decode cX10_stains 155 = .ok (.iconst 1, 1) := by decide +kernel
theorem dX10_stains_156 : decode cX10_stains 156 = .ok (.iload 6, 2) := by decide +kernel
theorem dX10_stains_158 : decode cX10_stains 158 = .ok (.iastore, 1) := by decide +kernel
theorem dX10_stains_159 : decode cX10_stains 159 = .ok (.iinc 2 1, 3) := by decide +kernel
theorem dX10_stains_162 : decode cX10_stains 162 = .ok (.aload_n 0, 1) := by decide +kernel
theorem dX10_stains_163 : decode cX10_stains 163 = .ok (.invokevirtual 125, 3) := by decide +kernel
theorem dX10_stains_166 : decode cX10_stains 166 = .ok (.goto (-118), 3) := by decide +kernel
theorem dX10_stains_169 : decode cX10_stains 169 = .ok (.aload_n 0, 1) := by decide +kernel
theorem dX10_stains_170 : decode cX10_stains 170 = .ok (.getfield 119, 3) := by decide +kernel
theorem dX10_stains_173 : decode cX10_stains 173 = .ok (.ifCond .eq 8, 3) := by decide +kernel
theorem dX10_stains_176 : decode cX10_stains 176 = .ok (.aload_n 0, 1) := by decide +kernel
theorem dX10_stains_177 : decode cX10_stains 177 = .ok (.invokevirtual 196, 3) := by decide +kernel
theorem dX10_stains_180 : decode cX10_stains 180 = .ok (.ireturn, 1) := by decide +kernel
theorem dX10_stains_181 : decode cX10_stains 181 = .ok (.aload_n 0, 1) := by decide +kernel
theorem dX10_stains_182 : decode cX10_stains 182 = .ok (.iconst (-1), 1) := by decide +kernel
theorem dX10_stains_183 : decode cX10_stains 183 = .ok (.putfield 9, 3) := by decide +kernel
theorem dX10_stains_186 : decode cX10_stains 186 = .ok (.aload_n 0, 1) := by decide +kernel
theorem dX10_stains_187 : decode cX10_stains 187 = .ok (.iload_n 2, 1) := by decide +kernel
theorem dX10_stains_188 : decode cX10_stains 188 = .ok (.putfield 209, 3) := by decide +kernel
theorem dX10_stains_191 : decode cX10_stains 191 = .ok (.aload_n 0, 1) := by decide +kernel
theorem dX10_stains_192 : decode cX10_stains 192 = .ok (.getfield 61, 3) := by decide +kernel
theorem dX10_stains_195 : decode cX10_stains 195 = .ok (.aload_n 0, 1) := by decide +kernel
theorem dX10_stains_196 : decode cX10_stains 196 = .ok (.getfield 58, 3) := by decide +kernel
theorem dX10_stains_199 : decode cX10_stains 199 = .ok (.iload_n 2, 1) := by decide +kernel
theorem dX10_stains_200 : decode cX10_stains 200 = .ok (.invokestatic 199, 3) := by decide +kernel
theorem dX10_stains_203 : decode cX10_stains 203 = .ok (.iload_n 2, 1) := by decide +kernel
theorem dX10_stains_204 : decode cX10_stains 204 = .ok (.ireturn, 1) := by decide +kernel
theorem dX10_fault_0 : decode cX10_fault 0 = .ok (.aload_n 0, 1) := by decide +kernel
theorem dX10_fault_1 : decode cX10_fault 1 = .ok (.iconst 0, 1) := by decide +kernel
theorem dX10_fault_2 : decode cX10_fault 2 = .ok (.putfield 103, 3) := by decide +kernel
theorem dX10_fault_5 : decode cX10_fault 5 = .ok (.aload_n 0, 1) := by decide +kernel
theorem dX10_fault_6 : decode cX10_fault 6 = .ok (.getfield 9, 3) := by decide +kernel
theorem dX10_fault_9 : decode cX10_fault 9 = .ok (.ireturn, 1) := by decide +kernel
theorem dX10_heightIn_0 : decode cX10_heightIn 0 = .ok (.aload_n 0, 1) := by decide +kernel
theorem dX10_heightIn_1 : decode cX10_heightIn 1 = .ok (.getfield 23, 3) := by decide +kernel
theorem dX10_heightIn_4 : decode cX10_heightIn 4 = .ok (.iconst 2, 1) := by decide +kernel
theorem dX10_heightIn_5 : decode cX10_heightIn 5 = .ok (.iaload, 1) := by decide +kernel
theorem dX10_heightIn_6 : decode cX10_heightIn 6 = .ok (.ifCond .ne 7, 3) := by decide +kernel
theorem dX10_heightIn_9 : decode cX10_heightIn 9 = .ok (.iconst 0, 1) := by decide +kernel
theorem dX10_heightIn_10 : decode cX10_heightIn 10 = .ok (.goto 16, 3) := by decide +kernel
theorem dX10_heightIn_13 : decode cX10_heightIn 13 = .ok (.aload_n 0, 1) := by decide +kernel
theorem dX10_heightIn_14 : decode cX10_heightIn 14 = .ok (.getfield 35, 3) := by decide +kernel
theorem dX10_heightIn_17 : decode cX10_heightIn 17 = .ok (.iload_n 1, 1) := by decide +kernel
theorem dX10_heightIn_18 : decode cX10_heightIn 18 = .ok (.aload_n 0, 1) := by decide +kernel
theorem dX10_heightIn_19 : decode cX10_heightIn 19 = .ok (.getfield 23, 3) := by decide +kernel
theorem dX10_heightIn_22 : decode cX10_heightIn 22 = .ok (.iconst 2, 1) := by decide +kernel
theorem dX10_heightIn_23 : decode cX10_heightIn 23 = .ok (.iaload, 1) := by decide +kernel
theorem dX10_heightIn_24 : decode cX10_heightIn 24 = .ok (.irem, 1) := by decide +kernel
theorem dX10_heightIn_25 : decode cX10_heightIn 25 = .ok (.iaload, 1) := by decide +kernel
theorem dX10_heightIn_26 : decode cX10_heightIn 26 = .ok (.ireturn, 1) := by decide +kernel
theorem dX10_sillOf_0 : decode cX10_sillOf 0 = .ok (.aload_n 0, 1) := by decide +kernel
theorem dX10_sillOf_1 : decode cX10_sillOf 1 = .ok (.getfield 29, 3) := by decide +kernel
theorem dX10_sillOf_4 : decode cX10_sillOf 4 = .ok (.iload_n 2, 1) := by decide +kernel
theorem dX10_sillOf_5 : decode cX10_sillOf 5 = .ok (.iaload, 1) := by decide +kernel
theorem dX10_sillOf_6 : decode cX10_sillOf 6 = .ok (.iconst 2, 1) := by decide +kernel
theorem dX10_sillOf_7 : decode cX10_sillOf 7 = .ok (.aload_n 1, 1) := by decide +kernel
theorem dX10_sillOf_8 : decode cX10_sillOf 8 = .ok (.bipush 50, 2) := by decide +kernel
theorem dX10_sillOf_10 : decode cX10_sillOf 10 = .ok (.iload_n 2, 1) := by decide +kernel
theorem dX10_sillOf_11 : decode cX10_sillOf 11 = .ok (.iadd, 1) := by decide +kernel
theorem dX10_sillOf_12 : decode cX10_sillOf 12 = .ok (.iaload, 1) := by decide +kernel
theorem dX10_sillOf_13 : decode cX10_sillOf 13 = .ok (.imul, 1) := by decide +kernel
theorem dX10_sillOf_14 : decode cX10_sillOf 14 = .ok (.iadd, 1) := by decide +kernel
theorem dX10_sillOf_15 : decode cX10_sillOf 15 = .ok (.ireturn, 1) := by decide +kernel
theorem dX10_waterBy_0 : decode cX10_waterBy 0 = .ok (.iconst 0, 1) := by decide +kernel
theorem dX10_waterBy_1 : decode cX10_waterBy 1 = .ok (.iload_n 3, 1) := by decide +kernel
theorem dX10_waterBy_2 : decode cX10_waterBy 2 = .ok (.aload_n 0, 1) := by decide +kernel
theorem dX10_waterBy_3 : decode cX10_waterBy 3 = .ok (.aload_n 1, 1) := by decide +kernel
theorem dX10_waterBy_4 : decode cX10_waterBy 4 = .ok (.iload_n 2, 1) := by decide +kernel
theorem dX10_waterBy_5 : decode cX10_waterBy 5 = .ok (.invokevirtual 272, 3) := by decide +kernel
theorem dX10_waterBy_8 : decode cX10_waterBy 8 = .ok (.isub, 1) := by decide +kernel
theorem dX10_waterBy_9 : decode cX10_waterBy 9 = .ok (.invokestatic 252, 3) := by decide +kernel
theorem dX10_waterBy_12 : decode cX10_waterBy 12 = .ok (.ireturn, 1) := by decide +kernel
theorem dX10_waterIn_0 : decode cX10_waterIn 0 = .ok (.aload_n 0, 1) := by decide +kernel
theorem dX10_waterIn_1 : decode cX10_waterIn 1 = .ok (.aload_n 1, 1) := by decide +kernel
theorem dX10_waterIn_2 : decode cX10_waterIn 2 = .ok (.iload_n 2, 1) := by decide +kernel
theorem dX10_waterIn_3 : decode cX10_waterIn 3 = .ok (.aload_n 0, 1) := by decide +kernel
theorem dX10_waterIn_4 : decode cX10_waterIn 4 = .ok (.aload_n 1, 1) := by decide +kernel
theorem dX10_waterIn_5 : decode cX10_waterIn 5 = .ok (.bipush 62, 2) := by decide +kernel
theorem dX10_waterIn_7 : decode cX10_waterIn 7 = .ok (.iaload, 1) := by decide +kernel
theorem dX10_waterIn_8 : decode cX10_waterIn 8 = .ok (.invokevirtual 276, 3) := by decide +kernel
theorem dX10_waterIn_11 : decode cX10_waterIn 11 = .ok (.aload_n 0, 1) := by decide +kernel
theorem dX10_waterIn_12 : decode cX10_waterIn 12 = .ok (.getfield 279, 3) := by decide +kernel
theorem dX10_waterIn_15 : decode cX10_waterIn 15 = .ok (.iadd, 1) := by decide +kernel
theorem dX10_waterIn_16 : decode cX10_waterIn 16 = .ok (.invokevirtual 282, 3) := by decide +kernel
theorem dX10_waterIn_19 : decode cX10_waterIn 19 = .ok (.ireturn, 1) := by decide +kernel
theorem dX10_counts_0 : decode cX10_counts 0 = .ok (.iconst 0, 1) := by decide +kernel
theorem dX10_counts_1 : decode cX10_counts 1 = .ok (.istore_n 2, 1) := by decide +kernel
theorem dX10_counts_2 : decode cX10_counts 2 = .ok (.iload_n 2, 1) := by decide +kernel
theorem dX10_counts_3 : decode cX10_counts 3 = .ok (.aload_n 0, 1) := by decide +kernel
theorem dX10_counts_4 : decode cX10_counts 4 = .ok (.getfield 23, 3) := by decide +kernel
theorem dX10_counts_7 : decode cX10_counts 7 = .ok (.iconst 0, 1) := by decide +kernel
theorem dX10_counts_8 : decode cX10_counts 8 = .ok (.iaload, 1) := by decide +kernel
theorem dX10_counts_9 : decode cX10_counts 9 = .ok (.if_icmp .ge 35, 3) := by decide +kernel
theorem dX10_counts_12 : decode cX10_counts 12 = .ok (.aload_n 0, 1) := by decide +kernel
theorem dX10_counts_13 : decode cX10_counts 13 = .ok (.getfield 79, 3) := by decide +kernel
theorem dX10_counts_16 : decode cX10_counts 16 = .ok (.iload_n 2, 1) := by decide +kernel
theorem dX10_counts_17 : decode cX10_counts 17 = .ok (.aload_n 0, 1) := by decide +kernel
theorem dX10_counts_18 : decode cX10_counts 18 = .ok (.aload_n 1, 1) := by decide +kernel
theorem dX10_counts_19 : decode cX10_counts 19 = .ok (.iload_n 2, 1) := by decide +kernel
theorem dX10_counts_20 : decode cX10_counts 20 = .ok (.invokevirtual 286, 3) := by decide +kernel
theorem dX10_counts_23 : decode cX10_counts 23 = .ok (.iastore, 1) := by decide +kernel
theorem dX10_counts_24 : decode cX10_counts 24 = .ok (.aload_n 0, 1) := by decide +kernel
theorem dX10_counts_25 : decode cX10_counts 25 = .ok (.getfield 82, 3) := by decide +kernel
theorem dX10_counts_28 : decode cX10_counts 28 = .ok (.iload_n 2, 1) := by decide +kernel
theorem dX10_counts_29 : decode cX10_counts 29 = .ok (.iconst 0, 1) := by decide +kernel
theorem dX10_counts_30 : decode cX10_counts 30 = .ok (.iastore, 1) := by decide +kernel
theorem dX10_counts_31 : decode cX10_counts 31 = .ok (.aload_n 0, 1) := by decide +kernel
theorem dX10_counts_32 : decode cX10_counts 32 = .ok (.getfield 85, 3) := by decide +kernel
theorem dX10_counts_35 : decode cX10_counts 35 = .ok (.iload_n 2, 1) := by decide +kernel
theorem dX10_counts_36 : decode cX10_counts 36 = .ok (.iconst 0, 1) := by decide +kernel
theorem dX10_counts_37 : decode cX10_counts 37 = .ok (.iastore, 1) := by decide +kernel
theorem dX10_counts_38 : decode cX10_counts 38 = .ok (.iinc 2 1, 3) := by decide +kernel
theorem dX10_counts_41 : decode cX10_counts 41 = .ok (.goto (-39), 3) := by decide +kernel
theorem dX10_counts_44 : decode cX10_counts 44 = .ok (.iconst 0, 1) := by decide +kernel
theorem dX10_counts_45 : decode cX10_counts 45 = .ok (.istore_n 2, 1) := by decide +kernel
theorem dX10_counts_46 : decode cX10_counts 46 = .ok (.iload_n 2, 1) := by decide +kernel
theorem dX10_counts_47 : decode cX10_counts 47 = .ok (.aload_n 0, 1) := by decide +kernel
theorem dX10_counts_48 : decode cX10_counts 48 = .ok (.getfield 23, 3) := by decide +kernel
theorem dX10_counts_51 : decode cX10_counts 51 = .ok (.iconst 1, 1) := by decide +kernel
theorem dX10_counts_52 : decode cX10_counts 52 = .ok (.iaload, 1) := by decide +kernel
theorem dX10_counts_53 : decode cX10_counts 53 = .ok (.if_icmp .ge 71, 3) := by decide +kernel
theorem dX10_counts_56 : decode cX10_counts 56 = .ok (.aload_n 0, 1) := by decide +kernel
theorem dX10_counts_57 : decode cX10_counts 57 = .ok (.aload_n 1, 1) := by decide +kernel
theorem dX10_counts_58 : decode cX10_counts 58 = .ok (.iload_n 2, 1) := by decide +kernel
theorem dX10_counts_59 : decode cX10_counts 59 = .ok (.invokevirtual 289, 3) := by decide +kernel
theorem dX10_counts_62 : decode cX10_counts 62 = .ok (.ifCond .ne 6, 3) := by decide +kernel
theorem dX10_counts_65 : decode cX10_counts 65 = .ok (.goto 53, 3) := by decide +kernel
theorem dX10_counts_68 : decode cX10_counts 68 = .ok (.aload_n 0, 1) := by decide +kernel
theorem dX10_counts_69 : decode cX10_counts 69 = .ok (.getfield 85, 3) := by decide +kernel
theorem dX10_counts_72 : decode cX10_counts 72 = .ok (.aload_n 1, 1) := by decide +kernel
theorem dX10_counts_73 : decode cX10_counts 73 = .ok (.iconst 0, 1) := by decide +kernel
theorem dX10_counts_74 : decode cX10_counts 74 = .ok (.iload_n 2, 1) := by decide +kernel
theorem dX10_counts_75 : decode cX10_counts 75 = .ok (.iadd, 1) := by decide +kernel
theorem dX10_counts_76 : decode cX10_counts 76 = .ok (.iaload, 1) := by decide +kernel
theorem dX10_counts_77 : decode cX10_counts 77 = .ok (.dup2, 1) := by decide +kernel
theorem dX10_counts_78 : decode cX10_counts 78 = .ok (.iaload, 1) := by decide +kernel
theorem dX10_counts_79 : decode cX10_counts 79 = .ok (.iconst 1, 1) := by decide +kernel
theorem dX10_counts_80 : decode cX10_counts 80 = .ok (.iadd, 1) := by decide +kernel
theorem dX10_counts_81 : decode cX10_counts 81 = .ok (.iastore, 1) := by decide +kernel
theorem dX10_counts_82 : decode cX10_counts 82 = .ok (.aload_n 0, 1) := by decide +kernel
theorem dX10_counts_83 : decode cX10_counts 83 = .ok (.getfield 82, 3) := by decide +kernel
theorem dX10_counts_86 : decode cX10_counts 86 = .ok (.aload_n 1, 1) := by decide +kernel
theorem dX10_counts_87 : decode cX10_counts 87 = .ok (.iconst 0, 1) := by decide +kernel
theorem dX10_counts_88 : decode cX10_counts 88 = .ok (.iload_n 2, 1) := by decide +kernel
theorem dX10_counts_89 : decode cX10_counts 89 = .ok (.iadd, 1) := by decide +kernel
theorem dX10_counts_90 : decode cX10_counts 90 = .ok (.iaload, 1) := by decide +kernel
theorem dX10_counts_91 : decode cX10_counts 91 = .ok (.dup2, 1) := by decide +kernel
theorem dX10_counts_92 : decode cX10_counts 92 = .ok (.iaload, 1) := by decide +kernel
theorem dX10_counts_93 : decode cX10_counts 93 = .ok (.aload_n 0, 1) := by decide +kernel
theorem dX10_counts_94 : decode cX10_counts 94 = .ok (.aload_n 1, 1) := by decide +kernel
theorem dX10_counts_95 : decode cX10_counts 95 = .ok (.iload_n 2, 1) := by decide +kernel
theorem dX10_counts_96 : decode cX10_counts 96 = .ok (.invokevirtual 293, 3) := by decide +kernel
theorem dX10_counts_99 : decode cX10_counts 99 = .ok (.ifCond .eq 16, 3) := by decide +kernel
theorem dX10_counts_102 : decode cX10_counts 102 = .ok (.aload_n 1, 1) := by decide +kernel
theorem dX10_counts_103 : decode cX10_counts 103 = .ok (.bipush 20, 2) := by decide +kernel
theorem dX10_counts_105 : decode cX10_counts 105 = .ok (.iload_n 2, 1) := by decide +kernel
theorem dX10_counts_106 : decode cX10_counts 106 = .ok (.iadd, 1) := by decide +kernel
theorem dX10_counts_107 : decode cX10_counts 107 = .ok (.iaload, 1) := by decide +kernel
theorem dX10_counts_108 : decode cX10_counts 108 = .ok (.ifCond .ne 7, 3) := by decide +kernel
theorem dX10_counts_111 : decode cX10_counts 111 = .ok (.iconst 1, 1) := by decide +kernel
theorem dX10_counts_112 : decode cX10_counts 112 = .ok (.goto 4, 3) := by decide +kernel
theorem dX10_counts_115 : decode cX10_counts 115 = .ok (.iconst 0, 1) := by decide +kernel
theorem dX10_counts_116 : decode cX10_counts 116 = .ok (.iadd, 1) := by decide +kernel
theorem dX10_counts_117 : decode cX10_counts 117 = .ok (.iastore, 1) := by decide +kernel
theorem dX10_counts_118 : decode cX10_counts 118 = .ok (.iinc 2 1, 3) := by decide +kernel
theorem dX10_counts_121 : decode cX10_counts 121 = .ok (.goto (-75), 3) := by decide +kernel
theorem dX10_counts_124 : decode cX10_counts 124 = .ok (.return_, 1) := by decide +kernel
theorem dX10_isWet_0 : decode cX10_isWet 0 = .ok (.aload_n 1, 1) := by decide +kernel
theorem dX10_isWet_1 : decode cX10_isWet 1 = .ok (.iconst 0, 1) := by decide +kernel
theorem dX10_isWet_2 : decode cX10_isWet 2 = .ok (.iload_n 2, 1) := by decide +kernel
theorem dX10_isWet_3 : decode cX10_isWet 3 = .ok (.iadd, 1) := by decide +kernel
theorem dX10_isWet_4 : decode cX10_isWet 4 = .ok (.iaload, 1) := by decide +kernel
theorem dX10_isWet_5 : decode cX10_isWet 5 = .ok (.iconst (-1), 1) := by decide +kernel
theorem dX10_isWet_6 : decode cX10_isWet 6 = .ok (.if_icmp .eq 29, 3) := by decide +kernel
theorem dX10_isWet_9 : decode cX10_isWet 9 = .ok (.aload_n 1, 1) := by decide +kernel
theorem dX10_isWet_10 : decode cX10_isWet 10 = .ok (.bipush 10, 2) := by decide +kernel
theorem dX10_isWet_12 : decode cX10_isWet 12 = .ok (.iload_n 2, 1) := by decide +kernel
theorem dX10_isWet_13 : decode cX10_isWet 13 = .ok (.iadd, 1) := by decide +kernel
theorem dX10_isWet_14 : decode cX10_isWet 14 = .ok (.iaload, 1) := by decide +kernel
theorem dX10_isWet_15 : decode cX10_isWet 15 = .ok (.ifCond .ne 20, 3) := by decide +kernel
theorem dX10_isWet_18 : decode cX10_isWet 18 = .ok (.aload_n 0, 1) := by decide +kernel
theorem dX10_isWet_19 : decode cX10_isWet 19 = .ok (.getfield 79, 3) := by decide +kernel
theorem dX10_isWet_22 : decode cX10_isWet 22 = .ok (.aload_n 1, 1) := by decide +kernel
theorem dX10_isWet_23 : decode cX10_isWet 23 = .ok (.iconst 0, 1) := by decide +kernel
theorem dX10_isWet_24 : decode cX10_isWet 24 = .ok (.iload_n 2, 1) := by decide +kernel
theorem dX10_isWet_25 : decode cX10_isWet 25 = .ok (.iadd, 1) := by decide +kernel
theorem dX10_isWet_26 : decode cX10_isWet 26 = .ok (.iaload, 1) := by decide +kernel
theorem dX10_isWet_27 : decode cX10_isWet 27 = .ok (.iaload, 1) := by decide +kernel
theorem dX10_isWet_28 : decode cX10_isWet 28 = .ok (.ifCond .le 7, 3) := by decide +kernel
theorem dX10_isWet_31 : decode cX10_isWet 31 = .ok (.iconst 1, 1) := by decide +kernel
theorem dX10_isWet_32 : decode cX10_isWet 32 = .ok (.goto 4, 3) := by decide +kernel
theorem dX10_isWet_35 : decode cX10_isWet 35 = .ok (.iconst 0, 1) := by decide +kernel
theorem dX10_isWet_36 : decode cX10_isWet 36 = .ok (.ireturn, 1) := by decide +kernel
theorem dX10_isAfloat_0 : decode cX10_isAfloat 0 = .ok (.aload_n 0, 1) := by decide +kernel
theorem dX10_isAfloat_1 : decode cX10_isAfloat 1 = .ok (.aload_n 1, 1) := by decide +kernel
theorem dX10_isAfloat_2 : decode cX10_isAfloat 2 = .ok (.iload_n 2, 1) := by decide +kernel
theorem dX10_isAfloat_3 : decode cX10_isAfloat 3 = .ok (.invokevirtual 289, 3) := by decide +kernel
theorem dX10_isAfloat_6 : decode cX10_isAfloat 6 = .ok (.ifCond .eq 28, 3) := by decide +kernel
theorem dX10_isAfloat_9 : decode cX10_isAfloat 9 = .ok (.aload_n 0, 1) := by decide +kernel
theorem dX10_isAfloat_10 : decode cX10_isAfloat 10 = .ok (.getfield 43, 3) := by decide +kernel
theorem dX10_isAfloat_13 : decode cX10_isAfloat 13 = .ok (.iload_n 2, 1) := by decide +kernel
theorem dX10_isAfloat_14 : decode cX10_isAfloat 14 = .ok (.aaload, 1) := by decide +kernel
theorem dX10_isAfloat_15 : decode cX10_isAfloat 15 = .ok (.iconst 2, 1) := by decide +kernel
theorem dX10_isAfloat_16 : decode cX10_isAfloat 16 = .ok (.iaload, 1) := by decide +kernel
theorem dX10_isAfloat_17 : decode cX10_isAfloat 17 = .ok (.aload_n 0, 1) := by decide +kernel
theorem dX10_isAfloat_18 : decode cX10_isAfloat 18 = .ok (.getfield 79, 3) := by decide +kernel
theorem dX10_isAfloat_21 : decode cX10_isAfloat 21 = .ok (.aload_n 1, 1) := by decide +kernel
theorem dX10_isAfloat_22 : decode cX10_isAfloat 22 = .ok (.iconst 0, 1) := by decide +kernel
theorem dX10_isAfloat_23 : decode cX10_isAfloat 23 = .ok (.iload_n 2, 1) := by decide +kernel
theorem dX10_isAfloat_24 : decode cX10_isAfloat 24 = .ok (.iadd, 1) := by decide +kernel
theorem dX10_isAfloat_25 : decode cX10_isAfloat 25 = .ok (.iaload, 1) := by decide +kernel
theorem dX10_isAfloat_26 : decode cX10_isAfloat 26 = .ok (.iaload, 1) := by decide +kernel
theorem dX10_isAfloat_27 : decode cX10_isAfloat 27 = .ok (.if_icmp .gt 7, 3) := by decide +kernel
theorem dX10_isAfloat_30 : decode cX10_isAfloat 30 = .ok (.iconst 1, 1) := by decide +kernel
theorem dX10_isAfloat_31 : decode cX10_isAfloat 31 = .ok (.goto 4, 3) := by decide +kernel
theorem dX10_isAfloat_34 : decode cX10_isAfloat 34 = .ok (.iconst 0, 1) := by decide +kernel
theorem dX10_isAfloat_35 : decode cX10_isAfloat 35 = .ok (.ireturn, 1) := by decide +kernel
theorem dX10_dueBy_0 : decode cX10_dueBy 0 = .ok (.aload_n 0, 1) := by decide +kernel
theorem dX10_dueBy_1 : decode cX10_dueBy 1 = .ok (.getfield 67, 3) := by decide +kernel
theorem dX10_dueBy_4 : decode cX10_dueBy 4 = .ok (.iconst 0, 1) := by decide +kernel
theorem dX10_dueBy_5 : decode cX10_dueBy 5 = .ok (.iload_n 1, 1) := by decide +kernel
theorem dX10_dueBy_6 : decode cX10_dueBy 6 = .ok (.iastore, 1) := by decide +kernel
theorem dX10_dueBy_7 : decode cX10_dueBy 7 = .ok (.aload_n 0, 1) := by decide +kernel
theorem dX10_dueBy_8 : decode cX10_dueBy 8 = .ok (.getfield 67, 3) := by decide +kernel
theorem dX10_dueBy_11 : decode cX10_dueBy 11 = .ok (.iconst 1, 1) := by decide +kernel
theorem dX10_dueBy_12 : decode cX10_dueBy 12 = .ok (.iload_n 2, 1) := by decide +kernel
theorem dX10_dueBy_13 : decode cX10_dueBy 13 = .ok (.iastore, 1) := by decide +kernel
theorem dX10_dueBy_14 : decode cX10_dueBy 14 = .ok (.aload_n 0, 1) := by decide +kernel
theorem dX10_dueBy_15 : decode cX10_dueBy 15 = .ok (.getfield 67, 3) := by decide +kernel
theorem dX10_dueBy_18 : decode cX10_dueBy 18 = .ok (.iconst 2, 1) := by decide +kernel
theorem dX10_dueBy_19 : decode cX10_dueBy 19 = .ok (.iload_n 3, 1) := by decide +kernel
theorem dX10_dueBy_20 : decode cX10_dueBy 20 = .ok (.iastore, 1) := by decide +kernel
theorem dX10_dueBy_21 : decode cX10_dueBy 21 = .ok (.aload_n 0, 1) := by decide +kernel
theorem dX10_dueBy_22 : decode cX10_dueBy 22 = .ok (.getfield 67, 3) := by decide +kernel
theorem dX10_dueBy_25 : decode cX10_dueBy 25 = .ok (.iconst 3, 1) := by decide +kernel
theorem dX10_dueBy_26 : decode cX10_dueBy 26 = .ok (.iload 4, 2) := by decide +kernel
theorem dX10_dueBy_28 : decode cX10_dueBy 28 = .ok (.iastore, 1) := by decide +kernel
theorem dX10_dueBy_29 : decode cX10_dueBy 29 = .ok (.aload_n 0, 1) := by decide +kernel
theorem dX10_dueBy_30 : decode cX10_dueBy 30 = .ok (.getfield 67, 3) := by decide +kernel
theorem dX10_dueBy_33 : decode cX10_dueBy 33 = .ok (.iconst 4, 1) := by decide +kernel
theorem dX10_dueBy_34 : decode cX10_dueBy 34 = .ok (.iload 4, 2) := by decide +kernel
theorem dX10_dueBy_36 : decode cX10_dueBy 36 = .ok (.bipush 8, 2) := by decide +kernel
theorem dX10_dueBy_38 : decode cX10_dueBy 38 = .ok (.irem, 1) := by decide +kernel
theorem dX10_dueBy_39 : decode cX10_dueBy 39 = .ok (.iastore, 1) := by decide +kernel
theorem dX10_dueBy_40 : decode cX10_dueBy 40 = .ok (.aload_n 0, 1) := by decide +kernel
theorem dX10_dueBy_41 : decode cX10_dueBy 41 = .ok (.getfield 67, 3) := by decide +kernel
theorem dX10_dueBy_44 : decode cX10_dueBy 44 = .ok (.iconst 5, 1) := by decide +kernel
theorem dX10_dueBy_45 : decode cX10_dueBy 45 = .ok (.iload 5, 2) := by decide +kernel
theorem dX10_dueBy_47 : decode cX10_dueBy 47 = .ok (.iastore, 1) := by decide +kernel
theorem dX10_dueBy_48 : decode cX10_dueBy 48 = .ok (.aload_n 0, 1) := by decide +kernel
theorem dX10_dueBy_49 : decode cX10_dueBy 49 = .ok (.getfield 67, 3) := by decide +kernel
theorem dX10_dueBy_52 : decode cX10_dueBy 52 = .ok (.bipush 6, 2) := by decide +kernel
theorem dX10_dueBy_54 : decode cX10_dueBy 54 = .ok (.iload 6, 2) := by decide +kernel
theorem dX10_dueBy_56 : decode cX10_dueBy 56 = .ok (.iastore, 1) := by decide +kernel
theorem dX10_dueBy_57 : decode cX10_dueBy 57 = .ok (.aload_n 0, 1) := by decide +kernel
theorem dX10_dueBy_58 : decode cX10_dueBy 58 = .ok (.invokevirtual 296, 3) := by decide +kernel
theorem dX10_dueBy_61 : decode cX10_dueBy 61 = .ok (.ireturn, 1) := by decide +kernel
theorem dX10_dueOf_0 : decode cX10_dueOf 0 = .ok (.aload_n 0, 1) := by decide +kernel
theorem dX10_dueOf_1 : decode cX10_dueOf 1 = .ok (.getfield 79, 3) := by decide +kernel
theorem dX10_dueOf_4 : decode cX10_dueOf 4 = .ok (.iload_n 2, 1) := by decide +kernel
theorem dX10_dueOf_5 : decode cX10_dueOf 5 = .ok (.iaload, 1) := by decide +kernel
theorem dX10_dueOf_6 : decode cX10_dueOf 6 = .ok (.ifCond .ne 7, 3) := by decide +kernel
theorem dX10_dueOf_9 : decode cX10_dueOf 9 = .ok (.iconst 0, 1) := by decide +kernel
theorem dX10_dueOf_10 : decode cX10_dueOf 10 = .ok (.goto 34, 3) := by decide +kernel
theorem dX10_dueOf_13 : decode cX10_dueOf 13 = .ok (.aload_n 0, 1) := by decide +kernel
theorem dX10_dueOf_14 : decode cX10_dueOf 14 = .ok (.aload_n 0, 1) := by decide +kernel
theorem dX10_dueOf_15 : decode cX10_dueOf 15 = .ok (.getfield 79, 3) := by decide +kernel
theorem dX10_dueOf_18 : decode cX10_dueOf 18 = .ok (.iload_n 2, 1) := by decide +kernel
theorem dX10_dueOf_19 : decode cX10_dueOf 19 = .ok (.iaload, 1) := by decide +kernel
theorem dX10_dueOf_20 : decode cX10_dueOf 20 = .ok (.aload_n 0, 1) := by decide +kernel
theorem dX10_dueOf_21 : decode cX10_dueOf 21 = .ok (.getfield 82, 3) := by decide +kernel
theorem dX10_dueOf_24 : decode cX10_dueOf 24 = .ok (.iload_n 2, 1) := by decide +kernel
theorem dX10_dueOf_25 : decode cX10_dueOf 25 = .ok (.iaload, 1) := by decide +kernel
theorem dX10_dueOf_26 : decode cX10_dueOf 26 = .ok (.aload_n 0, 1) := by decide +kernel
theorem dX10_dueOf_27 : decode cX10_dueOf 27 = .ok (.getfield 85, 3) := by decide +kernel
theorem dX10_dueOf_30 : decode cX10_dueOf 30 = .ok (.iload_n 2, 1) := by decide +kernel
theorem dX10_dueOf_31 : decode cX10_dueOf 31 = .ok (.iaload, 1) := by decide +kernel
theorem dX10_dueOf_32 : decode cX10_dueOf 32 = .ok (.aload_n 1, 1) := by decide +kernel
theorem dX10_dueOf_33 : decode cX10_dueOf 33 = .ok (.bipush 62, 2) := by decide +kernel
theorem dX10_dueOf_35 : decode cX10_dueOf 35 = .ok (.iaload, 1) := by decide +kernel
theorem dX10_dueOf_36 : decode cX10_dueOf 36 = .ok (.aload_n 0, 1) := by decide +kernel
theorem dX10_dueOf_37 : decode cX10_dueOf 37 = .ok (.getfield 203, 3) := by decide +kernel
theorem dX10_dueOf_40 : decode cX10_dueOf 40 = .ok (.iload_n 2, 1) := by decide +kernel
theorem dX10_dueOf_41 : decode cX10_dueOf 41 = .ok (.invokevirtual 299, 3) := by decide +kernel
theorem dX10_dueOf_44 : decode cX10_dueOf 44 = .ok (.ireturn, 1) := by decide +kernel
theorem dX10_nextHouse_0 : decode cX10_nextHouse 0 = .ok (.iload_n 1, 1) := by decide +kernel
theorem dX10_nextHouse_1 : decode cX10_nextHouse 1 = .ok (.iconst 1, 1) := by decide +kernel
theorem dX10_nextHouse_2 : decode cX10_nextHouse 2 = .ok (.iadd, 1) := by decide +kernel
theorem dX10_nextHouse_3 : decode cX10_nextHouse 3 = .ok (.aload_n 0, 1) := by decide +kernel
theorem dX10_nextHouse_4 : decode cX10_nextHouse 4 = .ok (.getfield 23, 3) := by decide +kernel
theorem dX10_nextHouse_7 : decode cX10_nextHouse 7 = .ok (.iconst 0, 1) := by decide +kernel
theorem dX10_nextHouse_8 : decode cX10_nextHouse 8 = .ok (.iaload, 1) := by decide +kernel
theorem dX10_nextHouse_9 : decode cX10_nextHouse 9 = .ok (.if_icmp .ge 9, 3) := by decide +kernel
theorem dX10_nextHouse_12 : decode cX10_nextHouse 12 = .ok (.iload_n 1, 1) := by decide +kernel
theorem dX10_nextHouse_13 : decode cX10_nextHouse 13 = .ok (.iconst 1, 1) := by decide +kernel
theorem dX10_nextHouse_14 : decode cX10_nextHouse 14 = .ok (.iadd, 1) := by decide +kernel
theorem dX10_nextHouse_15 : decode cX10_nextHouse 15 = .ok (.goto 4, 3) := by decide +kernel
theorem dX10_nextHouse_18 : decode cX10_nextHouse 18 = .ok (.iconst (-1), 1) := by decide +kernel
theorem dX10_nextHouse_19 : decode cX10_nextHouse 19 = .ok (.ireturn, 1) := by decide +kernel
theorem dX10_tideComes_0 : decode cX10_tideComes 0 = .ok (.aload_n 0, 1) := by decide +kernel
theorem dX10_tideComes_1 : decode cX10_tideComes 1 = .ok (.aload_n 1, 1) := by decide +kernel
theorem dX10_tideComes_2 : decode cX10_tideComes 2 = .ok (.invokevirtual 303, 3) := by decide +kernel
theorem dX10_tideComes_5 : decode cX10_tideComes 5 = .ok (.iconst 0, 1) := by decide +kernel
theorem dX10_tideComes_6 : decode cX10_tideComes 6 = .ok (.istore_n 2, 1) := by decide +kernel
theorem dX10_tideComes_7 : decode cX10_tideComes 7 = .ok (.iload_n 2, 1) := by decide +kernel
theorem dX10_tideComes_8 : decode cX10_tideComes 8 = .ok (.aload_n 0, 1) := by decide +kernel
theorem dX10_tideComes_9 : decode cX10_tideComes 9 = .ok (.getfield 23, 3) := by decide +kernel
theorem dX10_tideComes_12 : decode cX10_tideComes 12 = .ok (.iconst 0, 1) := by decide +kernel
theorem dX10_tideComes_13 : decode cX10_tideComes 13 = .ok (.iaload, 1) := by decide +kernel
theorem dX10_tideComes_14 : decode cX10_tideComes 14 = .ok (.if_icmp .ge 24, 3) := by decide +kernel
theorem dX10_tideComes_17 : decode cX10_tideComes 17 = .ok (.aload_n 1, 1) := by decide +kernel
theorem dX10_tideComes_18 : decode cX10_tideComes 18 = .ok (.bipush 56, 2) := by decide +kernel
theorem dX10_tideComes_20 : decode cX10_tideComes 20 = .ok (.iload_n 2, 1) := by decide +kernel
theorem dX10_tideComes_21 : decode cX10_tideComes 21 = .ok (.iadd, 1) := by decide +kernel
theorem dX10_tideComes_22 : decode cX10_tideComes 22 = .ok (.dup2, 1) := by decide +kernel
theorem dX10_tideComes_23 : decode cX10_tideComes 23 = .ok (.iaload, 1) := by decide +kernel
theorem dX10_tideComes_24 : decode cX10_tideComes 24 = .ok (.aload_n 0, 1) := by decide +kernel
theorem dX10_tideComes_25 : decode cX10_tideComes 25 = .ok (.aload_n 1, 1) := by decide +kernel
theorem dX10_tideComes_26 : decode cX10_tideComes 26 = .ok (.iload_n 2, 1) := by decide +kernel
theorem dX10_tideComes_27 : decode cX10_tideComes 27 = .ok (.invokevirtual 307, 3) := by decide +kernel
theorem dX10_tideComes_30 : decode cX10_tideComes 30 = .ok (.iadd, 1) := by decide +kernel
theorem dX10_tideComes_31 : decode cX10_tideComes 31 = .ok (.iastore, 1) := by decide +kernel
theorem dX10_tideComes_32 : decode cX10_tideComes 32 = .ok (.iinc 2 1, 3) := by decide +kernel
theorem dX10_tideComes_35 : decode cX10_tideComes 35 = .ok (.goto (-28), 3) := by decide +kernel
theorem dX10_tideComes_38 : decode cX10_tideComes 38 = .ok (.iconst 0, 1) := by decide +kernel
theorem dX10_tideComes_39 : decode cX10_tideComes 39 = .ok (.istore_n 2, 1) := by decide +kernel
theorem dX10_tideComes_40 : decode cX10_tideComes 40 = .ok (.iload_n 2, 1) := by decide +kernel
theorem dX10_tideComes_41 : decode cX10_tideComes 41 = .ok (.aload_n 0, 1) := by decide +kernel
theorem dX10_tideComes_42 : decode cX10_tideComes 42 = .ok (.getfield 23, 3) := by decide +kernel
theorem dX10_tideComes_45 : decode cX10_tideComes 45 = .ok (.iconst 1, 1) := by decide +kernel
theorem dX10_tideComes_46 : decode cX10_tideComes 46 = .ok (.iaload, 1) := by decide +kernel
theorem dX10_tideComes_47 : decode cX10_tideComes 47 = .ok (.if_icmp .ge 85, 3) := by decide +kernel
theorem dX10_tideComes_50 : decode cX10_tideComes 50 = .ok (.aload_n 0, 1) := by decide +kernel
theorem dX10_tideComes_51 : decode cX10_tideComes 51 = .ok (.aload_n 1, 1) := by decide +kernel
theorem dX10_tideComes_52 : decode cX10_tideComes 52 = .ok (.iload_n 2, 1) := by decide +kernel
theorem dX10_tideComes_53 : decode cX10_tideComes 53 = .ok (.invokevirtual 289, 3) := by decide +kernel
theorem dX10_tideComes_56 : decode cX10_tideComes 56 = .ok (.ifCond .ne 6, 3) := by decide +kernel
theorem dX10_tideComes_59 : decode cX10_tideComes 59 = .ok (.goto 67, 3) := by decide +kernel
theorem dX10_tideComes_62 : decode cX10_tideComes 62 = .ok (.aload_n 0, 1) := by decide +kernel
theorem dX10_tideComes_63 : decode cX10_tideComes 63 = .ok (.aload_n 1, 1) := by decide +kernel
theorem dX10_tideComes_64 : decode cX10_tideComes 64 = .ok (.iload_n 2, 1) := by decide +kernel
theorem dX10_tideComes_65 : decode cX10_tideComes 65 = .ok (.invokevirtual 293, 3) := by decide +kernel
theorem dX10_tideComes_68 : decode cX10_tideComes 68 = .ok (.istore_n 3, 1) := by decide +kernel
theorem dX10_tideComes_69 : decode cX10_tideComes 69 = .ok (.aload_n 1, 1) := by decide +kernel
theorem dX10_tideComes_70 : decode cX10_tideComes 70 = .ok (.bipush 40, 2) := by decide +kernel
theorem dX10_tideComes_72 : decode cX10_tideComes 72 = .ok (.iload_n 2, 1) := by decide +kernel
theorem dX10_tideComes_73 : decode cX10_tideComes 73 = .ok (.iadd, 1) := by decide +kernel
theorem dX10_tideComes_74 : decode cX10_tideComes 74 = .ok (.iconst 0, 1) := by decide +kernel
theorem dX10_tideComes_75 : decode cX10_tideComes 75 = .ok (.aload_n 1, 1) := by decide +kernel
theorem dX10_tideComes_76 : decode cX10_tideComes 76 = .ok (.bipush 40, 2) := by decide +kernel
theorem dX10_tideComes_78 : decode cX10_tideComes 78 = .ok (.iload_n 2, 1) := by decide +kernel
theorem dX10_tideComes_79 : decode cX10_tideComes 79 = .ok (.iadd, 1) := by decide +kernel
theorem dX10_tideComes_80 : decode cX10_tideComes 80 = .ok (.iaload, 1) := by decide +kernel
theorem dX10_tideComes_81 : decode cX10_tideComes 81 = .ok (.iconst 1, 1) := by decide +kernel
theorem dX10_tideComes_82 : decode cX10_tideComes 82 = .ok (.isub, 1) := by decide +kernel
theorem dX10_tideComes_83 : decode cX10_tideComes 83 = .ok (.invokestatic 252, 3) := by decide +kernel
theorem dX10_tideComes_86 : decode cX10_tideComes 86 = .ok (.iastore, 1) := by decide +kernel
theorem dX10_tideComes_87 : decode cX10_tideComes 87 = .ok (.iload_n 3, 1) := by decide +kernel
theorem dX10_tideComes_88 : decode cX10_tideComes 88 = .ok (.ifCond .ne 6, 3) := by decide +kernel
theorem dX10_tideComes_91 : decode cX10_tideComes 91 = .ok (.goto 35, 3) := by decide +kernel
theorem dX10_tideComes_94 : decode cX10_tideComes 94 = .ok (.aload_n 1, 1) := by decide +kernel
theorem dX10_tideComes_95 : decode cX10_tideComes 95 = .ok (.bipush 20, 2) := by decide +kernel
theorem dX10_tideComes_97 : decode cX10_tideComes 97 = .ok (.iload_n 2, 1) := by decide +kernel
theorem dX10_tideComes_98 : decode cX10_tideComes 98 = .ok (.iadd, 1) := by decide +kernel
theorem dX10_tideComes_99 : decode cX10_tideComes 99 = .ok (.iaload, 1) := by decide +kernel
theorem dX10_tideComes_100 : decode cX10_tideComes 100 = .ok (.ifCond .ne 20, 3) := by decide +kernel
theorem dX10_tideComes_103 : decode cX10_tideComes 103 = .ok (.aload_n 1, 1) := by decide +kernel
theorem dX10_tideComes_104 : decode cX10_tideComes 104 = .ok (.iconst 0, 1) := by decide +kernel
theorem dX10_tideComes_105 : decode cX10_tideComes 105 = .ok (.iload_n 2, 1) := by decide +kernel
theorem dX10_tideComes_106 : decode cX10_tideComes 106 = .ok (.iadd, 1) := by decide +kernel
theorem dX10_tideComes_107 : decode cX10_tideComes 107 = .ok (.aload_n 0, 1) := by decide +kernel
theorem dX10_tideComes_108 : decode cX10_tideComes 108 = .ok (.aload_n 1, 1) := by decide +kernel
theorem dX10_tideComes_109 : decode cX10_tideComes 109 = .ok (.iconst 0, 1) := by decide +kernel
theorem dX10_tideComes_110 : decode cX10_tideComes 110 = .ok (.iload_n 2, 1) := by decide +kernel
theorem dX10_tideComes_111 : decode cX10_tideComes 111 = .ok (.iadd, 1) := by decide +kernel
theorem dX10_tideComes_112 : decode cX10_tideComes 112 = .ok (.iaload, 1) := by decide +kernel
theorem dX10_tideComes_113 : decode cX10_tideComes 113 = .ok (.invokevirtual 310, 3) := by decide +kernel
theorem dX10_tideComes_116 : decode cX10_tideComes 116 = .ok (.iastore, 1) := by decide +kernel
theorem dX10_tideComes_117 : decode cX10_tideComes 117 = .ok (.goto 9, 3) := by decide +kernel
theorem dX10_tideComes_120 : decode cX10_tideComes 120 = .ok (.aload_n 0, 1) := by decide +kernel
theorem dX10_tideComes_121 : decode cX10_tideComes 121 = .ok (.aload_n 1, 1) := by decide +kernel
theorem dX10_tideComes_122 : decode cX10_tideComes 122 = .ok (.iload_n 2, 1) := by decide +kernel
theorem dX10_tideComes_123 : decode cX10_tideComes 123 = .ok (.invokevirtual 313, 3) := by decide +kernel
theorem dX10_tideComes_126 : decode cX10_tideComes 126 = .ok (.iinc 2 1, 3) := by decide +kernel
theorem dX10_tideComes_129 : decode cX10_tideComes 129 = .ok (.goto (-89), 3) := by decide +kernel
theorem dX10_tideComes_132 : decode cX10_tideComes 132 = .ok (.aload_n 1, 1) := by decide +kernel
theorem dX10_tideComes_133 : decode cX10_tideComes 133 = .ok (.bipush 62, 2) := by decide +kernel
theorem dX10_tideComes_135 : decode cX10_tideComes 135 = .ok (.dup2, 1) := by decide +kernel
theorem dX10_tideComes_136 : decode cX10_tideComes 136 = .ok (.iaload, 1) := by decide +kernel
theorem dX10_tideComes_137 : decode cX10_tideComes 137 = .ok (.iconst 1, 1) := by decide +kernel
theorem dX10_tideComes_138 : decode cX10_tideComes 138 = .ok (.iadd, 1) := by decide +kernel
theorem dX10_tideComes_139 : decode cX10_tideComes 139 = .ok (.iastore, 1) := by decide +kernel
theorem dX10_tideComes_140 : decode cX10_tideComes 140 = .ok (.return_, 1) := by decide +kernel
theorem dX10_wears_0 : decode cX10_wears 0 = .ok (.aload_n 1, 1) := by decide +kernel
theorem dX10_wears_1 : decode cX10_wears 1 = .ok (.bipush 30, 2) := by decide +kernel
theorem dX10_wears_3 : decode cX10_wears 3 = .ok (.iload_n 2, 1) := by decide +kernel
theorem dX10_wears_4 : decode cX10_wears 4 = .ok (.iadd, 1) := by decide +kernel
theorem dX10_wears_5 : decode cX10_wears 5 = .ok (.dup2, 1) := by decide +kernel
theorem dX10_wears_6 : decode cX10_wears 6 = .ok (.iaload, 1) := by decide +kernel
theorem dX10_wears_7 : decode cX10_wears 7 = .ok (.iconst 1, 1) := by decide +kernel
theorem dX10_wears_8 : decode cX10_wears 8 = .ok (.iadd, 1) := by decide +kernel
theorem dX10_wears_9 : decode cX10_wears 9 = .ok (.iastore, 1) := by decide +kernel
theorem dX10_wears_10 : decode cX10_wears 10 = .ok (.aload_n 1, 1) := by decide +kernel
theorem dX10_wears_11 : decode cX10_wears 11 = .ok (.bipush 30, 2) := by decide +kernel
theorem dX10_wears_13 : decode cX10_wears 13 = .ok (.iload_n 2, 1) := by decide +kernel
theorem dX10_wears_14 : decode cX10_wears 14 = .ok (.iadd, 1) := by decide +kernel
theorem dX10_wears_15 : decode cX10_wears 15 = .ok (.iaload, 1) := by decide +kernel
theorem dX10_wears_16 : decode cX10_wears 16 = .ok (.aload_n 0, 1) := by decide +kernel
theorem dX10_wears_17 : decode cX10_wears 17 = .ok (.getfield 23, 3) := by decide +kernel
theorem dX10_wears_20 : decode cX10_wears 20 = .ok (.iconst 5, 1) := by decide +kernel
theorem dX10_wears_21 : decode cX10_wears 21 = .ok (.iaload, 1) := by decide +kernel
theorem dX10_wears_22 : decode cX10_wears 22 = .ok (.if_icmp .ge 4, 3) := by decide +kernel
theorem dX10_wears_25 : decode cX10_wears 25 = .ok (.return_, 1) := by decide +kernel
theorem dX10_wears_26 : decode cX10_wears 26 = .ok (.aload_n 1, 1) := by decide +kernel
theorem dX10_wears_27 : decode cX10_wears 27 = .ok (.bipush 20, 2) := by decide +kernel
theorem dX10_wears_29 : decode cX10_wears 29 = .ok (.iload_n 2, 1) := by decide +kernel
theorem dX10_wears_30 : decode cX10_wears 30 = .ok (.iadd, 1) := by decide +kernel
theorem dX10_wears_31 : decode cX10_wears 31 = .ok (.iconst 0, 1) := by decide +kernel
theorem dX10_wears_32 : decode cX10_wears 32 = .ok (.iastore, 1) := by decide +kernel
theorem dX10_wears_33 : decode cX10_wears 33 = .ok (.aload_n 1, 1) := by decide +kernel
theorem dX10_wears_34 : decode cX10_wears 34 = .ok (.bipush 30, 2) := by decide +kernel
theorem dX10_wears_36 : decode cX10_wears 36 = .ok (.iload_n 2, 1) := by decide +kernel
theorem dX10_wears_37 : decode cX10_wears 37 = .ok (.iadd, 1) := by decide +kernel
theorem dX10_wears_38 : decode cX10_wears 38 = .ok (.iconst 0, 1) := by decide +kernel
theorem dX10_wears_39 : decode cX10_wears 39 = .ok (.iastore, 1) := by decide +kernel
theorem dX10_wears_40 : decode cX10_wears 40 = .ok (.return_, 1) := by decide +kernel
theorem dX10_does_0 : decode cX10_does 0 = .ok (.aload_n 2, 1) := by decide +kernel
theorem dX10_does_1 : decode cX10_does 1 = .ok (.iconst 1, 1) := by decide +kernel
theorem dX10_does_2 : decode cX10_does 2 = .ok (.iaload, 1) := by decide +kernel
theorem dX10_does_3 : decode cX10_does 3 = .ok (.istore_n 3, 1) := by decide +kernel
theorem dX10_does_4 : decode cX10_does 4 = .ok (.aload_n 2, 1) := by decide +kernel
theorem dX10_does_5 : decode cX10_does 5 = .ok (.iconst 0, 1) := by decide +kernel
theorem dX10_does_6 : decode cX10_does 6 = .ok (.iaload, 1) := by decide +kernel
theorem dX10_does_7 : decode cX10_does 7 = .ok (.iconst 3, 1) := by decide +kernel
theorem dX10_does_8 : decode cX10_does 8 = .ok (.if_icmp .gt 12, 3) := by decide +kernel
theorem dX10_does_11 : decode cX10_does 11 = .ok (.aload_n 1, 1) := by decide +kernel
theorem dX10_does_12 : decode cX10_does 12 = .ok (.iconst 0, 1) := by decide +kernel
theorem dX10_does_13 : decode cX10_does 13 = .ok (.iload_n 3, 1) := by decide +kernel
theorem dX10_does_14 : decode cX10_does 14 = .ok (.iadd, 1) := by decide +kernel
theorem dX10_does_15 : decode cX10_does 15 = .ok (.iaload, 1) := by decide +kernel
theorem dX10_does_16 : decode cX10_does 16 = .ok (.iconst (-1), 1) := by decide +kernel
theorem dX10_does_17 : decode cX10_does 17 = .ok (.if_icmp .eq 7, 3) := by decide +kernel
theorem dX10_does_20 : decode cX10_does 20 = .ok (.iconst 1, 1) := by decide +kernel
theorem dX10_does_21 : decode cX10_does 21 = .ok (.goto 4, 3) := by decide +kernel
theorem dX10_does_24 : decode cX10_does 24 = .ok (.iconst 0, 1) := by decide +kernel
theorem dX10_does_25 : decode cX10_does 25 = .ok (.istore 4, 2) := by decide +kernel
theorem dX10_does_27 : decode cX10_does 27 = .ok (.aload_n 2, 1) := by decide +kernel
theorem dX10_does_28 : decode cX10_does 28 = .ok (.iconst 0, 1) := by decide +kernel
theorem dX10_does_29 : decode cX10_does 29 = .ok (.iaload, 1) := by decide +kernel
theorem dX10_does_30 : decode cX10_does 30 = .ok (.iconst 4, 1) := by decide +kernel
theorem dX10_does_31 : decode cX10_does 31 = .ok (.if_icmp .ge 17, 3) := by decide +kernel
theorem dX10_does_34 : decode cX10_does 34 = .ok (.aload_n 1, 1) := by decide +kernel
theorem dX10_does_35 : decode cX10_does 35 = .ok (.bipush 20, 2) := by decide +kernel
theorem dX10_does_37 : decode cX10_does 37 = .ok (.iload_n 3, 1) := by decide +kernel
theorem dX10_does_38 : decode cX10_does 38 = .ok (.iadd, 1) := by decide +kernel
theorem dX10_does_39 : decode cX10_does 39 = .ok (.iaload, 1) := by decide +kernel
theorem dX10_does_40 : decode cX10_does 40 = .ok (.iconst 1, 1) := by decide +kernel
theorem dX10_does_41 : decode cX10_does 41 = .ok (.if_icmp .ne 7, 3) := by decide +kernel
theorem dX10_does_44 : decode cX10_does 44 = .ok (.iconst 1, 1) := by decide +kernel
theorem dX10_does_45 : decode cX10_does 45 = .ok (.goto 4, 3) := by decide +kernel
theorem dX10_does_48 : decode cX10_does 48 = .ok (.iconst 0, 1) := by decide +kernel
theorem dX10_does_49 : decode cX10_does 49 = .ok (.istore 5, 2) := by decide +kernel
theorem dX10_does_51 : decode cX10_does 51 = .ok (.aload_n 2, 1) := by decide +kernel
theorem dX10_does_52 : decode cX10_does 52 = .ok (.iconst 0, 1) := by decide +kernel
theorem dX10_does_53 : decode cX10_does 53 = .ok (.iaload, 1) := by decide +kernel
theorem dX10_does_54 : decode cX10_does 54 = .ok (.iconst 4, 1) := by decide +kernel
theorem dX10_does_55 : decode cX10_does 55 = .ok (.if_icmp .ge 17, 3) := by decide +kernel
theorem dX10_does_58 : decode cX10_does 58 = .ok (.aload_n 1, 1) := by decide +kernel
theorem dX10_does_59 : decode cX10_does 59 = .ok (.bipush 10, 2) := by decide +kernel
theorem dX10_does_61 : decode cX10_does 61 = .ok (.iload_n 3, 1) := by decide +kernel
theorem dX10_does_62 : decode cX10_does 62 = .ok (.iadd, 1) := by decide +kernel
theorem dX10_does_63 : decode cX10_does 63 = .ok (.iaload, 1) := by decide +kernel
theorem dX10_does_64 : decode cX10_does 64 = .ok (.iconst 1, 1) := by decide +kernel
theorem dX10_does_65 : decode cX10_does 65 = .ok (.if_icmp .ne 7, 3) := by decide +kernel
theorem dX10_does_68 : decode cX10_does 68 = .ok (.iconst 1, 1) := by decide +kernel
theorem dX10_does_69 : decode cX10_does 69 = .ok (.goto 4, 3) := by decide +kernel
theorem dX10_does_72 : decode cX10_does 72 = .ok (.iconst 0, 1) := by decide +kernel
theorem dX10_does_73 : decode cX10_does 73 = .ok (.istore 6, 2) := by decide +kernel
theorem dX10_does_75 : decode cX10_does 75 = .ok (.aload_n 2, 1) := by decide +kernel
theorem dX10_does_76 : decode cX10_does 76 = .ok (.iconst 0, 1) := by decide +kernel
theorem dX10_does_77 : decode cX10_does 77 = .ok (.iaload, 1) := by decide +kernel
theorem dX10_does_78 : decode cX10_does 78 = .ok (.tableswitch 138 0 4 #[34, 60, 70, 96, 113], 34) := by decide +kernel
theorem dX10_does_112 : decode cX10_does 112 = .ok (.iload 6, 2) := by decide +kernel
theorem dX10_does_114 : decode cX10_does 114 = .ok (.ifCond .ne 13, 3) := by decide +kernel
theorem dX10_does_117 : decode cX10_does 117 = .ok (.iload 5, 2) := by decide +kernel
theorem dX10_does_119 : decode cX10_does 119 = .ok (.ifCond .ne 8, 3) := by decide +kernel
theorem dX10_does_122 : decode cX10_does 122 = .ok (.iload 4, 2) := by decide +kernel
theorem dX10_does_124 : decode cX10_does 124 = .ok (.ifCond .ne 5, 3) := by decide +kernel
theorem dX10_does_127 : decode cX10_does 127 = .ok (.iconst 0, 1) := by decide +kernel
theorem dX10_does_128 : decode cX10_does 128 = .ok (.ireturn, 1) := by decide +kernel
theorem dX10_does_129 : decode cX10_does 129 = .ok (.aload_n 1, 1) := by decide +kernel
theorem dX10_does_130 : decode cX10_does 130 = .ok (.bipush 10, 2) := by decide +kernel
theorem dX10_does_132 : decode cX10_does 132 = .ok (.iload_n 3, 1) := by decide +kernel
theorem dX10_does_133 : decode cX10_does 133 = .ok (.iadd, 1) := by decide +kernel
theorem dX10_does_134 : decode cX10_does 134 = .ok (.iconst 1, 1) := by decide +kernel
theorem dX10_does_135 : decode cX10_does 135 = .ok (.iastore, 1) := by decide +kernel
theorem dX10_does_136 : decode cX10_does 136 = .ok (.iconst 1, 1) := by decide +kernel
theorem dX10_does_137 : decode cX10_does 137 = .ok (.ireturn, 1) := by decide +kernel
theorem dX10_does_138 : decode cX10_does 138 = .ok (.aload_n 1, 1) := by decide +kernel
theorem dX10_does_139 : decode cX10_does 139 = .ok (.bipush 10, 2) := by decide +kernel
theorem dX10_does_141 : decode cX10_does 141 = .ok (.iload_n 3, 1) := by decide +kernel
theorem dX10_does_142 : decode cX10_does 142 = .ok (.iadd, 1) := by decide +kernel
theorem dX10_does_143 : decode cX10_does 143 = .ok (.iconst 0, 1) := by decide +kernel
theorem dX10_does_144 : decode cX10_does 144 = .ok (.iastore, 1) := by decide +kernel
theorem dX10_does_145 : decode cX10_does 145 = .ok (.iload 6, 2) := by decide +kernel
theorem dX10_does_147 : decode cX10_does 147 = .ok (.ireturn, 1) := by decide +kernel
theorem dX10_does_148 : decode cX10_does 148 = .ok (.iload 6, 2) := by decide +kernel
theorem dX10_does_150 : decode cX10_does 150 = .ok (.ifCond .ne 13, 3) := by decide +kernel
theorem dX10_does_153 : decode cX10_does 153 = .ok (.iload 5, 2) := by decide +kernel
theorem dX10_does_155 : decode cX10_does 155 = .ok (.ifCond .ne 8, 3) := by decide +kernel
theorem dX10_does_158 : decode cX10_does 158 = .ok (.iload 4, 2) := by decide +kernel
theorem dX10_does_160 : decode cX10_does 160 = .ok (.ifCond .ne 5, 3) := by decide +kernel
theorem dX10_does_163 : decode cX10_does 163 = .ok (.iconst 0, 1) := by decide +kernel
theorem dX10_does_164 : decode cX10_does 164 = .ok (.ireturn, 1) := by decide +kernel
theorem dX10_does_165 : decode cX10_does 165 = .ok (.aload_n 1, 1) := by decide +kernel
theorem dX10_does_166 : decode cX10_does 166 = .ok (.bipush 20, 2) := by decide +kernel
theorem dX10_does_168 : decode cX10_does 168 = .ok (.iload_n 3, 1) := by decide +kernel
theorem dX10_does_169 : decode cX10_does 169 = .ok (.iadd, 1) := by decide +kernel
theorem dX10_does_170 : decode cX10_does 170 = .ok (.iconst 1, 1) := by decide +kernel
theorem dX10_does_171 : decode cX10_does 171 = .ok (.iastore, 1) := by decide +kernel
theorem dX10_does_172 : decode cX10_does 172 = .ok (.iconst 1, 1) := by decide +kernel
theorem dX10_does_173 : decode cX10_does 173 = .ok (.ireturn, 1) := by decide +kernel
theorem dX10_does_174 : decode cX10_does 174 = .ok (.aload_n 1, 1) := by decide +kernel
theorem dX10_does_175 : decode cX10_does 175 = .ok (.bipush 20, 2) := by decide +kernel
theorem dX10_does_177 : decode cX10_does 177 = .ok (.iload_n 3, 1) := by decide +kernel
theorem dX10_does_178 : decode cX10_does 178 = .ok (.iadd, 1) := by decide +kernel
theorem dX10_does_179 : decode cX10_does 179 = .ok (.iconst 0, 1) := by decide +kernel
theorem dX10_does_180 : decode cX10_does 180 = .ok (.iastore, 1) := by decide +kernel
theorem dX10_does_181 : decode cX10_does 181 = .ok (.aload_n 1, 1) := by decide +kernel
theorem dX10_does_182 : decode cX10_does 182 = .ok (.bipush 30, 2) := by decide +kernel
theorem dX10_does_184 : decode cX10_does 184 = .ok (.iload_n 3, 1) := by decide +kernel
theorem dX10_does_185 : decode cX10_does 185 = .ok (.iadd, 1) := by decide +kernel
theorem dX10_does_186 : decode cX10_does 186 = .ok (.iconst 0, 1) := by decide +kernel
theorem dX10_does_187 : decode cX10_does 187 = .ok (.iastore, 1) := by decide +kernel
theorem dX10_does_188 : decode cX10_does 188 = .ok (.iload 5, 2) := by decide +kernel
theorem dX10_does_190 : decode cX10_does 190 = .ok (.ireturn, 1) := by decide +kernel
theorem dX10_does_191 : decode cX10_does 191 = .ok (.aload_n 1, 1) := by decide +kernel
theorem dX10_does_192 : decode cX10_does 192 = .ok (.bipush 50, 2) := by decide +kernel
theorem dX10_does_194 : decode cX10_does 194 = .ok (.iload_n 3, 1) := by decide +kernel
theorem dX10_does_195 : decode cX10_does 195 = .ok (.iadd, 1) := by decide +kernel
theorem dX10_does_196 : decode cX10_does 196 = .ok (.iaload, 1) := by decide +kernel
theorem dX10_does_197 : decode cX10_does 197 = .ok (.bipush 9, 2) := by decide +kernel
theorem dX10_does_199 : decode cX10_does 199 = .ok (.if_icmp .ne 5, 3) := by decide +kernel
theorem dX10_does_202 : decode cX10_does 202 = .ok (.iconst 0, 1) := by decide +kernel
theorem dX10_does_203 : decode cX10_does 203 = .ok (.ireturn, 1) := by decide +kernel
theorem dX10_does_204 : decode cX10_does 204 = .ok (.aload_n 1, 1) := by decide +kernel
theorem dX10_does_205 : decode cX10_does 205 = .ok (.bipush 50, 2) := by decide +kernel
theorem dX10_does_207 : decode cX10_does 207 = .ok (.iload_n 3, 1) := by decide +kernel
theorem dX10_does_208 : decode cX10_does 208 = .ok (.iadd, 1) := by decide +kernel
theorem dX10_does_209 : decode cX10_does 209 = .ok (.dup2, 1) := by decide +kernel
theorem dX10_does_210 : decode cX10_does 210 = .ok (.iaload, 1) := by decide +kernel
theorem dX10_does_211 : decode cX10_does 211 = .ok (.iconst 1, 1) := by decide +kernel
theorem dX10_does_212 : decode cX10_does 212 = .ok (.iadd, 1) := by decide +kernel
theorem dX10_does_213 : decode cX10_does 213 = .ok (.iastore, 1) := by decide +kernel
theorem dX10_does_214 : decode cX10_does 214 = .ok (.iconst 1, 1) := by decide +kernel
theorem dX10_does_215 : decode cX10_does 215 = .ok (.ireturn, 1) := by decide +kernel
theorem dX10_does_216 : decode cX10_does 216 = .ok (.aload_n 1, 1) := by decide +kernel
theorem dX10_does_217 : decode cX10_does 217 = .ok (.bipush 62, 2) := by decide +kernel
theorem dX10_does_219 : decode cX10_does 219 = .ok (.iaload, 1) := by decide +kernel
theorem dX10_does_220 : decode cX10_does 220 = .ok (.sipush 500, 3) := by decide +kernel
theorem dX10_does_223 : decode cX10_does 223 = .ok (.if_icmp .lt 5, 3) := by decide +kernel
theorem dX10_does_226 : decode cX10_does 226 = .ok (.iconst 0, 1) := by decide +kernel
theorem dX10_does_227 : decode cX10_does 227 = .ok (.ireturn, 1) := by decide +kernel
theorem dX10_does_228 : decode cX10_does 228 = .ok (.aload_n 0, 1) := by decide +kernel
theorem dX10_does_229 : decode cX10_does 229 = .ok (.aload_n 1, 1) := by decide +kernel
theorem dX10_does_230 : decode cX10_does 230 = .ok (.invokevirtual 317, 3) := by decide +kernel
theorem dX10_does_233 : decode cX10_does 233 = .ok (.iconst 1, 1) := by decide +kernel
theorem dX10_does_234 : decode cX10_does 234 = .ok (.ireturn, 1) := by decide +kernel
theorem dX10_goes_0 : decode cX10_goes 0 = .ok (.iload_n 1, 1) := by decide +kernel
theorem dX10_goes_1 : decode cX10_goes 1 = .ok (.istore_n 3, 1) := by decide +kernel
theorem dX10_goes_2 : decode cX10_goes 2 = .ok (.iload_n 3, 1) := by decide +kernel
theorem dX10_goes_3 : decode cX10_goes 3 = .ok (.iload_n 2, 1) := by decide +kernel
theorem dX10_goes_4 : decode cX10_goes 4 = .ok (.if_icmp .ge 152, 3) := by decide +kernel
theorem dX10_goes_7 : decode cX10_goes 7 = .ok (.aload_n 0, 1) := by decide +kernel
theorem dX10_goes_8 : decode cX10_goes 8 = .ok (.getfield 320, 3) := by decide +kernel
theorem dX10_goes_11 : decode cX10_goes 11 = .ok (.sipush 200, 3) := by decide +kernel
theorem dX10_goes_14 : decode cX10_goes 14 = .ok (.if_icmp .ge 142, 3) := by decide +kernel
theorem dX10_goes_17 : decode cX10_goes 17 = .ok (.aload_n 0, 1) := by decide +kernel
theorem dX10_goes_18 : decode cX10_goes 18 = .ok (.dup, 1) := by decide +kernel
theorem dX10_goes_19 : decode cX10_goes 19 = .ok (.getfield 320, 3) := by decide +kernel
theorem dX10_goes_22 : decode cX10_goes 22 = .ok (.iconst 1, 1) := by decide +kernel
theorem dX10_goes_23 : decode cX10_goes 23 = .ok (.iadd, 1) := by decide +kernel
theorem dX10_goes_24 : decode cX10_goes 24 = .ok (.putfield 320, 3) := by decide +kernel
theorem dX10_goes_27 : decode cX10_goes 27 = .ok (.aload_n 0, 1) := by decide +kernel
theorem dX10_goes_28 : decode cX10_goes 28 = .ok (.getfield 70, 3) := by decide +kernel
theorem dX10_goes_31 : decode cX10_goes 31 = .ok (.iload_n 3, 1) := by decide +kernel
theorem dX10_goes_32 : decode cX10_goes 32 = .ok (.aaload, 1) := by decide +kernel
theorem dX10_goes_33 : decode cX10_goes 33 = .ok (.iconst 0, 1) := by decide +kernel
theorem dX10_goes_34 : decode cX10_goes 34 = .ok (.iaload, 1) := by decide +kernel
theorem dX10_goes_35 : decode cX10_goes 35 = .ok (.bipush 6, 2) := by decide +kernel
theorem dX10_goes_37 : decode cX10_goes 37 = .ok (.if_icmp .ne 53, 3) := by decide +kernel
theorem dX10_goes_40 : decode cX10_goes 40 = .ok (.iconst 0, 1) := by decide +kernel
theorem dX10_goes_41 : decode cX10_goes 41 = .ok (.istore 4, 2) := by decide +kernel
theorem dX10_goes_43 : decode cX10_goes 43 = .ok (.iload 4, 2) := by decide +kernel
theorem dX10_goes_45 : decode cX10_goes 45 = .ok (.aload_n 0, 1) := by decide +kernel
theorem dX10_goes_46 : decode cX10_goes 46 = .ok (.getfield 70, 3) := by decide +kernel
theorem dX10_goes_49 : decode cX10_goes 49 = .ok (.iload_n 3, 1) := by decide +kernel
theorem dX10_goes_50 : decode cX10_goes 50 = .ok (.aaload, 1) := by decide +kernel
theorem dX10_goes_51 : decode cX10_goes 51 = .ok (.iconst 1, 1) := by decide +kernel
theorem dX10_goes_52 : decode cX10_goes 52 = .ok (.iaload, 1) := by decide +kernel
theorem dX10_goes_53 : decode cX10_goes 53 = .ok (.if_icmp .ge 34, 3) := by decide +kernel
theorem dX10_goes_56 : decode cX10_goes 56 = .ok (.aload_n 0, 1) := by decide +kernel
theorem dX10_goes_57 : decode cX10_goes 57 = .ok (.getfield 320, 3) := by decide +kernel
theorem dX10_goes_60 : decode cX10_goes 60 = .ok (.sipush 200, 3) := by decide +kernel
theorem dX10_goes_63 : decode cX10_goes 63 = .ok (.if_icmp .ge 24, 3) := by decide +kernel
theorem dX10_goes_66 : decode cX10_goes 66 = .ok (.aload_n 0, 1) := by decide +kernel
theorem dX10_goes_67 : decode cX10_goes 67 = .ok (.iload_n 3, 1) := by decide +kernel
theorem dX10_goes_68 : decode cX10_goes 68 = .ok (.iconst 1, 1) := by decide +kernel
theorem dX10_goes_69 : decode cX10_goes 69 = .ok (.iadd, 1) := by decide +kernel
theorem dX10_goes_70 : decode cX10_goes 70 = .ok (.aload_n 0, 1) := by decide +kernel
theorem dX10_goes_71 : decode cX10_goes 71 = .ok (.getfield 70, 3) := by decide +kernel
theorem dX10_goes_74 : decode cX10_goes 74 = .ok (.iload_n 3, 1) := by decide +kernel
theorem dX10_goes_75 : decode cX10_goes 75 = .ok (.aaload, 1) := by decide +kernel
theorem dX10_goes_76 : decode cX10_goes 76 = .ok (.iconst 2, 1) := by decide +kernel
theorem dX10_goes_77 : decode cX10_goes 77 = .ok (.iaload, 1) := by decide +kernel
theorem dX10_goes_78 : decode cX10_goes 78 = .ok (.invokevirtual 323, 3) := by decide +kernel
theorem dX10_goes_81 : decode cX10_goes 81 = .ok (.iinc 4 1, 3) := by decide +kernel
theorem dX10_goes_84 : decode cX10_goes 84 = .ok (.goto (-41), 3) := by decide +kernel
theorem dX10_goes_87 : decode cX10_goes 87 = .ok (.goto 57, 3) := by decide +kernel
theorem dX10_goes_90 : decode cX10_goes 90 = .ok (.aload_n 0, 1) := by decide +kernel
theorem dX10_goes_91 : decode cX10_goes 91 = .ok (.aload_n 0, 1) := by decide +kernel
theorem dX10_goes_92 : decode cX10_goes 92 = .ok (.getfield 73, 3) := by decide +kernel
theorem dX10_goes_95 : decode cX10_goes 95 = .ok (.aload_n 0, 1) := by decide +kernel
theorem dX10_goes_96 : decode cX10_goes 96 = .ok (.getfield 70, 3) := by decide +kernel
theorem dX10_goes_99 : decode cX10_goes 99 = .ok (.iload_n 3, 1) := by decide +kernel
theorem dX10_goes_100 : decode cX10_goes 100 = .ok (.aaload, 1) := by decide +kernel
theorem dX10_goes_101 : decode cX10_goes 101 = .ok (.invokevirtual 326, 3) := by decide +kernel
theorem dX10_goes_104 : decode cX10_goes 104 = .ok (.istore 4, 2) := by decide +kernel
theorem dX10_goes_106 : decode cX10_goes 106 = .ok (.aload_n 0, 1) := by decide +kernel
theorem dX10_goes_107 : decode cX10_goes 107 = .ok (.dup, 1) := by decide +kernel
theorem dX10_goes_108 : decode cX10_goes 108 = .ok (.getfield 330, 3) := by decide +kernel
theorem dX10_goes_111 : decode cX10_goes 111 = .ok (.iload 4, 2) := by decide +kernel
theorem dX10_goes_113 : decode cX10_goes 113 = .ok (.ifCond .eq 7, 3) := by decide +kernel
theorem dX10_goes_116 : decode cX10_goes 116 = .ok (.iconst 1, 1) := by decide +kernel
theorem dX10_goes_117 : decode cX10_goes 117 = .ok (.goto 4, 3) := by decide +kernel
theorem dX10_goes_120 : decode cX10_goes 120 = .ok (.iconst 0, 1) := by decide +kernel
theorem dX10_goes_121 : decode cX10_goes 121 = .ok (.iadd, 1) := by decide +kernel
theorem dX10_goes_122 : decode cX10_goes 122 = .ok (.putfield 330, 3) := by decide +kernel
theorem dX10_goes_125 : decode cX10_goes 125 = .ok (.aload_n 0, 1) := by decide +kernel
theorem dX10_goes_126 : decode cX10_goes 126 = .ok (.dup, 1) := by decide +kernel
theorem dX10_goes_127 : decode cX10_goes 127 = .ok (.getfield 215, 3) := by decide +kernel
theorem dX10_goes_130 : decode cX10_goes 130 = .ok (.iload 4, 2) := by decide +kernel
theorem dX10_goes_132 : decode cX10_goes 132 = .ok (.ifCond .eq 7, 3) := by decide +kernel
theorem dX10_goes_135 : decode cX10_goes 135 = .ok (.iconst 0, 1) := by decide +kernel
theorem dX10_goes_136 : decode cX10_goes 136 = .ok (.goto 4, 3) := by decide +kernel
theorem dX10_goes_139 : decode cX10_goes 139 = .ok (.iconst 1, 1) := by decide +kernel
theorem dX10_goes_140 : decode cX10_goes 140 = .ok (.iadd, 1) := by decide +kernel
theorem dX10_goes_141 : decode cX10_goes 141 = .ok (.putfield 215, 3) := by decide +kernel
theorem dX10_goes_144 : decode cX10_goes 144 = .ok (.aload_n 0, 1) := by decide +kernel
theorem dX10_goes_145 : decode cX10_goes 145 = .ok (.getfield 70, 3) := by decide +kernel
theorem dX10_goes_148 : decode cX10_goes 148 = .ok (.iload_n 3, 1) := by decide +kernel
theorem dX10_goes_149 : decode cX10_goes 149 = .ok (.aaload, 1) := by decide +kernel
theorem dX10_goes_150 : decode cX10_goes 150 = .ok (.iconst 2, 1) := by decide +kernel
theorem dX10_goes_151 : decode cX10_goes 151 = .ok (.iaload, 1) := by decide +kernel
theorem dX10_goes_152 : decode cX10_goes 152 = .ok (.istore_n 3, 1) := by decide +kernel
theorem dX10_goes_153 : decode cX10_goes 153 = .ok (.goto (-151), 3) := by decide +kernel
theorem dX10_goes_156 : decode cX10_goes 156 = .ok (.return_, 1) := by decide +kernel
theorem dX10_work_0 : decode cX10_work 0 = .ok (.aload_n 0, 1) := by decide +kernel
theorem dX10_work_1 : decode cX10_work 1 = .ok (.iconst 0, 1) := by decide +kernel
theorem dX10_work_2 : decode cX10_work 2 = .ok (.putfield 103, 3) := by decide +kernel
theorem dX10_work_5 : decode cX10_work 5 = .ok (.aload_n 0, 1) := by decide +kernel
theorem dX10_work_6 : decode cX10_work 6 = .ok (.iload_n 1, 1) := by decide +kernel
theorem dX10_work_7 : decode cX10_work 7 = .ok (.iconst 0, 1) := by decide +kernel
theorem dX10_work_8 : decode cX10_work 8 = .ok (.aload_n 0, 1) := by decide +kernel
theorem dX10_work_9 : decode cX10_work 9 = .ok (.getfield 106, 3) := by decide +kernel
theorem dX10_work_12 : decode cX10_work 12 = .ok (.invokestatic 137, 3) := by decide +kernel
theorem dX10_work_15 : decode cX10_work 15 = .ok (.ifCond .eq 10, 3) := by decide +kernel
theorem dX10_work_18 : decode cX10_work 18 = .ok (.iload_n 1, 1) := by decide +kernel
theorem dX10_work_19 : decode cX10_work 19 = .ok (.sipush 150, 3) := by decide +kernel
theorem dX10_work_22 : decode cX10_work 22 = .ok (.if_icmp .le 7, 3) := by decide +kernel
theorem dX10_work_25 : decode cX10_work 25 = .ok (.iconst 1, 1) := by decide +kernel
theorem dX10_work_26 : decode cX10_work 26 = .ok (.goto 4, 3) := by decide +kernel
theorem dX10_work_29 : decode cX10_work 29 = .ok (.iconst 0, 1) := by decide +kernel
theorem dX10_work_30 : decode cX10_work 30 = .ok (.iconst 1, 1) := by decide +kernel
theorem dX10_work_31 : decode cX10_work 31 = .ok (.iconst 1, 1) := by decide +kernel
theorem dX10_work_32 : decode cX10_work 32 = .ok (.invokevirtual 186, 3) := by decide +kernel
theorem dX10_work_35 : decode cX10_work 35 = .ok (.ifCond .eq 5, 3) := by decide +kernel
theorem dX10_work_38 : decode cX10_work 38 = .ok (.iconst 0, 1) := by decide +kernel
theorem dX10_work_39 : decode cX10_work 39 = .ok (.ireturn, 1) := by decide +kernel
theorem dX10_work_40 : decode cX10_work 40 = .ok (.aload_n 0, 1) := by decide +kernel
theorem dX10_work_41 : decode cX10_work 41 = .ok (.getfield 212, 3) := by decide +kernel
theorem dX10_work_44 : decode cX10_work 44 = .ok (.bipush 16, 2) := by decide +kernel
theorem dX10_work_46 : decode cX10_work 46 = .ok (.if_icmp .ne 16, 3) := by decide +kernel
theorem dX10_work_49 : decode cX10_work 49 = .ok (.aload_n 0, 1) := by decide +kernel
theorem dX10_work_50 : decode cX10_work 50 = .ok (.iconst 0, 1) := by decide +kernel
theorem dX10_work_51 : decode cX10_work 51 = .ok (.putfield 106, 3) := by decide +kernel
theorem dX10_work_54 : decode cX10_work 54 = .ok (.aload_n 0, 1) := by decide +kernel
theorem dX10_work_55 : decode cX10_work 55 = .ok (.iconst (-1), 1) := by decide +kernel
theorem dX10_work_56 : decode cX10_work 56 = .ok (.putfield 9, 3) := by decide +kernel
theorem dX10_work_59 : decode cX10_work 59 = .ok (.bipush (-20), 2) := by decide +kernel
theorem dX10_work_61 : decode cX10_work 61 = .ok (.ireturn, 1) := by decide +kernel
theorem dX10_work_62 : decode cX10_work 62 = .ok (.aload_n 0, 1) := by decide +kernel
theorem dX10_work_63 : decode cX10_work 63 = .ok (.iload_n 1, 1) := by decide +kernel
theorem dX10_work_64 : decode cX10_work 64 = .ok (.invokevirtual 190, 3) := by decide +kernel
theorem dX10_work_67 : decode cX10_work 67 = .ok (.aload_n 0, 1) := by decide +kernel
theorem dX10_work_68 : decode cX10_work 68 = .ok (.iconst 0, 1) := by decide +kernel
theorem dX10_work_69 : decode cX10_work 69 = .ok (.putfield 262, 3) := by decide +kernel
theorem dX10_work_72 : decode cX10_work 72 = .ok (.aload_n 0, 1) := by decide +kernel
theorem dX10_work_73 : decode cX10_work 73 = .ok (.getfield 119, 3) := by decide +kernel
theorem dX10_work_76 : decode cX10_work 76 = .ok (.ifCond .ne 25, 3) := by decide +kernel
theorem dX10_work_79 : decode cX10_work 79 = .ok (.aload_n 0, 1) := by decide +kernel
theorem dX10_work_80 : decode cX10_work 80 = .ok (.getfield 112, 3) := by decide +kernel
theorem dX10_work_83 : decode cX10_work 83 = .ok (.aload_n 0, 1) := by decide +kernel
theorem dX10_work_84 : decode cX10_work 84 = .ok (.getfield 109, 3) := by decide +kernel
theorem dX10_work_87 : decode cX10_work 87 = .ok (.if_icmp .ge 14, 3) := by decide +kernel
theorem dX10_work_90 : decode cX10_work 90 = .ok (.aload_n 0, 1) := by decide +kernel
theorem dX10_work_91 : decode cX10_work 91 = .ok (.invokevirtual 265, 3) := by decide +kernel
theorem dX10_work_94 : decode cX10_work 94 = .ok (.aload_n 0, 1) := by decide +kernel
theorem dX10_work_95 : decode cX10_work 95 = .ok (.invokevirtual 125, 3) := by decide +kernel
theorem dX10_work_98 : decode cX10_work 98 = .ok (.goto (-26), 3) := by decide +kernel
theorem dX10_work_101 : decode cX10_work 101 = .ok (.aload_n 0, 1) := by decide +kernel
theorem dX10_work_102 : decode cX10_work 102 = .ok (.getfield 119, 3) := by decide +kernel
theorem dX10_work_105 : decode cX10_work 105 = .ok (.ifCond .eq 8, 3) := by decide +kernel
theorem dX10_work_108 : decode cX10_work 108 = .ok (.aload_n 0, 1) := by decide +kernel
theorem dX10_work_109 : decode cX10_work 109 = .ok (.invokevirtual 196, 3) := by decide +kernel
theorem dX10_work_112 : decode cX10_work 112 = .ok (.ireturn, 1) := by decide +kernel
theorem dX10_work_113 : decode cX10_work 113 = .ok (.aload_n 0, 1) := by decide +kernel
theorem dX10_work_114 : decode cX10_work 114 = .ok (.iconst (-1), 1) := by decide +kernel
theorem dX10_work_115 : decode cX10_work 115 = .ok (.putfield 9, 3) := by decide +kernel
theorem dX10_work_118 : decode cX10_work 118 = .ok (.aload_n 0, 1) := by decide +kernel
theorem dX10_work_119 : decode cX10_work 119 = .ok (.getfield 73, 3) := by decide +kernel
theorem dX10_work_122 : decode cX10_work 122 = .ok (.aload_n 0, 1) := by decide +kernel
theorem dX10_work_123 : decode cX10_work 123 = .ok (.getfield 88, 3) := by decide +kernel
theorem dX10_work_126 : decode cX10_work 126 = .ok (.aload_n 0, 1) := by decide +kernel
theorem dX10_work_127 : decode cX10_work 127 = .ok (.getfield 212, 3) := by decide +kernel
theorem dX10_work_130 : decode cX10_work 130 = .ok (.aaload, 1) := by decide +kernel
theorem dX10_work_131 : decode cX10_work 131 = .ok (.invokestatic 333, 3) := by decide +kernel
theorem dX10_work_134 : decode cX10_work 134 = .ok (.aload_n 0, 1) := by decide +kernel
theorem dX10_work_135 : decode cX10_work 135 = .ok (.dup, 1) := by decide +kernel
theorem dX10_work_136 : decode cX10_work 136 = .ok (.getfield 212, 3) := by decide +kernel
theorem dX10_work_139 : decode cX10_work 139 = .ok (.iconst 1, 1) := by decide +kernel
theorem dX10_work_140 : decode cX10_work 140 = .ok (.iadd, 1) := by decide +kernel
theorem dX10_work_141 : decode cX10_work 141 = .ok (.putfield 212, 3) := by decide +kernel
theorem dX10_work_144 : decode cX10_work 144 = .ok (.aload_n 0, 1) := by decide +kernel
theorem dX10_work_145 : decode cX10_work 145 = .ok (.iconst 0, 1) := by decide +kernel
theorem dX10_work_146 : decode cX10_work 146 = .ok (.putfield 320, 3) := by decide +kernel
theorem dX10_work_149 : decode cX10_work 149 = .ok (.aload_n 0, 1) := by decide +kernel
theorem dX10_work_150 : decode cX10_work 150 = .ok (.iconst 0, 1) := by decide +kernel
theorem dX10_work_151 : decode cX10_work 151 = .ok (.putfield 330, 3) := by decide +kernel
theorem dX10_work_154 : decode cX10_work 154 = .ok (.aload_n 0, 1) := by decide +kernel
theorem dX10_work_155 : decode cX10_work 155 = .ok (.iconst 0, 1) := by decide +kernel
theorem dX10_work_156 : decode cX10_work 156 = .ok (.putfield 215, 3) := by decide +kernel
theorem dX10_work_159 : decode cX10_work 159 = .ok (.aload_n 0, 1) := by decide +kernel
theorem dX10_work_160 : decode cX10_work 160 = .ok (.iconst 0, 1) := by decide +kernel
theorem dX10_work_161 : decode cX10_work 161 = .ok (.aload_n 0, 1) := by decide +kernel
theorem dX10_work_162 : decode cX10_work 162 = .ok (.getfield 262, 3) := by decide +kernel
theorem dX10_work_165 : decode cX10_work 165 = .ok (.invokevirtual 323, 3) := by decide +kernel
theorem dX10_work_168 : decode cX10_work 168 = .ok (.aload_n 0, 1) := by decide +kernel
theorem dX10_work_169 : decode cX10_work 169 = .ok (.getfield 330, 3) := by decide +kernel
theorem dX10_work_172 : decode cX10_work 172 = .ok (.ireturn, 1) := by decide +kernel
theorem dX10_undo_0 : decode cX10_undo 0 = .ok (.aload_n 0, 1) := by decide +kernel
theorem dX10_undo_1 : decode cX10_undo 1 = .ok (.iconst 0, 1) := by decide +kernel
theorem dX10_undo_2 : decode cX10_undo 2 = .ok (.putfield 103, 3) := by decide +kernel
theorem dX10_undo_5 : decode cX10_undo 5 = .ok (.aload_n 0, 1) := by decide +kernel
theorem dX10_undo_6 : decode cX10_undo 6 = .ok (.getfield 212, 3) := by decide +kernel
theorem dX10_undo_9 : decode cX10_undo 9 = .ok (.ifCond .ne 5, 3) := by decide +kernel
theorem dX10_undo_12 : decode cX10_undo 12 = .ok (.iconst (-1), 1) := by decide +kernel
theorem dX10_undo_13 : decode cX10_undo 13 = .ok (.ireturn, 1) := by decide +kernel
theorem dX10_undo_14 : decode cX10_undo 14 = .ok (.aload_n 0, 1) := by decide +kernel
theorem dX10_undo_15 : decode cX10_undo 15 = .ok (.dup, 1) := by decide +kernel
theorem dX10_undo_16 : decode cX10_undo 16 = .ok (.getfield 212, 3) := by decide +kernel
theorem dX10_undo_19 : decode cX10_undo 19 = .ok (.iconst 1, 1) := by decide +kernel
theorem dX10_undo_20 : decode cX10_undo 20 = .ok (.isub, 1) := by decide +kernel
theorem dX10_undo_21 : decode cX10_undo 21 = .ok (.putfield 212, 3) := by decide +kernel
theorem dX10_undo_24 : decode cX10_undo 24 = .ok (.aload_n 0, 1) := by decide +kernel
theorem dX10_undo_25 : decode cX10_undo 25 = .ok (.getfield 88, 3) := by decide +kernel
theorem dX10_undo_28 : decode cX10_undo 28 = .ok (.aload_n 0, 1) := by decide +kernel
theorem dX10_undo_29 : decode cX10_undo 29 = .ok (.getfield 212, 3) := by decide +kernel
theorem dX10_undo_32 : decode cX10_undo 32 = .ok (.aaload, 1) := by decide +kernel
theorem dX10_undo_33 : decode cX10_undo 33 = .ok (.aload_n 0, 1) := by decide +kernel
theorem dX10_undo_34 : decode cX10_undo 34 = .ok (.getfield 73, 3) := by decide +kernel
theorem dX10_undo_37 : decode cX10_undo 37 = .ok (.invokestatic 333, 3) := by decide +kernel
theorem dX10_undo_40 : decode cX10_undo 40 = .ok (.aload_n 0, 1) := by decide +kernel
theorem dX10_undo_41 : decode cX10_undo 41 = .ok (.iconst 0, 1) := by decide +kernel
theorem dX10_undo_42 : decode cX10_undo 42 = .ok (.putfield 215, 3) := by decide +kernel
theorem dX10_undo_45 : decode cX10_undo 45 = .ok (.aload_n 0, 1) := by decide +kernel
theorem dX10_undo_46 : decode cX10_undo 46 = .ok (.getfield 212, 3) := by decide +kernel
theorem dX10_undo_49 : decode cX10_undo 49 = .ok (.ireturn, 1) := by decide +kernel
theorem dX10_goneIn_0 : decode cX10_goneIn 0 = .ok (.iconst 0, 1) := by decide +kernel
theorem dX10_goneIn_1 : decode cX10_goneIn 1 = .ok (.istore_n 2, 1) := by decide +kernel
theorem dX10_goneIn_2 : decode cX10_goneIn 2 = .ok (.iconst 0, 1) := by decide +kernel
theorem dX10_goneIn_3 : decode cX10_goneIn 3 = .ok (.istore_n 3, 1) := by decide +kernel
theorem dX10_goneIn_4 : decode cX10_goneIn 4 = .ok (.iload_n 3, 1) := by decide +kernel
theorem dX10_goneIn_5 : decode cX10_goneIn 5 = .ok (.aload_n 0, 1) := by decide +kernel
theorem dX10_goneIn_6 : decode cX10_goneIn 6 = .ok (.getfield 23, 3) := by decide +kernel
theorem dX10_goneIn_9 : decode cX10_goneIn 9 = .ok (.iconst 1, 1) := by decide +kernel
theorem dX10_goneIn_10 : decode cX10_goneIn 10 = .ok (.iaload, 1) := by decide +kernel
theorem dX10_goneIn_11 : decode cX10_goneIn 11 = .ok (.if_icmp .ge 26, 3) := by decide +kernel
theorem dX10_goneIn_14 : decode cX10_goneIn 14 = .ok (.iload_n 2, 1) := by decide +kernel
theorem dX10_goneIn_15 : decode cX10_goneIn 15 = .ok (.aload_n 1, 1) := by decide +kernel
theorem dX10_goneIn_16 : decode cX10_goneIn 16 = .ok (.iconst 0, 1) := by decide +kernel
theorem dX10_goneIn_17 : decode cX10_goneIn 17 = .ok (.iload_n 3, 1) := by decide +kernel
theorem dX10_goneIn_18 : decode cX10_goneIn 18 = .ok (.iadd, 1) := by decide +kernel
theorem dX10_goneIn_19 : decode cX10_goneIn 19 = .ok (.iaload, 1) := by decide +kernel
theorem dX10_goneIn_20 : decode cX10_goneIn 20 = .ok (.iconst (-1), 1) := by decide +kernel
theorem dX10_goneIn_21 : decode cX10_goneIn 21 = .ok (.if_icmp .ne 7, 3) := by decide +kernel
theorem dX10_goneIn_24 : decode cX10_goneIn 24 = .ok (.iconst 1, 1) := by decide +kernel
theorem dX10_goneIn_25 : decode cX10_goneIn 25 = .ok (.goto 4, 3) := by decide +kernel
theorem dX10_goneIn_28 : decode cX10_goneIn 28 = .ok (.iconst 0, 1) := by decide +kernel
theorem dX10_goneIn_29 : decode cX10_goneIn 29 = .ok (.iadd, 1) := by decide +kernel
theorem dX10_goneIn_30 : decode cX10_goneIn 30 = .ok (.istore_n 2, 1) := by decide +kernel
theorem dX10_goneIn_31 : decode cX10_goneIn 31 = .ok (.iinc 3 1, 3) := by decide +kernel
theorem dX10_goneIn_34 : decode cX10_goneIn 34 = .ok (.goto (-30), 3) := by decide +kernel
theorem dX10_goneIn_37 : decode cX10_goneIn 37 = .ok (.iload_n 2, 1) := by decide +kernel
theorem dX10_goneIn_38 : decode cX10_goneIn 38 = .ok (.ireturn, 1) := by decide +kernel
theorem dX10_worthIn_0 : decode cX10_worthIn 0 = .ok (.iconst 0, 1) := by decide +kernel
theorem dX10_worthIn_1 : decode cX10_worthIn 1 = .ok (.istore_n 2, 1) := by decide +kernel
theorem dX10_worthIn_2 : decode cX10_worthIn 2 = .ok (.iconst 0, 1) := by decide +kernel
theorem dX10_worthIn_3 : decode cX10_worthIn 3 = .ok (.istore_n 3, 1) := by decide +kernel
theorem dX10_worthIn_4 : decode cX10_worthIn 4 = .ok (.iload_n 3, 1) := by decide +kernel
theorem dX10_worthIn_5 : decode cX10_worthIn 5 = .ok (.aload_n 0, 1) := by decide +kernel
theorem dX10_worthIn_6 : decode cX10_worthIn 6 = .ok (.getfield 23, 3) := by decide +kernel
theorem dX10_worthIn_9 : decode cX10_worthIn 9 = .ok (.iconst 1, 1) := by decide +kernel
theorem dX10_worthIn_10 : decode cX10_worthIn 10 = .ok (.iaload, 1) := by decide +kernel
theorem dX10_worthIn_11 : decode cX10_worthIn 11 = .ok (.if_icmp .ge 31, 3) := by decide +kernel
theorem dX10_worthIn_14 : decode cX10_worthIn 14 = .ok (.iload_n 2, 1) := by decide +kernel
theorem dX10_worthIn_15 : decode cX10_worthIn 15 = .ok (.aload_n 1, 1) := by decide +kernel
theorem dX10_worthIn_16 : decode cX10_worthIn 16 = .ok (.iconst 0, 1) := by decide +kernel
theorem dX10_worthIn_17 : decode cX10_worthIn 17 = .ok (.iload_n 3, 1) := by decide +kernel
theorem dX10_worthIn_18 : decode cX10_worthIn 18 = .ok (.iadd, 1) := by decide +kernel
theorem dX10_worthIn_19 : decode cX10_worthIn 19 = .ok (.iaload, 1) := by decide +kernel
theorem dX10_worthIn_20 : decode cX10_worthIn 20 = .ok (.iconst (-1), 1) := by decide +kernel
theorem dX10_worthIn_21 : decode cX10_worthIn 21 = .ok (.if_icmp .ne 7, 3) := by decide +kernel
theorem dX10_worthIn_24 : decode cX10_worthIn 24 = .ok (.iconst 0, 1) := by decide +kernel
theorem dX10_worthIn_25 : decode cX10_worthIn 25 = .ok (.goto 9, 3) := by decide +kernel
theorem dX10_worthIn_28 : decode cX10_worthIn 28 = .ok (.aload_n 1, 1) := by decide +kernel
theorem dX10_worthIn_29 : decode cX10_worthIn 29 = .ok (.bipush 40, 2) := by decide +kernel
theorem dX10_worthIn_31 : decode cX10_worthIn 31 = .ok (.iload_n 3, 1) := by decide +kernel
theorem dX10_worthIn_32 : decode cX10_worthIn 32 = .ok (.iadd, 1) := by decide +kernel
theorem dX10_worthIn_33 : decode cX10_worthIn 33 = .ok (.iaload, 1) := by decide +kernel
theorem dX10_worthIn_34 : decode cX10_worthIn 34 = .ok (.iadd, 1) := by decide +kernel
theorem dX10_worthIn_35 : decode cX10_worthIn 35 = .ok (.istore_n 2, 1) := by decide +kernel
theorem dX10_worthIn_36 : decode cX10_worthIn 36 = .ok (.iinc 3 1, 3) := by decide +kernel
theorem dX10_worthIn_39 : decode cX10_worthIn 39 = .ok (.goto (-35), 3) := by decide +kernel
theorem dX10_worthIn_42 : decode cX10_worthIn 42 = .ok (.iload_n 2, 1) := by decide +kernel
theorem dX10_worthIn_43 : decode cX10_worthIn 43 = .ok (.ireturn, 1) := by decide +kernel
theorem dX10_paidIn_0 : decode cX10_paidIn 0 = .ok (.iconst 0, 1) := by decide +kernel
theorem dX10_paidIn_1 : decode cX10_paidIn 1 = .ok (.istore_n 2, 1) := by decide +kernel
theorem dX10_paidIn_2 : decode cX10_paidIn 2 = .ok (.iconst 0, 1) := by decide +kernel
theorem dX10_paidIn_3 : decode cX10_paidIn 3 = .ok (.istore_n 3, 1) := by decide +kernel
theorem dX10_paidIn_4 : decode cX10_paidIn 4 = .ok (.iload_n 3, 1) := by decide +kernel
theorem dX10_paidIn_5 : decode cX10_paidIn 5 = .ok (.aload_n 0, 1) := by decide +kernel
theorem dX10_paidIn_6 : decode cX10_paidIn 6 = .ok (.getfield 23, 3) := by decide +kernel
theorem dX10_paidIn_9 : decode cX10_paidIn 9 = .ok (.iconst 0, 1) := by decide +kernel
theorem dX10_paidIn_10 : decode cX10_paidIn 10 = .ok (.iaload, 1) := by decide +kernel
theorem dX10_paidIn_11 : decode cX10_paidIn 11 = .ok (.if_icmp .ge 18, 3) := by decide +kernel
theorem dX10_paidIn_14 : decode cX10_paidIn 14 = .ok (.iload_n 2, 1) := by decide +kernel
theorem dX10_paidIn_15 : decode cX10_paidIn 15 = .ok (.aload_n 1, 1) := by decide +kernel
theorem dX10_paidIn_16 : decode cX10_paidIn 16 = .ok (.bipush 56, 2) := by decide +kernel
theorem dX10_paidIn_18 : decode cX10_paidIn 18 = .ok (.iload_n 3, 1) := by decide +kernel
theorem dX10_paidIn_19 : decode cX10_paidIn 19 = .ok (.iadd, 1) := by decide +kernel
theorem dX10_paidIn_20 : decode cX10_paidIn 20 = .ok (.iaload, 1) := by decide +kernel
theorem dX10_paidIn_21 : decode cX10_paidIn 21 = .ok (.iadd, 1) := by decide +kernel
theorem dX10_paidIn_22 : decode cX10_paidIn 22 = .ok (.istore_n 2, 1) := by decide +kernel
theorem dX10_paidIn_23 : decode cX10_paidIn 23 = .ok (.iinc 3 1, 3) := by decide +kernel
theorem dX10_paidIn_26 : decode cX10_paidIn 26 = .ok (.goto (-22), 3) := by decide +kernel
theorem dX10_paidIn_29 : decode cX10_paidIn 29 = .ok (.iload_n 2, 1) := by decide +kernel
theorem dX10_paidIn_30 : decode cX10_paidIn 30 = .ok (.ireturn, 1) := by decide +kernel
theorem dX10_told_0 : decode cX10_told 0 = .ok (.aload_n 0, 1) := by decide +kernel
theorem dX10_told_1 : decode cX10_told 1 = .ok (.iconst 0, 1) := by decide +kernel
theorem dX10_told_2 : decode cX10_told 2 = .ok (.putfield 103, 3) := by decide +kernel
theorem dX10_told_5 : decode cX10_told 5 = .ok (.aload_n 0, 1) := by decide +kernel
theorem dX10_told_6 : decode cX10_told 6 = .ok (.iload_n 1, 1) := by decide +kernel
theorem dX10_told_7 : decode cX10_told 7 = .ok (.iconst 0, 1) := by decide +kernel
theorem dX10_told_8 : decode cX10_told 8 = .ok (.bipush 11, 2) := by decide +kernel
theorem dX10_told_10 : decode cX10_told 10 = .ok (.invokestatic 137, 3) := by decide +kernel
theorem dX10_told_13 : decode cX10_told 13 = .ok (.ifCond .ne 7, 3) := by decide +kernel
theorem dX10_told_16 : decode cX10_told 16 = .ok (.iconst 1, 1) := by decide +kernel
theorem dX10_told_17 : decode cX10_told 17 = .ok (.goto 4, 3) := by decide +kernel
theorem dX10_told_20 : decode cX10_told 20 = .ok (.iconst 0, 1) := by decide +kernel
theorem dX10_told_21 : decode cX10_told 21 = .ok (.iconst 1, 1) := by decide +kernel
theorem dX10_told_22 : decode cX10_told 22 = .ok (.iconst 1, 1) := by decide +kernel
theorem dX10_told_23 : decode cX10_told 23 = .ok (.invokevirtual 186, 3) := by decide +kernel
theorem dX10_told_26 : decode cX10_told 26 = .ok (.ifCond .eq 5, 3) := by decide +kernel
theorem dX10_told_29 : decode cX10_told 29 = .ok (.iconst 0, 1) := by decide +kernel
theorem dX10_told_30 : decode cX10_told 30 = .ok (.ireturn, 1) := by decide +kernel
theorem dX10_told_31 : decode cX10_told 31 = .ok (.iload_n 1, 1) := by decide +kernel
theorem dX10_told_32 : decode cX10_told 32 = .ok (.tableswitch 122 0 10 #[60, 60, 60, 60, 67, 75, 87, 94, 99, 104, 113], 60) := by decide +kernel
theorem dX10_told_92 : decode cX10_told 92 = .ok (.aload_n 0, 1) := by decide +kernel
theorem dX10_told_93 : decode cX10_told 93 = .ok (.getfield 23, 3) := by decide +kernel
theorem dX10_told_96 : decode cX10_told 96 = .ok (.iload_n 1, 1) := by decide +kernel
theorem dX10_told_97 : decode cX10_told 97 = .ok (.iaload, 1) := by decide +kernel
theorem dX10_told_98 : decode cX10_told 98 = .ok (.ireturn, 1) := by decide +kernel
theorem dX10_told_99 : decode cX10_told 99 = .ok (.aload_n 0, 1) := by decide +kernel
theorem dX10_told_100 : decode cX10_told 100 = .ok (.getfield 73, 3) := by decide +kernel
theorem dX10_told_103 : decode cX10_told 103 = .ok (.bipush 62, 2) := by decide +kernel
theorem dX10_told_105 : decode cX10_told 105 = .ok (.iaload, 1) := by decide +kernel
theorem dX10_told_106 : decode cX10_told 106 = .ok (.ireturn, 1) := by decide +kernel
theorem dX10_told_107 : decode cX10_told 107 = .ok (.aload_n 0, 1) := by decide +kernel
theorem dX10_told_108 : decode cX10_told 108 = .ok (.aload_n 0, 1) := by decide +kernel
theorem dX10_told_109 : decode cX10_told 109 = .ok (.getfield 73, 3) := by decide +kernel
theorem dX10_told_112 : decode cX10_told 112 = .ok (.bipush 62, 2) := by decide +kernel
theorem dX10_told_114 : decode cX10_told 114 = .ok (.iaload, 1) := by decide +kernel
theorem dX10_told_115 : decode cX10_told 115 = .ok (.invokevirtual 276, 3) := by decide +kernel
theorem dX10_told_118 : decode cX10_told 118 = .ok (.ireturn, 1) := by decide +kernel
theorem dX10_told_119 : decode cX10_told 119 = .ok (.aload_n 0, 1) := by decide +kernel
theorem dX10_told_120 : decode cX10_told 120 = .ok (.getfield 23, 3) := by decide +kernel
theorem dX10_told_123 : decode cX10_told 123 = .ok (.iconst 4, 1) := by decide +kernel
theorem dX10_told_124 : decode cX10_told 124 = .ok (.iaload, 1) := by decide +kernel
theorem dX10_told_125 : decode cX10_told 125 = .ok (.ireturn, 1) := by decide +kernel
theorem dX10_told_126 : decode cX10_told 126 = .ok (.aload_n 0, 1) := by decide +kernel
theorem dX10_told_127 : decode cX10_told 127 = .ok (.getfield 209, 3) := by decide +kernel
theorem dX10_told_130 : decode cX10_told 130 = .ok (.ireturn, 1) := by decide +kernel
theorem dX10_told_131 : decode cX10_told 131 = .ok (.aload_n 0, 1) := by decide +kernel
theorem dX10_told_132 : decode cX10_told 132 = .ok (.getfield 215, 3) := by decide +kernel
theorem dX10_told_135 : decode cX10_told 135 = .ok (.ireturn, 1) := by decide +kernel
theorem dX10_told_136 : decode cX10_told 136 = .ok (.aload_n 0, 1) := by decide +kernel
theorem dX10_told_137 : decode cX10_told 137 = .ok (.aload_n 0, 1) := by decide +kernel
theorem dX10_told_138 : decode cX10_told 138 = .ok (.getfield 73, 3) := by decide +kernel
theorem dX10_told_141 : decode cX10_told 141 = .ok (.invokevirtual 337, 3) := by decide +kernel
theorem dX10_told_144 : decode cX10_told 144 = .ok (.ireturn, 1) := by decide +kernel
theorem dX10_told_145 : decode cX10_told 145 = .ok (.aload_n 0, 1) := by decide +kernel
theorem dX10_told_146 : decode cX10_told 146 = .ok (.aload_n 0, 1) := by decide +kernel
theorem dX10_told_147 : decode cX10_told 147 = .ok (.getfield 73, 3) := by decide +kernel
theorem dX10_told_150 : decode cX10_told 150 = .ok (.invokevirtual 341, 3) := by decide +kernel
theorem dX10_told_153 : decode cX10_told 153 = .ok (.ireturn, 1) := by decide +kernel
theorem dX10_told_154 : decode cX10_told 154 = .ok (.aload_n 0, 1) := by decide +kernel
theorem dX10_told_155 : decode cX10_told 155 = .ok (.aload_n 0, 1) := by decide +kernel
theorem dX10_told_156 : decode cX10_told 156 = .ok (.getfield 73, 3) := by decide +kernel
theorem dX10_told_159 : decode cX10_told 159 = .ok (.invokevirtual 344, 3) := by decide +kernel
theorem dX10_told_162 : decode cX10_told 162 = .ok (.ireturn, 1) := by decide +kernel
theorem dX10_isHouse_0 : decode cX10_isHouse 0 = .ok (.iload_n 1, 1) := by decide +kernel
theorem dX10_isHouse_1 : decode cX10_isHouse 1 = .ok (.iconst 0, 1) := by decide +kernel
theorem dX10_isHouse_2 : decode cX10_isHouse 2 = .ok (.aload_n 0, 1) := by decide +kernel
theorem dX10_isHouse_3 : decode cX10_isHouse 3 = .ok (.getfield 23, 3) := by decide +kernel
theorem dX10_isHouse_6 : decode cX10_isHouse 6 = .ok (.iconst 0, 1) := by decide +kernel
theorem dX10_isHouse_7 : decode cX10_isHouse 7 = .ok (.iaload, 1) := by decide +kernel
theorem dX10_isHouse_8 : decode cX10_isHouse 8 = .ok (.iconst 1, 1) := by decide +kernel
theorem dX10_isHouse_9 : decode cX10_isHouse 9 = .ok (.isub, 1) := by decide +kernel
theorem dX10_isHouse_10 : decode cX10_isHouse 10 = .ok (.invokestatic 137, 3) := by decide +kernel
theorem dX10_isHouse_13 : decode cX10_isHouse 13 = .ok (.ireturn, 1) := by decide +kernel
theorem dX10_isThing_0 : decode cX10_isThing 0 = .ok (.iload_n 1, 1) := by decide +kernel
theorem dX10_isThing_1 : decode cX10_isThing 1 = .ok (.iconst 0, 1) := by decide +kernel
theorem dX10_isThing_2 : decode cX10_isThing 2 = .ok (.aload_n 0, 1) := by decide +kernel
theorem dX10_isThing_3 : decode cX10_isThing 3 = .ok (.getfield 23, 3) := by decide +kernel
theorem dX10_isThing_6 : decode cX10_isThing 6 = .ok (.iconst 1, 1) := by decide +kernel
theorem dX10_isThing_7 : decode cX10_isThing 7 = .ok (.iaload, 1) := by decide +kernel
theorem dX10_isThing_8 : decode cX10_isThing 8 = .ok (.iconst 1, 1) := by decide +kernel
theorem dX10_isThing_9 : decode cX10_isThing 9 = .ok (.isub, 1) := by decide +kernel
theorem dX10_isThing_10 : decode cX10_isThing 10 = .ok (.invokestatic 137, 3) := by decide +kernel
theorem dX10_isThing_13 : decode cX10_isThing 13 = .ok (.ireturn, 1) := by decide +kernel
theorem dX10_house_0 : decode cX10_house 0 = .ok (.aload_n 0, 1) := by decide +kernel
theorem dX10_house_1 : decode cX10_house 1 = .ok (.iconst 0, 1) := by decide +kernel
theorem dX10_house_2 : decode cX10_house 2 = .ok (.putfield 103, 3) := by decide +kernel
theorem dX10_house_5 : decode cX10_house 5 = .ok (.aload_n 0, 1) := by decide +kernel
theorem dX10_house_6 : decode cX10_house 6 = .ok (.aload_n 0, 1) := by decide +kernel
theorem dX10_house_7 : decode cX10_house 7 = .ok (.iload_n 1, 1) := by decide +kernel
theorem dX10_house_8 : decode cX10_house 8 = .ok (.invokevirtual 347, 3) := by decide +kernel
theorem dX10_house_11 : decode cX10_house 11 = .ok (.ifCond .ne 7, 3) := by decide +kernel
theorem dX10_house_14 : decode cX10_house 14 = .ok (.iconst 1, 1) := by decide +kernel
theorem dX10_house_15 : decode cX10_house 15 = .ok (.goto 4, 3) := by decide +kernel
theorem dX10_house_18 : decode cX10_house 18 = .ok (.iconst 0, 1) := by decide +kernel
theorem dX10_house_19 : decode cX10_house 19 = .ok (.iconst 1, 1) := by decide +kernel
theorem dX10_house_20 : decode cX10_house 20 = .ok (.iconst 0, 1) := by decide +kernel
theorem dX10_house_21 : decode cX10_house 21 = .ok (.invokevirtual 186, 3) := by decide +kernel
theorem dX10_house_24 : decode cX10_house 24 = .ok (.ifCond .ne 26, 3) := by decide +kernel
theorem dX10_house_27 : decode cX10_house 27 = .ok (.aload_n 0, 1) := by decide +kernel
theorem dX10_house_28 : decode cX10_house 28 = .ok (.iload_n 2, 1) := by decide +kernel
theorem dX10_house_29 : decode cX10_house 29 = .ok (.iconst 0, 1) := by decide +kernel
theorem dX10_house_30 : decode cX10_house 30 = .ok (.iconst 4, 1) := by decide +kernel
theorem dX10_house_31 : decode cX10_house 31 = .ok (.invokestatic 137, 3) := by decide +kernel
theorem dX10_house_34 : decode cX10_house 34 = .ok (.ifCond .ne 7, 3) := by decide +kernel
theorem dX10_house_37 : decode cX10_house 37 = .ok (.iconst 1, 1) := by decide +kernel
theorem dX10_house_38 : decode cX10_house 38 = .ok (.goto 4, 3) := by decide +kernel
theorem dX10_house_41 : decode cX10_house 41 = .ok (.iconst 0, 1) := by decide +kernel
theorem dX10_house_42 : decode cX10_house 42 = .ok (.iconst 2, 1) := by decide +kernel
theorem dX10_house_43 : decode cX10_house 43 = .ok (.iconst 1, 1) := by decide +kernel
theorem dX10_house_44 : decode cX10_house 44 = .ok (.invokevirtual 186, 3) := by decide +kernel
theorem dX10_house_47 : decode cX10_house 47 = .ok (.ifCond .eq 5, 3) := by decide +kernel
theorem dX10_house_50 : decode cX10_house 50 = .ok (.iconst 0, 1) := by decide +kernel
theorem dX10_house_51 : decode cX10_house 51 = .ok (.ireturn, 1) := by decide +kernel
theorem dX10_house_52 : decode cX10_house 52 = .ok (.iconst 0, 1) := by decide +kernel
theorem dX10_house_53 : decode cX10_house 53 = .ok (.istore_n 3, 1) := by decide +kernel
theorem dX10_house_54 : decode cX10_house 54 = .ok (.iconst 0, 1) := by decide +kernel
theorem dX10_house_55 : decode cX10_house 55 = .ok (.istore 4, 2) := by decide +kernel
theorem dX10_house_57 : decode cX10_house 57 = .ok (.iload 4, 2) := by decide +kernel
theorem dX10_house_59 : decode cX10_house 59 = .ok (.aload_n 0, 1) := by decide +kernel
theorem dX10_house_60 : decode cX10_house 60 = .ok (.getfield 23, 3) := by decide +kernel
theorem dX10_house_63 : decode cX10_house 63 = .ok (.iconst 1, 1) := by decide +kernel
theorem dX10_house_64 : decode cX10_house 64 = .ok (.iaload, 1) := by decide +kernel
theorem dX10_house_65 : decode cX10_house 65 = .ok (.if_icmp .ge 33, 3) := by decide +kernel
theorem dX10_house_68 : decode cX10_house 68 = .ok (.iload_n 3, 1) := by decide +kernel
theorem dX10_house_69 : decode cX10_house 69 = .ok (.aload_n 0, 1) := by decide +kernel
theorem dX10_house_70 : decode cX10_house 70 = .ok (.getfield 73, 3) := by decide +kernel
theorem dX10_house_73 : decode cX10_house 73 = .ok (.iconst 0, 1) := by decide +kernel
theorem dX10_house_74 : decode cX10_house 74 = .ok (.iload 4, 2) := by decide +kernel
theorem dX10_house_76 : decode cX10_house 76 = .ok (.iadd, 1) := by decide +kernel
theorem dX10_house_77 : decode cX10_house 77 = .ok (.iaload, 1) := by decide +kernel
theorem dX10_house_78 : decode cX10_house 78 = .ok (.iload_n 1, 1) := by decide +kernel
theorem dX10_house_79 : decode cX10_house 79 = .ok (.if_icmp .ne 10, 3) := by decide +kernel
theorem dX10_house_82 : decode cX10_house 82 = .ok (.iconst 1, 1) := by decide +kernel
theorem dX10_house_83 : decode cX10_house 83 = .ok (.iload 4, 2) := by decide +kernel
theorem dX10_house_85 : decode cX10_house 85 = .ok (.ishl, 1) := by decide +kernel
theorem dX10_house_86 : decode cX10_house 86 = .ok (.goto 4, 3) := by decide +kernel
theorem dX10_house_89 : decode cX10_house 89 = .ok (.iconst 0, 1) := by decide +kernel
theorem dX10_house_90 : decode cX10_house 90 = .ok (.ior, 1) := by decide +kernel
theorem dX10_house_91 : decode cX10_house 91 = .ok (.istore_n 3, 1) := by decide +kernel
theorem dX10_house_92 : decode cX10_house 92 = .ok (.iinc 4 1, 3) := by decide +kernel
theorem dX10_house_95 : decode cX10_house 95 = .ok (.goto (-38), 3) := by decide +kernel
theorem dX10_house_98 : decode cX10_house 98 = .ok (.iload_n 2, 1) := by decide +kernel
theorem dX10_house_99 : decode cX10_house 99 = .ok (.tableswitch 61 0 3 #[29, 39, 49, 59], 29) := by decide +kernel
theorem dX10_house_128 : decode cX10_house 128 = .ok (.aload_n 0, 1) := by decide +kernel
theorem dX10_house_129 : decode cX10_house 129 = .ok (.aload_n 0, 1) := by decide +kernel
theorem dX10_house_130 : decode cX10_house 130 = .ok (.getfield 73, 3) := by decide +kernel
theorem dX10_house_133 : decode cX10_house 133 = .ok (.iload_n 1, 1) := by decide +kernel
theorem dX10_house_134 : decode cX10_house 134 = .ok (.invokevirtual 272, 3) := by decide +kernel
theorem dX10_house_137 : decode cX10_house 137 = .ok (.ireturn, 1) := by decide +kernel
theorem dX10_house_138 : decode cX10_house 138 = .ok (.aload_n 0, 1) := by decide +kernel
theorem dX10_house_139 : decode cX10_house 139 = .ok (.getfield 73, 3) := by decide +kernel
theorem dX10_house_142 : decode cX10_house 142 = .ok (.bipush 50, 2) := by decide +kernel
theorem dX10_house_144 : decode cX10_house 144 = .ok (.iload_n 1, 1) := by decide +kernel
theorem dX10_house_145 : decode cX10_house 145 = .ok (.iadd, 1) := by decide +kernel
theorem dX10_house_146 : decode cX10_house 146 = .ok (.iaload, 1) := by decide +kernel
theorem dX10_house_147 : decode cX10_house 147 = .ok (.ireturn, 1) := by decide +kernel
theorem dX10_house_148 : decode cX10_house 148 = .ok (.aload_n 0, 1) := by decide +kernel
theorem dX10_house_149 : decode cX10_house 149 = .ok (.aload_n 0, 1) := by decide +kernel
theorem dX10_house_150 : decode cX10_house 150 = .ok (.getfield 73, 3) := by decide +kernel
theorem dX10_house_153 : decode cX10_house 153 = .ok (.iload_n 1, 1) := by decide +kernel
theorem dX10_house_154 : decode cX10_house 154 = .ok (.invokevirtual 286, 3) := by decide +kernel
theorem dX10_house_157 : decode cX10_house 157 = .ok (.ireturn, 1) := by decide +kernel
theorem dX10_house_158 : decode cX10_house 158 = .ok (.iload_n 3, 1) := by decide +kernel
theorem dX10_house_159 : decode cX10_house 159 = .ok (.ireturn, 1) := by decide +kernel
theorem dX10_house_160 : decode cX10_house 160 = .ok (.aload_n 0, 1) := by decide +kernel
theorem dX10_house_161 : decode cX10_house 161 = .ok (.getfield 73, 3) := by decide +kernel
theorem dX10_house_164 : decode cX10_house 164 = .ok (.bipush 56, 2) := by decide +kernel
theorem dX10_house_166 : decode cX10_house 166 = .ok (.iload_n 1, 1) := by decide +kernel
theorem dX10_house_167 : decode cX10_house 167 = .ok (.iadd, 1) := by decide +kernel
theorem dX10_house_168 : decode cX10_house 168 = .ok (.iaload, 1) := by decide +kernel
theorem dX10_house_169 : decode cX10_house 169 = .ok (.ireturn, 1) := by decide +kernel
theorem dX10_thing_0 : decode cX10_thing 0 = .ok (.aload_n 0, 1) := by decide +kernel
theorem dX10_thing_1 : decode cX10_thing 1 = .ok (.iconst 0, 1) := by decide +kernel
theorem dX10_thing_2 : decode cX10_thing 2 = .ok (.putfield 103, 3) := by decide +kernel
theorem dX10_thing_5 : decode cX10_thing 5 = .ok (.aload_n 0, 1) := by decide +kernel
theorem dX10_thing_6 : decode cX10_thing 6 = .ok (.aload_n 0, 1) := by decide +kernel
theorem dX10_thing_7 : decode cX10_thing 7 = .ok (.iload_n 1, 1) := by decide +kernel
theorem dX10_thing_8 : decode cX10_thing 8 = .ok (.invokevirtual 350, 3) := by decide +kernel
theorem dX10_thing_11 : decode cX10_thing 11 = .ok (.ifCond .ne 7, 3) := by decide +kernel
theorem dX10_thing_14 : decode cX10_thing 14 = .ok (.iconst 1, 1) := by decide +kernel
theorem dX10_thing_15 : decode cX10_thing 15 = .ok (.goto 4, 3) := by decide +kernel
theorem dX10_thing_18 : decode cX10_thing 18 = .ok (.iconst 0, 1) := by decide +kernel
theorem dX10_thing_19 : decode cX10_thing 19 = .ok (.iconst 1, 1) := by decide +kernel
theorem dX10_thing_20 : decode cX10_thing 20 = .ok (.iconst 0, 1) := by decide +kernel
theorem dX10_thing_21 : decode cX10_thing 21 = .ok (.invokevirtual 186, 3) := by decide +kernel
theorem dX10_thing_24 : decode cX10_thing 24 = .ok (.ifCond .ne 27, 3) := by decide +kernel
theorem dX10_thing_27 : decode cX10_thing 27 = .ok (.aload_n 0, 1) := by decide +kernel
theorem dX10_thing_28 : decode cX10_thing 28 = .ok (.iload_n 2, 1) := by decide +kernel
theorem dX10_thing_29 : decode cX10_thing 29 = .ok (.iconst 0, 1) := by decide +kernel
theorem dX10_thing_30 : decode cX10_thing 30 = .ok (.bipush 6, 2) := by decide +kernel
theorem dX10_thing_32 : decode cX10_thing 32 = .ok (.invokestatic 137, 3) := by decide +kernel
theorem dX10_thing_35 : decode cX10_thing 35 = .ok (.ifCond .ne 7, 3) := by decide +kernel
theorem dX10_thing_38 : decode cX10_thing 38 = .ok (.iconst 1, 1) := by decide +kernel
theorem dX10_thing_39 : decode cX10_thing 39 = .ok (.goto 4, 3) := by decide +kernel
theorem dX10_thing_42 : decode cX10_thing 42 = .ok (.iconst 0, 1) := by decide +kernel
theorem dX10_thing_43 : decode cX10_thing 43 = .ok (.iconst 2, 1) := by decide +kernel
theorem dX10_thing_44 : decode cX10_thing 44 = .ok (.iconst 1, 1) := by decide +kernel
theorem dX10_thing_45 : decode cX10_thing 45 = .ok (.invokevirtual 186, 3) := by decide +kernel
theorem dX10_thing_48 : decode cX10_thing 48 = .ok (.ifCond .eq 5, 3) := by decide +kernel
theorem dX10_thing_51 : decode cX10_thing 51 = .ok (.iconst 0, 1) := by decide +kernel
theorem dX10_thing_52 : decode cX10_thing 52 = .ok (.ireturn, 1) := by decide +kernel
theorem dX10_thing_53 : decode cX10_thing 53 = .ok (.iload_n 2, 1) := by decide +kernel
theorem dX10_thing_54 : decode cX10_thing 54 = .ok (.tableswitch 88 0 5 #[38, 38, 49, 59, 68, 78], 38) := by decide +kernel
theorem dX10_thing_92 : decode cX10_thing 92 = .ok (.aload_n 0, 1) := by decide +kernel
theorem dX10_thing_93 : decode cX10_thing 93 = .ok (.getfield 43, 3) := by decide +kernel
theorem dX10_thing_96 : decode cX10_thing 96 = .ok (.iload_n 1, 1) := by decide +kernel
theorem dX10_thing_97 : decode cX10_thing 97 = .ok (.aaload, 1) := by decide +kernel
theorem dX10_thing_98 : decode cX10_thing 98 = .ok (.iconst 1, 1) := by decide +kernel
theorem dX10_thing_99 : decode cX10_thing 99 = .ok (.iload_n 2, 1) := by decide +kernel
theorem dX10_thing_100 : decode cX10_thing 100 = .ok (.iadd, 1) := by decide +kernel
theorem dX10_thing_101 : decode cX10_thing 101 = .ok (.iaload, 1) := by decide +kernel
theorem dX10_thing_102 : decode cX10_thing 102 = .ok (.ireturn, 1) := by decide +kernel
theorem dX10_thing_103 : decode cX10_thing 103 = .ok (.aload_n 0, 1) := by decide +kernel
theorem dX10_thing_104 : decode cX10_thing 104 = .ok (.getfield 73, 3) := by decide +kernel
theorem dX10_thing_107 : decode cX10_thing 107 = .ok (.bipush 40, 2) := by decide +kernel
theorem dX10_thing_109 : decode cX10_thing 109 = .ok (.iload_n 1, 1) := by decide +kernel
theorem dX10_thing_110 : decode cX10_thing 110 = .ok (.iadd, 1) := by decide +kernel
theorem dX10_thing_111 : decode cX10_thing 111 = .ok (.iaload, 1) := by decide +kernel
theorem dX10_thing_112 : decode cX10_thing 112 = .ok (.ireturn, 1) := by decide +kernel
theorem dX10_thing_113 : decode cX10_thing 113 = .ok (.aload_n 0, 1) := by decide +kernel
theorem dX10_thing_114 : decode cX10_thing 114 = .ok (.getfield 73, 3) := by decide +kernel
theorem dX10_thing_117 : decode cX10_thing 117 = .ok (.iconst 0, 1) := by decide +kernel
theorem dX10_thing_118 : decode cX10_thing 118 = .ok (.iload_n 1, 1) := by decide +kernel
theorem dX10_thing_119 : decode cX10_thing 119 = .ok (.iadd, 1) := by decide +kernel
theorem dX10_thing_120 : decode cX10_thing 120 = .ok (.iaload, 1) := by decide +kernel
theorem dX10_thing_121 : decode cX10_thing 121 = .ok (.ireturn, 1) := by decide +kernel
theorem dX10_thing_122 : decode cX10_thing 122 = .ok (.aload_n 0, 1) := by decide +kernel
theorem dX10_thing_123 : decode cX10_thing 123 = .ok (.getfield 73, 3) := by decide +kernel
theorem dX10_thing_126 : decode cX10_thing 126 = .ok (.bipush 10, 2) := by decide +kernel
theorem dX10_thing_128 : decode cX10_thing 128 = .ok (.iload_n 1, 1) := by decide +kernel
theorem dX10_thing_129 : decode cX10_thing 129 = .ok (.iadd, 1) := by decide +kernel
theorem dX10_thing_130 : decode cX10_thing 130 = .ok (.iaload, 1) := by decide +kernel
theorem dX10_thing_131 : decode cX10_thing 131 = .ok (.ireturn, 1) := by decide +kernel
theorem dX10_thing_132 : decode cX10_thing 132 = .ok (.aload_n 0, 1) := by decide +kernel
theorem dX10_thing_133 : decode cX10_thing 133 = .ok (.getfield 73, 3) := by decide +kernel
theorem dX10_thing_136 : decode cX10_thing 136 = .ok (.bipush 20, 2) := by decide +kernel
theorem dX10_thing_138 : decode cX10_thing 138 = .ok (.iload_n 1, 1) := by decide +kernel
theorem dX10_thing_139 : decode cX10_thing 139 = .ok (.iadd, 1) := by decide +kernel
theorem dX10_thing_140 : decode cX10_thing 140 = .ok (.iaload, 1) := by decide +kernel
theorem dX10_thing_141 : decode cX10_thing 141 = .ok (.ireturn, 1) := by decide +kernel
theorem dX10_thing_142 : decode cX10_thing 142 = .ok (.aload_n 0, 1) := by decide +kernel
theorem dX10_thing_143 : decode cX10_thing 143 = .ok (.getfield 73, 3) := by decide +kernel
theorem dX10_thing_146 : decode cX10_thing 146 = .ok (.bipush 30, 2) := by decide +kernel
theorem dX10_thing_148 : decode cX10_thing 148 = .ok (.iload_n 1, 1) := by decide +kernel
theorem dX10_thing_149 : decode cX10_thing 149 = .ok (.iadd, 1) := by decide +kernel
theorem dX10_thing_150 : decode cX10_thing 150 = .ok (.iaload, 1) := by decide +kernel
theorem dX10_thing_151 : decode cX10_thing 151 = .ok (.ireturn, 1) := by decide +kernel
theorem dX10_height_0 : decode cX10_height 0 = .ok (.aload_n 0, 1) := by decide +kernel
theorem dX10_height_1 : decode cX10_height 1 = .ok (.iconst 0, 1) := by decide +kernel
theorem dX10_height_2 : decode cX10_height 2 = .ok (.putfield 103, 3) := by decide +kernel
theorem dX10_height_5 : decode cX10_height 5 = .ok (.aload_n 0, 1) := by decide +kernel
theorem dX10_height_6 : decode cX10_height 6 = .ok (.iload_n 1, 1) := by decide +kernel
theorem dX10_height_7 : decode cX10_height 7 = .ok (.iconst 0, 1) := by decide +kernel
theorem dX10_height_8 : decode cX10_height 8 = .ok (.bipush 99, 2) := by decide +kernel
theorem dX10_height_10 : decode cX10_height 10 = .ok (.invokestatic 137, 3) := by decide +kernel
theorem dX10_height_13 : decode cX10_height 13 = .ok (.ifCond .ne 7, 3) := by decide +kernel
theorem dX10_height_16 : decode cX10_height 16 = .ok (.iconst 1, 1) := by decide +kernel
theorem dX10_height_17 : decode cX10_height 17 = .ok (.goto 4, 3) := by decide +kernel
theorem dX10_height_20 : decode cX10_height 20 = .ok (.iconst 0, 1) := by decide +kernel
theorem dX10_height_21 : decode cX10_height 21 = .ok (.iconst 1, 1) := by decide +kernel
theorem dX10_height_22 : decode cX10_height 22 = .ok (.iconst 1, 1) := by decide +kernel
theorem dX10_height_23 : decode cX10_height 23 = .ok (.invokevirtual 186, 3) := by decide +kernel
theorem dX10_height_26 : decode cX10_height 26 = .ok (.ifCond .eq 5, 3) := by decide +kernel
theorem dX10_height_29 : decode cX10_height 29 = .ok (.iconst 0, 1) := by decide +kernel
theorem dX10_height_30 : decode cX10_height 30 = .ok (.ireturn, 1) := by decide +kernel
theorem dX10_height_31 : decode cX10_height 31 = .ok (.aload_n 0, 1) := by decide +kernel
theorem dX10_height_32 : decode cX10_height 32 = .ok (.aload_n 0, 1) := by decide +kernel
theorem dX10_height_33 : decode cX10_height 33 = .ok (.getfield 73, 3) := by decide +kernel
theorem dX10_height_36 : decode cX10_height 36 = .ok (.bipush 62, 2) := by decide +kernel
theorem dX10_height_38 : decode cX10_height 38 = .ok (.iaload, 1) := by decide +kernel
theorem dX10_height_39 : decode cX10_height 39 = .ok (.iload_n 1, 1) := by decide +kernel
theorem dX10_height_40 : decode cX10_height 40 = .ok (.iadd, 1) := by decide +kernel
theorem dX10_height_41 : decode cX10_height 41 = .ok (.invokevirtual 276, 3) := by decide +kernel
theorem dX10_height_44 : decode cX10_height 44 = .ok (.ireturn, 1) := by decide +kernel
theorem dX10_find_0 : decode cX10_find 0 = .ok (.aload_n 0, 1) := by decide +kernel
theorem dX10_find_1 : decode cX10_find 1 = .ok (.iconst 0, 1) := by decide +kernel
theorem dX10_find_2 : decode cX10_find 2 = .ok (.putfield 103, 3) := by decide +kernel
theorem dX10_find_5 : decode cX10_find 5 = .ok (.aload_n 0, 1) := by decide +kernel
theorem dX10_find_6 : decode cX10_find 6 = .ok (.iload_n 1, 1) := by decide +kernel
theorem dX10_find_7 : decode cX10_find 7 = .ok (.iconst 0, 1) := by decide +kernel
theorem dX10_find_8 : decode cX10_find 8 = .ok (.aload_n 0, 1) := by decide +kernel
theorem dX10_find_9 : decode cX10_find 9 = .ok (.getfield 23, 3) := by decide +kernel
theorem dX10_find_12 : decode cX10_find 12 = .ok (.iconst 3, 1) := by decide +kernel
theorem dX10_find_13 : decode cX10_find 13 = .ok (.iaload, 1) := by decide +kernel
theorem dX10_find_14 : decode cX10_find 14 = .ok (.iconst 1, 1) := by decide +kernel
theorem dX10_find_15 : decode cX10_find 15 = .ok (.isub, 1) := by decide +kernel
theorem dX10_find_16 : decode cX10_find 16 = .ok (.invokestatic 137, 3) := by decide +kernel
theorem dX10_find_19 : decode cX10_find 19 = .ok (.ifCond .ne 7, 3) := by decide +kernel
theorem dX10_find_22 : decode cX10_find 22 = .ok (.iconst 1, 1) := by decide +kernel
theorem dX10_find_23 : decode cX10_find 23 = .ok (.goto 4, 3) := by decide +kernel
theorem dX10_find_26 : decode cX10_find 26 = .ok (.iconst 0, 1) := by decide +kernel
theorem dX10_find_27 : decode cX10_find 27 = .ok (.iconst 1, 1) := by decide +kernel
theorem dX10_find_28 : decode cX10_find 28 = .ok (.iconst 0, 1) := by decide +kernel
theorem dX10_find_29 : decode cX10_find 29 = .ok (.invokevirtual 186, 3) := by decide +kernel
theorem dX10_find_32 : decode cX10_find 32 = .ok (.ifCond .ne 26, 3) := by decide +kernel
theorem dX10_find_35 : decode cX10_find 35 = .ok (.aload_n 0, 1) := by decide +kernel
theorem dX10_find_36 : decode cX10_find 36 = .ok (.iload_n 2, 1) := by decide +kernel
theorem dX10_find_37 : decode cX10_find 37 = .ok (.iconst 0, 1) := by decide +kernel
theorem dX10_find_38 : decode cX10_find 38 = .ok (.iconst 1, 1) := by decide +kernel
theorem dX10_find_39 : decode cX10_find 39 = .ok (.invokestatic 137, 3) := by decide +kernel
theorem dX10_find_42 : decode cX10_find 42 = .ok (.ifCond .ne 7, 3) := by decide +kernel
theorem dX10_find_45 : decode cX10_find 45 = .ok (.iconst 1, 1) := by decide +kernel
theorem dX10_find_46 : decode cX10_find 46 = .ok (.goto 4, 3) := by decide +kernel
theorem dX10_find_49 : decode cX10_find 49 = .ok (.iconst 0, 1) := by decide +kernel
theorem dX10_find_50 : decode cX10_find 50 = .ok (.iconst 2, 1) := by decide +kernel
theorem dX10_find_51 : decode cX10_find 51 = .ok (.iconst 1, 1) := by decide +kernel
theorem dX10_find_52 : decode cX10_find 52 = .ok (.invokevirtual 186, 3) := by decide +kernel
theorem dX10_find_55 : decode cX10_find 55 = .ok (.ifCond .eq 5, 3) := by decide +kernel
theorem dX10_find_58 : decode cX10_find 58 = .ok (.iconst 0, 1) := by decide +kernel
theorem dX10_find_59 : decode cX10_find 59 = .ok (.ireturn, 1) := by decide +kernel
theorem dX10_find_60 : decode cX10_find 60 = .ok (.aload_n 0, 1) := by decide +kernel
theorem dX10_find_61 : decode cX10_find 61 = .ok (.getfield 49, 3) := by decide +kernel
theorem dX10_find_64 : decode cX10_find 64 = .ok (.iload_n 1, 1) := by decide +kernel
theorem dX10_find_65 : decode cX10_find 65 = .ok (.aaload, 1) := by decide +kernel
theorem dX10_find_66 : decode cX10_find 66 = .ok (.iload_n 2, 1) := by decide +kernel
theorem dX10_find_67 : decode cX10_find 67 = .ok (.iaload, 1) := by decide +kernel
theorem dX10_find_68 : decode cX10_find 68 = .ok (.ireturn, 1) := by decide +kernel
theorem dX10_due_0 : decode cX10_due 0 = .ok (.aload_n 0, 1) := by decide +kernel
theorem dX10_due_1 : decode cX10_due 1 = .ok (.iconst 0, 1) := by decide +kernel
theorem dX10_due_2 : decode cX10_due 2 = .ok (.putfield 103, 3) := by decide +kernel
theorem dX10_due_5 : decode cX10_due 5 = .ok (.aload_n 0, 1) := by decide +kernel
theorem dX10_due_6 : decode cX10_due 6 = .ok (.aload_n 0, 1) := by decide +kernel
theorem dX10_due_7 : decode cX10_due 7 = .ok (.iload_n 1, 1) := by decide +kernel
theorem dX10_due_8 : decode cX10_due 8 = .ok (.invokevirtual 347, 3) := by decide +kernel
theorem dX10_due_11 : decode cX10_due 11 = .ok (.ifCond .ne 7, 3) := by decide +kernel
theorem dX10_due_14 : decode cX10_due 14 = .ok (.iconst 1, 1) := by decide +kernel
theorem dX10_due_15 : decode cX10_due 15 = .ok (.goto 4, 3) := by decide +kernel
theorem dX10_due_18 : decode cX10_due 18 = .ok (.iconst 0, 1) := by decide +kernel
theorem dX10_due_19 : decode cX10_due 19 = .ok (.iconst 1, 1) := by decide +kernel
theorem dX10_due_20 : decode cX10_due 20 = .ok (.iconst 0, 1) := by decide +kernel
theorem dX10_due_21 : decode cX10_due 21 = .ok (.invokevirtual 186, 3) := by decide +kernel
theorem dX10_due_24 : decode cX10_due 24 = .ok (.ifCond .eq 5, 3) := by decide +kernel
theorem dX10_due_27 : decode cX10_due 27 = .ok (.iconst 0, 1) := by decide +kernel
theorem dX10_due_28 : decode cX10_due 28 = .ok (.ireturn, 1) := by decide +kernel
theorem dX10_due_29 : decode cX10_due 29 = .ok (.aload_n 0, 1) := by decide +kernel
theorem dX10_due_30 : decode cX10_due 30 = .ok (.aload_n 0, 1) := by decide +kernel
theorem dX10_due_31 : decode cX10_due 31 = .ok (.getfield 73, 3) := by decide +kernel
theorem dX10_due_34 : decode cX10_due 34 = .ok (.invokevirtual 303, 3) := by decide +kernel
theorem dX10_due_37 : decode cX10_due 37 = .ok (.aload_n 0, 1) := by decide +kernel
theorem dX10_due_38 : decode cX10_due 38 = .ok (.aload_n 0, 1) := by decide +kernel
theorem dX10_due_39 : decode cX10_due 39 = .ok (.getfield 73, 3) := by decide +kernel
theorem dX10_due_42 : decode cX10_due 42 = .ok (.iload_n 1, 1) := by decide +kernel
theorem dX10_due_43 : decode cX10_due 43 = .ok (.invokevirtual 307, 3) := by decide +kernel
theorem dX10_due_46 : decode cX10_due 46 = .ok (.ireturn, 1) := by decide +kernel
theorem dX10_would_0 : decode cX10_would 0 = .ok (.aload_n 0, 1) := by decide +kernel
theorem dX10_would_1 : decode cX10_would 1 = .ok (.iconst 0, 1) := by decide +kernel
theorem dX10_would_2 : decode cX10_would 2 = .ok (.putfield 103, 3) := by decide +kernel
theorem dX10_would_5 : decode cX10_would 5 = .ok (.aload_n 0, 1) := by decide +kernel
theorem dX10_would_6 : decode cX10_would 6 = .ok (.iload_n 1, 1) := by decide +kernel
theorem dX10_would_7 : decode cX10_would 7 = .ok (.iconst 1, 1) := by decide +kernel
theorem dX10_would_8 : decode cX10_would 8 = .ok (.bipush 60, 2) := by decide +kernel
theorem dX10_would_10 : decode cX10_would 10 = .ok (.invokestatic 137, 3) := by decide +kernel
theorem dX10_would_13 : decode cX10_would 13 = .ok (.ifCond .eq 56, 3) := by decide +kernel
theorem dX10_would_16 : decode cX10_would 16 = .ok (.iload_n 2, 1) := by decide +kernel
theorem dX10_would_17 : decode cX10_would 17 = .ok (.iconst 0, 1) := by decide +kernel
theorem dX10_would_18 : decode cX10_would 18 = .ok (.bipush 10, 2) := by decide +kernel
theorem dX10_would_20 : decode cX10_would 20 = .ok (.invokestatic 137, 3) := by decide +kernel
theorem dX10_would_23 : decode cX10_would 23 = .ok (.ifCond .eq 46, 3) := by decide +kernel
theorem dX10_would_26 : decode cX10_would 26 = .ok (.iload_n 3, 1) := by decide +kernel
theorem dX10_would_27 : decode cX10_would 27 = .ok (.iconst 0, 1) := by decide +kernel
theorem dX10_would_28 : decode cX10_would 28 = .ok (.bipush 10, 2) := by decide +kernel
theorem dX10_would_30 : decode cX10_would 30 = .ok (.invokestatic 137, 3) := by decide +kernel
theorem dX10_would_33 : decode cX10_would 33 = .ok (.ifCond .eq 36, 3) := by decide +kernel
theorem dX10_would_36 : decode cX10_would 36 = .ok (.iload 4, 2) := by decide +kernel
theorem dX10_would_38 : decode cX10_would 38 = .ok (.iconst 0, 1) := by decide +kernel
theorem dX10_would_39 : decode cX10_would 39 = .ok (.sipush 999, 3) := by decide +kernel
theorem dX10_would_42 : decode cX10_would 42 = .ok (.invokestatic 137, 3) := by decide +kernel
theorem dX10_would_45 : decode cX10_would 45 = .ok (.ifCond .eq 24, 3) := by decide +kernel
theorem dX10_would_48 : decode cX10_would 48 = .ok (.iload 5, 2) := by decide +kernel
theorem dX10_would_50 : decode cX10_would 50 = .ok (.iconst 0, 1) := by decide +kernel
theorem dX10_would_51 : decode cX10_would 51 = .ok (.bipush 40, 2) := by decide +kernel
theorem dX10_would_53 : decode cX10_would 53 = .ok (.invokestatic 137, 3) := by decide +kernel
theorem dX10_would_56 : decode cX10_would 56 = .ok (.ifCond .eq 13, 3) := by decide +kernel
theorem dX10_would_59 : decode cX10_would 59 = .ok (.iload 6, 2) := by decide +kernel
theorem dX10_would_61 : decode cX10_would 61 = .ok (.iconst 0, 1) := by decide +kernel
theorem dX10_would_62 : decode cX10_would 62 = .ok (.iconst 5, 1) := by decide +kernel
theorem dX10_would_63 : decode cX10_would 63 = .ok (.invokestatic 137, 3) := by decide +kernel
theorem dX10_would_66 : decode cX10_would 66 = .ok (.ifCond .ne 7, 3) := by decide +kernel
theorem dX10_would_69 : decode cX10_would 69 = .ok (.iconst 1, 1) := by decide +kernel
theorem dX10_would_70 : decode cX10_would 70 = .ok (.goto 4, 3) := by decide +kernel
theorem dX10_would_73 : decode cX10_would 73 = .ok (.iconst 0, 1) := by decide +kernel
theorem dX10_would_74 : decode cX10_would 74 = .ok (.iconst 1, 1) := by decide +kernel
theorem dX10_would_75 : decode cX10_would 75 = .ok (.iconst 1, 1) := by decide +kernel
theorem dX10_would_76 : decode cX10_would 76 = .ok (.invokevirtual 186, 3) := by decide +kernel
theorem dX10_would_79 : decode cX10_would 79 = .ok (.ifCond .eq 5, 3) := by decide +kernel
theorem dX10_would_82 : decode cX10_would 82 = .ok (.iconst 0, 1) := by decide +kernel
theorem dX10_would_83 : decode cX10_would 83 = .ok (.ireturn, 1) := by decide +kernel
theorem dX10_would_84 : decode cX10_would 84 = .ok (.aload_n 0, 1) := by decide +kernel
theorem dX10_would_85 : decode cX10_would 85 = .ok (.iload_n 1, 1) := by decide +kernel
theorem dX10_would_86 : decode cX10_would 86 = .ok (.iload_n 2, 1) := by decide +kernel
theorem dX10_would_87 : decode cX10_would 87 = .ok (.iload_n 3, 1) := by decide +kernel
theorem dX10_would_88 : decode cX10_would 88 = .ok (.iload 4, 2) := by decide +kernel
theorem dX10_would_90 : decode cX10_would 90 = .ok (.iload 5, 2) := by decide +kernel
theorem dX10_would_92 : decode cX10_would 92 = .ok (.iload 6, 2) := by decide +kernel
theorem dX10_would_94 : decode cX10_would 94 = .ok (.invokevirtual 299, 3) := by decide +kernel
theorem dX10_would_97 : decode cX10_would 97 = .ok (.ireturn, 1) := by decide +kernel
theorem dX10_goesOn_0 : decode cX10_goesOn 0 = .ok (.iconst 0, 1) := by decide +kernel
theorem dX10_goesOn_1 : decode cX10_goesOn 1 = .ok (.istore_n 2, 1) := by decide +kernel
theorem dX10_goesOn_2 : decode cX10_goesOn 2 = .ok (.iload_n 2, 1) := by decide +kernel
theorem dX10_goesOn_3 : decode cX10_goesOn 3 = .ok (.iload_n 1, 1) := by decide +kernel
theorem dX10_goesOn_4 : decode cX10_goesOn 4 = .ok (.if_icmp .ge 17, 3) := by decide +kernel
theorem dX10_goesOn_7 : decode cX10_goesOn 7 = .ok (.aload_n 0, 1) := by decide +kernel
theorem dX10_goesOn_8 : decode cX10_goesOn 8 = .ok (.aload_n 0, 1) := by decide +kernel
theorem dX10_goesOn_9 : decode cX10_goesOn 9 = .ok (.getfield 76, 3) := by decide +kernel
theorem dX10_goesOn_12 : decode cX10_goesOn 12 = .ok (.invokevirtual 317, 3) := by decide +kernel
theorem dX10_goesOn_15 : decode cX10_goesOn 15 = .ok (.iinc 2 1, 3) := by decide +kernel
theorem dX10_goesOn_18 : decode cX10_goesOn 18 = .ok (.goto (-16), 3) := by decide +kernel
theorem dX10_goesOn_21 : decode cX10_goesOn 21 = .ok (.return_, 1) := by decide +kernel
theorem dX10_ahead_0 : decode cX10_ahead 0 = .ok (.aload_n 0, 1) := by decide +kernel
theorem dX10_ahead_1 : decode cX10_ahead 1 = .ok (.iconst 0, 1) := by decide +kernel
theorem dX10_ahead_2 : decode cX10_ahead 2 = .ok (.putfield 103, 3) := by decide +kernel
theorem dX10_ahead_5 : decode cX10_ahead 5 = .ok (.aload_n 0, 1) := by decide +kernel
theorem dX10_ahead_6 : decode cX10_ahead 6 = .ok (.iload_n 1, 1) := by decide +kernel
theorem dX10_ahead_7 : decode cX10_ahead 7 = .ok (.iconst 0, 1) := by decide +kernel
theorem dX10_ahead_8 : decode cX10_ahead 8 = .ok (.bipush 60, 2) := by decide +kernel
theorem dX10_ahead_10 : decode cX10_ahead 10 = .ok (.invokestatic 137, 3) := by decide +kernel
theorem dX10_ahead_13 : decode cX10_ahead 13 = .ok (.ifCond .eq 12, 3) := by decide +kernel
theorem dX10_ahead_16 : decode cX10_ahead 16 = .ok (.iload_n 2, 1) := by decide +kernel
theorem dX10_ahead_17 : decode cX10_ahead 17 = .ok (.iconst 0, 1) := by decide +kernel
theorem dX10_ahead_18 : decode cX10_ahead 18 = .ok (.iconst 3, 1) := by decide +kernel
theorem dX10_ahead_19 : decode cX10_ahead 19 = .ok (.invokestatic 137, 3) := by decide +kernel
theorem dX10_ahead_22 : decode cX10_ahead 22 = .ok (.ifCond .ne 7, 3) := by decide +kernel
theorem dX10_ahead_25 : decode cX10_ahead 25 = .ok (.iconst 1, 1) := by decide +kernel
theorem dX10_ahead_26 : decode cX10_ahead 26 = .ok (.goto 4, 3) := by decide +kernel
theorem dX10_ahead_29 : decode cX10_ahead 29 = .ok (.iconst 0, 1) := by decide +kernel
theorem dX10_ahead_30 : decode cX10_ahead 30 = .ok (.iconst 1, 1) := by decide +kernel
theorem dX10_ahead_31 : decode cX10_ahead 31 = .ok (.iconst 1, 1) := by decide +kernel
theorem dX10_ahead_32 : decode cX10_ahead 32 = .ok (.invokevirtual 186, 3) := by decide +kernel
theorem dX10_ahead_35 : decode cX10_ahead 35 = .ok (.ifCond .eq 5, 3) := by decide +kernel
theorem dX10_ahead_38 : decode cX10_ahead 38 = .ok (.iconst 0, 1) := by decide +kernel
theorem dX10_ahead_39 : decode cX10_ahead 39 = .ok (.ireturn, 1) := by decide +kernel
theorem dX10_ahead_40 : decode cX10_ahead 40 = .ok (.iconst 0, 1) := by decide +kernel
theorem dX10_ahead_41 : decode cX10_ahead 41 = .ok (.istore_n 3, 1) := by decide +kernel
theorem dX10_ahead_42 : decode cX10_ahead 42 = .ok (.aload_n 0, 1) := by decide +kernel
theorem dX10_ahead_43 : decode cX10_ahead 43 = .ok (.getfield 73, 3) := by decide +kernel
theorem dX10_ahead_46 : decode cX10_ahead 46 = .ok (.aload_n 0, 1) := by decide +kernel
theorem dX10_ahead_47 : decode cX10_ahead 47 = .ok (.getfield 76, 3) := by decide +kernel
theorem dX10_ahead_50 : decode cX10_ahead 50 = .ok (.invokestatic 333, 3) := by decide +kernel
theorem dX10_ahead_53 : decode cX10_ahead 53 = .ok (.iconst 0, 1) := by decide +kernel
theorem dX10_ahead_54 : decode cX10_ahead 54 = .ok (.istore 4, 2) := by decide +kernel
theorem dX10_ahead_56 : decode cX10_ahead 56 = .ok (.iload 4, 2) := by decide +kernel
theorem dX10_ahead_58 : decode cX10_ahead 58 = .ok (.iload_n 1, 1) := by decide +kernel
theorem dX10_ahead_59 : decode cX10_ahead 59 = .ok (.if_icmp .ge 58, 3) := by decide +kernel
theorem dX10_ahead_62 : decode cX10_ahead 62 = .ok (.iconst 0, 1) := by decide +kernel
theorem dX10_ahead_63 : decode cX10_ahead 63 = .ok (.istore 5, 2) := by decide +kernel
theorem dX10_ahead_65 : decode cX10_ahead 65 = .ok (.iload 5, 2) := by decide +kernel
theorem dX10_ahead_67 : decode cX10_ahead 67 = .ok (.aload_n 0, 1) := by decide +kernel
theorem dX10_ahead_68 : decode cX10_ahead 68 = .ok (.getfield 23, 3) := by decide +kernel
theorem dX10_ahead_71 : decode cX10_ahead 71 = .ok (.iconst 0, 1) := by decide +kernel
theorem dX10_ahead_72 : decode cX10_ahead 72 = .ok (.iaload, 1) := by decide +kernel
theorem dX10_ahead_73 : decode cX10_ahead 73 = .ok (.if_icmp .ge 30, 3) := by decide +kernel
theorem dX10_ahead_76 : decode cX10_ahead 76 = .ok (.iload_n 3, 1) := by decide +kernel
theorem dX10_ahead_77 : decode cX10_ahead 77 = .ok (.aload_n 0, 1) := by decide +kernel
theorem dX10_ahead_78 : decode cX10_ahead 78 = .ok (.aload_n 0, 1) := by decide +kernel
theorem dX10_ahead_79 : decode cX10_ahead 79 = .ok (.getfield 76, 3) := by decide +kernel
theorem dX10_ahead_82 : decode cX10_ahead 82 = .ok (.iload 5, 2) := by decide +kernel
theorem dX10_ahead_84 : decode cX10_ahead 84 = .ok (.invokevirtual 286, 3) := by decide +kernel
theorem dX10_ahead_87 : decode cX10_ahead 87 = .ok (.ifCond .le 7, 3) := by decide +kernel
theorem dX10_ahead_90 : decode cX10_ahead 90 = .ok (.iconst 1, 1) := by decide +kernel
theorem dX10_ahead_91 : decode cX10_ahead 91 = .ok (.goto 4, 3) := by decide +kernel
theorem dX10_ahead_94 : decode cX10_ahead 94 = .ok (.iconst 0, 1) := by decide +kernel
theorem dX10_ahead_95 : decode cX10_ahead 95 = .ok (.iadd, 1) := by decide +kernel
theorem dX10_ahead_96 : decode cX10_ahead 96 = .ok (.istore_n 3, 1) := by decide +kernel
theorem dX10_ahead_97 : decode cX10_ahead 97 = .ok (.iinc 5 1, 3) := by decide +kernel
theorem dX10_ahead_100 : decode cX10_ahead 100 = .ok (.goto (-35), 3) := by decide +kernel
theorem dX10_ahead_103 : decode cX10_ahead 103 = .ok (.aload_n 0, 1) := by decide +kernel
theorem dX10_ahead_104 : decode cX10_ahead 104 = .ok (.aload_n 0, 1) := by decide +kernel
theorem dX10_ahead_105 : decode cX10_ahead 105 = .ok (.getfield 76, 3) := by decide +kernel
theorem dX10_ahead_108 : decode cX10_ahead 108 = .ok (.invokevirtual 317, 3) := by decide +kernel
theorem dX10_ahead_111 : decode cX10_ahead 111 = .ok (.iinc 4 1, 3) := by decide +kernel
theorem dX10_ahead_114 : decode cX10_ahead 114 = .ok (.goto (-58), 3) := by decide +kernel
theorem dX10_ahead_117 : decode cX10_ahead 117 = .ok (.iload_n 2, 1) := by decide +kernel
theorem dX10_ahead_118 : decode cX10_ahead 118 = .ok (.tableswitch 62 0 2 #[26, 35, 44], 26) := by decide +kernel
theorem dX10_ahead_144 : decode cX10_ahead 144 = .ok (.aload_n 0, 1) := by decide +kernel
theorem dX10_ahead_145 : decode cX10_ahead 145 = .ok (.aload_n 0, 1) := by decide +kernel
theorem dX10_ahead_146 : decode cX10_ahead 146 = .ok (.getfield 76, 3) := by decide +kernel
theorem dX10_ahead_149 : decode cX10_ahead 149 = .ok (.invokevirtual 341, 3) := by decide +kernel
theorem dX10_ahead_152 : decode cX10_ahead 152 = .ok (.ireturn, 1) := by decide +kernel
theorem dX10_ahead_153 : decode cX10_ahead 153 = .ok (.aload_n 0, 1) := by decide +kernel
theorem dX10_ahead_154 : decode cX10_ahead 154 = .ok (.aload_n 0, 1) := by decide +kernel
theorem dX10_ahead_155 : decode cX10_ahead 155 = .ok (.getfield 76, 3) := by decide +kernel
theorem dX10_ahead_158 : decode cX10_ahead 158 = .ok (.invokevirtual 337, 3) := by decide +kernel
theorem dX10_ahead_161 : decode cX10_ahead 161 = .ok (.ireturn, 1) := by decide +kernel
theorem dX10_ahead_162 : decode cX10_ahead 162 = .ok (.aload_n 0, 1) := by decide +kernel
theorem dX10_ahead_163 : decode cX10_ahead 163 = .ok (.aload_n 0, 1) := by decide +kernel
theorem dX10_ahead_164 : decode cX10_ahead 164 = .ok (.getfield 76, 3) := by decide +kernel
theorem dX10_ahead_167 : decode cX10_ahead 167 = .ok (.invokevirtual 344, 3) := by decide +kernel
theorem dX10_ahead_170 : decode cX10_ahead 170 = .ok (.aload_n 0, 1) := by decide +kernel
theorem dX10_ahead_171 : decode cX10_ahead 171 = .ok (.aload_n 0, 1) := by decide +kernel
theorem dX10_ahead_172 : decode cX10_ahead 172 = .ok (.getfield 73, 3) := by decide +kernel
theorem dX10_ahead_175 : decode cX10_ahead 175 = .ok (.invokevirtual 344, 3) := by decide +kernel
theorem dX10_ahead_178 : decode cX10_ahead 178 = .ok (.isub, 1) := by decide +kernel
theorem dX10_ahead_179 : decode cX10_ahead 179 = .ok (.ireturn, 1) := by decide +kernel
theorem dX10_ahead_180 : decode cX10_ahead 180 = .ok (.iload_n 3, 1) := by decide +kernel
theorem dX10_ahead_181 : decode cX10_ahead 181 = .ok (.ireturn, 1) := by decide +kernel
theorem dX10_comes_0 : decode cX10_comes 0 = .ok (.aload_n 0, 1) := by decide +kernel
theorem dX10_comes_1 : decode cX10_comes 1 = .ok (.iconst 0, 1) := by decide +kernel
theorem dX10_comes_2 : decode cX10_comes 2 = .ok (.putfield 103, 3) := by decide +kernel
theorem dX10_comes_5 : decode cX10_comes 5 = .ok (.aload_n 0, 1) := by decide +kernel
theorem dX10_comes_6 : decode cX10_comes 6 = .ok (.aload_n 0, 1) := by decide +kernel
theorem dX10_comes_7 : decode cX10_comes 7 = .ok (.iload_n 1, 1) := by decide +kernel
theorem dX10_comes_8 : decode cX10_comes 8 = .ok (.invokevirtual 347, 3) := by decide +kernel
theorem dX10_comes_11 : decode cX10_comes 11 = .ok (.ifCond .ne 7, 3) := by decide +kernel
theorem dX10_comes_14 : decode cX10_comes 14 = .ok (.iconst 1, 1) := by decide +kernel
theorem dX10_comes_15 : decode cX10_comes 15 = .ok (.goto 4, 3) := by decide +kernel
theorem dX10_comes_18 : decode cX10_comes 18 = .ok (.iconst 0, 1) := by decide +kernel
theorem dX10_comes_19 : decode cX10_comes 19 = .ok (.iconst 1, 1) := by decide +kernel
theorem dX10_comes_20 : decode cX10_comes 20 = .ok (.iconst 0, 1) := by decide +kernel
theorem dX10_comes_21 : decode cX10_comes 21 = .ok (.invokevirtual 186, 3) := by decide +kernel
theorem dX10_comes_24 : decode cX10_comes 24 = .ok (.ifCond .eq 5, 3) := by decide +kernel
theorem dX10_comes_27 : decode cX10_comes 27 = .ok (.iconst 0, 1) := by decide +kernel
theorem dX10_comes_28 : decode cX10_comes 28 = .ok (.ireturn, 1) := by decide +kernel
theorem dX10_comes_29 : decode cX10_comes 29 = .ok (.iconst 0, 1) := by decide +kernel
theorem dX10_comes_30 : decode cX10_comes 30 = .ok (.istore_n 2, 1) := by decide +kernel
theorem dX10_comes_31 : decode cX10_comes 31 = .ok (.iload_n 2, 1) := by decide +kernel
theorem dX10_comes_32 : decode cX10_comes 32 = .ok (.bipush 60, 2) := by decide +kernel
theorem dX10_comes_34 : decode cX10_comes 34 = .ok (.if_icmp .ge 36, 3) := by decide +kernel
theorem dX10_comes_37 : decode cX10_comes 37 = .ok (.aload_n 0, 1) := by decide +kernel
theorem dX10_comes_38 : decode cX10_comes 38 = .ok (.aload_n 0, 1) := by decide +kernel
theorem dX10_comes_39 : decode cX10_comes 39 = .ok (.getfield 73, 3) := by decide +kernel
theorem dX10_comes_42 : decode cX10_comes 42 = .ok (.iload_n 1, 1) := by decide +kernel
theorem dX10_comes_43 : decode cX10_comes 43 = .ok (.aload_n 0, 1) := by decide +kernel
theorem dX10_comes_44 : decode cX10_comes 44 = .ok (.aload_n 0, 1) := by decide +kernel
theorem dX10_comes_45 : decode cX10_comes 45 = .ok (.getfield 73, 3) := by decide +kernel
theorem dX10_comes_48 : decode cX10_comes 48 = .ok (.bipush 62, 2) := by decide +kernel
theorem dX10_comes_50 : decode cX10_comes 50 = .ok (.iaload, 1) := by decide +kernel
theorem dX10_comes_51 : decode cX10_comes 51 = .ok (.iload_n 2, 1) := by decide +kernel
theorem dX10_comes_52 : decode cX10_comes 52 = .ok (.iadd, 1) := by decide +kernel
theorem dX10_comes_53 : decode cX10_comes 53 = .ok (.invokevirtual 276, 3) := by decide +kernel
theorem dX10_comes_56 : decode cX10_comes 56 = .ok (.invokevirtual 282, 3) := by decide +kernel
theorem dX10_comes_59 : decode cX10_comes 59 = .ok (.ifCond .le 5, 3) := by decide +kernel
theorem dX10_comes_62 : decode cX10_comes 62 = .ok (.iload_n 2, 1) := by decide +kernel
theorem dX10_comes_63 : decode cX10_comes 63 = .ok (.ireturn, 1) := by decide +kernel
theorem dX10_comes_64 : decode cX10_comes 64 = .ok (.iinc 2 1, 3) := by decide +kernel
theorem dX10_comes_67 : decode cX10_comes 67 = .ok (.goto (-36), 3) := by decide +kernel
theorem dX10_comes_70 : decode cX10_comes 70 = .ok (.iconst (-1), 1) := by decide +kernel
theorem dX10_comes_71 : decode cX10_comes 71 = .ok (.ireturn, 1) := by decide +kernel
theorem dX10_spring_0 : decode cX10_spring 0 = .ok (.aload_n 0, 1) := by decide +kernel
theorem dX10_spring_1 : decode cX10_spring 1 = .ok (.iconst 0, 1) := by decide +kernel
theorem dX10_spring_2 : decode cX10_spring 2 = .ok (.putfield 103, 3) := by decide +kernel
theorem dX10_spring_5 : decode cX10_spring 5 = .ok (.aload_n 0, 1) := by decide +kernel
theorem dX10_spring_6 : decode cX10_spring 6 = .ok (.iload_n 1, 1) := by decide +kernel
theorem dX10_spring_7 : decode cX10_spring 7 = .ok (.iconst 0, 1) := by decide +kernel
theorem dX10_spring_8 : decode cX10_spring 8 = .ok (.iconst 1, 1) := by decide +kernel
theorem dX10_spring_9 : decode cX10_spring 9 = .ok (.invokestatic 137, 3) := by decide +kernel
theorem dX10_spring_12 : decode cX10_spring 12 = .ok (.ifCond .ne 7, 3) := by decide +kernel
theorem dX10_spring_15 : decode cX10_spring 15 = .ok (.iconst 1, 1) := by decide +kernel
theorem dX10_spring_16 : decode cX10_spring 16 = .ok (.goto 4, 3) := by decide +kernel
theorem dX10_spring_19 : decode cX10_spring 19 = .ok (.iconst 0, 1) := by decide +kernel
theorem dX10_spring_20 : decode cX10_spring 20 = .ok (.iconst 1, 1) := by decide +kernel
theorem dX10_spring_21 : decode cX10_spring 21 = .ok (.iconst 1, 1) := by decide +kernel
theorem dX10_spring_22 : decode cX10_spring 22 = .ok (.invokevirtual 186, 3) := by decide +kernel
theorem dX10_spring_25 : decode cX10_spring 25 = .ok (.ifCond .eq 5, 3) := by decide +kernel
theorem dX10_spring_28 : decode cX10_spring 28 = .ok (.iconst 0, 1) := by decide +kernel
theorem dX10_spring_29 : decode cX10_spring 29 = .ok (.ireturn, 1) := by decide +kernel
theorem dX10_spring_30 : decode cX10_spring 30 = .ok (.iconst 0, 1) := by decide +kernel
theorem dX10_spring_31 : decode cX10_spring 31 = .ok (.istore_n 2, 1) := by decide +kernel
theorem dX10_spring_32 : decode cX10_spring 32 = .ok (.iconst 1, 1) := by decide +kernel
theorem dX10_spring_33 : decode cX10_spring 33 = .ok (.istore_n 3, 1) := by decide +kernel
theorem dX10_spring_34 : decode cX10_spring 34 = .ok (.iload_n 3, 1) := by decide +kernel
theorem dX10_spring_35 : decode cX10_spring 35 = .ok (.bipush 24, 2) := by decide +kernel
theorem dX10_spring_37 : decode cX10_spring 37 = .ok (.if_icmp .ge 44, 3) := by decide +kernel
theorem dX10_spring_40 : decode cX10_spring 40 = .ok (.aload_n 0, 1) := by decide +kernel
theorem dX10_spring_41 : decode cX10_spring 41 = .ok (.aload_n 0, 1) := by decide +kernel
theorem dX10_spring_42 : decode cX10_spring 42 = .ok (.getfield 73, 3) := by decide +kernel
theorem dX10_spring_45 : decode cX10_spring 45 = .ok (.bipush 62, 2) := by decide +kernel
theorem dX10_spring_47 : decode cX10_spring 47 = .ok (.iaload, 1) := by decide +kernel
theorem dX10_spring_48 : decode cX10_spring 48 = .ok (.iload_n 3, 1) := by decide +kernel
theorem dX10_spring_49 : decode cX10_spring 49 = .ok (.iadd, 1) := by decide +kernel
theorem dX10_spring_50 : decode cX10_spring 50 = .ok (.invokevirtual 276, 3) := by decide +kernel
theorem dX10_spring_53 : decode cX10_spring 53 = .ok (.aload_n 0, 1) := by decide +kernel
theorem dX10_spring_54 : decode cX10_spring 54 = .ok (.aload_n 0, 1) := by decide +kernel
theorem dX10_spring_55 : decode cX10_spring 55 = .ok (.getfield 73, 3) := by decide +kernel
theorem dX10_spring_58 : decode cX10_spring 58 = .ok (.bipush 62, 2) := by decide +kernel
theorem dX10_spring_60 : decode cX10_spring 60 = .ok (.iaload, 1) := by decide +kernel
theorem dX10_spring_61 : decode cX10_spring 61 = .ok (.iload_n 2, 1) := by decide +kernel
theorem dX10_spring_62 : decode cX10_spring 62 = .ok (.iadd, 1) := by decide +kernel
theorem dX10_spring_63 : decode cX10_spring 63 = .ok (.invokevirtual 276, 3) := by decide +kernel
theorem dX10_spring_66 : decode cX10_spring 66 = .ok (.if_icmp .le 7, 3) := by decide +kernel
theorem dX10_spring_69 : decode cX10_spring 69 = .ok (.iload_n 3, 1) := by decide +kernel
theorem dX10_spring_70 : decode cX10_spring 70 = .ok (.goto 4, 3) := by decide +kernel
theorem dX10_spring_73 : decode cX10_spring 73 = .ok (.iload_n 2, 1) := by decide +kernel
theorem dX10_spring_74 : decode cX10_spring 74 = .ok (.istore_n 2, 1) := by decide +kernel
theorem dX10_spring_75 : decode cX10_spring 75 = .ok (.iinc 3 1, 3) := by decide +kernel
theorem dX10_spring_78 : decode cX10_spring 78 = .ok (.goto (-44), 3) := by decide +kernel
theorem dX10_spring_81 : decode cX10_spring 81 = .ok (.iload_n 1, 1) := by decide +kernel
theorem dX10_spring_82 : decode cX10_spring 82 = .ok (.ifCond .ne 7, 3) := by decide +kernel
theorem dX10_spring_85 : decode cX10_spring 85 = .ok (.iload_n 2, 1) := by decide +kernel
theorem dX10_spring_86 : decode cX10_spring 86 = .ok (.goto 16, 3) := by decide +kernel
theorem dX10_spring_89 : decode cX10_spring 89 = .ok (.aload_n 0, 1) := by decide +kernel
theorem dX10_spring_90 : decode cX10_spring 90 = .ok (.aload_n 0, 1) := by decide +kernel
theorem dX10_spring_91 : decode cX10_spring 91 = .ok (.getfield 73, 3) := by decide +kernel
theorem dX10_spring_94 : decode cX10_spring 94 = .ok (.bipush 62, 2) := by decide +kernel
theorem dX10_spring_96 : decode cX10_spring 96 = .ok (.iaload, 1) := by decide +kernel
theorem dX10_spring_97 : decode cX10_spring 97 = .ok (.iload_n 2, 1) := by decide +kernel
theorem dX10_spring_98 : decode cX10_spring 98 = .ok (.iadd, 1) := by decide +kernel
theorem dX10_spring_99 : decode cX10_spring 99 = .ok (.invokevirtual 276, 3) := by decide +kernel
theorem dX10_spring_102 : decode cX10_spring 102 = .ok (.ireturn, 1) := by decide +kernel
theorem dX10_soaked_0 : decode cX10_soaked 0 = .ok (.aload_n 0, 1) := by decide +kernel
theorem dX10_soaked_1 : decode cX10_soaked 1 = .ok (.iconst 0, 1) := by decide +kernel
theorem dX10_soaked_2 : decode cX10_soaked 2 = .ok (.putfield 103, 3) := by decide +kernel
theorem dX10_soaked_5 : decode cX10_soaked 5 = .ok (.aload_n 0, 1) := by decide +kernel
theorem dX10_soaked_6 : decode cX10_soaked 6 = .ok (.aload_n 0, 1) := by decide +kernel
theorem dX10_soaked_7 : decode cX10_soaked 7 = .ok (.iload_n 1, 1) := by decide +kernel
theorem dX10_soaked_8 : decode cX10_soaked 8 = .ok (.invokevirtual 350, 3) := by decide +kernel
theorem dX10_soaked_11 : decode cX10_soaked 11 = .ok (.ifCond .ne 7, 3) := by decide +kernel
theorem dX10_soaked_14 : decode cX10_soaked 14 = .ok (.iconst 1, 1) := by decide +kernel
theorem dX10_soaked_15 : decode cX10_soaked 15 = .ok (.goto 4, 3) := by decide +kernel
theorem dX10_soaked_18 : decode cX10_soaked 18 = .ok (.iconst 0, 1) := by decide +kernel
theorem dX10_soaked_19 : decode cX10_soaked 19 = .ok (.iconst 1, 1) := by decide +kernel
theorem dX10_soaked_20 : decode cX10_soaked 20 = .ok (.iconst 0, 1) := by decide +kernel
theorem dX10_soaked_21 : decode cX10_soaked 21 = .ok (.invokevirtual 186, 3) := by decide +kernel
theorem dX10_soaked_24 : decode cX10_soaked 24 = .ok (.ifCond .ne 27, 3) := by decide +kernel
theorem dX10_soaked_27 : decode cX10_soaked 27 = .ok (.aload_n 0, 1) := by decide +kernel
theorem dX10_soaked_28 : decode cX10_soaked 28 = .ok (.iload_n 2, 1) := by decide +kernel
theorem dX10_soaked_29 : decode cX10_soaked 29 = .ok (.iconst 0, 1) := by decide +kernel
theorem dX10_soaked_30 : decode cX10_soaked 30 = .ok (.bipush 60, 2) := by decide +kernel
theorem dX10_soaked_32 : decode cX10_soaked 32 = .ok (.invokestatic 137, 3) := by decide +kernel
theorem dX10_soaked_35 : decode cX10_soaked 35 = .ok (.ifCond .ne 7, 3) := by decide +kernel
theorem dX10_soaked_38 : decode cX10_soaked 38 = .ok (.iconst 1, 1) := by decide +kernel
theorem dX10_soaked_39 : decode cX10_soaked 39 = .ok (.goto 4, 3) := by decide +kernel
theorem dX10_soaked_42 : decode cX10_soaked 42 = .ok (.iconst 0, 1) := by decide +kernel
theorem dX10_soaked_43 : decode cX10_soaked 43 = .ok (.iconst 2, 1) := by decide +kernel
theorem dX10_soaked_44 : decode cX10_soaked 44 = .ok (.iconst 1, 1) := by decide +kernel
theorem dX10_soaked_45 : decode cX10_soaked 45 = .ok (.invokevirtual 186, 3) := by decide +kernel
theorem dX10_soaked_48 : decode cX10_soaked 48 = .ok (.ifCond .eq 5, 3) := by decide +kernel
theorem dX10_soaked_51 : decode cX10_soaked 51 = .ok (.iconst 0, 1) := by decide +kernel
theorem dX10_soaked_52 : decode cX10_soaked 52 = .ok (.ireturn, 1) := by decide +kernel
theorem dX10_soaked_53 : decode cX10_soaked 53 = .ok (.iconst 0, 1) := by decide +kernel
theorem dX10_soaked_54 : decode cX10_soaked 54 = .ok (.istore_n 3, 1) := by decide +kernel
theorem dX10_soaked_55 : decode cX10_soaked 55 = .ok (.aload_n 0, 1) := by decide +kernel
theorem dX10_soaked_56 : decode cX10_soaked 56 = .ok (.getfield 73, 3) := by decide +kernel
theorem dX10_soaked_59 : decode cX10_soaked 59 = .ok (.aload_n 0, 1) := by decide +kernel
theorem dX10_soaked_60 : decode cX10_soaked 60 = .ok (.getfield 76, 3) := by decide +kernel
theorem dX10_soaked_63 : decode cX10_soaked 63 = .ok (.invokestatic 333, 3) := by decide +kernel
theorem dX10_soaked_66 : decode cX10_soaked 66 = .ok (.iconst 0, 1) := by decide +kernel
theorem dX10_soaked_67 : decode cX10_soaked 67 = .ok (.istore 4, 2) := by decide +kernel
theorem dX10_soaked_69 : decode cX10_soaked 69 = .ok (.iload 4, 2) := by decide +kernel
theorem dX10_soaked_71 : decode cX10_soaked 71 = .ok (.iload_n 2, 1) := by decide +kernel
theorem dX10_soaked_72 : decode cX10_soaked 72 = .ok (.if_icmp .ge 45, 3) := by decide +kernel
theorem dX10_soaked_75 : decode cX10_soaked 75 = .ok (.aload_n 0, 1) := by decide +kernel
theorem dX10_soaked_76 : decode cX10_soaked 76 = .ok (.aload_n 0, 1) := by decide +kernel
theorem dX10_soaked_77 : decode cX10_soaked 77 = .ok (.getfield 76, 3) := by decide +kernel
theorem dX10_soaked_80 : decode cX10_soaked 80 = .ok (.invokevirtual 303, 3) := by decide +kernel
theorem dX10_soaked_83 : decode cX10_soaked 83 = .ok (.iload_n 3, 1) := by decide +kernel
theorem dX10_soaked_84 : decode cX10_soaked 84 = .ok (.aload_n 0, 1) := by decide +kernel
theorem dX10_soaked_85 : decode cX10_soaked 85 = .ok (.aload_n 0, 1) := by decide +kernel
theorem dX10_soaked_86 : decode cX10_soaked 86 = .ok (.getfield 76, 3) := by decide +kernel
theorem dX10_soaked_89 : decode cX10_soaked 89 = .ok (.iload_n 1, 1) := by decide +kernel
theorem dX10_soaked_90 : decode cX10_soaked 90 = .ok (.invokevirtual 289, 3) := by decide +kernel
theorem dX10_soaked_93 : decode cX10_soaked 93 = .ok (.ifCond .eq 7, 3) := by decide +kernel
theorem dX10_soaked_96 : decode cX10_soaked 96 = .ok (.iconst 1, 1) := by decide +kernel
theorem dX10_soaked_97 : decode cX10_soaked 97 = .ok (.goto 4, 3) := by decide +kernel
theorem dX10_soaked_100 : decode cX10_soaked 100 = .ok (.iconst 0, 1) := by decide +kernel
theorem dX10_soaked_101 : decode cX10_soaked 101 = .ok (.iadd, 1) := by decide +kernel
theorem dX10_soaked_102 : decode cX10_soaked 102 = .ok (.istore_n 3, 1) := by decide +kernel
theorem dX10_soaked_103 : decode cX10_soaked 103 = .ok (.aload_n 0, 1) := by decide +kernel
theorem dX10_soaked_104 : decode cX10_soaked 104 = .ok (.aload_n 0, 1) := by decide +kernel
theorem dX10_soaked_105 : decode cX10_soaked 105 = .ok (.getfield 76, 3) := by decide +kernel
theorem dX10_soaked_108 : decode cX10_soaked 108 = .ok (.invokevirtual 317, 3) := by decide +kernel
theorem dX10_soaked_111 : decode cX10_soaked 111 = .ok (.iinc 4 1, 3) := by decide +kernel
theorem dX10_soaked_114 : decode cX10_soaked 114 = .ok (.goto (-45), 3) := by decide +kernel
theorem dX10_soaked_117 : decode cX10_soaked 117 = .ok (.iload_n 3, 1) := by decide +kernel
theorem dX10_soaked_118 : decode cX10_soaked 118 = .ok (.ireturn, 1) := by decide +kernel
theorem dX10_snaps_0 : decode cX10_snaps 0 = .ok (.aload_n 0, 1) := by decide +kernel
theorem dX10_snaps_1 : decode cX10_snaps 1 = .ok (.iconst 0, 1) := by decide +kernel
theorem dX10_snaps_2 : decode cX10_snaps 2 = .ok (.putfield 103, 3) := by decide +kernel
theorem dX10_snaps_5 : decode cX10_snaps 5 = .ok (.aload_n 0, 1) := by decide +kernel
theorem dX10_snaps_6 : decode cX10_snaps 6 = .ok (.aload_n 0, 1) := by decide +kernel
theorem dX10_snaps_7 : decode cX10_snaps 7 = .ok (.iload_n 1, 1) := by decide +kernel
theorem dX10_snaps_8 : decode cX10_snaps 8 = .ok (.invokevirtual 350, 3) := by decide +kernel
theorem dX10_snaps_11 : decode cX10_snaps 11 = .ok (.ifCond .ne 7, 3) := by decide +kernel
theorem dX10_snaps_14 : decode cX10_snaps 14 = .ok (.iconst 1, 1) := by decide +kernel
theorem dX10_snaps_15 : decode cX10_snaps 15 = .ok (.goto 4, 3) := by decide +kernel
theorem dX10_snaps_18 : decode cX10_snaps 18 = .ok (.iconst 0, 1) := by decide +kernel
theorem dX10_snaps_19 : decode cX10_snaps 19 = .ok (.iconst 1, 1) := by decide +kernel
theorem dX10_snaps_20 : decode cX10_snaps 20 = .ok (.iconst 0, 1) := by decide +kernel
theorem dX10_snaps_21 : decode cX10_snaps 21 = .ok (.invokevirtual 186, 3) := by decide +kernel
theorem dX10_snaps_24 : decode cX10_snaps 24 = .ok (.ifCond .eq 5, 3) := by decide +kernel
theorem dX10_snaps_27 : decode cX10_snaps 27 = .ok (.iconst 0, 1) := by decide +kernel
theorem dX10_snaps_28 : decode cX10_snaps 28 = .ok (.ireturn, 1) := by decide +kernel
theorem dX10_snaps_29 : decode cX10_snaps 29 = .ok (.aload_n 0, 1) := by decide +kernel
theorem dX10_snaps_30 : decode cX10_snaps 30 = .ok (.getfield 73, 3) := by decide +kernel
theorem dX10_snaps_33 : decode cX10_snaps 33 = .ok (.aload_n 0, 1) := by decide +kernel
theorem dX10_snaps_34 : decode cX10_snaps 34 = .ok (.getfield 76, 3) := by decide +kernel
theorem dX10_snaps_37 : decode cX10_snaps 37 = .ok (.invokestatic 333, 3) := by decide +kernel
theorem dX10_snaps_40 : decode cX10_snaps 40 = .ok (.iconst 0, 1) := by decide +kernel
theorem dX10_snaps_41 : decode cX10_snaps 41 = .ok (.istore_n 2, 1) := by decide +kernel
theorem dX10_snaps_42 : decode cX10_snaps 42 = .ok (.iload_n 2, 1) := by decide +kernel
theorem dX10_snaps_43 : decode cX10_snaps 43 = .ok (.bipush 60, 2) := by decide +kernel
theorem dX10_snaps_45 : decode cX10_snaps 45 = .ok (.if_icmp .ge 44, 3) := by decide +kernel
theorem dX10_snaps_48 : decode cX10_snaps 48 = .ok (.aload_n 0, 1) := by decide +kernel
theorem dX10_snaps_49 : decode cX10_snaps 49 = .ok (.getfield 76, 3) := by decide +kernel
theorem dX10_snaps_52 : decode cX10_snaps 52 = .ok (.bipush 20, 2) := by decide +kernel
theorem dX10_snaps_54 : decode cX10_snaps 54 = .ok (.iload_n 1, 1) := by decide +kernel
theorem dX10_snaps_55 : decode cX10_snaps 55 = .ok (.iadd, 1) := by decide +kernel
theorem dX10_snaps_56 : decode cX10_snaps 56 = .ok (.iaload, 1) := by decide +kernel
theorem dX10_snaps_57 : decode cX10_snaps 57 = .ok (.iconst 1, 1) := by decide +kernel
theorem dX10_snaps_58 : decode cX10_snaps 58 = .ok (.if_icmp .ne 31, 3) := by decide +kernel
theorem dX10_snaps_61 : decode cX10_snaps 61 = .ok (.aload_n 0, 1) := by decide +kernel
theorem dX10_snaps_62 : decode cX10_snaps 62 = .ok (.aload_n 0, 1) := by decide +kernel
theorem dX10_snaps_63 : decode cX10_snaps 63 = .ok (.getfield 76, 3) := by decide +kernel
theorem dX10_snaps_66 : decode cX10_snaps 66 = .ok (.invokevirtual 317, 3) := by decide +kernel
theorem dX10_snaps_69 : decode cX10_snaps 69 = .ok (.aload_n 0, 1) := by decide +kernel
theorem dX10_snaps_70 : decode cX10_snaps 70 = .ok (.getfield 76, 3) := by decide +kernel
theorem dX10_snaps_73 : decode cX10_snaps 73 = .ok (.bipush 20, 2) := by decide +kernel
theorem dX10_snaps_75 : decode cX10_snaps 75 = .ok (.iload_n 1, 1) := by decide +kernel
theorem dX10_snaps_76 : decode cX10_snaps 76 = .ok (.iadd, 1) := by decide +kernel
theorem dX10_snaps_77 : decode cX10_snaps 77 = .ok (.iaload, 1) := by decide +kernel
theorem dX10_snaps_78 : decode cX10_snaps 78 = .ok (.ifCond .ne 5, 3) := by decide +kernel
theorem dX10_snaps_81 : decode cX10_snaps 81 = .ok (.iload_n 2, 1) := by decide +kernel
theorem dX10_snaps_82 : decode cX10_snaps 82 = .ok (.ireturn, 1) := by decide +kernel
theorem dX10_snaps_83 : decode cX10_snaps 83 = .ok (.iinc 2 1, 3) := by decide +kernel
theorem dX10_snaps_86 : decode cX10_snaps 86 = .ok (.goto (-44), 3) := by decide +kernel
theorem dX10_snaps_89 : decode cX10_snaps 89 = .ok (.iconst (-1), 1) := by decide +kernel
theorem dX10_snaps_90 : decode cX10_snaps 90 = .ok (.ireturn, 1) := by decide +kernel
theorem dX10_pays_0 : decode cX10_pays 0 = .ok (.aload_n 0, 1) := by decide +kernel
theorem dX10_pays_1 : decode cX10_pays 1 = .ok (.iconst 0, 1) := by decide +kernel
theorem dX10_pays_2 : decode cX10_pays 2 = .ok (.putfield 103, 3) := by decide +kernel
theorem dX10_pays_5 : decode cX10_pays 5 = .ok (.aload_n 0, 1) := by decide +kernel
theorem dX10_pays_6 : decode cX10_pays 6 = .ok (.aload_n 0, 1) := by decide +kernel
theorem dX10_pays_7 : decode cX10_pays 7 = .ok (.iload_n 1, 1) := by decide +kernel
theorem dX10_pays_8 : decode cX10_pays 8 = .ok (.invokevirtual 347, 3) := by decide +kernel
theorem dX10_pays_11 : decode cX10_pays 11 = .ok (.ifCond .ne 7, 3) := by decide +kernel
theorem dX10_pays_14 : decode cX10_pays 14 = .ok (.iconst 1, 1) := by decide +kernel
theorem dX10_pays_15 : decode cX10_pays 15 = .ok (.goto 4, 3) := by decide +kernel
theorem dX10_pays_18 : decode cX10_pays 18 = .ok (.iconst 0, 1) := by decide +kernel
theorem dX10_pays_19 : decode cX10_pays 19 = .ok (.iconst 1, 1) := by decide +kernel
theorem dX10_pays_20 : decode cX10_pays 20 = .ok (.iconst 0, 1) := by decide +kernel
theorem dX10_pays_21 : decode cX10_pays 21 = .ok (.invokevirtual 186, 3) := by decide +kernel
theorem dX10_pays_24 : decode cX10_pays 24 = .ok (.ifCond .ne 27, 3) := by decide +kernel
theorem dX10_pays_27 : decode cX10_pays 27 = .ok (.aload_n 0, 1) := by decide +kernel
theorem dX10_pays_28 : decode cX10_pays 28 = .ok (.iload_n 2, 1) := by decide +kernel
theorem dX10_pays_29 : decode cX10_pays 29 = .ok (.iconst 0, 1) := by decide +kernel
theorem dX10_pays_30 : decode cX10_pays 30 = .ok (.bipush 60, 2) := by decide +kernel
theorem dX10_pays_32 : decode cX10_pays 32 = .ok (.invokestatic 137, 3) := by decide +kernel
theorem dX10_pays_35 : decode cX10_pays 35 = .ok (.ifCond .ne 7, 3) := by decide +kernel
theorem dX10_pays_38 : decode cX10_pays 38 = .ok (.iconst 1, 1) := by decide +kernel
theorem dX10_pays_39 : decode cX10_pays 39 = .ok (.goto 4, 3) := by decide +kernel
theorem dX10_pays_42 : decode cX10_pays 42 = .ok (.iconst 0, 1) := by decide +kernel
theorem dX10_pays_43 : decode cX10_pays 43 = .ok (.iconst 2, 1) := by decide +kernel
theorem dX10_pays_44 : decode cX10_pays 44 = .ok (.iconst 1, 1) := by decide +kernel
theorem dX10_pays_45 : decode cX10_pays 45 = .ok (.invokevirtual 186, 3) := by decide +kernel
theorem dX10_pays_48 : decode cX10_pays 48 = .ok (.ifCond .eq 5, 3) := by decide +kernel
theorem dX10_pays_51 : decode cX10_pays 51 = .ok (.iconst 0, 1) := by decide +kernel
theorem dX10_pays_52 : decode cX10_pays 52 = .ok (.ireturn, 1) := by decide +kernel
theorem dX10_pays_53 : decode cX10_pays 53 = .ok (.aload_n 0, 1) := by decide +kernel
theorem dX10_pays_54 : decode cX10_pays 54 = .ok (.getfield 73, 3) := by decide +kernel
theorem dX10_pays_57 : decode cX10_pays 57 = .ok (.aload_n 0, 1) := by decide +kernel
theorem dX10_pays_58 : decode cX10_pays 58 = .ok (.getfield 76, 3) := by decide +kernel
theorem dX10_pays_61 : decode cX10_pays 61 = .ok (.invokestatic 333, 3) := by decide +kernel
theorem dX10_pays_64 : decode cX10_pays 64 = .ok (.aload_n 0, 1) := by decide +kernel
theorem dX10_pays_65 : decode cX10_pays 65 = .ok (.iload_n 2, 1) := by decide +kernel
theorem dX10_pays_66 : decode cX10_pays 66 = .ok (.invokevirtual 353, 3) := by decide +kernel
theorem dX10_pays_69 : decode cX10_pays 69 = .ok (.aload_n 0, 1) := by decide +kernel
theorem dX10_pays_70 : decode cX10_pays 70 = .ok (.getfield 76, 3) := by decide +kernel
theorem dX10_pays_73 : decode cX10_pays 73 = .ok (.bipush 56, 2) := by decide +kernel
theorem dX10_pays_75 : decode cX10_pays 75 = .ok (.iload_n 1, 1) := by decide +kernel
theorem dX10_pays_76 : decode cX10_pays 76 = .ok (.iadd, 1) := by decide +kernel
theorem dX10_pays_77 : decode cX10_pays 77 = .ok (.iaload, 1) := by decide +kernel
theorem dX10_pays_78 : decode cX10_pays 78 = .ok (.aload_n 0, 1) := by decide +kernel
theorem dX10_pays_79 : decode cX10_pays 79 = .ok (.getfield 73, 3) := by decide +kernel
theorem dX10_pays_82 : decode cX10_pays 82 = .ok (.bipush 56, 2) := by decide +kernel
theorem dX10_pays_84 : decode cX10_pays 84 = .ok (.iload_n 1, 1) := by decide +kernel
theorem dX10_pays_85 : decode cX10_pays 85 = .ok (.iadd, 1) := by decide +kernel
theorem dX10_pays_86 : decode cX10_pays 86 = .ok (.iaload, 1) := by decide +kernel
theorem dX10_pays_87 : decode cX10_pays 87 = .ok (.isub, 1) := by decide +kernel
theorem dX10_pays_88 : decode cX10_pays 88 = .ok (.ireturn, 1) := by decide +kernel
theorem dX10_isInAny_0 : decode cX10_isInAny 0 = .ok (.iconst 0, 1) := by decide +kernel
theorem dX10_isInAny_1 : decode cX10_isInAny 1 = .ok (.istore_n 2, 1) := by decide +kernel
theorem dX10_isInAny_2 : decode cX10_isInAny 2 = .ok (.iload_n 2, 1) := by decide +kernel
theorem dX10_isInAny_3 : decode cX10_isInAny 3 = .ok (.aload_n 0, 1) := by decide +kernel
theorem dX10_isInAny_4 : decode cX10_isInAny 4 = .ok (.getfield 23, 3) := by decide +kernel
theorem dX10_isInAny_7 : decode cX10_isInAny 7 = .ok (.iconst 0, 1) := by decide +kernel
theorem dX10_isInAny_8 : decode cX10_isInAny 8 = .ok (.iaload, 1) := by decide +kernel
theorem dX10_isInAny_9 : decode cX10_isInAny 9 = .ok (.if_icmp .ge 36, 3) := by decide +kernel
theorem dX10_isInAny_12 : decode cX10_isInAny 12 = .ok (.aload_n 0, 1) := by decide +kernel
theorem dX10_isInAny_13 : decode cX10_isInAny 13 = .ok (.aload_n 0, 1) := by decide +kernel
theorem dX10_isInAny_14 : decode cX10_isInAny 14 = .ok (.getfield 73, 3) := by decide +kernel
theorem dX10_isInAny_17 : decode cX10_isInAny 17 = .ok (.iload_n 2, 1) := by decide +kernel
theorem dX10_isInAny_18 : decode cX10_isInAny 18 = .ok (.aload_n 0, 1) := by decide +kernel
theorem dX10_isInAny_19 : decode cX10_isInAny 19 = .ok (.aload_n 0, 1) := by decide +kernel
theorem dX10_isInAny_20 : decode cX10_isInAny 20 = .ok (.getfield 73, 3) := by decide +kernel
theorem dX10_isInAny_23 : decode cX10_isInAny 23 = .ok (.bipush 62, 2) := by decide +kernel
theorem dX10_isInAny_25 : decode cX10_isInAny 25 = .ok (.iaload, 1) := by decide +kernel
theorem dX10_isInAny_26 : decode cX10_isInAny 26 = .ok (.iload_n 1, 1) := by decide +kernel
theorem dX10_isInAny_27 : decode cX10_isInAny 27 = .ok (.iadd, 1) := by decide +kernel
theorem dX10_isInAny_28 : decode cX10_isInAny 28 = .ok (.invokevirtual 276, 3) := by decide +kernel
theorem dX10_isInAny_31 : decode cX10_isInAny 31 = .ok (.invokevirtual 282, 3) := by decide +kernel
theorem dX10_isInAny_34 : decode cX10_isInAny 34 = .ok (.ifCond .le 5, 3) := by decide +kernel
theorem dX10_isInAny_37 : decode cX10_isInAny 37 = .ok (.iconst 1, 1) := by decide +kernel
