theorem dX10_isInAny_38 : decode cX10_isInAny 38 = .ok (.ireturn, 1) := by decide +kernel
theorem dX10_isInAny_39 : decode cX10_isInAny 39 = .ok (.iinc 2 1, 3) := by decide +kernel
theorem dX10_isInAny_42 : decode cX10_isInAny 42 = .ok (.goto (-40), 3) := by decide +kernel
theorem dX10_isInAny_45 : decode cX10_isInAny 45 = .ok (.iconst 0, 1) := by decide +kernel
theorem dX10_isInAny_46 : decode cX10_isInAny 46 = .ok (.ireturn, 1) := by decide +kernel
theorem dX10_neap_0 : decode cX10_neap 0 = .ok (.aload_n 0, 1) := by decide +kernel
theorem dX10_neap_1 : decode cX10_neap 1 = .ok (.iconst 0, 1) := by decide +kernel
theorem dX10_neap_2 : decode cX10_neap 2 = .ok (.putfield 103, 3) := by decide +kernel
theorem dX10_neap_5 : decode cX10_neap 5 = .ok (.aload_n 0, 1) := by decide +kernel
theorem dX10_neap_6 : decode cX10_neap 6 = .ok (.iload_n 1, 1) := by decide +kernel
theorem dX10_neap_7 : decode cX10_neap 7 = .ok (.iconst 0, 1) := by decide +kernel
theorem dX10_neap_8 : decode cX10_neap 8 = .ok (.iconst 1, 1) := by decide +kernel
theorem dX10_neap_9 : decode cX10_neap 9 = .ok (.invokestatic 137, 3) := by decide +kernel
theorem dX10_neap_12 : decode cX10_neap 12 = .ok (.ifCond .ne 7, 3) := by decide +kernel
theorem dX10_neap_15 : decode cX10_neap 15 = .ok (.iconst 1, 1) := by decide +kernel
theorem dX10_neap_16 : decode cX10_neap 16 = .ok (.goto 4, 3) := by decide +kernel
theorem dX10_neap_19 : decode cX10_neap 19 = .ok (.iconst 0, 1) := by decide +kernel
theorem dX10_neap_20 : decode cX10_neap 20 = .ok (.iconst 1, 1) := by decide +kernel
theorem dX10_neap_21 : decode cX10_neap 21 = .ok (.iconst 1, 1) := by decide +kernel
theorem dX10_neap_22 : decode cX10_neap 22 = .ok (.invokevirtual 186, 3) := by decide +kernel
theorem dX10_neap_25 : decode cX10_neap 25 = .ok (.ifCond .eq 5, 3) := by decide +kernel
theorem dX10_neap_28 : decode cX10_neap 28 = .ok (.iconst 0, 1) := by decide +kernel
theorem dX10_neap_29 : decode cX10_neap 29 = .ok (.ireturn, 1) := by decide +kernel
theorem dX10_neap_30 : decode cX10_neap 30 = .ok (.iconst 0, 1) := by decide +kernel
theorem dX10_neap_31 : decode cX10_neap 31 = .ok (.istore_n 2, 1) := by decide +kernel
theorem dX10_neap_32 : decode cX10_neap 32 = .ok (.iconst (-1), 1) := by decide +kernel
theorem dX10_neap_33 : decode cX10_neap 33 = .ok (.istore_n 3, 1) := by decide +kernel
theorem dX10_neap_34 : decode cX10_neap 34 = .ok (.iconst 0, 1) := by decide +kernel
theorem dX10_neap_35 : decode cX10_neap 35 = .ok (.istore 4, 2) := by decide +kernel
theorem dX10_neap_37 : decode cX10_neap 37 = .ok (.iconst 0, 1) := by decide +kernel
theorem dX10_neap_38 : decode cX10_neap 38 = .ok (.istore 5, 2) := by decide +kernel
theorem dX10_neap_40 : decode cX10_neap 40 = .ok (.iload 5, 2) := by decide +kernel
theorem dX10_neap_42 : decode cX10_neap 42 = .ok (.bipush 60, 2) := by decide +kernel
theorem dX10_neap_44 : decode cX10_neap 44 = .ok (.if_icmp .ge 48, 3) := by decide +kernel
theorem dX10_neap_47 : decode cX10_neap 47 = .ok (.aload_n 0, 1) := by decide +kernel
theorem dX10_neap_48 : decode cX10_neap 48 = .ok (.iload 5, 2) := by decide +kernel
theorem dX10_neap_50 : decode cX10_neap 50 = .ok (.invokevirtual 356, 3) := by decide +kernel
theorem dX10_neap_53 : decode cX10_neap 53 = .ok (.ifCond .eq 7, 3) := by decide +kernel
theorem dX10_neap_56 : decode cX10_neap 56 = .ok (.iconst 0, 1) := by decide +kernel
theorem dX10_neap_57 : decode cX10_neap 57 = .ok (.goto 7, 3) := by decide +kernel
theorem dX10_neap_60 : decode cX10_neap 60 = .ok (.iload 4, 2) := by decide +kernel
theorem dX10_neap_62 : decode cX10_neap 62 = .ok (.iconst 1, 1) := by decide +kernel
theorem dX10_neap_63 : decode cX10_neap 63 = .ok (.iadd, 1) := by decide +kernel
theorem dX10_neap_64 : decode cX10_neap 64 = .ok (.istore 4, 2) := by decide +kernel
theorem dX10_neap_66 : decode cX10_neap 66 = .ok (.iload 4, 2) := by decide +kernel
theorem dX10_neap_68 : decode cX10_neap 68 = .ok (.iload_n 2, 1) := by decide +kernel
theorem dX10_neap_69 : decode cX10_neap 69 = .ok (.if_icmp .gt 6, 3) := by decide +kernel
theorem dX10_neap_72 : decode cX10_neap 72 = .ok (.goto 14, 3) := by decide +kernel
theorem dX10_neap_75 : decode cX10_neap 75 = .ok (.iload 4, 2) := by decide +kernel
theorem dX10_neap_77 : decode cX10_neap 77 = .ok (.istore_n 2, 1) := by decide +kernel
theorem dX10_neap_78 : decode cX10_neap 78 = .ok (.iload 5, 2) := by decide +kernel
theorem dX10_neap_80 : decode cX10_neap 80 = .ok (.iload 4, 2) := by decide +kernel
theorem dX10_neap_82 : decode cX10_neap 82 = .ok (.isub, 1) := by decide +kernel
theorem dX10_neap_83 : decode cX10_neap 83 = .ok (.iconst 1, 1) := by decide +kernel
theorem dX10_neap_84 : decode cX10_neap 84 = .ok (.iadd, 1) := by decide +kernel
theorem dX10_neap_85 : decode cX10_neap 85 = .ok (.istore_n 3, 1) := by decide +kernel
theorem dX10_neap_86 : decode cX10_neap 86 = .ok (.iinc 5 1, 3) := by decide +kernel
theorem dX10_neap_89 : decode cX10_neap 89 = .ok (.goto (-49), 3) := by decide +kernel
theorem dX10_neap_92 : decode cX10_neap 92 = .ok (.iload_n 1, 1) := by decide +kernel
theorem dX10_neap_93 : decode cX10_neap 93 = .ok (.ifCond .ne 7, 3) := by decide +kernel
theorem dX10_neap_96 : decode cX10_neap 96 = .ok (.iload_n 2, 1) := by decide +kernel
theorem dX10_neap_97 : decode cX10_neap 97 = .ok (.goto 4, 3) := by decide +kernel
theorem dX10_neap_100 : decode cX10_neap 100 = .ok (.iload_n 3, 1) := by decide +kernel
theorem dX10_neap_101 : decode cX10_neap 101 = .ok (.ireturn, 1) := by decide +kernel
theorem dX10_thingsIn_0 : decode cX10_thingsIn 0 = .ok (.iconst 0, 1) := by decide +kernel
theorem dX10_thingsIn_1 : decode cX10_thingsIn 1 = .ok (.istore_n 2, 1) := by decide +kernel
theorem dX10_thingsIn_2 : decode cX10_thingsIn 2 = .ok (.iconst 0, 1) := by decide +kernel
theorem dX10_thingsIn_3 : decode cX10_thingsIn 3 = .ok (.istore_n 3, 1) := by decide +kernel
theorem dX10_thingsIn_4 : decode cX10_thingsIn 4 = .ok (.iload_n 3, 1) := by decide +kernel
theorem dX10_thingsIn_5 : decode cX10_thingsIn 5 = .ok (.aload_n 0, 1) := by decide +kernel
theorem dX10_thingsIn_6 : decode cX10_thingsIn 6 = .ok (.getfield 23, 3) := by decide +kernel
theorem dX10_thingsIn_9 : decode cX10_thingsIn 9 = .ok (.iconst 1, 1) := by decide +kernel
theorem dX10_thingsIn_10 : decode cX10_thingsIn 10 = .ok (.iaload, 1) := by decide +kernel
theorem dX10_thingsIn_11 : decode cX10_thingsIn 11 = .ok (.if_icmp .ge 29, 3) := by decide +kernel
theorem dX10_thingsIn_14 : decode cX10_thingsIn 14 = .ok (.iload_n 2, 1) := by decide +kernel
theorem dX10_thingsIn_15 : decode cX10_thingsIn 15 = .ok (.aload_n 0, 1) := by decide +kernel
theorem dX10_thingsIn_16 : decode cX10_thingsIn 16 = .ok (.getfield 73, 3) := by decide +kernel
theorem dX10_thingsIn_19 : decode cX10_thingsIn 19 = .ok (.iconst 0, 1) := by decide +kernel
theorem dX10_thingsIn_20 : decode cX10_thingsIn 20 = .ok (.iload_n 3, 1) := by decide +kernel
theorem dX10_thingsIn_21 : decode cX10_thingsIn 21 = .ok (.iadd, 1) := by decide +kernel
theorem dX10_thingsIn_22 : decode cX10_thingsIn 22 = .ok (.iaload, 1) := by decide +kernel
theorem dX10_thingsIn_23 : decode cX10_thingsIn 23 = .ok (.iload_n 1, 1) := by decide +kernel
theorem dX10_thingsIn_24 : decode cX10_thingsIn 24 = .ok (.if_icmp .ne 7, 3) := by decide +kernel
theorem dX10_thingsIn_27 : decode cX10_thingsIn 27 = .ok (.iconst 1, 1) := by decide +kernel
theorem dX10_thingsIn_28 : decode cX10_thingsIn 28 = .ok (.goto 4, 3) := by decide +kernel
theorem dX10_thingsIn_31 : decode cX10_thingsIn 31 = .ok (.iconst 0, 1) := by decide +kernel
theorem dX10_thingsIn_32 : decode cX10_thingsIn 32 = .ok (.iadd, 1) := by decide +kernel
theorem dX10_thingsIn_33 : decode cX10_thingsIn 33 = .ok (.istore_n 2, 1) := by decide +kernel
theorem dX10_thingsIn_34 : decode cX10_thingsIn 34 = .ok (.iinc 3 1, 3) := by decide +kernel
theorem dX10_thingsIn_37 : decode cX10_thingsIn 37 = .ok (.goto (-33), 3) := by decide +kernel
theorem dX10_thingsIn_40 : decode cX10_thingsIn 40 = .ok (.iload_n 2, 1) := by decide +kernel
theorem dX10_thingsIn_41 : decode cX10_thingsIn 41 = .ok (.ireturn, 1) := by decide +kernel
theorem dX10_fullest_0 : decode cX10_fullest 0 = .ok (.aload_n 0, 1) := by decide +kernel
theorem dX10_fullest_1 : decode cX10_fullest 1 = .ok (.iconst 0, 1) := by decide +kernel
theorem dX10_fullest_2 : decode cX10_fullest 2 = .ok (.putfield 103, 3) := by decide +kernel
theorem dX10_fullest_5 : decode cX10_fullest 5 = .ok (.aload_n 0, 1) := by decide +kernel
theorem dX10_fullest_6 : decode cX10_fullest 6 = .ok (.iload_n 1, 1) := by decide +kernel
theorem dX10_fullest_7 : decode cX10_fullest 7 = .ok (.iconst 0, 1) := by decide +kernel
theorem dX10_fullest_8 : decode cX10_fullest 8 = .ok (.iconst 1, 1) := by decide +kernel
theorem dX10_fullest_9 : decode cX10_fullest 9 = .ok (.invokestatic 137, 3) := by decide +kernel
theorem dX10_fullest_12 : decode cX10_fullest 12 = .ok (.ifCond .ne 7, 3) := by decide +kernel
theorem dX10_fullest_15 : decode cX10_fullest 15 = .ok (.iconst 1, 1) := by decide +kernel
theorem dX10_fullest_16 : decode cX10_fullest 16 = .ok (.goto 4, 3) := by decide +kernel
theorem dX10_fullest_19 : decode cX10_fullest 19 = .ok (.iconst 0, 1) := by decide +kernel
theorem dX10_fullest_20 : decode cX10_fullest 20 = .ok (.iconst 1, 1) := by decide +kernel
theorem dX10_fullest_21 : decode cX10_fullest 21 = .ok (.iconst 1, 1) := by decide +kernel
theorem dX10_fullest_22 : decode cX10_fullest 22 = .ok (.invokevirtual 186, 3) := by decide +kernel
theorem dX10_fullest_25 : decode cX10_fullest 25 = .ok (.ifCond .eq 5, 3) := by decide +kernel
theorem dX10_fullest_28 : decode cX10_fullest 28 = .ok (.iconst 0, 1) := by decide +kernel
theorem dX10_fullest_29 : decode cX10_fullest 29 = .ok (.ireturn, 1) := by decide +kernel
theorem dX10_fullest_30 : decode cX10_fullest 30 = .ok (.iconst (-1), 1) := by decide +kernel
theorem dX10_fullest_31 : decode cX10_fullest 31 = .ok (.istore_n 2, 1) := by decide +kernel
theorem dX10_fullest_32 : decode cX10_fullest 32 = .ok (.iconst 0, 1) := by decide +kernel
theorem dX10_fullest_33 : decode cX10_fullest 33 = .ok (.istore_n 3, 1) := by decide +kernel
theorem dX10_fullest_34 : decode cX10_fullest 34 = .ok (.iconst 0, 1) := by decide +kernel
theorem dX10_fullest_35 : decode cX10_fullest 35 = .ok (.istore 4, 2) := by decide +kernel
theorem dX10_fullest_37 : decode cX10_fullest 37 = .ok (.iload 4, 2) := by decide +kernel
theorem dX10_fullest_39 : decode cX10_fullest 39 = .ok (.aload_n 0, 1) := by decide +kernel
theorem dX10_fullest_40 : decode cX10_fullest 40 = .ok (.getfield 23, 3) := by decide +kernel
theorem dX10_fullest_43 : decode cX10_fullest 43 = .ok (.iconst 0, 1) := by decide +kernel
theorem dX10_fullest_44 : decode cX10_fullest 44 = .ok (.iaload, 1) := by decide +kernel
theorem dX10_fullest_45 : decode cX10_fullest 45 = .ok (.if_icmp .ge 32, 3) := by decide +kernel
theorem dX10_fullest_48 : decode cX10_fullest 48 = .ok (.aload_n 0, 1) := by decide +kernel
theorem dX10_fullest_49 : decode cX10_fullest 49 = .ok (.iload 4, 2) := by decide +kernel
theorem dX10_fullest_51 : decode cX10_fullest 51 = .ok (.invokevirtual 359, 3) := by decide +kernel
theorem dX10_fullest_54 : decode cX10_fullest 54 = .ok (.iload_n 3, 1) := by decide +kernel
theorem dX10_fullest_55 : decode cX10_fullest 55 = .ok (.if_icmp .gt 6, 3) := by decide +kernel
theorem dX10_fullest_58 : decode cX10_fullest 58 = .ok (.goto 13, 3) := by decide +kernel
theorem dX10_fullest_61 : decode cX10_fullest 61 = .ok (.iload 4, 2) := by decide +kernel
theorem dX10_fullest_63 : decode cX10_fullest 63 = .ok (.istore_n 2, 1) := by decide +kernel
theorem dX10_fullest_64 : decode cX10_fullest 64 = .ok (.aload_n 0, 1) := by decide +kernel
theorem dX10_fullest_65 : decode cX10_fullest 65 = .ok (.iload 4, 2) := by decide +kernel
theorem dX10_fullest_67 : decode cX10_fullest 67 = .ok (.invokevirtual 359, 3) := by decide +kernel
theorem dX10_fullest_70 : decode cX10_fullest 70 = .ok (.istore_n 3, 1) := by decide +kernel
theorem dX10_fullest_71 : decode cX10_fullest 71 = .ok (.iinc 4 1, 3) := by decide +kernel
theorem dX10_fullest_74 : decode cX10_fullest 74 = .ok (.goto (-37), 3) := by decide +kernel
theorem dX10_fullest_77 : decode cX10_fullest 77 = .ok (.iload_n 1, 1) := by decide +kernel
theorem dX10_fullest_78 : decode cX10_fullest 78 = .ok (.ifCond .eq 8, 3) := by decide +kernel
theorem dX10_fullest_81 : decode cX10_fullest 81 = .ok (.iload_n 2, 1) := by decide +kernel
theorem dX10_fullest_82 : decode cX10_fullest 82 = .ok (.iconst (-1), 1) := by decide +kernel
theorem dX10_fullest_83 : decode cX10_fullest 83 = .ok (.if_icmp .ne 7, 3) := by decide +kernel
theorem dX10_fullest_86 : decode cX10_fullest 86 = .ok (.iload_n 2, 1) := by decide +kernel
theorem dX10_fullest_87 : decode cX10_fullest 87 = .ok (.goto 4, 3) := by decide +kernel
theorem dX10_fullest_90 : decode cX10_fullest 90 = .ok (.iload_n 3, 1) := by decide +kernel
theorem dX10_fullest_91 : decode cX10_fullest 91 = .ok (.ireturn, 1) := by decide +kernel
theorem dX10_loads_0 : decode cX10_loads 0 = .ok (.aload_n 0, 1) := by decide +kernel
theorem dX10_loads_1 : decode cX10_loads 1 = .ok (.iconst 0, 1) := by decide +kernel
theorem dX10_loads_2 : decode cX10_loads 2 = .ok (.putfield 103, 3) := by decide +kernel
theorem dX10_loads_5 : decode cX10_loads 5 = .ok (.aload_n 0, 1) := by decide +kernel
theorem dX10_loads_6 : decode cX10_loads 6 = .ok (.aload_n 0, 1) := by decide +kernel
theorem dX10_loads_7 : decode cX10_loads 7 = .ok (.iload_n 1, 1) := by decide +kernel
theorem dX10_loads_8 : decode cX10_loads 8 = .ok (.invokevirtual 347, 3) := by decide +kernel
theorem dX10_loads_11 : decode cX10_loads 11 = .ok (.ifCond .ne 7, 3) := by decide +kernel
theorem dX10_loads_14 : decode cX10_loads 14 = .ok (.iconst 1, 1) := by decide +kernel
theorem dX10_loads_15 : decode cX10_loads 15 = .ok (.goto 4, 3) := by decide +kernel
theorem dX10_loads_18 : decode cX10_loads 18 = .ok (.iconst 0, 1) := by decide +kernel
theorem dX10_loads_19 : decode cX10_loads 19 = .ok (.iconst 1, 1) := by decide +kernel
theorem dX10_loads_20 : decode cX10_loads 20 = .ok (.iconst 0, 1) := by decide +kernel
theorem dX10_loads_21 : decode cX10_loads 21 = .ok (.invokevirtual 186, 3) := by decide +kernel
theorem dX10_loads_24 : decode cX10_loads 24 = .ok (.ifCond .ne 26, 3) := by decide +kernel
theorem dX10_loads_27 : decode cX10_loads 27 = .ok (.aload_n 0, 1) := by decide +kernel
theorem dX10_loads_28 : decode cX10_loads 28 = .ok (.iload_n 2, 1) := by decide +kernel
theorem dX10_loads_29 : decode cX10_loads 29 = .ok (.iconst 0, 1) := by decide +kernel
theorem dX10_loads_30 : decode cX10_loads 30 = .ok (.iconst 1, 1) := by decide +kernel
theorem dX10_loads_31 : decode cX10_loads 31 = .ok (.invokestatic 137, 3) := by decide +kernel
theorem dX10_loads_34 : decode cX10_loads 34 = .ok (.ifCond .ne 7, 3) := by decide +kernel
theorem dX10_loads_37 : decode cX10_loads 37 = .ok (.iconst 1, 1) := by decide +kernel
theorem dX10_loads_38 : decode cX10_loads 38 = .ok (.goto 4, 3) := by decide +kernel
theorem dX10_loads_41 : decode cX10_loads 41 = .ok (.iconst 0, 1) := by decide +kernel
theorem dX10_loads_42 : decode cX10_loads 42 = .ok (.iconst 2, 1) := by decide +kernel
theorem dX10_loads_43 : decode cX10_loads 43 = .ok (.iconst 1, 1) := by decide +kernel
theorem dX10_loads_44 : decode cX10_loads 44 = .ok (.invokevirtual 186, 3) := by decide +kernel
theorem dX10_loads_47 : decode cX10_loads 47 = .ok (.ifCond .eq 5, 3) := by decide +kernel
theorem dX10_loads_50 : decode cX10_loads 50 = .ok (.iconst 0, 1) := by decide +kernel
theorem dX10_loads_51 : decode cX10_loads 51 = .ok (.ireturn, 1) := by decide +kernel
theorem dX10_loads_52 : decode cX10_loads 52 = .ok (.iconst 0, 1) := by decide +kernel
theorem dX10_loads_53 : decode cX10_loads 53 = .ok (.istore_n 3, 1) := by decide +kernel
theorem dX10_loads_54 : decode cX10_loads 54 = .ok (.iconst 0, 1) := by decide +kernel
theorem dX10_loads_55 : decode cX10_loads 55 = .ok (.istore 4, 2) := by decide +kernel
theorem dX10_loads_57 : decode cX10_loads 57 = .ok (.iload 4, 2) := by decide +kernel
theorem dX10_loads_59 : decode cX10_loads 59 = .ok (.aload_n 0, 1) := by decide +kernel
theorem dX10_loads_60 : decode cX10_loads 60 = .ok (.getfield 23, 3) := by decide +kernel
theorem dX10_loads_63 : decode cX10_loads 63 = .ok (.iconst 1, 1) := by decide +kernel
theorem dX10_loads_64 : decode cX10_loads 64 = .ok (.iaload, 1) := by decide +kernel
theorem dX10_loads_65 : decode cX10_loads 65 = .ok (.if_icmp .ge 52, 3) := by decide +kernel
theorem dX10_loads_68 : decode cX10_loads 68 = .ok (.iload_n 3, 1) := by decide +kernel
theorem dX10_loads_69 : decode cX10_loads 69 = .ok (.aload_n 0, 1) := by decide +kernel
theorem dX10_loads_70 : decode cX10_loads 70 = .ok (.getfield 73, 3) := by decide +kernel
theorem dX10_loads_73 : decode cX10_loads 73 = .ok (.iconst 0, 1) := by decide +kernel
theorem dX10_loads_74 : decode cX10_loads 74 = .ok (.iload 4, 2) := by decide +kernel
theorem dX10_loads_76 : decode cX10_loads 76 = .ok (.iadd, 1) := by decide +kernel
theorem dX10_loads_77 : decode cX10_loads 77 = .ok (.iaload, 1) := by decide +kernel
theorem dX10_loads_78 : decode cX10_loads 78 = .ok (.iload_n 1, 1) := by decide +kernel
theorem dX10_loads_79 : decode cX10_loads 79 = .ok (.if_icmp .ne 29, 3) := by decide +kernel
theorem dX10_loads_82 : decode cX10_loads 82 = .ok (.aload_n 0, 1) := by decide +kernel
theorem dX10_loads_83 : decode cX10_loads 83 = .ok (.getfield 73, 3) := by decide +kernel
theorem dX10_loads_86 : decode cX10_loads 86 = .ok (.bipush 10, 2) := by decide +kernel
theorem dX10_loads_88 : decode cX10_loads 88 = .ok (.iload 4, 2) := by decide +kernel
theorem dX10_loads_90 : decode cX10_loads 90 = .ok (.iadd, 1) := by decide +kernel
theorem dX10_loads_91 : decode cX10_loads 91 = .ok (.iaload, 1) := by decide +kernel
theorem dX10_loads_92 : decode cX10_loads 92 = .ok (.iload_n 2, 1) := by decide +kernel
theorem dX10_loads_93 : decode cX10_loads 93 = .ok (.if_icmp .ne 15, 3) := by decide +kernel
theorem dX10_loads_96 : decode cX10_loads 96 = .ok (.aload_n 0, 1) := by decide +kernel
theorem dX10_loads_97 : decode cX10_loads 97 = .ok (.getfield 43, 3) := by decide +kernel
theorem dX10_loads_100 : decode cX10_loads 100 = .ok (.iload 4, 2) := by decide +kernel
theorem dX10_loads_102 : decode cX10_loads 102 = .ok (.aaload, 1) := by decide +kernel
theorem dX10_loads_103 : decode cX10_loads 103 = .ok (.iconst 1, 1) := by decide +kernel
theorem dX10_loads_104 : decode cX10_loads 104 = .ok (.iaload, 1) := by decide +kernel
theorem dX10_loads_105 : decode cX10_loads 105 = .ok (.goto 4, 3) := by decide +kernel
theorem dX10_loads_108 : decode cX10_loads 108 = .ok (.iconst 0, 1) := by decide +kernel
theorem dX10_loads_109 : decode cX10_loads 109 = .ok (.iadd, 1) := by decide +kernel
theorem dX10_loads_110 : decode cX10_loads 110 = .ok (.istore_n 3, 1) := by decide +kernel
theorem dX10_loads_111 : decode cX10_loads 111 = .ok (.iinc 4 1, 3) := by decide +kernel
theorem dX10_loads_114 : decode cX10_loads 114 = .ok (.goto (-57), 3) := by decide +kernel
theorem dX10_loads_117 : decode cX10_loads 117 = .ok (.iload_n 3, 1) := by decide +kernel
theorem dX10_loads_118 : decode cX10_loads 118 = .ok (.ireturn, 1) := by decide +kernel
theorem dX10_dearest_0 : decode cX10_dearest 0 = .ok (.aload_n 0, 1) := by decide +kernel
theorem dX10_dearest_1 : decode cX10_dearest 1 = .ok (.iconst 0, 1) := by decide +kernel
theorem dX10_dearest_2 : decode cX10_dearest 2 = .ok (.putfield 103, 3) := by decide +kernel
theorem dX10_dearest_5 : decode cX10_dearest 5 = .ok (.aload_n 0, 1) := by decide +kernel
theorem dX10_dearest_6 : decode cX10_dearest 6 = .ok (.iload_n 1, 1) := by decide +kernel
theorem dX10_dearest_7 : decode cX10_dearest 7 = .ok (.iconst 0, 1) := by decide +kernel
theorem dX10_dearest_8 : decode cX10_dearest 8 = .ok (.iconst 1, 1) := by decide +kernel
theorem dX10_dearest_9 : decode cX10_dearest 9 = .ok (.invokestatic 137, 3) := by decide +kernel
theorem dX10_dearest_12 : decode cX10_dearest 12 = .ok (.ifCond .ne 7, 3) := by decide +kernel
theorem dX10_dearest_15 : decode cX10_dearest 15 = .ok (.iconst 1, 1) := by decide +kernel
theorem dX10_dearest_16 : decode cX10_dearest 16 = .ok (.goto 4, 3) := by decide +kernel
theorem dX10_dearest_19 : decode cX10_dearest 19 = .ok (.iconst 0, 1) := by decide +kernel
theorem dX10_dearest_20 : decode cX10_dearest 20 = .ok (.iconst 1, 1) := by decide +kernel
theorem dX10_dearest_21 : decode cX10_dearest 21 = .ok (.iconst 1, 1) := by decide +kernel
theorem dX10_dearest_22 : decode cX10_dearest 22 = .ok (.invokevirtual 186, 3) := by decide +kernel
theorem dX10_dearest_25 : decode cX10_dearest 25 = .ok (.ifCond .eq 5, 3) := by decide +kernel
theorem dX10_dearest_28 : decode cX10_dearest 28 = .ok (.iconst 0, 1) := by decide +kernel
theorem dX10_dearest_29 : decode cX10_dearest 29 = .ok (.ireturn, 1) := by decide +kernel
theorem dX10_dearest_30 : decode cX10_dearest 30 = .ok (.iconst (-1), 1) := by decide +kernel
theorem dX10_dearest_31 : decode cX10_dearest 31 = .ok (.istore_n 2, 1) := by decide +kernel
theorem dX10_dearest_32 : decode cX10_dearest 32 = .ok (.iconst 0, 1) := by decide +kernel
theorem dX10_dearest_33 : decode cX10_dearest 33 = .ok (.istore_n 3, 1) := by decide +kernel
theorem dX10_dearest_34 : decode cX10_dearest 34 = .ok (.iconst 0, 1) := by decide +kernel
theorem dX10_dearest_35 : decode cX10_dearest 35 = .ok (.istore 4, 2) := by decide +kernel
theorem dX10_dearest_37 : decode cX10_dearest 37 = .ok (.iload 4, 2) := by decide +kernel
theorem dX10_dearest_39 : decode cX10_dearest 39 = .ok (.aload_n 0, 1) := by decide +kernel
theorem dX10_dearest_40 : decode cX10_dearest 40 = .ok (.getfield 23, 3) := by decide +kernel
theorem dX10_dearest_43 : decode cX10_dearest 43 = .ok (.iconst 0, 1) := by decide +kernel
theorem dX10_dearest_44 : decode cX10_dearest 44 = .ok (.iaload, 1) := by decide +kernel
theorem dX10_dearest_45 : decode cX10_dearest 45 = .ok (.if_icmp .ge 40, 3) := by decide +kernel
theorem dX10_dearest_48 : decode cX10_dearest 48 = .ok (.aload_n 0, 1) := by decide +kernel
theorem dX10_dearest_49 : decode cX10_dearest 49 = .ok (.getfield 73, 3) := by decide +kernel
theorem dX10_dearest_52 : decode cX10_dearest 52 = .ok (.bipush 56, 2) := by decide +kernel
theorem dX10_dearest_54 : decode cX10_dearest 54 = .ok (.iload 4, 2) := by decide +kernel
theorem dX10_dearest_56 : decode cX10_dearest 56 = .ok (.iadd, 1) := by decide +kernel
theorem dX10_dearest_57 : decode cX10_dearest 57 = .ok (.iaload, 1) := by decide +kernel
theorem dX10_dearest_58 : decode cX10_dearest 58 = .ok (.iload_n 3, 1) := by decide +kernel
theorem dX10_dearest_59 : decode cX10_dearest 59 = .ok (.if_icmp .gt 6, 3) := by decide +kernel
theorem dX10_dearest_62 : decode cX10_dearest 62 = .ok (.goto 17, 3) := by decide +kernel
theorem dX10_dearest_65 : decode cX10_dearest 65 = .ok (.iload 4, 2) := by decide +kernel
theorem dX10_dearest_67 : decode cX10_dearest 67 = .ok (.istore_n 2, 1) := by decide +kernel
theorem dX10_dearest_68 : decode cX10_dearest 68 = .ok (.aload_n 0, 1) := by decide +kernel
theorem dX10_dearest_69 : decode cX10_dearest 69 = .ok (.getfield 73, 3) := by decide +kernel
theorem dX10_dearest_72 : decode cX10_dearest 72 = .ok (.bipush 56, 2) := by decide +kernel
theorem dX10_dearest_74 : decode cX10_dearest 74 = .ok (.iload 4, 2) := by decide +kernel
theorem dX10_dearest_76 : decode cX10_dearest 76 = .ok (.iadd, 1) := by decide +kernel
theorem dX10_dearest_77 : decode cX10_dearest 77 = .ok (.iaload, 1) := by decide +kernel
theorem dX10_dearest_78 : decode cX10_dearest 78 = .ok (.istore_n 3, 1) := by decide +kernel
theorem dX10_dearest_79 : decode cX10_dearest 79 = .ok (.iinc 4 1, 3) := by decide +kernel
theorem dX10_dearest_82 : decode cX10_dearest 82 = .ok (.goto (-45), 3) := by decide +kernel
theorem dX10_dearest_85 : decode cX10_dearest 85 = .ok (.iload_n 1, 1) := by decide +kernel
theorem dX10_dearest_86 : decode cX10_dearest 86 = .ok (.ifCond .eq 8, 3) := by decide +kernel
theorem dX10_dearest_89 : decode cX10_dearest 89 = .ok (.iload_n 2, 1) := by decide +kernel
theorem dX10_dearest_90 : decode cX10_dearest 90 = .ok (.iconst (-1), 1) := by decide +kernel
theorem dX10_dearest_91 : decode cX10_dearest 91 = .ok (.if_icmp .ne 7, 3) := by decide +kernel
theorem dX10_dearest_94 : decode cX10_dearest 94 = .ok (.iload_n 2, 1) := by decide +kernel
theorem dX10_dearest_95 : decode cX10_dearest 95 = .ok (.goto 4, 3) := by decide +kernel
theorem dX10_dearest_98 : decode cX10_dearest 98 = .ok (.iload_n 3, 1) := by decide +kernel
theorem dX10_dearest_99 : decode cX10_dearest 99 = .ok (.ireturn, 1) := by decide +kernel
theorem dX10_dry_0 : decode cX10_dry 0 = .ok (.aload_n 0, 1) := by decide +kernel
theorem dX10_dry_1 : decode cX10_dry 1 = .ok (.iconst 0, 1) := by decide +kernel
theorem dX10_dry_2 : decode cX10_dry 2 = .ok (.putfield 103, 3) := by decide +kernel
theorem dX10_dry_5 : decode cX10_dry 5 = .ok (.aload_n 0, 1) := by decide +kernel
theorem dX10_dry_6 : decode cX10_dry 6 = .ok (.aload_n 0, 1) := by decide +kernel
theorem dX10_dry_7 : decode cX10_dry 7 = .ok (.iload_n 1, 1) := by decide +kernel
theorem dX10_dry_8 : decode cX10_dry 8 = .ok (.invokevirtual 362, 3) := by decide +kernel
theorem dX10_dry_11 : decode cX10_dry 11 = .ok (.ifCond .eq 13, 3) := by decide +kernel
theorem dX10_dry_14 : decode cX10_dry 14 = .ok (.iload_n 2, 1) := by decide +kernel
theorem dX10_dry_15 : decode cX10_dry 15 = .ok (.iconst 0, 1) := by decide +kernel
theorem dX10_dry_16 : decode cX10_dry 16 = .ok (.bipush 60, 2) := by decide +kernel
theorem dX10_dry_18 : decode cX10_dry 18 = .ok (.invokestatic 137, 3) := by decide +kernel
theorem dX10_dry_21 : decode cX10_dry 21 = .ok (.ifCond .ne 7, 3) := by decide +kernel
theorem dX10_dry_24 : decode cX10_dry 24 = .ok (.iconst 1, 1) := by decide +kernel
theorem dX10_dry_25 : decode cX10_dry 25 = .ok (.goto 4, 3) := by decide +kernel
theorem dX10_dry_28 : decode cX10_dry 28 = .ok (.iconst 0, 1) := by decide +kernel
theorem dX10_dry_29 : decode cX10_dry 29 = .ok (.iconst 1, 1) := by decide +kernel
theorem dX10_dry_30 : decode cX10_dry 30 = .ok (.iconst 1, 1) := by decide +kernel
theorem dX10_dry_31 : decode cX10_dry 31 = .ok (.invokevirtual 186, 3) := by decide +kernel
theorem dX10_dry_34 : decode cX10_dry 34 = .ok (.ifCond .eq 5, 3) := by decide +kernel
theorem dX10_dry_37 : decode cX10_dry 37 = .ok (.iconst 0, 1) := by decide +kernel
theorem dX10_dry_38 : decode cX10_dry 38 = .ok (.ireturn, 1) := by decide +kernel
theorem dX10_dry_39 : decode cX10_dry 39 = .ok (.iconst 0, 1) := by decide +kernel
theorem dX10_dry_40 : decode cX10_dry 40 = .ok (.istore_n 3, 1) := by decide +kernel
theorem dX10_dry_41 : decode cX10_dry 41 = .ok (.iconst 0, 1) := by decide +kernel
theorem dX10_dry_42 : decode cX10_dry 42 = .ok (.istore 4, 2) := by decide +kernel
theorem dX10_dry_44 : decode cX10_dry 44 = .ok (.iload 4, 2) := by decide +kernel
theorem dX10_dry_46 : decode cX10_dry 46 = .ok (.iload_n 2, 1) := by decide +kernel
theorem dX10_dry_47 : decode cX10_dry 47 = .ok (.if_icmp .ge 93, 3) := by decide +kernel
theorem dX10_dry_50 : decode cX10_dry 50 = .ok (.iconst 1, 1) := by decide +kernel
theorem dX10_dry_51 : decode cX10_dry 51 = .ok (.istore 5, 2) := by decide +kernel
theorem dX10_dry_53 : decode cX10_dry 53 = .ok (.iconst 0, 1) := by decide +kernel
theorem dX10_dry_54 : decode cX10_dry 54 = .ok (.istore 6, 2) := by decide +kernel
theorem dX10_dry_56 : decode cX10_dry 56 = .ok (.iload 6, 2) := by decide +kernel
theorem dX10_dry_58 : decode cX10_dry 58 = .ok (.aload_n 0, 1) := by decide +kernel
theorem dX10_dry_59 : decode cX10_dry 59 = .ok (.getfield 23, 3) := by decide +kernel
theorem dX10_dry_62 : decode cX10_dry 62 = .ok (.iconst 0, 1) := by decide +kernel
theorem dX10_dry_63 : decode cX10_dry 63 = .ok (.iaload, 1) := by decide +kernel
theorem dX10_dry_64 : decode cX10_dry 64 = .ok (.if_icmp .ge 57, 3) := by decide +kernel
theorem dX10_dry_67 : decode cX10_dry 67 = .ok (.iload 5, 2) := by decide +kernel
theorem dX10_dry_69 : decode cX10_dry 69 = .ok (.ifCond .eq 43, 3) := by decide +kernel
theorem dX10_dry_72 : decode cX10_dry 72 = .ok (.iload_n 1, 1) := by decide +kernel
theorem dX10_dry_73 : decode cX10_dry 73 = .ok (.iload 6, 2) := by decide +kernel
theorem dX10_dry_75 : decode cX10_dry 75 = .ok (.invokestatic 268, 3) := by decide +kernel
theorem dX10_dry_78 : decode cX10_dry 78 = .ok (.ifCond .eq 30, 3) := by decide +kernel
theorem dX10_dry_81 : decode cX10_dry 81 = .ok (.aload_n 0, 1) := by decide +kernel
theorem dX10_dry_82 : decode cX10_dry 82 = .ok (.aload_n 0, 1) := by decide +kernel
theorem dX10_dry_83 : decode cX10_dry 83 = .ok (.getfield 73, 3) := by decide +kernel
theorem dX10_dry_86 : decode cX10_dry 86 = .ok (.iload 6, 2) := by decide +kernel
theorem dX10_dry_88 : decode cX10_dry 88 = .ok (.aload_n 0, 1) := by decide +kernel
theorem dX10_dry_89 : decode cX10_dry 89 = .ok (.aload_n 0, 1) := by decide +kernel
theorem dX10_dry_90 : decode cX10_dry 90 = .ok (.getfield 73, 3) := by decide +kernel
theorem dX10_dry_93 : decode cX10_dry 93 = .ok (.bipush 62, 2) := by decide +kernel
theorem dX10_dry_95 : decode cX10_dry 95 = .ok (.iaload, 1) := by decide +kernel
theorem dX10_dry_96 : decode cX10_dry 96 = .ok (.iload 4, 2) := by decide +kernel
theorem dX10_dry_98 : decode cX10_dry 98 = .ok (.iadd, 1) := by decide +kernel
theorem dX10_dry_99 : decode cX10_dry 99 = .ok (.invokevirtual 276, 3) := by decide +kernel
theorem dX10_dry_102 : decode cX10_dry 102 = .ok (.invokevirtual 282, 3) := by decide +kernel
theorem dX10_dry_105 : decode cX10_dry 105 = .ok (.ifCond .ne 7, 3) := by decide +kernel
theorem dX10_dry_108 : decode cX10_dry 108 = .ok (.iconst 1, 1) := by decide +kernel
theorem dX10_dry_109 : decode cX10_dry 109 = .ok (.goto 4, 3) := by decide +kernel
theorem dX10_dry_112 : decode cX10_dry 112 = .ok (.iconst 0, 1) := by decide +kernel
theorem dX10_dry_113 : decode cX10_dry 113 = .ok (.istore 5, 2) := by decide +kernel
theorem dX10_dry_115 : decode cX10_dry 115 = .ok (.iinc 6 1, 3) := by decide +kernel
theorem dX10_dry_118 : decode cX10_dry 118 = .ok (.goto (-62), 3) := by decide +kernel
theorem dX10_dry_121 : decode cX10_dry 121 = .ok (.iload_n 3, 1) := by decide +kernel
theorem dX10_dry_122 : decode cX10_dry 122 = .ok (.iload 5, 2) := by decide +kernel
theorem dX10_dry_124 : decode cX10_dry 124 = .ok (.ifCond .eq 7, 3) := by decide +kernel
theorem dX10_dry_127 : decode cX10_dry 127 = .ok (.iconst 1, 1) := by decide +kernel
theorem dX10_dry_128 : decode cX10_dry 128 = .ok (.goto 4, 3) := by decide +kernel
theorem dX10_dry_131 : decode cX10_dry 131 = .ok (.iconst 0, 1) := by decide +kernel
theorem dX10_dry_132 : decode cX10_dry 132 = .ok (.iadd, 1) := by decide +kernel
theorem dX10_dry_133 : decode cX10_dry 133 = .ok (.istore_n 3, 1) := by decide +kernel
theorem dX10_dry_134 : decode cX10_dry 134 = .ok (.iinc 4 1, 3) := by decide +kernel
theorem dX10_dry_137 : decode cX10_dry 137 = .ok (.goto (-93), 3) := by decide +kernel
theorem dX10_dry_140 : decode cX10_dry 140 = .ok (.iload_n 3, 1) := by decide +kernel
theorem dX10_dry_141 : decode cX10_dry 141 = .ok (.ireturn, 1) := by decide +kernel
theorem dX10_free_0 : decode cX10_free 0 = .ok (.iconst 0, 1) := by decide +kernel
theorem dX10_free_1 : decode cX10_free 1 = .ok (.istore_n 1, 1) := by decide +kernel
theorem dX10_free_2 : decode cX10_free 2 = .ok (.iconst 0, 1) := by decide +kernel
theorem dX10_free_3 : decode cX10_free 3 = .ok (.istore_n 2, 1) := by decide +kernel
theorem dX10_free_4 : decode cX10_free 4 = .ok (.iload_n 2, 1) := by decide +kernel
theorem dX10_free_5 : decode cX10_free 5 = .ok (.aload_n 0, 1) := by decide +kernel
theorem dX10_free_6 : decode cX10_free 6 = .ok (.getfield 23, 3) := by decide +kernel
theorem dX10_free_9 : decode cX10_free 9 = .ok (.iconst 1, 1) := by decide +kernel
theorem dX10_free_10 : decode cX10_free 10 = .ok (.iaload, 1) := by decide +kernel
theorem dX10_free_11 : decode cX10_free 11 = .ok (.if_icmp .ge 55, 3) := by decide +kernel
theorem dX10_free_14 : decode cX10_free 14 = .ok (.iload_n 1, 1) := by decide +kernel
theorem dX10_free_15 : decode cX10_free 15 = .ok (.aload_n 0, 1) := by decide +kernel
theorem dX10_free_16 : decode cX10_free 16 = .ok (.getfield 73, 3) := by decide +kernel
theorem dX10_free_19 : decode cX10_free 19 = .ok (.iconst 0, 1) := by decide +kernel
theorem dX10_free_20 : decode cX10_free 20 = .ok (.iload_n 2, 1) := by decide +kernel
theorem dX10_free_21 : decode cX10_free 21 = .ok (.iadd, 1) := by decide +kernel
theorem dX10_free_22 : decode cX10_free 22 = .ok (.iaload, 1) := by decide +kernel
theorem dX10_free_23 : decode cX10_free 23 = .ok (.iconst (-1), 1) := by decide +kernel
theorem dX10_free_24 : decode cX10_free 24 = .ok (.if_icmp .eq 33, 3) := by decide +kernel
theorem dX10_free_27 : decode cX10_free 27 = .ok (.aload_n 0, 1) := by decide +kernel
theorem dX10_free_28 : decode cX10_free 28 = .ok (.getfield 73, 3) := by decide +kernel
theorem dX10_free_31 : decode cX10_free 31 = .ok (.bipush 10, 2) := by decide +kernel
theorem dX10_free_33 : decode cX10_free 33 = .ok (.iload_n 2, 1) := by decide +kernel
theorem dX10_free_34 : decode cX10_free 34 = .ok (.iadd, 1) := by decide +kernel
theorem dX10_free_35 : decode cX10_free 35 = .ok (.iaload, 1) := by decide +kernel
theorem dX10_free_36 : decode cX10_free 36 = .ok (.ifCond .ne 21, 3) := by decide +kernel
theorem dX10_free_39 : decode cX10_free 39 = .ok (.aload_n 0, 1) := by decide +kernel
theorem dX10_free_40 : decode cX10_free 40 = .ok (.getfield 73, 3) := by decide +kernel
theorem dX10_free_43 : decode cX10_free 43 = .ok (.bipush 20, 2) := by decide +kernel
theorem dX10_free_45 : decode cX10_free 45 = .ok (.iload_n 2, 1) := by decide +kernel
theorem dX10_free_46 : decode cX10_free 46 = .ok (.iadd, 1) := by decide +kernel
theorem dX10_free_47 : decode cX10_free 47 = .ok (.iaload, 1) := by decide +kernel
theorem dX10_free_48 : decode cX10_free 48 = .ok (.ifCond .ne 9, 3) := by decide +kernel
theorem dX10_free_51 : decode cX10_free 51 = .ok (.iconst 1, 1) := by decide +kernel
theorem dX10_free_52 : decode cX10_free 52 = .ok (.iload_n 2, 1) := by decide +kernel
theorem dX10_free_53 : decode cX10_free 53 = .ok (.ishl, 1) := by decide +kernel
theorem dX10_free_54 : decode cX10_free 54 = .ok (.goto 4, 3) := by decide +kernel
theorem dX10_free_57 : decode cX10_free 57 = .ok (.iconst 0, 1) := by decide +kernel
theorem dX10_free_58 : decode cX10_free 58 = .ok (.ior, 1) := by decide +kernel
theorem dX10_free_59 : decode cX10_free 59 = .ok (.istore_n 1, 1) := by decide +kernel
theorem dX10_free_60 : decode cX10_free 60 = .ok (.iinc 2 1, 3) := by decide +kernel
theorem dX10_free_63 : decode cX10_free 63 = .ok (.goto (-59), 3) := by decide +kernel
theorem dX10_free_66 : decode cX10_free 66 = .ok (.iload_n 1, 1) := by decide +kernel
theorem dX10_free_67 : decode cX10_free 67 = .ok (.ireturn, 1) := by decide +kernel
theorem dX10_weightOf_0 : decode cX10_weightOf 0 = .ok (.iconst 0, 1) := by decide +kernel
theorem dX10_weightOf_1 : decode cX10_weightOf 1 = .ok (.istore_n 2, 1) := by decide +kernel
theorem dX10_weightOf_2 : decode cX10_weightOf 2 = .ok (.iconst 0, 1) := by decide +kernel
theorem dX10_weightOf_3 : decode cX10_weightOf 3 = .ok (.istore_n 3, 1) := by decide +kernel
theorem dX10_weightOf_4 : decode cX10_weightOf 4 = .ok (.iload_n 3, 1) := by decide +kernel
theorem dX10_weightOf_5 : decode cX10_weightOf 5 = .ok (.aload_n 0, 1) := by decide +kernel
theorem dX10_weightOf_6 : decode cX10_weightOf 6 = .ok (.getfield 23, 3) := by decide +kernel
theorem dX10_weightOf_9 : decode cX10_weightOf 9 = .ok (.iconst 1, 1) := by decide +kernel
theorem dX10_weightOf_10 : decode cX10_weightOf 10 = .ok (.iaload, 1) := by decide +kernel
theorem dX10_weightOf_11 : decode cX10_weightOf 11 = .ok (.if_icmp .ge 32, 3) := by decide +kernel
theorem dX10_weightOf_14 : decode cX10_weightOf 14 = .ok (.iload_n 2, 1) := by decide +kernel
theorem dX10_weightOf_15 : decode cX10_weightOf 15 = .ok (.iload_n 1, 1) := by decide +kernel
theorem dX10_weightOf_16 : decode cX10_weightOf 16 = .ok (.iload_n 3, 1) := by decide +kernel
theorem dX10_weightOf_17 : decode cX10_weightOf 17 = .ok (.invokestatic 268, 3) := by decide +kernel
theorem dX10_weightOf_20 : decode cX10_weightOf 20 = .ok (.ifCond .eq 14, 3) := by decide +kernel
theorem dX10_weightOf_23 : decode cX10_weightOf 23 = .ok (.aload_n 0, 1) := by decide +kernel
theorem dX10_weightOf_24 : decode cX10_weightOf 24 = .ok (.getfield 43, 3) := by decide +kernel
theorem dX10_weightOf_27 : decode cX10_weightOf 27 = .ok (.iload_n 3, 1) := by decide +kernel
theorem dX10_weightOf_28 : decode cX10_weightOf 28 = .ok (.aaload, 1) := by decide +kernel
theorem dX10_weightOf_29 : decode cX10_weightOf 29 = .ok (.iconst 1, 1) := by decide +kernel
theorem dX10_weightOf_30 : decode cX10_weightOf 30 = .ok (.iaload, 1) := by decide +kernel
theorem dX10_weightOf_31 : decode cX10_weightOf 31 = .ok (.goto 4, 3) := by decide +kernel
theorem dX10_weightOf_34 : decode cX10_weightOf 34 = .ok (.iconst 0, 1) := by decide +kernel
theorem dX10_weightOf_35 : decode cX10_weightOf 35 = .ok (.iadd, 1) := by decide +kernel
theorem dX10_weightOf_36 : decode cX10_weightOf 36 = .ok (.istore_n 2, 1) := by decide +kernel
theorem dX10_weightOf_37 : decode cX10_weightOf 37 = .ok (.iinc 3 1, 3) := by decide +kernel
theorem dX10_weightOf_40 : decode cX10_weightOf 40 = .ok (.goto (-36), 3) := by decide +kernel
theorem dX10_weightOf_43 : decode cX10_weightOf 43 = .ok (.iload_n 2, 1) := by decide +kernel
theorem dX10_weightOf_44 : decode cX10_weightOf 44 = .ok (.ireturn, 1) := by decide +kernel
theorem dX10_carry_0 : decode cX10_carry 0 = .ok (.aload_n 0, 1) := by decide +kernel
theorem dX10_carry_1 : decode cX10_carry 1 = .ok (.iconst 0, 1) := by decide +kernel
theorem dX10_carry_2 : decode cX10_carry 2 = .ok (.putfield 103, 3) := by decide +kernel
theorem dX10_carry_5 : decode cX10_carry 5 = .ok (.aload_n 0, 1) := by decide +kernel
theorem dX10_carry_6 : decode cX10_carry 6 = .ok (.iload_n 1, 1) := by decide +kernel
theorem dX10_carry_7 : decode cX10_carry 7 = .ok (.iconst 0, 1) := by decide +kernel
theorem dX10_carry_8 : decode cX10_carry 8 = .ok (.bipush 99, 2) := by decide +kernel
theorem dX10_carry_10 : decode cX10_carry 10 = .ok (.invokestatic 137, 3) := by decide +kernel
theorem dX10_carry_13 : decode cX10_carry 13 = .ok (.ifCond .eq 22, 3) := by decide +kernel
theorem dX10_carry_16 : decode cX10_carry 16 = .ok (.iload_n 2, 1) := by decide +kernel
theorem dX10_carry_17 : decode cX10_carry 17 = .ok (.iconst 0, 1) := by decide +kernel
theorem dX10_carry_18 : decode cX10_carry 18 = .ok (.bipush 24, 2) := by decide +kernel
theorem dX10_carry_20 : decode cX10_carry 20 = .ok (.invokestatic 137, 3) := by decide +kernel
theorem dX10_carry_23 : decode cX10_carry 23 = .ok (.ifCond .eq 12, 3) := by decide +kernel
theorem dX10_carry_26 : decode cX10_carry 26 = .ok (.iload_n 3, 1) := by decide +kernel
theorem dX10_carry_27 : decode cX10_carry 27 = .ok (.iconst 0, 1) := by decide +kernel
theorem dX10_carry_28 : decode cX10_carry 28 = .ok (.iconst 1, 1) := by decide +kernel
theorem dX10_carry_29 : decode cX10_carry 29 = .ok (.invokestatic 137, 3) := by decide +kernel
theorem dX10_carry_32 : decode cX10_carry 32 = .ok (.ifCond .ne 7, 3) := by decide +kernel
theorem dX10_carry_35 : decode cX10_carry 35 = .ok (.iconst 1, 1) := by decide +kernel
theorem dX10_carry_36 : decode cX10_carry 36 = .ok (.goto 4, 3) := by decide +kernel
theorem dX10_carry_39 : decode cX10_carry 39 = .ok (.iconst 0, 1) := by decide +kernel
theorem dX10_carry_40 : decode cX10_carry 40 = .ok (.iconst 1, 1) := by decide +kernel
theorem dX10_carry_41 : decode cX10_carry 41 = .ok (.iconst 1, 1) := by decide +kernel
theorem dX10_carry_42 : decode cX10_carry 42 = .ok (.invokevirtual 186, 3) := by decide +kernel
theorem dX10_carry_45 : decode cX10_carry 45 = .ok (.ifCond .eq 5, 3) := by decide +kernel
theorem dX10_carry_48 : decode cX10_carry 48 = .ok (.iconst 0, 1) := by decide +kernel
theorem dX10_carry_49 : decode cX10_carry 49 = .ok (.ireturn, 1) := by decide +kernel
theorem dX10_carry_50 : decode cX10_carry 50 = .ok (.iconst 0, 1) := by decide +kernel
theorem dX10_carry_51 : decode cX10_carry 51 = .ok (.istore 4, 2) := by decide +kernel
theorem dX10_carry_53 : decode cX10_carry 53 = .ok (.iconst (-1), 1) := by decide +kernel
theorem dX10_carry_54 : decode cX10_carry 54 = .ok (.istore 5, 2) := by decide +kernel
theorem dX10_carry_56 : decode cX10_carry 56 = .ok (.aload_n 0, 1) := by decide +kernel
theorem dX10_carry_57 : decode cX10_carry 57 = .ok (.invokevirtual 365, 3) := by decide +kernel
theorem dX10_carry_60 : decode cX10_carry 60 = .ok (.istore 6, 2) := by decide +kernel
theorem dX10_carry_62 : decode cX10_carry 62 = .ok (.iconst 0, 1) := by decide +kernel
theorem dX10_carry_63 : decode cX10_carry 63 = .ok (.istore 7, 2) := by decide +kernel
theorem dX10_carry_65 : decode cX10_carry 65 = .ok (.iload 7, 2) := by decide +kernel
theorem dX10_carry_67 : decode cX10_carry 67 = .ok (.iconst 1, 1) := by decide +kernel
theorem dX10_carry_68 : decode cX10_carry 68 = .ok (.aload_n 0, 1) := by decide +kernel
theorem dX10_carry_69 : decode cX10_carry 69 = .ok (.getfield 23, 3) := by decide +kernel
theorem dX10_carry_72 : decode cX10_carry 72 = .ok (.iconst 1, 1) := by decide +kernel
theorem dX10_carry_73 : decode cX10_carry 73 = .ok (.iaload, 1) := by decide +kernel
theorem dX10_carry_74 : decode cX10_carry 74 = .ok (.ishl, 1) := by decide +kernel
theorem dX10_carry_75 : decode cX10_carry 75 = .ok (.if_icmp .ge 132, 3) := by decide +kernel
theorem dX10_carry_78 : decode cX10_carry 78 = .ok (.iload 7, 2) := by decide +kernel
theorem dX10_carry_80 : decode cX10_carry 80 = .ok (.iload 6, 2) := by decide +kernel
theorem dX10_carry_82 : decode cX10_carry 82 = .ok (.iconst (-1), 1) := by decide +kernel
theorem dX10_carry_83 : decode cX10_carry 83 = .ok (.ixor, 1) := by decide +kernel
theorem dX10_carry_84 : decode cX10_carry 84 = .ok (.iand, 1) := by decide +kernel
theorem dX10_carry_85 : decode cX10_carry 85 = .ok (.ifCond .ne 116, 3) := by decide +kernel
theorem dX10_carry_88 : decode cX10_carry 88 = .ok (.aload_n 0, 1) := by decide +kernel
theorem dX10_carry_89 : decode cX10_carry 89 = .ok (.iload 7, 2) := by decide +kernel
theorem dX10_carry_91 : decode cX10_carry 91 = .ok (.invokevirtual 368, 3) := by decide +kernel
theorem dX10_carry_94 : decode cX10_carry 94 = .ok (.iload_n 1, 1) := by decide +kernel
theorem dX10_carry_95 : decode cX10_carry 95 = .ok (.if_icmp .le 6, 3) := by decide +kernel
theorem dX10_carry_98 : decode cX10_carry 98 = .ok (.goto 103, 3) := by decide +kernel
theorem dX10_carry_101 : decode cX10_carry 101 = .ok (.aload_n 0, 1) := by decide +kernel
theorem dX10_carry_102 : decode cX10_carry 102 = .ok (.getfield 73, 3) := by decide +kernel
theorem dX10_carry_105 : decode cX10_carry 105 = .ok (.aload_n 0, 1) := by decide +kernel
theorem dX10_carry_106 : decode cX10_carry 106 = .ok (.getfield 76, 3) := by decide +kernel
theorem dX10_carry_109 : decode cX10_carry 109 = .ok (.invokestatic 333, 3) := by decide +kernel
theorem dX10_carry_112 : decode cX10_carry 112 = .ok (.iconst 0, 1) := by decide +kernel
theorem dX10_carry_113 : decode cX10_carry 113 = .ok (.istore 8, 2) := by decide +kernel
theorem dX10_carry_115 : decode cX10_carry 115 = .ok (.iload 8, 2) := by decide +kernel
theorem dX10_carry_117 : decode cX10_carry 117 = .ok (.aload_n 0, 1) := by decide +kernel
theorem dX10_carry_118 : decode cX10_carry 118 = .ok (.getfield 23, 3) := by decide +kernel
theorem dX10_carry_121 : decode cX10_carry 121 = .ok (.iconst 1, 1) := by decide +kernel
theorem dX10_carry_122 : decode cX10_carry 122 = .ok (.iaload, 1) := by decide +kernel
theorem dX10_carry_123 : decode cX10_carry 123 = .ok (.if_icmp .ge 43, 3) := by decide +kernel
theorem dX10_carry_126 : decode cX10_carry 126 = .ok (.aload_n 0, 1) := by decide +kernel
theorem dX10_carry_127 : decode cX10_carry 127 = .ok (.getfield 76, 3) := by decide +kernel
theorem dX10_carry_130 : decode cX10_carry 130 = .ok (.bipush 10, 2) := by decide +kernel
theorem dX10_carry_132 : decode cX10_carry 132 = .ok (.iload 8, 2) := by decide +kernel
theorem dX10_carry_134 : decode cX10_carry 134 = .ok (.iadd, 1) := by decide +kernel
theorem dX10_carry_135 : decode cX10_carry 135 = .ok (.iload 7, 2) := by decide +kernel
theorem dX10_carry_137 : decode cX10_carry 137 = .ok (.iload 8, 2) := by decide +kernel
theorem dX10_carry_139 : decode cX10_carry 139 = .ok (.invokestatic 268, 3) := by decide +kernel
theorem dX10_carry_142 : decode cX10_carry 142 = .ok (.ifCond .eq 7, 3) := by decide +kernel
theorem dX10_carry_145 : decode cX10_carry 145 = .ok (.iconst 1, 1) := by decide +kernel
theorem dX10_carry_146 : decode cX10_carry 146 = .ok (.goto 13, 3) := by decide +kernel
theorem dX10_carry_149 : decode cX10_carry 149 = .ok (.aload_n 0, 1) := by decide +kernel
theorem dX10_carry_150 : decode cX10_carry 150 = .ok (.getfield 76, 3) := by decide +kernel
theorem dX10_carry_153 : decode cX10_carry 153 = .ok (.bipush 10, 2) := by decide +kernel
theorem dX10_carry_155 : decode cX10_carry 155 = .ok (.iload 8, 2) := by decide +kernel
theorem dX10_carry_157 : decode cX10_carry 157 = .ok (.iadd, 1) := by decide +kernel
theorem dX10_carry_158 : decode cX10_carry 158 = .ok (.iaload, 1) := by decide +kernel
theorem dX10_carry_159 : decode cX10_carry 159 = .ok (.iastore, 1) := by decide +kernel
theorem dX10_carry_160 : decode cX10_carry 160 = .ok (.iinc 8 1, 3) := by decide +kernel
theorem dX10_carry_163 : decode cX10_carry 163 = .ok (.goto (-48), 3) := by decide +kernel
theorem dX10_carry_166 : decode cX10_carry 166 = .ok (.aload_n 0, 1) := by decide +kernel
theorem dX10_carry_167 : decode cX10_carry 167 = .ok (.iload_n 2, 1) := by decide +kernel
theorem dX10_carry_168 : decode cX10_carry 168 = .ok (.invokevirtual 353, 3) := by decide +kernel
theorem dX10_carry_171 : decode cX10_carry 171 = .ok (.aload_n 0, 1) := by decide +kernel
theorem dX10_carry_172 : decode cX10_carry 172 = .ok (.aload_n 0, 1) := by decide +kernel
theorem dX10_carry_173 : decode cX10_carry 173 = .ok (.getfield 76, 3) := by decide +kernel
theorem dX10_carry_176 : decode cX10_carry 176 = .ok (.invokevirtual 341, 3) := by decide +kernel
theorem dX10_carry_179 : decode cX10_carry 179 = .ok (.iload 5, 2) := by decide +kernel
theorem dX10_carry_181 : decode cX10_carry 181 = .ok (.if_icmp .gt 6, 3) := by decide +kernel
theorem dX10_carry_184 : decode cX10_carry 184 = .ok (.goto 17, 3) := by decide +kernel
theorem dX10_carry_187 : decode cX10_carry 187 = .ok (.iload 7, 2) := by decide +kernel
theorem dX10_carry_189 : decode cX10_carry 189 = .ok (.istore 4, 2) := by decide +kernel
theorem dX10_carry_191 : decode cX10_carry 191 = .ok (.aload_n 0, 1) := by decide +kernel
theorem dX10_carry_192 : decode cX10_carry 192 = .ok (.aload_n 0, 1) := by decide +kernel
theorem dX10_carry_193 : decode cX10_carry 193 = .ok (.getfield 76, 3) := by decide +kernel
theorem dX10_carry_196 : decode cX10_carry 196 = .ok (.invokevirtual 341, 3) := by decide +kernel
theorem dX10_carry_199 : decode cX10_carry 199 = .ok (.istore 5, 2) := by decide +kernel
theorem dX10_carry_201 : decode cX10_carry 201 = .ok (.iinc 7 1, 3) := by decide +kernel
theorem dX10_carry_204 : decode cX10_carry 204 = .ok (.goto (-139), 3) := by decide +kernel
theorem dX10_carry_207 : decode cX10_carry 207 = .ok (.iload_n 3, 1) := by decide +kernel
theorem dX10_carry_208 : decode cX10_carry 208 = .ok (.ifCond .ne 8, 3) := by decide +kernel
theorem dX10_carry_211 : decode cX10_carry 211 = .ok (.iload 5, 2) := by decide +kernel
theorem dX10_carry_213 : decode cX10_carry 213 = .ok (.goto 5, 3) := by decide +kernel
theorem dX10_carry_216 : decode cX10_carry 216 = .ok (.iload 4, 2) := by decide +kernel
theorem dX10_carry_218 : decode cX10_carry 218 = .ok (.ireturn, 1) := by decide +kernel
theorem dX10_rent_0 : decode cX10_rent 0 = .ok (.aload_n 0, 1) := by decide +kernel
theorem dX10_rent_1 : decode cX10_rent 1 = .ok (.iconst 0, 1) := by decide +kernel
theorem dX10_rent_2 : decode cX10_rent 2 = .ok (.putfield 103, 3) := by decide +kernel
theorem dX10_rent_5 : decode cX10_rent 5 = .ok (.aload_n 0, 1) := by decide +kernel
theorem dX10_rent_6 : decode cX10_rent 6 = .ok (.iload_n 1, 1) := by decide +kernel
theorem dX10_rent_7 : decode cX10_rent 7 = .ok (.iconst 0, 1) := by decide +kernel
theorem dX10_rent_8 : decode cX10_rent 8 = .ok (.sipush 9999, 3) := by decide +kernel
theorem dX10_rent_11 : decode cX10_rent 11 = .ok (.invokestatic 137, 3) := by decide +kernel
theorem dX10_rent_14 : decode cX10_rent 14 = .ok (.ifCond .eq 13, 3) := by decide +kernel
theorem dX10_rent_17 : decode cX10_rent 17 = .ok (.iload_n 2, 1) := by decide +kernel
theorem dX10_rent_18 : decode cX10_rent 18 = .ok (.iconst 0, 1) := by decide +kernel
theorem dX10_rent_19 : decode cX10_rent 19 = .ok (.bipush 24, 2) := by decide +kernel
theorem dX10_rent_21 : decode cX10_rent 21 = .ok (.invokestatic 137, 3) := by decide +kernel
theorem dX10_rent_24 : decode cX10_rent 24 = .ok (.ifCond .ne 7, 3) := by decide +kernel
theorem dX10_rent_27 : decode cX10_rent 27 = .ok (.iconst 1, 1) := by decide +kernel
theorem dX10_rent_28 : decode cX10_rent 28 = .ok (.goto 4, 3) := by decide +kernel
theorem dX10_rent_31 : decode cX10_rent 31 = .ok (.iconst 0, 1) := by decide +kernel
theorem dX10_rent_32 : decode cX10_rent 32 = .ok (.iconst 1, 1) := by decide +kernel
theorem dX10_rent_33 : decode cX10_rent 33 = .ok (.iconst 1, 1) := by decide +kernel
theorem dX10_rent_34 : decode cX10_rent 34 = .ok (.invokevirtual 186, 3) := by decide +kernel
theorem dX10_rent_37 : decode cX10_rent 37 = .ok (.ifCond .eq 5, 3) := by decide +kernel
theorem dX10_rent_40 : decode cX10_rent 40 = .ok (.iconst 0, 1) := by decide +kernel
theorem dX10_rent_41 : decode cX10_rent 41 = .ok (.ireturn, 1) := by decide +kernel
theorem dX10_rent_42 : decode cX10_rent 42 = .ok (.iconst (-1), 1) := by decide +kernel
theorem dX10_rent_43 : decode cX10_rent 43 = .ok (.istore_n 3, 1) := by decide +kernel
theorem dX10_rent_44 : decode cX10_rent 44 = .ok (.bipush 40, 2) := by decide +kernel
theorem dX10_rent_46 : decode cX10_rent 46 = .ok (.istore 4, 2) := by decide +kernel
theorem dX10_rent_48 : decode cX10_rent 48 = .ok (.iload 4, 2) := by decide +kernel
theorem dX10_rent_50 : decode cX10_rent 50 = .ok (.ifCond .lt 59, 3) := by decide +kernel
theorem dX10_rent_53 : decode cX10_rent 53 = .ok (.aload_n 0, 1) := by decide +kernel
theorem dX10_rent_54 : decode cX10_rent 54 = .ok (.iload 4, 2) := by decide +kernel
theorem dX10_rent_56 : decode cX10_rent 56 = .ok (.putfield 203, 3) := by decide +kernel
theorem dX10_rent_59 : decode cX10_rent 59 = .ok (.aload_n 0, 1) := by decide +kernel
theorem dX10_rent_60 : decode cX10_rent 60 = .ok (.getfield 73, 3) := by decide +kernel
theorem dX10_rent_63 : decode cX10_rent 63 = .ok (.aload_n 0, 1) := by decide +kernel
theorem dX10_rent_64 : decode cX10_rent 64 = .ok (.getfield 76, 3) := by decide +kernel
theorem dX10_rent_67 : decode cX10_rent 67 = .ok (.invokestatic 333, 3) := by decide +kernel
theorem dX10_rent_70 : decode cX10_rent 70 = .ok (.aload_n 0, 1) := by decide +kernel
theorem dX10_rent_71 : decode cX10_rent 71 = .ok (.iload_n 2, 1) := by decide +kernel
theorem dX10_rent_72 : decode cX10_rent 72 = .ok (.invokevirtual 353, 3) := by decide +kernel
theorem dX10_rent_75 : decode cX10_rent 75 = .ok (.aload_n 0, 1) := by decide +kernel
theorem dX10_rent_76 : decode cX10_rent 76 = .ok (.aload_n 0, 1) := by decide +kernel
theorem dX10_rent_77 : decode cX10_rent 77 = .ok (.getfield 76, 3) := by decide +kernel
theorem dX10_rent_80 : decode cX10_rent 80 = .ok (.invokevirtual 344, 3) := by decide +kernel
theorem dX10_rent_83 : decode cX10_rent 83 = .ok (.aload_n 0, 1) := by decide +kernel
theorem dX10_rent_84 : decode cX10_rent 84 = .ok (.aload_n 0, 1) := by decide +kernel
theorem dX10_rent_85 : decode cX10_rent 85 = .ok (.getfield 73, 3) := by decide +kernel
theorem dX10_rent_88 : decode cX10_rent 88 = .ok (.invokevirtual 344, 3) := by decide +kernel
theorem dX10_rent_91 : decode cX10_rent 91 = .ok (.isub, 1) := by decide +kernel
theorem dX10_rent_92 : decode cX10_rent 92 = .ok (.iload_n 1, 1) := by decide +kernel
theorem dX10_rent_93 : decode cX10_rent 93 = .ok (.if_icmp .gt 8, 3) := by decide +kernel
theorem dX10_rent_96 : decode cX10_rent 96 = .ok (.iload 4, 2) := by decide +kernel
theorem dX10_rent_98 : decode cX10_rent 98 = .ok (.goto 4, 3) := by decide +kernel
theorem dX10_rent_101 : decode cX10_rent 101 = .ok (.iload_n 3, 1) := by decide +kernel
theorem dX10_rent_102 : decode cX10_rent 102 = .ok (.istore_n 3, 1) := by decide +kernel
theorem dX10_rent_103 : decode cX10_rent 103 = .ok (.iinc 4 (-1), 3) := by decide +kernel
theorem dX10_rent_106 : decode cX10_rent 106 = .ok (.goto (-58), 3) := by decide +kernel
theorem dX10_rent_109 : decode cX10_rent 109 = .ok (.aload_n 0, 1) := by decide +kernel
theorem dX10_rent_110 : decode cX10_rent 110 = .ok (.aload_n 0, 1) := by decide +kernel
theorem dX10_rent_111 : decode cX10_rent 111 = .ok (.getfield 23, 3) := by decide +kernel
theorem dX10_rent_114 : decode cX10_rent 114 = .ok (.iconst 4, 1) := by decide +kernel
theorem dX10_rent_115 : decode cX10_rent 115 = .ok (.iaload, 1) := by decide +kernel
theorem dX10_rent_116 : decode cX10_rent 116 = .ok (.putfield 203, 3) := by decide +kernel
theorem dX10_rent_119 : decode cX10_rent 119 = .ok (.iload_n 3, 1) := by decide +kernel
theorem dX10_rent_120 : decode cX10_rent 120 = .ok (.ireturn, 1) := by decide +kernel
theorem dX10_areHouses_0 : decode cX10_areHouses 0 = .ok (.iload_n 1, 1) := by decide +kernel
theorem dX10_areHouses_1 : decode cX10_areHouses 1 = .ok (.iconst 0, 1) := by decide +kernel
theorem dX10_areHouses_2 : decode cX10_areHouses 2 = .ok (.iconst 1, 1) := by decide +kernel
theorem dX10_areHouses_3 : decode cX10_areHouses 3 = .ok (.aload_n 0, 1) := by decide +kernel
theorem dX10_areHouses_4 : decode cX10_areHouses 4 = .ok (.getfield 23, 3) := by decide +kernel
theorem dX10_areHouses_7 : decode cX10_areHouses 7 = .ok (.iconst 0, 1) := by decide +kernel
theorem dX10_areHouses_8 : decode cX10_areHouses 8 = .ok (.iaload, 1) := by decide +kernel
theorem dX10_areHouses_9 : decode cX10_areHouses 9 = .ok (.ishl, 1) := by decide +kernel
theorem dX10_areHouses_10 : decode cX10_areHouses 10 = .ok (.iconst 1, 1) := by decide +kernel
theorem dX10_areHouses_11 : decode cX10_areHouses 11 = .ok (.isub, 1) := by decide +kernel
theorem dX10_areHouses_12 : decode cX10_areHouses 12 = .ok (.invokestatic 137, 3) := by decide +kernel
theorem dX10_areHouses_15 : decode cX10_areHouses 15 = .ok (.ireturn, 1) := by decide +kernel
theorem dX10_bags_0 : decode cX10_bags 0 = .ok (.aload_n 0, 1) := by decide +kernel
theorem dX10_bags_1 : decode cX10_bags 1 = .ok (.iconst 0, 1) := by decide +kernel
theorem dX10_bags_2 : decode cX10_bags 2 = .ok (.putfield 103, 3) := by decide +kernel
theorem dX10_bags_5 : decode cX10_bags 5 = .ok (.aload_n 0, 1) := by decide +kernel
theorem dX10_bags_6 : decode cX10_bags 6 = .ok (.aload_n 0, 1) := by decide +kernel
theorem dX10_bags_7 : decode cX10_bags 7 = .ok (.iload_n 1, 1) := by decide +kernel
theorem dX10_bags_8 : decode cX10_bags 8 = .ok (.invokevirtual 362, 3) := by decide +kernel
theorem dX10_bags_11 : decode cX10_bags 11 = .ok (.ifCond .eq 13, 3) := by decide +kernel
theorem dX10_bags_14 : decode cX10_bags 14 = .ok (.iload_n 2, 1) := by decide +kernel
theorem dX10_bags_15 : decode cX10_bags 15 = .ok (.iconst 0, 1) := by decide +kernel
theorem dX10_bags_16 : decode cX10_bags 16 = .ok (.bipush 24, 2) := by decide +kernel
theorem dX10_bags_18 : decode cX10_bags 18 = .ok (.invokestatic 137, 3) := by decide +kernel
theorem dX10_bags_21 : decode cX10_bags 21 = .ok (.ifCond .ne 7, 3) := by decide +kernel
theorem dX10_bags_24 : decode cX10_bags 24 = .ok (.iconst 1, 1) := by decide +kernel
theorem dX10_bags_25 : decode cX10_bags 25 = .ok (.goto 4, 3) := by decide +kernel
theorem dX10_bags_28 : decode cX10_bags 28 = .ok (.iconst 0, 1) := by decide +kernel
theorem dX10_bags_29 : decode cX10_bags 29 = .ok (.iconst 1, 1) := by decide +kernel
theorem dX10_bags_30 : decode cX10_bags 30 = .ok (.iconst 1, 1) := by decide +kernel
theorem dX10_bags_31 : decode cX10_bags 31 = .ok (.invokevirtual 186, 3) := by decide +kernel
theorem dX10_bags_34 : decode cX10_bags 34 = .ok (.ifCond .eq 5, 3) := by decide +kernel
theorem dX10_bags_37 : decode cX10_bags 37 = .ok (.iconst 0, 1) := by decide +kernel
theorem dX10_bags_38 : decode cX10_bags 38 = .ok (.ireturn, 1) := by decide +kernel
theorem dX10_bags_39 : decode cX10_bags 39 = .ok (.iconst 0, 1) := by decide +kernel
theorem dX10_bags_40 : decode cX10_bags 40 = .ok (.istore_n 3, 1) := by decide +kernel
theorem dX10_bags_41 : decode cX10_bags 41 = .ok (.iconst 0, 1) := by decide +kernel
theorem dX10_bags_42 : decode cX10_bags 42 = .ok (.istore 4, 2) := by decide +kernel
theorem dX10_bags_44 : decode cX10_bags 44 = .ok (.iconst 0, 1) := by decide +kernel
theorem dX10_bags_45 : decode cX10_bags 45 = .ok (.istore 5, 2) := by decide +kernel
theorem dX10_bags_47 : decode cX10_bags 47 = .ok (.iload 5, 2) := by decide +kernel
theorem dX10_bags_49 : decode cX10_bags 49 = .ok (.iload_n 2, 1) := by decide +kernel
theorem dX10_bags_50 : decode cX10_bags 50 = .ok (.if_icmp .ge 30, 3) := by decide +kernel
theorem dX10_bags_53 : decode cX10_bags 53 = .ok (.iload 4, 2) := by decide +kernel
theorem dX10_bags_55 : decode cX10_bags 55 = .ok (.aload_n 0, 1) := by decide +kernel
theorem dX10_bags_56 : decode cX10_bags 56 = .ok (.aload_n 0, 1) := by decide +kernel
theorem dX10_bags_57 : decode cX10_bags 57 = .ok (.getfield 73, 3) := by decide +kernel
theorem dX10_bags_60 : decode cX10_bags 60 = .ok (.bipush 62, 2) := by decide +kernel
theorem dX10_bags_62 : decode cX10_bags 62 = .ok (.iaload, 1) := by decide +kernel
theorem dX10_bags_63 : decode cX10_bags 63 = .ok (.iload 5, 2) := by decide +kernel
theorem dX10_bags_65 : decode cX10_bags 65 = .ok (.iadd, 1) := by decide +kernel
theorem dX10_bags_66 : decode cX10_bags 66 = .ok (.invokevirtual 276, 3) := by decide +kernel
theorem dX10_bags_69 : decode cX10_bags 69 = .ok (.invokestatic 252, 3) := by decide +kernel
theorem dX10_bags_72 : decode cX10_bags 72 = .ok (.istore 4, 2) := by decide +kernel
theorem dX10_bags_74 : decode cX10_bags 74 = .ok (.iinc 5 1, 3) := by decide +kernel
theorem dX10_bags_77 : decode cX10_bags 77 = .ok (.goto (-30), 3) := by decide +kernel
theorem dX10_bags_80 : decode cX10_bags 80 = .ok (.iconst 0, 1) := by decide +kernel
theorem dX10_bags_81 : decode cX10_bags 81 = .ok (.istore 5, 2) := by decide +kernel
theorem dX10_bags_83 : decode cX10_bags 83 = .ok (.iload 5, 2) := by decide +kernel
theorem dX10_bags_85 : decode cX10_bags 85 = .ok (.aload_n 0, 1) := by decide +kernel
theorem dX10_bags_86 : decode cX10_bags 86 = .ok (.getfield 23, 3) := by decide +kernel
theorem dX10_bags_89 : decode cX10_bags 89 = .ok (.iconst 0, 1) := by decide +kernel
theorem dX10_bags_90 : decode cX10_bags 90 = .ok (.iaload, 1) := by decide +kernel
theorem dX10_bags_91 : decode cX10_bags 91 = .ok (.if_icmp .ge 64, 3) := by decide +kernel
theorem dX10_bags_94 : decode cX10_bags 94 = .ok (.iload_n 1, 1) := by decide +kernel
theorem dX10_bags_95 : decode cX10_bags 95 = .ok (.iload 5, 2) := by decide +kernel
theorem dX10_bags_97 : decode cX10_bags 97 = .ok (.invokestatic 268, 3) := by decide +kernel
theorem dX10_bags_100 : decode cX10_bags 100 = .ok (.ifCond .ne 6, 3) := by decide +kernel
theorem dX10_bags_103 : decode cX10_bags 103 = .ok (.goto 46, 3) := by decide +kernel
theorem dX10_bags_106 : decode cX10_bags 106 = .ok (.aload_n 0, 1) := by decide +kernel
theorem dX10_bags_107 : decode cX10_bags 107 = .ok (.aload_n 0, 1) := by decide +kernel
theorem dX10_bags_108 : decode cX10_bags 108 = .ok (.getfield 73, 3) := by decide +kernel
theorem dX10_bags_111 : decode cX10_bags 111 = .ok (.iload 5, 2) := by decide +kernel
theorem dX10_bags_113 : decode cX10_bags 113 = .ok (.iload 4, 2) := by decide +kernel
theorem dX10_bags_115 : decode cX10_bags 115 = .ok (.invokevirtual 282, 3) := by decide +kernel
theorem dX10_bags_118 : decode cX10_bags 118 = .ok (.iconst 1, 1) := by decide +kernel
theorem dX10_bags_119 : decode cX10_bags 119 = .ok (.iadd, 1) := by decide +kernel
theorem dX10_bags_120 : decode cX10_bags 120 = .ok (.iconst 2, 1) := by decide +kernel
theorem dX10_bags_121 : decode cX10_bags 121 = .ok (.idiv, 1) := by decide +kernel
theorem dX10_bags_122 : decode cX10_bags 122 = .ok (.istore 6, 2) := by decide +kernel
theorem dX10_bags_124 : decode cX10_bags 124 = .ok (.aload_n 0, 1) := by decide +kernel
theorem dX10_bags_125 : decode cX10_bags 125 = .ok (.getfield 73, 3) := by decide +kernel
theorem dX10_bags_128 : decode cX10_bags 128 = .ok (.bipush 50, 2) := by decide +kernel
theorem dX10_bags_130 : decode cX10_bags 130 = .ok (.iload 5, 2) := by decide +kernel
theorem dX10_bags_132 : decode cX10_bags 132 = .ok (.iadd, 1) := by decide +kernel
theorem dX10_bags_133 : decode cX10_bags 133 = .ok (.iaload, 1) := by decide +kernel
theorem dX10_bags_134 : decode cX10_bags 134 = .ok (.iload 6, 2) := by decide +kernel
theorem dX10_bags_136 : decode cX10_bags 136 = .ok (.iadd, 1) := by decide +kernel
theorem dX10_bags_137 : decode cX10_bags 137 = .ok (.bipush 9, 2) := by decide +kernel
theorem dX10_bags_139 : decode cX10_bags 139 = .ok (.if_icmp .le 5, 3) := by decide +kernel
theorem dX10_bags_142 : decode cX10_bags 142 = .ok (.iconst (-1), 1) := by decide +kernel
theorem dX10_bags_143 : decode cX10_bags 143 = .ok (.ireturn, 1) := by decide +kernel
theorem dX10_bags_144 : decode cX10_bags 144 = .ok (.iload_n 3, 1) := by decide +kernel
theorem dX10_bags_145 : decode cX10_bags 145 = .ok (.iload 6, 2) := by decide +kernel
theorem dX10_bags_147 : decode cX10_bags 147 = .ok (.iadd, 1) := by decide +kernel
theorem dX10_bags_148 : decode cX10_bags 148 = .ok (.istore_n 3, 1) := by decide +kernel
theorem dX10_bags_149 : decode cX10_bags 149 = .ok (.iinc 5 1, 3) := by decide +kernel
theorem dX10_bags_152 : decode cX10_bags 152 = .ok (.goto (-69), 3) := by decide +kernel
theorem dX10_bags_155 : decode cX10_bags 155 = .ok (.iload_n 3, 1) := by decide +kernel
theorem dX10_bags_156 : decode cX10_bags 156 = .ok (.ireturn, 1) := by decide +kernel
theorem dX10_seaHas_0 : decode cX10_seaHas 0 = .ok (.iload_n 0, 1) := by decide +kernel
theorem dX10_seaHas_1 : decode cX10_seaHas 1 = .ok (.iload_n 1, 1) := by decide +kernel
theorem dX10_seaHas_2 : decode cX10_seaHas 2 = .ok (.iadd, 1) := by decide +kernel
theorem dX10_seaHas_3 : decode cX10_seaHas 3 = .ok (.iload_n 2, 1) := by decide +kernel
theorem dX10_seaHas_4 : decode cX10_seaHas 4 = .ok (.if_icmp .gt 10, 3) := by decide +kernel
theorem dX10_seaHas_7 : decode cX10_seaHas 7 = .ok (.bipush 16, 2) := by decide +kernel
theorem dX10_seaHas_9 : decode cX10_seaHas 9 = .ok (.iload_n 0, 1) := by decide +kernel
theorem dX10_seaHas_10 : decode cX10_seaHas 10 = .ok (.imul, 1) := by decide +kernel
theorem dX10_seaHas_11 : decode cX10_seaHas 11 = .ok (.goto 4, 3) := by decide +kernel
theorem dX10_seaHas_14 : decode cX10_seaHas 14 = .ok (.iload_n 3, 1) := by decide +kernel
theorem dX10_seaHas_15 : decode cX10_seaHas 15 = .ok (.ireturn, 1) := by decide +kernel
theorem dX10_houseHas_0 : decode cX10_houseHas 0 = .ok (.iload_n 0, 1) := by decide +kernel
theorem dX10_houseHas_1 : decode cX10_houseHas 1 = .ok (.iload_n 1, 1) := by decide +kernel
theorem dX10_houseHas_2 : decode cX10_houseHas 2 = .ok (.iadd, 1) := by decide +kernel
theorem dX10_houseHas_3 : decode cX10_houseHas 3 = .ok (.iload_n 2, 1) := by decide +kernel
theorem dX10_houseHas_4 : decode cX10_houseHas 4 = .ok (.if_icmp .gt 10, 3) := by decide +kernel
theorem dX10_houseHas_7 : decode cX10_houseHas 7 = .ok (.bipush 16, 2) := by decide +kernel
theorem dX10_houseHas_9 : decode cX10_houseHas 9 = .ok (.iload_n 1, 1) := by decide +kernel
theorem dX10_houseHas_10 : decode cX10_houseHas 10 = .ok (.imul, 1) := by decide +kernel
theorem dX10_houseHas_11 : decode cX10_houseHas 11 = .ok (.goto 7, 3) := by decide +kernel
theorem dX10_houseHas_14 : decode cX10_houseHas 14 = .ok (.bipush 16, 2) := by decide +kernel
theorem dX10_houseHas_16 : decode cX10_houseHas 16 = .ok (.iload_n 3, 1) := by decide +kernel
theorem dX10_houseHas_17 : decode cX10_houseHas 17 = .ok (.isub, 1) := by decide +kernel
theorem dX10_houseHas_18 : decode cX10_houseHas 18 = .ok (.ireturn, 1) := by decide +kernel
theorem dX10_isRest_0 : decode cX10_isRest 0 = .ok (.iconst 0, 1) := by decide +kernel
theorem dX10_isRest_1 : decode cX10_isRest 1 = .ok (.istore 4, 2) := by decide +kernel
theorem dX10_isRest_3 : decode cX10_isRest 3 = .ok (.iload 4, 2) := by decide +kernel
theorem dX10_isRest_5 : decode cX10_isRest 5 = .ok (.iload_n 2, 1) := by decide +kernel
theorem dX10_isRest_6 : decode cX10_isRest 6 = .ok (.if_icmp .gt 47, 3) := by decide +kernel
theorem dX10_isRest_9 : decode cX10_isRest 9 = .ok (.iload 4, 2) := by decide +kernel
theorem dX10_isRest_11 : decode cX10_isRest 11 = .ok (.iload_n 1, 1) := by decide +kernel
theorem dX10_isRest_12 : decode cX10_isRest 12 = .ok (.iload_n 2, 1) := by decide +kernel
theorem dX10_isRest_13 : decode cX10_isRest 13 = .ok (.iload_n 3, 1) := by decide +kernel
theorem dX10_isRest_14 : decode cX10_isRest 14 = .ok (.invokestatic 371, 3) := by decide +kernel
theorem dX10_isRest_17 : decode cX10_isRest 17 = .ok (.iload_n 0, 1) := by decide +kernel
theorem dX10_isRest_18 : decode cX10_isRest 18 = .ok (.iload_n 1, 1) := by decide +kernel
theorem dX10_isRest_19 : decode cX10_isRest 19 = .ok (.iload_n 2, 1) := by decide +kernel
theorem dX10_isRest_20 : decode cX10_isRest 20 = .ok (.iload_n 3, 1) := by decide +kernel
theorem dX10_isRest_21 : decode cX10_isRest 21 = .ok (.invokestatic 371, 3) := by decide +kernel
theorem dX10_isRest_24 : decode cX10_isRest 24 = .ok (.if_icmp .gt 21, 3) := by decide +kernel
theorem dX10_isRest_27 : decode cX10_isRest 27 = .ok (.iload_n 0, 1) := by decide +kernel
theorem dX10_isRest_28 : decode cX10_isRest 28 = .ok (.iload 4, 2) := by decide +kernel
theorem dX10_isRest_30 : decode cX10_isRest 30 = .ok (.iload_n 2, 1) := by decide +kernel
theorem dX10_isRest_31 : decode cX10_isRest 31 = .ok (.iload_n 3, 1) := by decide +kernel
theorem dX10_isRest_32 : decode cX10_isRest 32 = .ok (.invokestatic 375, 3) := by decide +kernel
theorem dX10_isRest_35 : decode cX10_isRest 35 = .ok (.iload_n 0, 1) := by decide +kernel
theorem dX10_isRest_36 : decode cX10_isRest 36 = .ok (.iload_n 1, 1) := by decide +kernel
theorem dX10_isRest_37 : decode cX10_isRest 37 = .ok (.iload_n 2, 1) := by decide +kernel
theorem dX10_isRest_38 : decode cX10_isRest 38 = .ok (.iload_n 3, 1) := by decide +kernel
theorem dX10_isRest_39 : decode cX10_isRest 39 = .ok (.invokestatic 375, 3) := by decide +kernel
theorem dX10_isRest_42 : decode cX10_isRest 42 = .ok (.if_icmp .le 5, 3) := by decide +kernel
theorem dX10_isRest_45 : decode cX10_isRest 45 = .ok (.iconst 0, 1) := by decide +kernel
theorem dX10_isRest_46 : decode cX10_isRest 46 = .ok (.ireturn, 1) := by decide +kernel
theorem dX10_isRest_47 : decode cX10_isRest 47 = .ok (.iinc 4 1, 3) := by decide +kernel
theorem dX10_isRest_50 : decode cX10_isRest 50 = .ok (.goto (-47), 3) := by decide +kernel
theorem dX10_isRest_53 : decode cX10_isRest 53 = .ok (.iconst 1, 1) := by decide +kernel
theorem dX10_isRest_54 : decode cX10_isRest 54 = .ok (.ireturn, 1) := by decide +kernel
theorem dX10_parlour_0 : decode cX10_parlour 0 = .ok (.aload_n 0, 1) := by decide +kernel
theorem dX10_parlour_1 : decode cX10_parlour 1 = .ok (.iconst 0, 1) := by decide +kernel
theorem dX10_parlour_2 : decode cX10_parlour 2 = .ok (.putfield 103, 3) := by decide +kernel
theorem dX10_parlour_5 : decode cX10_parlour 5 = .ok (.aload_n 0, 1) := by decide +kernel
theorem dX10_parlour_6 : decode cX10_parlour 6 = .ok (.iload_n 1, 1) := by decide +kernel
theorem dX10_parlour_7 : decode cX10_parlour 7 = .ok (.iconst 0, 1) := by decide +kernel
theorem dX10_parlour_8 : decode cX10_parlour 8 = .ok (.bipush 12, 2) := by decide +kernel
theorem dX10_parlour_10 : decode cX10_parlour 10 = .ok (.invokestatic 137, 3) := by decide +kernel
theorem dX10_parlour_13 : decode cX10_parlour 13 = .ok (.ifCond .eq 22, 3) := by decide +kernel
theorem dX10_parlour_16 : decode cX10_parlour 16 = .ok (.iload_n 2, 1) := by decide +kernel
theorem dX10_parlour_17 : decode cX10_parlour 17 = .ok (.iconst 0, 1) := by decide +kernel
theorem dX10_parlour_18 : decode cX10_parlour 18 = .ok (.bipush 16, 2) := by decide +kernel
theorem dX10_parlour_20 : decode cX10_parlour 20 = .ok (.invokestatic 137, 3) := by decide +kernel
theorem dX10_parlour_23 : decode cX10_parlour 23 = .ok (.ifCond .eq 12, 3) := by decide +kernel
theorem dX10_parlour_26 : decode cX10_parlour 26 = .ok (.iload_n 3, 1) := by decide +kernel
theorem dX10_parlour_27 : decode cX10_parlour 27 = .ok (.iconst 0, 1) := by decide +kernel
theorem dX10_parlour_28 : decode cX10_parlour 28 = .ok (.iconst 2, 1) := by decide +kernel
theorem dX10_parlour_29 : decode cX10_parlour 29 = .ok (.invokestatic 137, 3) := by decide +kernel
theorem dX10_parlour_32 : decode cX10_parlour 32 = .ok (.ifCond .ne 7, 3) := by decide +kernel
theorem dX10_parlour_35 : decode cX10_parlour 35 = .ok (.iconst 1, 1) := by decide +kernel
theorem dX10_parlour_36 : decode cX10_parlour 36 = .ok (.goto 4, 3) := by decide +kernel
theorem dX10_parlour_39 : decode cX10_parlour 39 = .ok (.iconst 0, 1) := by decide +kernel
theorem dX10_parlour_40 : decode cX10_parlour 40 = .ok (.iconst 1, 1) := by decide +kernel
theorem dX10_parlour_41 : decode cX10_parlour 41 = .ok (.iconst 1, 1) := by decide +kernel
theorem dX10_parlour_42 : decode cX10_parlour 42 = .ok (.invokevirtual 186, 3) := by decide +kernel
theorem dX10_parlour_45 : decode cX10_parlour 45 = .ok (.ifCond .eq 5, 3) := by decide +kernel
theorem dX10_parlour_48 : decode cX10_parlour 48 = .ok (.iconst 0, 1) := by decide +kernel
theorem dX10_parlour_49 : decode cX10_parlour 49 = .ok (.ireturn, 1) := by decide +kernel
theorem dX10_parlour_50 : decode cX10_parlour 50 = .ok (.iconst 0, 1) := by decide +kernel
theorem dX10_parlour_51 : decode cX10_parlour 51 = .ok (.istore 4, 2) := by decide +kernel
theorem dX10_parlour_53 : decode cX10_parlour 53 = .ok (.iconst (-1), 1) := by decide +kernel
theorem dX10_parlour_54 : decode cX10_parlour 54 = .ok (.istore 5, 2) := by decide +kernel
theorem dX10_parlour_56 : decode cX10_parlour 56 = .ok (.iconst 0, 1) := by decide +kernel
theorem dX10_parlour_57 : decode cX10_parlour 57 = .ok (.istore 6, 2) := by decide +kernel
theorem dX10_parlour_59 : decode cX10_parlour 59 = .ok (.iconst 0, 1) := by decide +kernel
theorem dX10_parlour_60 : decode cX10_parlour 60 = .ok (.istore 7, 2) := by decide +kernel
theorem dX10_parlour_62 : decode cX10_parlour 62 = .ok (.iload 7, 2) := by decide +kernel
theorem dX10_parlour_64 : decode cX10_parlour 64 = .ok (.iload_n 1, 1) := by decide +kernel
theorem dX10_parlour_65 : decode cX10_parlour 65 = .ok (.if_icmp .gt 93, 3) := by decide +kernel
theorem dX10_parlour_68 : decode cX10_parlour 68 = .ok (.iconst 0, 1) := by decide +kernel
theorem dX10_parlour_69 : decode cX10_parlour 69 = .ok (.istore 8, 2) := by decide +kernel
theorem dX10_parlour_71 : decode cX10_parlour 71 = .ok (.iload 8, 2) := by decide +kernel
theorem dX10_parlour_73 : decode cX10_parlour 73 = .ok (.iload_n 1, 1) := by decide +kernel
theorem dX10_parlour_74 : decode cX10_parlour 74 = .ok (.if_icmp .gt 78, 3) := by decide +kernel
theorem dX10_parlour_77 : decode cX10_parlour 77 = .ok (.iload 7, 2) := by decide +kernel
theorem dX10_parlour_79 : decode cX10_parlour 79 = .ok (.iload 8, 2) := by decide +kernel
theorem dX10_parlour_81 : decode cX10_parlour 81 = .ok (.iload_n 1, 1) := by decide +kernel
theorem dX10_parlour_82 : decode cX10_parlour 82 = .ok (.iload_n 2, 1) := by decide +kernel
theorem dX10_parlour_83 : decode cX10_parlour 83 = .ok (.invokestatic 378, 3) := by decide +kernel
theorem dX10_parlour_86 : decode cX10_parlour 86 = .ok (.ifCond .ne 6, 3) := by decide +kernel
theorem dX10_parlour_89 : decode cX10_parlour 89 = .ok (.goto 57, 3) := by decide +kernel
theorem dX10_parlour_92 : decode cX10_parlour 92 = .ok (.iload 4, 2) := by decide +kernel
theorem dX10_parlour_94 : decode cX10_parlour 94 = .ok (.ifCond .ne 14, 3) := by decide +kernel
theorem dX10_parlour_97 : decode cX10_parlour 97 = .ok (.bipush 100, 2) := by decide +kernel
theorem dX10_parlour_99 : decode cX10_parlour 99 = .ok (.iload 7, 2) := by decide +kernel
theorem dX10_parlour_101 : decode cX10_parlour 101 = .ok (.imul, 1) := by decide +kernel
theorem dX10_parlour_102 : decode cX10_parlour 102 = .ok (.iload 8, 2) := by decide +kernel
theorem dX10_parlour_104 : decode cX10_parlour 104 = .ok (.iadd, 1) := by decide +kernel
theorem dX10_parlour_105 : decode cX10_parlour 105 = .ok (.goto 5, 3) := by decide +kernel
theorem dX10_parlour_108 : decode cX10_parlour 108 = .ok (.iload 5, 2) := by decide +kernel
theorem dX10_parlour_110 : decode cX10_parlour 110 = .ok (.istore 5, 2) := by decide +kernel
theorem dX10_parlour_112 : decode cX10_parlour 112 = .ok (.iload 4, 2) := by decide +kernel
theorem dX10_parlour_114 : decode cX10_parlour 114 = .ok (.ifCond .ne 25, 3) := by decide +kernel
theorem dX10_parlour_117 : decode cX10_parlour 117 = .ok (.iload 7, 2) := by decide +kernel
theorem dX10_parlour_119 : decode cX10_parlour 119 = .ok (.iload 8, 2) := by decide +kernel
theorem dX10_parlour_121 : decode cX10_parlour 121 = .ok (.iload_n 1, 1) := by decide +kernel
theorem dX10_parlour_122 : decode cX10_parlour 122 = .ok (.iload_n 2, 1) := by decide +kernel
theorem dX10_parlour_123 : decode cX10_parlour 123 = .ok (.invokestatic 371, 3) := by decide +kernel
theorem dX10_parlour_126 : decode cX10_parlour 126 = .ok (.iload 7, 2) := by decide +kernel
theorem dX10_parlour_128 : decode cX10_parlour 128 = .ok (.iload 8, 2) := by decide +kernel
theorem dX10_parlour_130 : decode cX10_parlour 130 = .ok (.iload_n 1, 1) := by decide +kernel
theorem dX10_parlour_131 : decode cX10_parlour 131 = .ok (.iload_n 2, 1) := by decide +kernel
theorem dX10_parlour_132 : decode cX10_parlour 132 = .ok (.invokestatic 375, 3) := by decide +kernel
theorem dX10_parlour_135 : decode cX10_parlour 135 = .ok (.iadd, 1) := by decide +kernel
theorem dX10_parlour_136 : decode cX10_parlour 136 = .ok (.goto 5, 3) := by decide +kernel
theorem dX10_parlour_139 : decode cX10_parlour 139 = .ok (.iload 6, 2) := by decide +kernel
theorem dX10_parlour_141 : decode cX10_parlour 141 = .ok (.istore 6, 2) := by decide +kernel
theorem dX10_parlour_143 : decode cX10_parlour 143 = .ok (.iinc 4 1, 3) := by decide +kernel
theorem dX10_parlour_146 : decode cX10_parlour 146 = .ok (.iinc 8 1, 3) := by decide +kernel
theorem dX10_parlour_149 : decode cX10_parlour 149 = .ok (.goto (-78), 3) := by decide +kernel
theorem dX10_parlour_152 : decode cX10_parlour 152 = .ok (.iinc 7 1, 3) := by decide +kernel
theorem dX10_parlour_155 : decode cX10_parlour 155 = .ok (.goto (-93), 3) := by decide +kernel
theorem dX10_parlour_158 : decode cX10_parlour 158 = .ok (.iload_n 3, 1) := by decide +kernel
theorem dX10_parlour_159 : decode cX10_parlour 159 = .ok (.ifCond .ne 8, 3) := by decide +kernel
theorem dX10_parlour_162 : decode cX10_parlour 162 = .ok (.iload 4, 2) := by decide +kernel
theorem dX10_parlour_164 : decode cX10_parlour 164 = .ok (.goto 15, 3) := by decide +kernel
theorem dX10_parlour_167 : decode cX10_parlour 167 = .ok (.iload_n 3, 1) := by decide +kernel
theorem dX10_parlour_168 : decode cX10_parlour 168 = .ok (.iconst 1, 1) := by decide +kernel
theorem dX10_parlour_169 : decode cX10_parlour 169 = .ok (.if_icmp .ne 8, 3) := by decide +kernel
theorem dX10_parlour_172 : decode cX10_parlour 172 = .ok (.iload 5, 2) := by decide +kernel
theorem dX10_parlour_174 : decode cX10_parlour 174 = .ok (.goto 5, 3) := by decide +kernel
theorem dX10_parlour_177 : decode cX10_parlour 177 = .ok (.iload 6, 2) := by decide +kernel
theorem dX10_parlour_179 : decode cX10_parlour 179 = .ok (.ireturn, 1) := by decide +kernel
theorem dX10_stainBy_0 : decode cX10_stainBy 0 = .ok (.iconst 0, 1) := by decide +kernel
theorem dX10_stainBy_1 : decode cX10_stainBy 1 = .ok (.istore_n 3, 1) := by decide +kernel
theorem dX10_stainBy_2 : decode cX10_stainBy 2 = .ok (.iconst 0, 1) := by decide +kernel
theorem dX10_stainBy_3 : decode cX10_stainBy 3 = .ok (.istore 4, 2) := by decide +kernel
theorem dX10_stainBy_5 : decode cX10_stainBy 5 = .ok (.iload 4, 2) := by decide +kernel
theorem dX10_stainBy_7 : decode cX10_stainBy 7 = .ok (.aload_n 0, 1) := by decide +kernel
theorem dX10_stainBy_8 : decode cX10_stainBy 8 = .ok (.getfield 23, 3) := by decide +kernel
theorem dX10_stainBy_11 : decode cX10_stainBy 11 = .ok (.iconst 2, 1) := by decide +kernel
theorem dX10_stainBy_12 : decode cX10_stainBy 12 = .ok (.iaload, 1) := by decide +kernel
theorem dX10_stainBy_13 : decode cX10_stainBy 13 = .ok (.if_icmp .ge 43, 3) := by decide +kernel
theorem dX10_stainBy_16 : decode cX10_stainBy 16 = .ok (.iload_n 2, 1) := by decide +kernel
theorem dX10_stainBy_17 : decode cX10_stainBy 17 = .ok (.iload 4, 2) := by decide +kernel
theorem dX10_stainBy_19 : decode cX10_stainBy 19 = .ok (.invokestatic 268, 3) := by decide +kernel
theorem dX10_stainBy_22 : decode cX10_stainBy 22 = .ok (.ifCond .eq 26, 3) := by decide +kernel
theorem dX10_stainBy_25 : decode cX10_stainBy 25 = .ok (.iload_n 3, 1) := by decide +kernel
theorem dX10_stainBy_26 : decode cX10_stainBy 26 = .ok (.aload_n 0, 1) := by decide +kernel
theorem dX10_stainBy_27 : decode cX10_stainBy 27 = .ok (.aload_n 0, 1) := by decide +kernel
theorem dX10_stainBy_28 : decode cX10_stainBy 28 = .ok (.getfield 73, 3) := by decide +kernel
theorem dX10_stainBy_31 : decode cX10_stainBy 31 = .ok (.iload_n 1, 1) := by decide +kernel
theorem dX10_stainBy_32 : decode cX10_stainBy 32 = .ok (.aload_n 0, 1) := by decide +kernel
theorem dX10_stainBy_33 : decode cX10_stainBy 33 = .ok (.getfield 35, 3) := by decide +kernel
theorem dX10_stainBy_36 : decode cX10_stainBy 36 = .ok (.iload 4, 2) := by decide +kernel
theorem dX10_stainBy_38 : decode cX10_stainBy 38 = .ok (.iaload, 1) := by decide +kernel
theorem dX10_stainBy_39 : decode cX10_stainBy 39 = .ok (.invokevirtual 282, 3) := by decide +kernel
theorem dX10_stainBy_42 : decode cX10_stainBy 42 = .ok (.invokestatic 252, 3) := by decide +kernel
theorem dX10_stainBy_45 : decode cX10_stainBy 45 = .ok (.goto 4, 3) := by decide +kernel
theorem dX10_stainBy_48 : decode cX10_stainBy 48 = .ok (.iload_n 3, 1) := by decide +kernel
theorem dX10_stainBy_49 : decode cX10_stainBy 49 = .ok (.istore_n 3, 1) := by decide +kernel
theorem dX10_stainBy_50 : decode cX10_stainBy 50 = .ok (.iinc 4 1, 3) := by decide +kernel
theorem dX10_stainBy_53 : decode cX10_stainBy 53 = .ok (.goto (-48), 3) := by decide +kernel
theorem dX10_stainBy_56 : decode cX10_stainBy 56 = .ok (.iload_n 3, 1) := by decide +kernel
theorem dX10_stainBy_57 : decode cX10_stainBy 57 = .ok (.ireturn, 1) := by decide +kernel
theorem dX10_isStained_0 : decode cX10_isStained 0 = .ok (.iconst 0, 1) := by decide +kernel
theorem dX10_isStained_1 : decode cX10_isStained 1 = .ok (.istore_n 2, 1) := by decide +kernel
theorem dX10_isStained_2 : decode cX10_isStained 2 = .ok (.iload_n 2, 1) := by decide +kernel
theorem dX10_isStained_3 : decode cX10_isStained 3 = .ok (.aload_n 0, 1) := by decide +kernel
theorem dX10_isStained_4 : decode cX10_isStained 4 = .ok (.getfield 209, 3) := by decide +kernel
theorem dX10_isStained_7 : decode cX10_isStained 7 = .ok (.if_icmp .ge 35, 3) := by decide +kernel
theorem dX10_isStained_10 : decode cX10_isStained 10 = .ok (.aload_n 0, 1) := by decide +kernel
theorem dX10_isStained_11 : decode cX10_isStained 11 = .ok (.aload_n 0, 1) := by decide +kernel
theorem dX10_isStained_12 : decode cX10_isStained 12 = .ok (.getfield 58, 3) := by decide +kernel
theorem dX10_isStained_15 : decode cX10_isStained 15 = .ok (.iload_n 2, 1) := by decide +kernel
theorem dX10_isStained_16 : decode cX10_isStained 16 = .ok (.aaload, 1) := by decide +kernel
theorem dX10_isStained_17 : decode cX10_isStained 17 = .ok (.iconst 0, 1) := by decide +kernel
theorem dX10_isStained_18 : decode cX10_isStained 18 = .ok (.iaload, 1) := by decide +kernel
theorem dX10_isStained_19 : decode cX10_isStained 19 = .ok (.iload_n 1, 1) := by decide +kernel
theorem dX10_isStained_20 : decode cX10_isStained 20 = .ok (.invokevirtual 382, 3) := by decide +kernel
theorem dX10_isStained_23 : decode cX10_isStained 23 = .ok (.aload_n 0, 1) := by decide +kernel
theorem dX10_isStained_24 : decode cX10_isStained 24 = .ok (.getfield 58, 3) := by decide +kernel
theorem dX10_isStained_27 : decode cX10_isStained 27 = .ok (.iload_n 2, 1) := by decide +kernel
theorem dX10_isStained_28 : decode cX10_isStained 28 = .ok (.aaload, 1) := by decide +kernel
theorem dX10_isStained_29 : decode cX10_isStained 29 = .ok (.iconst 1, 1) := by decide +kernel
theorem dX10_isStained_30 : decode cX10_isStained 30 = .ok (.iaload, 1) := by decide +kernel
theorem dX10_isStained_31 : decode cX10_isStained 31 = .ok (.if_icmp .eq 5, 3) := by decide +kernel
theorem dX10_isStained_34 : decode cX10_isStained 34 = .ok (.iconst 0, 1) := by decide +kernel
theorem dX10_isStained_35 : decode cX10_isStained 35 = .ok (.ireturn, 1) := by decide +kernel
theorem dX10_isStained_36 : decode cX10_isStained 36 = .ok (.iinc 2 1, 3) := by decide +kernel
theorem dX10_isStained_39 : decode cX10_isStained 39 = .ok (.goto (-37), 3) := by decide +kernel
theorem dX10_isStained_42 : decode cX10_isStained 42 = .ok (.iconst 1, 1) := by decide +kernel
theorem dX10_isStained_43 : decode cX10_isStained 43 = .ok (.ireturn, 1) := by decide +kernel
theorem dX10_in_0 : decode cX10_in 0 = .ok (.aload_n 0, 1) := by decide +kernel
theorem dX10_in_1 : decode cX10_in 1 = .ok (.iconst 0, 1) := by decide +kernel
theorem dX10_in_2 : decode cX10_in 2 = .ok (.putfield 103, 3) := by decide +kernel
theorem dX10_in_5 : decode cX10_in 5 = .ok (.aload_n 0, 1) := by decide +kernel
theorem dX10_in_6 : decode cX10_in 6 = .ok (.iload_n 1, 1) := by decide +kernel
theorem dX10_in_7 : decode cX10_in 7 = .ok (.iconst 0, 1) := by decide +kernel
theorem dX10_in_8 : decode cX10_in 8 = .ok (.iconst 2, 1) := by decide +kernel
theorem dX10_in_9 : decode cX10_in 9 = .ok (.invokestatic 137, 3) := by decide +kernel
theorem dX10_in_12 : decode cX10_in 12 = .ok (.ifCond .ne 7, 3) := by decide +kernel
theorem dX10_in_15 : decode cX10_in 15 = .ok (.iconst 1, 1) := by decide +kernel
theorem dX10_in_16 : decode cX10_in 16 = .ok (.goto 4, 3) := by decide +kernel
theorem dX10_in_19 : decode cX10_in 19 = .ok (.iconst 0, 1) := by decide +kernel
theorem dX10_in_20 : decode cX10_in 20 = .ok (.iconst 1, 1) := by decide +kernel
theorem dX10_in_21 : decode cX10_in 21 = .ok (.iconst 1, 1) := by decide +kernel
theorem dX10_in_22 : decode cX10_in 22 = .ok (.invokevirtual 186, 3) := by decide +kernel
theorem dX10_in_25 : decode cX10_in 25 = .ok (.ifCond .eq 5, 3) := by decide +kernel
theorem dX10_in_28 : decode cX10_in 28 = .ok (.iconst 0, 1) := by decide +kernel
theorem dX10_in_29 : decode cX10_in 29 = .ok (.ireturn, 1) := by decide +kernel
theorem dX10_in_30 : decode cX10_in 30 = .ok (.iconst 0, 1) := by decide +kernel
theorem dX10_in_31 : decode cX10_in 31 = .ok (.istore_n 2, 1) := by decide +kernel
theorem dX10_in_32 : decode cX10_in 32 = .ok (.iconst (-1), 1) := by decide +kernel
theorem dX10_in_33 : decode cX10_in 33 = .ok (.istore_n 3, 1) := by decide +kernel
theorem dX10_in_34 : decode cX10_in 34 = .ok (.iconst 1, 1) := by decide +kernel
theorem dX10_in_35 : decode cX10_in 35 = .ok (.aload_n 0, 1) := by decide +kernel
theorem dX10_in_36 : decode cX10_in 36 = .ok (.getfield 23, 3) := by decide +kernel
theorem dX10_in_39 : decode cX10_in 39 = .ok (.iconst 2, 1) := by decide +kernel
theorem dX10_in_40 : decode cX10_in 40 = .ok (.iaload, 1) := by decide +kernel
theorem dX10_in_41 : decode cX10_in 41 = .ok (.ishl, 1) := by decide +kernel
theorem dX10_in_42 : decode cX10_in 42 = .ok (.iconst 1, 1) := by decide +kernel
theorem dX10_in_43 : decode cX10_in 43 = .ok (.isub, 1) := by decide +kernel
theorem dX10_in_44 : decode cX10_in 44 = .ok (.istore 4, 2) := by decide +kernel
theorem dX10_in_46 : decode cX10_in 46 = .ok (.iconst 1, 1) := by decide +kernel
theorem dX10_in_47 : decode cX10_in 47 = .ok (.istore 5, 2) := by decide +kernel
theorem dX10_in_49 : decode cX10_in 49 = .ok (.iload 5, 2) := by decide +kernel
theorem dX10_in_51 : decode cX10_in 51 = .ok (.iconst 1, 1) := by decide +kernel
theorem dX10_in_52 : decode cX10_in 52 = .ok (.aload_n 0, 1) := by decide +kernel
theorem dX10_in_53 : decode cX10_in 53 = .ok (.getfield 23, 3) := by decide +kernel
theorem dX10_in_56 : decode cX10_in 56 = .ok (.iconst 2, 1) := by decide +kernel
theorem dX10_in_57 : decode cX10_in 57 = .ok (.iaload, 1) := by decide +kernel
theorem dX10_in_58 : decode cX10_in 58 = .ok (.ishl, 1) := by decide +kernel
theorem dX10_in_59 : decode cX10_in 59 = .ok (.if_icmp .ge 42, 3) := by decide +kernel
theorem dX10_in_62 : decode cX10_in 62 = .ok (.aload_n 0, 1) := by decide +kernel
theorem dX10_in_63 : decode cX10_in 63 = .ok (.iload 5, 2) := by decide +kernel
theorem dX10_in_65 : decode cX10_in 65 = .ok (.invokevirtual 385, 3) := by decide +kernel
theorem dX10_in_68 : decode cX10_in 68 = .ok (.ifCond .ne 6, 3) := by decide +kernel
theorem dX10_in_71 : decode cX10_in 71 = .ok (.goto 24, 3) := by decide +kernel
theorem dX10_in_74 : decode cX10_in 74 = .ok (.iload_n 2, 1) := by decide +kernel
theorem dX10_in_75 : decode cX10_in 75 = .ok (.ifCond .ne 8, 3) := by decide +kernel
theorem dX10_in_78 : decode cX10_in 78 = .ok (.iload 5, 2) := by decide +kernel
theorem dX10_in_80 : decode cX10_in 80 = .ok (.goto 4, 3) := by decide +kernel
theorem dX10_in_83 : decode cX10_in 83 = .ok (.iload_n 3, 1) := by decide +kernel
theorem dX10_in_84 : decode cX10_in 84 = .ok (.istore_n 3, 1) := by decide +kernel
theorem dX10_in_85 : decode cX10_in 85 = .ok (.iload 4, 2) := by decide +kernel
theorem dX10_in_87 : decode cX10_in 87 = .ok (.iload 5, 2) := by decide +kernel
theorem dX10_in_89 : decode cX10_in 89 = .ok (.iand, 1) := by decide +kernel
theorem dX10_in_90 : decode cX10_in 90 = .ok (.istore 4, 2) := by decide +kernel
theorem dX10_in_92 : decode cX10_in 92 = .ok (.iinc 2 1, 3) := by decide +kernel
theorem dX10_in_95 : decode cX10_in 95 = .ok (.iinc 5 1, 3) := by decide +kernel
theorem dX10_in_98 : decode cX10_in 98 = .ok (.goto (-49), 3) := by decide +kernel
theorem dX10_in_101 : decode cX10_in 101 = .ok (.iload_n 1, 1) := by decide +kernel
theorem dX10_in_102 : decode cX10_in 102 = .ok (.ifCond .ne 7, 3) := by decide +kernel
theorem dX10_in_105 : decode cX10_in 105 = .ok (.iload_n 2, 1) := by decide +kernel
theorem dX10_in_106 : decode cX10_in 106 = .ok (.goto 22, 3) := by decide +kernel
theorem dX10_in_109 : decode cX10_in 109 = .ok (.iload_n 1, 1) := by decide +kernel
theorem dX10_in_110 : decode cX10_in 110 = .ok (.iconst 1, 1) := by decide +kernel
theorem dX10_in_111 : decode cX10_in 111 = .ok (.if_icmp .ne 7, 3) := by decide +kernel
theorem dX10_in_114 : decode cX10_in 114 = .ok (.iload_n 3, 1) := by decide +kernel
theorem dX10_in_115 : decode cX10_in 115 = .ok (.goto 13, 3) := by decide +kernel
theorem dX10_in_118 : decode cX10_in 118 = .ok (.iload_n 2, 1) := by decide +kernel
theorem dX10_in_119 : decode cX10_in 119 = .ok (.ifCond .ne 7, 3) := by decide +kernel
theorem dX10_in_122 : decode cX10_in 122 = .ok (.iconst 0, 1) := by decide +kernel
theorem dX10_in_123 : decode cX10_in 123 = .ok (.goto 5, 3) := by decide +kernel
theorem dX10_in_126 : decode cX10_in 126 = .ok (.iload 4, 2) := by decide +kernel
theorem dX10_in_128 : decode cX10_in 128 = .ok (.ireturn, 1) := by decide +kernel
theorem dX10_worstAt_0 : decode cX10_worstAt 0 = .ok (.iconst 0, 1) := by decide +kernel
theorem dX10_worstAt_1 : decode cX10_worstAt 1 = .ok (.istore_n 2, 1) := by decide +kernel
theorem dX10_worstAt_2 : decode cX10_worstAt 2 = .ok (.iconst 0, 1) := by decide +kernel
theorem dX10_worstAt_3 : decode cX10_worstAt 3 = .ok (.istore_n 3, 1) := by decide +kernel
theorem dX10_worstAt_4 : decode cX10_worstAt 4 = .ok (.iload_n 3, 1) := by decide +kernel
theorem dX10_worstAt_5 : decode cX10_worstAt 5 = .ok (.bipush 61, 2) := by decide +kernel
theorem dX10_worstAt_7 : decode cX10_worstAt 7 = .ok (.if_icmp .ge 16, 3) := by decide +kernel
theorem dX10_worstAt_10 : decode cX10_worstAt 10 = .ok (.aload_n 0, 1) := by decide +kernel
theorem dX10_worstAt_11 : decode cX10_worstAt 11 = .ok (.getfield 94, 3) := by decide +kernel
theorem dX10_worstAt_14 : decode cX10_worstAt 14 = .ok (.iload_n 3, 1) := by decide +kernel
theorem dX10_worstAt_15 : decode cX10_worstAt 15 = .ok (.iconst 0, 1) := by decide +kernel
theorem dX10_worstAt_16 : decode cX10_worstAt 16 = .ok (.iastore, 1) := by decide +kernel
theorem dX10_worstAt_17 : decode cX10_worstAt 17 = .ok (.iinc 3 1, 3) := by decide +kernel
theorem dX10_worstAt_20 : decode cX10_worstAt 20 = .ok (.goto (-16), 3) := by decide +kernel
theorem dX10_worstAt_23 : decode cX10_worstAt 23 = .ok (.iconst 1, 1) := by decide +kernel
theorem dX10_worstAt_24 : decode cX10_worstAt 24 = .ok (.istore_n 3, 1) := by decide +kernel
theorem dX10_worstAt_25 : decode cX10_worstAt 25 = .ok (.iload_n 3, 1) := by decide +kernel
theorem dX10_worstAt_26 : decode cX10_worstAt 26 = .ok (.iconst 1, 1) := by decide +kernel
theorem dX10_worstAt_27 : decode cX10_worstAt 27 = .ok (.aload_n 0, 1) := by decide +kernel
theorem dX10_worstAt_28 : decode cX10_worstAt 28 = .ok (.getfield 23, 3) := by decide +kernel
theorem dX10_worstAt_31 : decode cX10_worstAt 31 = .ok (.iconst 2, 1) := by decide +kernel
theorem dX10_worstAt_32 : decode cX10_worstAt 32 = .ok (.iaload, 1) := by decide +kernel
theorem dX10_worstAt_33 : decode cX10_worstAt 33 = .ok (.ishl, 1) := by decide +kernel
theorem dX10_worstAt_34 : decode cX10_worstAt 34 = .ok (.if_icmp .ge 32, 3) := by decide +kernel
theorem dX10_worstAt_37 : decode cX10_worstAt 37 = .ok (.aload_n 0, 1) := by decide +kernel
theorem dX10_worstAt_38 : decode cX10_worstAt 38 = .ok (.iload_n 3, 1) := by decide +kernel
theorem dX10_worstAt_39 : decode cX10_worstAt 39 = .ok (.invokevirtual 385, 3) := by decide +kernel
theorem dX10_worstAt_42 : decode cX10_worstAt 42 = .ok (.ifCond .eq 18, 3) := by decide +kernel
theorem dX10_worstAt_45 : decode cX10_worstAt 45 = .ok (.aload_n 0, 1) := by decide +kernel
theorem dX10_worstAt_46 : decode cX10_worstAt 46 = .ok (.getfield 94, 3) := by decide +kernel
theorem dX10_worstAt_49 : decode cX10_worstAt 49 = .ok (.aload_n 0, 1) := by decide +kernel
theorem dX10_worstAt_50 : decode cX10_worstAt 50 = .ok (.iload_n 1, 1) := by decide +kernel
theorem dX10_worstAt_51 : decode cX10_worstAt 51 = .ok (.iload_n 3, 1) := by decide +kernel
theorem dX10_worstAt_52 : decode cX10_worstAt 52 = .ok (.invokevirtual 382, 3) := by decide +kernel
theorem dX10_worstAt_55 : decode cX10_worstAt 55 = .ok (.dup2, 1) := by decide +kernel
theorem dX10_worstAt_56 : decode cX10_worstAt 56 = .ok (.iaload, 1) := by decide +kernel
theorem dX10_worstAt_57 : decode cX10_worstAt 57 = .ok (.iconst 1, 1) := by decide +kernel
theorem dX10_worstAt_58 : decode cX10_worstAt 58 = .ok (.iadd, 1) := by decide +kernel
theorem dX10_worstAt_59 : decode cX10_worstAt 59 = .ok (.iastore, 1) := by decide +kernel
theorem dX10_worstAt_60 : decode cX10_worstAt 60 = .ok (.iinc 3 1, 3) := by decide +kernel
theorem dX10_worstAt_63 : decode cX10_worstAt 63 = .ok (.goto (-38), 3) := by decide +kernel
theorem dX10_worstAt_66 : decode cX10_worstAt 66 = .ok (.iconst 0, 1) := by decide +kernel
theorem dX10_worstAt_67 : decode cX10_worstAt 67 = .ok (.istore_n 3, 1) := by decide +kernel
theorem dX10_worstAt_68 : decode cX10_worstAt 68 = .ok (.iload_n 3, 1) := by decide +kernel
theorem dX10_worstAt_69 : decode cX10_worstAt 69 = .ok (.bipush 61, 2) := by decide +kernel
theorem dX10_worstAt_71 : decode cX10_worstAt 71 = .ok (.if_icmp .ge 20, 3) := by decide +kernel
theorem dX10_worstAt_74 : decode cX10_worstAt 74 = .ok (.iload_n 2, 1) := by decide +kernel
theorem dX10_worstAt_75 : decode cX10_worstAt 75 = .ok (.aload_n 0, 1) := by decide +kernel
theorem dX10_worstAt_76 : decode cX10_worstAt 76 = .ok (.getfield 94, 3) := by decide +kernel
theorem dX10_worstAt_79 : decode cX10_worstAt 79 = .ok (.iload_n 3, 1) := by decide +kernel
theorem dX10_worstAt_80 : decode cX10_worstAt 80 = .ok (.iaload, 1) := by decide +kernel
theorem dX10_worstAt_81 : decode cX10_worstAt 81 = .ok (.invokestatic 252, 3) := by decide +kernel
theorem dX10_worstAt_84 : decode cX10_worstAt 84 = .ok (.istore_n 2, 1) := by decide +kernel
theorem dX10_worstAt_85 : decode cX10_worstAt 85 = .ok (.iinc 3 1, 3) := by decide +kernel
theorem dX10_worstAt_88 : decode cX10_worstAt 88 = .ok (.goto (-20), 3) := by decide +kernel
theorem dX10_worstAt_91 : decode cX10_worstAt 91 = .ok (.iload_n 2, 1) := by decide +kernel
theorem dX10_worstAt_92 : decode cX10_worstAt 92 = .ok (.ireturn, 1) := by decide +kernel
theorem dX10_isTold_0 : decode cX10_isTold 0 = .ok (.iconst 0, 1) := by decide +kernel
theorem dX10_isTold_1 : decode cX10_isTold 1 = .ok (.istore_n 2, 1) := by decide +kernel
theorem dX10_isTold_2 : decode cX10_isTold 2 = .ok (.iload_n 2, 1) := by decide +kernel
theorem dX10_isTold_3 : decode cX10_isTold 3 = .ok (.aload_n 0, 1) := by decide +kernel
theorem dX10_isTold_4 : decode cX10_isTold 4 = .ok (.getfield 209, 3) := by decide +kernel
theorem dX10_isTold_7 : decode cX10_isTold 7 = .ok (.if_icmp .ge 23, 3) := by decide +kernel
theorem dX10_isTold_10 : decode cX10_isTold 10 = .ok (.aload_n 0, 1) := by decide +kernel
theorem dX10_isTold_11 : decode cX10_isTold 11 = .ok (.getfield 58, 3) := by decide +kernel
theorem dX10_isTold_14 : decode cX10_isTold 14 = .ok (.iload_n 2, 1) := by decide +kernel
theorem dX10_isTold_15 : decode cX10_isTold 15 = .ok (.aaload, 1) := by decide +kernel
theorem dX10_isTold_16 : decode cX10_isTold 16 = .ok (.iconst 0, 1) := by decide +kernel
theorem dX10_isTold_17 : decode cX10_isTold 17 = .ok (.iaload, 1) := by decide +kernel
theorem dX10_isTold_18 : decode cX10_isTold 18 = .ok (.iload_n 1, 1) := by decide +kernel
theorem dX10_isTold_19 : decode cX10_isTold 19 = .ok (.if_icmp .ne 5, 3) := by decide +kernel
theorem dX10_isTold_22 : decode cX10_isTold 22 = .ok (.iconst 1, 1) := by decide +kernel
theorem dX10_isTold_23 : decode cX10_isTold 23 = .ok (.ireturn, 1) := by decide +kernel
theorem dX10_isTold_24 : decode cX10_isTold 24 = .ok (.iinc 2 1, 3) := by decide +kernel
theorem dX10_isTold_27 : decode cX10_isTold 27 = .ok (.goto (-25), 3) := by decide +kernel
theorem dX10_isTold_30 : decode cX10_isTold 30 = .ok (.iconst 0, 1) := by decide +kernel
theorem dX10_isTold_31 : decode cX10_isTold 31 = .ok (.ireturn, 1) := by decide +kernel
theorem dX10_board_0 : decode cX10_board 0 = .ok (.aload_n 0, 1) := by decide +kernel
theorem dX10_board_1 : decode cX10_board 1 = .ok (.iconst 0, 1) := by decide +kernel
theorem dX10_board_2 : decode cX10_board 2 = .ok (.putfield 103, 3) := by decide +kernel
theorem dX10_board_5 : decode cX10_board 5 = .ok (.aload_n 0, 1) := by decide +kernel
theorem dX10_board_6 : decode cX10_board 6 = .ok (.iload_n 1, 1) := by decide +kernel
theorem dX10_board_7 : decode cX10_board 7 = .ok (.iconst 0, 1) := by decide +kernel
theorem dX10_board_8 : decode cX10_board 8 = .ok (.iconst 1, 1) := by decide +kernel
theorem dX10_board_9 : decode cX10_board 9 = .ok (.invokestatic 137, 3) := by decide +kernel
theorem dX10_board_12 : decode cX10_board 12 = .ok (.ifCond .ne 7, 3) := by decide +kernel
theorem dX10_board_15 : decode cX10_board 15 = .ok (.iconst 1, 1) := by decide +kernel
theorem dX10_board_16 : decode cX10_board 16 = .ok (.goto 4, 3) := by decide +kernel
theorem dX10_board_19 : decode cX10_board 19 = .ok (.iconst 0, 1) := by decide +kernel
theorem dX10_board_20 : decode cX10_board 20 = .ok (.iconst 1, 1) := by decide +kernel
theorem dX10_board_21 : decode cX10_board 21 = .ok (.iconst 1, 1) := by decide +kernel
theorem dX10_board_22 : decode cX10_board 22 = .ok (.invokevirtual 186, 3) := by decide +kernel
theorem dX10_board_25 : decode cX10_board 25 = .ok (.ifCond .eq 5, 3) := by decide +kernel
theorem dX10_board_28 : decode cX10_board 28 = .ok (.iconst 0, 1) := by decide +kernel
theorem dX10_board_29 : decode cX10_board 29 = .ok (.ireturn, 1) := by decide +kernel
theorem dX10_board_30 : decode cX10_board 30 = .ok (.iconst (-1), 1) := by decide +kernel
theorem dX10_board_31 : decode cX10_board 31 = .ok (.istore_n 2, 1) := by decide +kernel
theorem dX10_board_32 : decode cX10_board 32 = .ok (.iconst (-1), 1) := by decide +kernel
theorem dX10_board_33 : decode cX10_board 33 = .ok (.istore_n 3, 1) := by decide +kernel
theorem dX10_board_34 : decode cX10_board 34 = .ok (.iconst 0, 1) := by decide +kernel
theorem dX10_board_35 : decode cX10_board 35 = .ok (.istore 4, 2) := by decide +kernel
theorem dX10_board_37 : decode cX10_board 37 = .ok (.iload 4, 2) := by decide +kernel
theorem dX10_board_39 : decode cX10_board 39 = .ok (.aload_n 0, 1) := by decide +kernel
theorem dX10_board_40 : decode cX10_board 40 = .ok (.getfield 23, 3) := by decide +kernel
theorem dX10_board_43 : decode cX10_board 43 = .ok (.iconst 0, 1) := by decide +kernel
theorem dX10_board_44 : decode cX10_board 44 = .ok (.iaload, 1) := by decide +kernel
theorem dX10_board_45 : decode cX10_board 45 = .ok (.if_icmp .ge 49, 3) := by decide +kernel
theorem dX10_board_48 : decode cX10_board 48 = .ok (.aload_n 0, 1) := by decide +kernel
theorem dX10_board_49 : decode cX10_board 49 = .ok (.iload 4, 2) := by decide +kernel
theorem dX10_board_51 : decode cX10_board 51 = .ok (.invokevirtual 388, 3) := by decide +kernel
theorem dX10_board_54 : decode cX10_board 54 = .ok (.ifCond .eq 6, 3) := by decide +kernel
theorem dX10_board_57 : decode cX10_board 57 = .ok (.goto 31, 3) := by decide +kernel
theorem dX10_board_60 : decode cX10_board 60 = .ok (.aload_n 0, 1) := by decide +kernel
theorem dX10_board_61 : decode cX10_board 61 = .ok (.iload 4, 2) := by decide +kernel
theorem dX10_board_63 : decode cX10_board 63 = .ok (.invokevirtual 391, 3) := by decide +kernel
theorem dX10_board_66 : decode cX10_board 66 = .ok (.istore 5, 2) := by decide +kernel
theorem dX10_board_68 : decode cX10_board 68 = .ok (.iload_n 2, 1) := by decide +kernel
theorem dX10_board_69 : decode cX10_board 69 = .ok (.iconst (-1), 1) := by decide +kernel
theorem dX10_board_70 : decode cX10_board 70 = .ok (.if_icmp .eq 12, 3) := by decide +kernel
theorem dX10_board_73 : decode cX10_board 73 = .ok (.iload 5, 2) := by decide +kernel
theorem dX10_board_75 : decode cX10_board 75 = .ok (.iload_n 3, 1) := by decide +kernel
theorem dX10_board_76 : decode cX10_board 76 = .ok (.if_icmp .lt 6, 3) := by decide +kernel
theorem dX10_board_79 : decode cX10_board 79 = .ok (.goto 9, 3) := by decide +kernel
theorem dX10_board_82 : decode cX10_board 82 = .ok (.iload 4, 2) := by decide +kernel
theorem dX10_board_84 : decode cX10_board 84 = .ok (.istore_n 2, 1) := by decide +kernel
theorem dX10_board_85 : decode cX10_board 85 = .ok (.iload 5, 2) := by decide +kernel
theorem dX10_board_87 : decode cX10_board 87 = .ok (.istore_n 3, 1) := by decide +kernel
theorem dX10_board_88 : decode cX10_board 88 = .ok (.iinc 4 1, 3) := by decide +kernel
theorem dX10_board_91 : decode cX10_board 91 = .ok (.goto (-54), 3) := by decide +kernel
theorem dX10_board_94 : decode cX10_board 94 = .ok (.iload_n 1, 1) := by decide +kernel
theorem dX10_board_95 : decode cX10_board 95 = .ok (.ifCond .ne 7, 3) := by decide +kernel
theorem dX10_board_98 : decode cX10_board 98 = .ok (.iload_n 2, 1) := by decide +kernel
theorem dX10_board_99 : decode cX10_board 99 = .ok (.goto 4, 3) := by decide +kernel
theorem dX10_board_102 : decode cX10_board 102 = .ok (.iload_n 3, 1) := by decide +kernel
theorem dX10_board_103 : decode cX10_board 103 = .ok (.ireturn, 1) := by decide +kernel
theorem dX10_driftOf_0 : decode cX10_driftOf 0 = .ok (.iload_n 1, 1) := by decide +kernel
theorem dX10_driftOf_1 : decode cX10_driftOf 1 = .ok (.istore 4, 2) := by decide +kernel
theorem dX10_driftOf_3 : decode cX10_driftOf 3 = .ok (.iconst 0, 1) := by decide +kernel
theorem dX10_driftOf_4 : decode cX10_driftOf 4 = .ok (.istore 5, 2) := by decide +kernel
theorem dX10_driftOf_6 : decode cX10_driftOf 6 = .ok (.iload 5, 2) := by decide +kernel
theorem dX10_driftOf_8 : decode cX10_driftOf 8 = .ok (.iload_n 3, 1) := by decide +kernel
theorem dX10_driftOf_9 : decode cX10_driftOf 9 = .ok (.if_icmp .ge 56, 3) := by decide +kernel
theorem dX10_driftOf_12 : decode cX10_driftOf 12 = .ok (.iload 4, 2) := by decide +kernel
theorem dX10_driftOf_14 : decode cX10_driftOf 14 = .ok (.iconst (-1), 1) := by decide +kernel
theorem dX10_driftOf_15 : decode cX10_driftOf 15 = .ok (.if_icmp .eq 50, 3) := by decide +kernel
theorem dX10_driftOf_18 : decode cX10_driftOf 18 = .ok (.aload_n 0, 1) := by decide +kernel
theorem dX10_driftOf_19 : decode cX10_driftOf 19 = .ok (.aload_n 0, 1) := by decide +kernel
theorem dX10_driftOf_20 : decode cX10_driftOf 20 = .ok (.getfield 73, 3) := by decide +kernel
theorem dX10_driftOf_23 : decode cX10_driftOf 23 = .ok (.iload 4, 2) := by decide +kernel
theorem dX10_driftOf_25 : decode cX10_driftOf 25 = .ok (.aload_n 0, 1) := by decide +kernel
theorem dX10_driftOf_26 : decode cX10_driftOf 26 = .ok (.aload_n 0, 1) := by decide +kernel
theorem dX10_driftOf_27 : decode cX10_driftOf 27 = .ok (.getfield 73, 3) := by decide +kernel
theorem dX10_driftOf_30 : decode cX10_driftOf 30 = .ok (.bipush 62, 2) := by decide +kernel
theorem dX10_driftOf_32 : decode cX10_driftOf 32 = .ok (.iaload, 1) := by decide +kernel
theorem dX10_driftOf_33 : decode cX10_driftOf 33 = .ok (.iload 5, 2) := by decide +kernel
theorem dX10_driftOf_35 : decode cX10_driftOf 35 = .ok (.iadd, 1) := by decide +kernel
theorem dX10_driftOf_36 : decode cX10_driftOf 36 = .ok (.invokevirtual 276, 3) := by decide +kernel
theorem dX10_driftOf_39 : decode cX10_driftOf 39 = .ok (.invokevirtual 282, 3) := by decide +kernel
theorem dX10_driftOf_42 : decode cX10_driftOf 42 = .ok (.iload_n 2, 1) := by decide +kernel
theorem dX10_driftOf_43 : decode cX10_driftOf 43 = .ok (.if_icmp .lt 12, 3) := by decide +kernel
theorem dX10_driftOf_46 : decode cX10_driftOf 46 = .ok (.aload_n 0, 1) := by decide +kernel
theorem dX10_driftOf_47 : decode cX10_driftOf 47 = .ok (.iload 4, 2) := by decide +kernel
theorem dX10_driftOf_49 : decode cX10_driftOf 49 = .ok (.invokevirtual 310, 3) := by decide +kernel
theorem dX10_driftOf_52 : decode cX10_driftOf 52 = .ok (.goto 5, 3) := by decide +kernel
theorem dX10_driftOf_55 : decode cX10_driftOf 55 = .ok (.iload 4, 2) := by decide +kernel
theorem dX10_driftOf_57 : decode cX10_driftOf 57 = .ok (.istore 4, 2) := by decide +kernel
theorem dX10_driftOf_59 : decode cX10_driftOf 59 = .ok (.iinc 5 1, 3) := by decide +kernel
theorem dX10_driftOf_62 : decode cX10_driftOf 62 = .ok (.goto (-56), 3) := by decide +kernel
theorem dX10_driftOf_65 : decode cX10_driftOf 65 = .ok (.iload 4, 2) := by decide +kernel
theorem dX10_driftOf_67 : decode cX10_driftOf 67 = .ok (.ireturn, 1) := by decide +kernel
theorem dX10_drift_0 : decode cX10_drift 0 = .ok (.aload_n 0, 1) := by decide +kernel
theorem dX10_drift_1 : decode cX10_drift 1 = .ok (.iconst 0, 1) := by decide +kernel
theorem dX10_drift_2 : decode cX10_drift 2 = .ok (.putfield 103, 3) := by decide +kernel
theorem dX10_drift_5 : decode cX10_drift 5 = .ok (.aload_n 0, 1) := by decide +kernel
theorem dX10_drift_6 : decode cX10_drift 6 = .ok (.aload_n 0, 1) := by decide +kernel
theorem dX10_drift_7 : decode cX10_drift 7 = .ok (.iload_n 1, 1) := by decide +kernel
theorem dX10_drift_8 : decode cX10_drift 8 = .ok (.invokevirtual 347, 3) := by decide +kernel
theorem dX10_drift_11 : decode cX10_drift 11 = .ok (.ifCond .ne 7, 3) := by decide +kernel
theorem dX10_drift_14 : decode cX10_drift 14 = .ok (.iconst 1, 1) := by decide +kernel
theorem dX10_drift_15 : decode cX10_drift 15 = .ok (.goto 4, 3) := by decide +kernel
theorem dX10_drift_18 : decode cX10_drift 18 = .ok (.iconst 0, 1) := by decide +kernel
theorem dX10_drift_19 : decode cX10_drift 19 = .ok (.iconst 1, 1) := by decide +kernel
theorem dX10_drift_20 : decode cX10_drift 20 = .ok (.iconst 0, 1) := by decide +kernel
theorem dX10_drift_21 : decode cX10_drift 21 = .ok (.invokevirtual 186, 3) := by decide +kernel
theorem dX10_drift_24 : decode cX10_drift 24 = .ok (.ifCond .ne 37, 3) := by decide +kernel
theorem dX10_drift_27 : decode cX10_drift 27 = .ok (.aload_n 0, 1) := by decide +kernel
theorem dX10_drift_28 : decode cX10_drift 28 = .ok (.iload_n 2, 1) := by decide +kernel
theorem dX10_drift_29 : decode cX10_drift 29 = .ok (.iconst 1, 1) := by decide +kernel
theorem dX10_drift_30 : decode cX10_drift 30 = .ok (.bipush 20, 2) := by decide +kernel
theorem dX10_drift_32 : decode cX10_drift 32 = .ok (.invokestatic 137, 3) := by decide +kernel
theorem dX10_drift_35 : decode cX10_drift 35 = .ok (.ifCond .eq 13, 3) := by decide +kernel
theorem dX10_drift_38 : decode cX10_drift 38 = .ok (.iload_n 3, 1) := by decide +kernel
theorem dX10_drift_39 : decode cX10_drift 39 = .ok (.iconst 0, 1) := by decide +kernel
theorem dX10_drift_40 : decode cX10_drift 40 = .ok (.bipush 24, 2) := by decide +kernel
theorem dX10_drift_42 : decode cX10_drift 42 = .ok (.invokestatic 137, 3) := by decide +kernel
theorem dX10_drift_45 : decode cX10_drift 45 = .ok (.ifCond .ne 7, 3) := by decide +kernel
theorem dX10_drift_48 : decode cX10_drift 48 = .ok (.iconst 1, 1) := by decide +kernel
theorem dX10_drift_49 : decode cX10_drift 49 = .ok (.goto 4, 3) := by decide +kernel
theorem dX10_drift_52 : decode cX10_drift 52 = .ok (.iconst 0, 1) := by decide +kernel
theorem dX10_drift_53 : decode cX10_drift 53 = .ok (.iconst 2, 1) := by decide +kernel
theorem dX10_drift_54 : decode cX10_drift 54 = .ok (.iconst 1, 1) := by decide +kernel
theorem dX10_drift_55 : decode cX10_drift 55 = .ok (.invokevirtual 186, 3) := by decide +kernel
theorem dX10_drift_58 : decode cX10_drift 58 = .ok (.ifCond .eq 5, 3) := by decide +kernel
theorem dX10_drift_61 : decode cX10_drift 61 = .ok (.iconst 0, 1) := by decide +kernel
theorem dX10_drift_62 : decode cX10_drift 62 = .ok (.ireturn, 1) := by decide +kernel
theorem dX10_drift_63 : decode cX10_drift 63 = .ok (.aload_n 0, 1) := by decide +kernel
theorem dX10_drift_64 : decode cX10_drift 64 = .ok (.iload_n 1, 1) := by decide +kernel
theorem dX10_drift_65 : decode cX10_drift 65 = .ok (.iload_n 2, 1) := by decide +kernel
theorem dX10_drift_66 : decode cX10_drift 66 = .ok (.iload_n 3, 1) := by decide +kernel
theorem dX10_drift_67 : decode cX10_drift 67 = .ok (.invokevirtual 394, 3) := by decide +kernel
theorem dX10_drift_70 : decode cX10_drift 70 = .ok (.ireturn, 1) := by decide +kernel
theorem dX10_whence_0 : decode cX10_whence 0 = .ok (.aload_n 0, 1) := by decide +kernel
theorem dX10_whence_1 : decode cX10_whence 1 = .ok (.iconst 0, 1) := by decide +kernel
theorem dX10_whence_2 : decode cX10_whence 2 = .ok (.putfield 103, 3) := by decide +kernel
theorem dX10_whence_5 : decode cX10_whence 5 = .ok (.aload_n 0, 1) := by decide +kernel
theorem dX10_whence_6 : decode cX10_whence 6 = .ok (.aload_n 0, 1) := by decide +kernel
theorem dX10_whence_7 : decode cX10_whence 7 = .ok (.iload_n 1, 1) := by decide +kernel
theorem dX10_whence_8 : decode cX10_whence 8 = .ok (.invokevirtual 347, 3) := by decide +kernel
theorem dX10_whence_11 : decode cX10_whence 11 = .ok (.ifCond .ne 7, 3) := by decide +kernel
theorem dX10_whence_14 : decode cX10_whence 14 = .ok (.iconst 1, 1) := by decide +kernel
theorem dX10_whence_15 : decode cX10_whence 15 = .ok (.goto 4, 3) := by decide +kernel
theorem dX10_whence_18 : decode cX10_whence 18 = .ok (.iconst 0, 1) := by decide +kernel
theorem dX10_whence_19 : decode cX10_whence 19 = .ok (.iconst 1, 1) := by decide +kernel
theorem dX10_whence_20 : decode cX10_whence 20 = .ok (.iconst 0, 1) := by decide +kernel
theorem dX10_whence_21 : decode cX10_whence 21 = .ok (.invokevirtual 186, 3) := by decide +kernel
theorem dX10_whence_24 : decode cX10_whence 24 = .ok (.ifCond .ne 36, 3) := by decide +kernel
theorem dX10_whence_27 : decode cX10_whence 27 = .ok (.aload_n 0, 1) := by decide +kernel
theorem dX10_whence_28 : decode cX10_whence 28 = .ok (.iload_n 2, 1) := by decide +kernel
theorem dX10_whence_29 : decode cX10_whence 29 = .ok (.iconst 0, 1) := by decide +kernel
theorem dX10_whence_30 : decode cX10_whence 30 = .ok (.bipush 24, 2) := by decide +kernel
theorem dX10_whence_32 : decode cX10_whence 32 = .ok (.invokestatic 137, 3) := by decide +kernel
theorem dX10_whence_35 : decode cX10_whence 35 = .ok (.ifCond .eq 12, 3) := by decide +kernel
theorem dX10_whence_38 : decode cX10_whence 38 = .ok (.iload_n 3, 1) := by decide +kernel
theorem dX10_whence_39 : decode cX10_whence 39 = .ok (.iconst 0, 1) := by decide +kernel
theorem dX10_whence_40 : decode cX10_whence 40 = .ok (.iconst 2, 1) := by decide +kernel
theorem dX10_whence_41 : decode cX10_whence 41 = .ok (.invokestatic 137, 3) := by decide +kernel
theorem dX10_whence_44 : decode cX10_whence 44 = .ok (.ifCond .ne 7, 3) := by decide +kernel
theorem dX10_whence_47 : decode cX10_whence 47 = .ok (.iconst 1, 1) := by decide +kernel
theorem dX10_whence_48 : decode cX10_whence 48 = .ok (.goto 4, 3) := by decide +kernel
theorem dX10_whence_51 : decode cX10_whence 51 = .ok (.iconst 0, 1) := by decide +kernel
theorem dX10_whence_52 : decode cX10_whence 52 = .ok (.iconst 2, 1) := by decide +kernel
theorem dX10_whence_53 : decode cX10_whence 53 = .ok (.iconst 1, 1) := by decide +kernel
theorem dX10_whence_54 : decode cX10_whence 54 = .ok (.invokevirtual 186, 3) := by decide +kernel
theorem dX10_whence_57 : decode cX10_whence 57 = .ok (.ifCond .eq 5, 3) := by decide +kernel
theorem dX10_whence_60 : decode cX10_whence 60 = .ok (.iconst 0, 1) := by decide +kernel
theorem dX10_whence_61 : decode cX10_whence 61 = .ok (.ireturn, 1) := by decide +kernel
theorem dX10_whence_62 : decode cX10_whence 62 = .ok (.iconst 0, 1) := by decide +kernel
theorem dX10_whence_63 : decode cX10_whence 63 = .ok (.istore 4, 2) := by decide +kernel
theorem dX10_whence_65 : decode cX10_whence 65 = .ok (.iconst 0, 1) := by decide +kernel
theorem dX10_whence_66 : decode cX10_whence 66 = .ok (.istore 5, 2) := by decide +kernel
theorem dX10_whence_68 : decode cX10_whence 68 = .ok (.iconst (-1), 1) := by decide +kernel
theorem dX10_whence_69 : decode cX10_whence 69 = .ok (.istore 6, 2) := by decide +kernel
theorem dX10_whence_71 : decode cX10_whence 71 = .ok (.bipush 20, 2) := by decide +kernel
theorem dX10_whence_73 : decode cX10_whence 73 = .ok (.istore 7, 2) := by decide +kernel
theorem dX10_whence_75 : decode cX10_whence 75 = .ok (.iload 7, 2) := by decide +kernel
theorem dX10_whence_77 : decode cX10_whence 77 = .ok (.ifCond .le 61, 3) := by decide +kernel
theorem dX10_whence_80 : decode cX10_whence 80 = .ok (.iconst 0, 1) := by decide +kernel
theorem dX10_whence_81 : decode cX10_whence 81 = .ok (.istore 8, 2) := by decide +kernel
theorem dX10_whence_83 : decode cX10_whence 83 = .ok (.iload 8, 2) := by decide +kernel
theorem dX10_whence_85 : decode cX10_whence 85 = .ok (.aload_n 0, 1) := by decide +kernel
theorem dX10_whence_86 : decode cX10_whence 86 = .ok (.getfield 23, 3) := by decide +kernel
theorem dX10_whence_89 : decode cX10_whence 89 = .ok (.iconst 0, 1) := by decide +kernel
theorem dX10_whence_90 : decode cX10_whence 90 = .ok (.iaload, 1) := by decide +kernel
theorem dX10_whence_91 : decode cX10_whence 91 = .ok (.if_icmp .ge 41, 3) := by decide +kernel
theorem dX10_whence_94 : decode cX10_whence 94 = .ok (.aload_n 0, 1) := by decide +kernel
theorem dX10_whence_95 : decode cX10_whence 95 = .ok (.iload 8, 2) := by decide +kernel
theorem dX10_whence_97 : decode cX10_whence 97 = .ok (.iload 7, 2) := by decide +kernel
theorem dX10_whence_99 : decode cX10_whence 99 = .ok (.iload_n 2, 1) := by decide +kernel
theorem dX10_whence_100 : decode cX10_whence 100 = .ok (.invokevirtual 394, 3) := by decide +kernel
theorem dX10_whence_103 : decode cX10_whence 103 = .ok (.iload_n 1, 1) := by decide +kernel
theorem dX10_whence_104 : decode cX10_whence 104 = .ok (.if_icmp .eq 6, 3) := by decide +kernel
theorem dX10_whence_107 : decode cX10_whence 107 = .ok (.goto 19, 3) := by decide +kernel
theorem dX10_whence_110 : decode cX10_whence 110 = .ok (.iinc 4 1, 3) := by decide +kernel
theorem dX10_whence_113 : decode cX10_whence 113 = .ok (.iload 5, 2) := by decide +kernel
theorem dX10_whence_115 : decode cX10_whence 115 = .ok (.iconst 1, 1) := by decide +kernel
theorem dX10_whence_116 : decode cX10_whence 116 = .ok (.iload 8, 2) := by decide +kernel
theorem dX10_whence_118 : decode cX10_whence 118 = .ok (.ishl, 1) := by decide +kernel
theorem dX10_whence_119 : decode cX10_whence 119 = .ok (.ior, 1) := by decide +kernel
theorem dX10_whence_120 : decode cX10_whence 120 = .ok (.istore 5, 2) := by decide +kernel
theorem dX10_whence_122 : decode cX10_whence 122 = .ok (.iload 7, 2) := by decide +kernel
theorem dX10_whence_124 : decode cX10_whence 124 = .ok (.istore 6, 2) := by decide +kernel
theorem dX10_whence_126 : decode cX10_whence 126 = .ok (.iinc 8 1, 3) := by decide +kernel
theorem dX10_whence_129 : decode cX10_whence 129 = .ok (.goto (-46), 3) := by decide +kernel
theorem dX10_whence_132 : decode cX10_whence 132 = .ok (.iinc 7 (-1), 3) := by decide +kernel
theorem dX10_whence_135 : decode cX10_whence 135 = .ok (.goto (-60), 3) := by decide +kernel
theorem dX10_whence_138 : decode cX10_whence 138 = .ok (.iload_n 3, 1) := by decide +kernel
theorem dX10_whence_139 : decode cX10_whence 139 = .ok (.ifCond .ne 8, 3) := by decide +kernel
theorem dX10_whence_142 : decode cX10_whence 142 = .ok (.iload 4, 2) := by decide +kernel
theorem dX10_whence_144 : decode cX10_whence 144 = .ok (.goto 15, 3) := by decide +kernel
theorem dX10_whence_147 : decode cX10_whence 147 = .ok (.iload_n 3, 1) := by decide +kernel
theorem dX10_whence_148 : decode cX10_whence 148 = .ok (.iconst 1, 1) := by decide +kernel
theorem dX10_whence_149 : decode cX10_whence 149 = .ok (.if_icmp .ne 8, 3) := by decide +kernel
theorem dX10_whence_152 : decode cX10_whence 152 = .ok (.iload 5, 2) := by decide +kernel
theorem dX10_whence_154 : decode cX10_whence 154 = .ok (.goto 5, 3) := by decide +kernel
theorem dX10_whence_157 : decode cX10_whence 157 = .ok (.iload 6, 2) := by decide +kernel
theorem dX10_whence_159 : decode cX10_whence 159 = .ok (.ireturn, 1) := by decide +kernel
theorem dX10_gain_0 : decode cX10_gain 0 = .ok (.aload_n 0, 1) := by decide +kernel
theorem dX10_gain_1 : decode cX10_gain 1 = .ok (.iconst 0, 1) := by decide +kernel
theorem dX10_gain_2 : decode cX10_gain 2 = .ok (.putfield 103, 3) := by decide +kernel
theorem dX10_gain_5 : decode cX10_gain 5 = .ok (.aload_n 0, 1) := by decide +kernel
theorem dX10_gain_6 : decode cX10_gain 6 = .ok (.aload_n 0, 1) := by decide +kernel
theorem dX10_gain_7 : decode cX10_gain 7 = .ok (.iload_n 1, 1) := by decide +kernel
theorem dX10_gain_8 : decode cX10_gain 8 = .ok (.invokevirtual 347, 3) := by decide +kernel
theorem dX10_gain_11 : decode cX10_gain 11 = .ok (.ifCond .ne 7, 3) := by decide +kernel
theorem dX10_gain_14 : decode cX10_gain 14 = .ok (.iconst 1, 1) := by decide +kernel
theorem dX10_gain_15 : decode cX10_gain 15 = .ok (.goto 4, 3) := by decide +kernel
theorem dX10_gain_18 : decode cX10_gain 18 = .ok (.iconst 0, 1) := by decide +kernel
theorem dX10_gain_19 : decode cX10_gain 19 = .ok (.iconst 1, 1) := by decide +kernel
theorem dX10_gain_20 : decode cX10_gain 20 = .ok (.iconst 0, 1) := by decide +kernel
theorem dX10_gain_21 : decode cX10_gain 21 = .ok (.invokevirtual 186, 3) := by decide +kernel
theorem dX10_gain_24 : decode cX10_gain 24 = .ok (.ifCond .ne 36, 3) := by decide +kernel
theorem dX10_gain_27 : decode cX10_gain 27 = .ok (.aload_n 0, 1) := by decide +kernel
theorem dX10_gain_28 : decode cX10_gain 28 = .ok (.iload_n 2, 1) := by decide +kernel
theorem dX10_gain_29 : decode cX10_gain 29 = .ok (.iconst 0, 1) := by decide +kernel
theorem dX10_gain_30 : decode cX10_gain 30 = .ok (.bipush 60, 2) := by decide +kernel
theorem dX10_gain_32 : decode cX10_gain 32 = .ok (.invokestatic 137, 3) := by decide +kernel
theorem dX10_gain_35 : decode cX10_gain 35 = .ok (.ifCond .eq 12, 3) := by decide +kernel
theorem dX10_gain_38 : decode cX10_gain 38 = .ok (.iload_n 3, 1) := by decide +kernel
theorem dX10_gain_39 : decode cX10_gain 39 = .ok (.iconst 0, 1) := by decide +kernel
theorem dX10_gain_40 : decode cX10_gain 40 = .ok (.iconst 1, 1) := by decide +kernel
theorem dX10_gain_41 : decode cX10_gain 41 = .ok (.invokestatic 137, 3) := by decide +kernel
theorem dX10_gain_44 : decode cX10_gain 44 = .ok (.ifCond .ne 7, 3) := by decide +kernel
theorem dX10_gain_47 : decode cX10_gain 47 = .ok (.iconst 1, 1) := by decide +kernel
theorem dX10_gain_48 : decode cX10_gain 48 = .ok (.goto 4, 3) := by decide +kernel
theorem dX10_gain_51 : decode cX10_gain 51 = .ok (.iconst 0, 1) := by decide +kernel
theorem dX10_gain_52 : decode cX10_gain 52 = .ok (.iconst 2, 1) := by decide +kernel
theorem dX10_gain_53 : decode cX10_gain 53 = .ok (.iconst 1, 1) := by decide +kernel
theorem dX10_gain_54 : decode cX10_gain 54 = .ok (.invokevirtual 186, 3) := by decide +kernel
theorem dX10_gain_57 : decode cX10_gain 57 = .ok (.ifCond .eq 5, 3) := by decide +kernel
theorem dX10_gain_60 : decode cX10_gain 60 = .ok (.iconst 0, 1) := by decide +kernel
theorem dX10_gain_61 : decode cX10_gain 61 = .ok (.ireturn, 1) := by decide +kernel
theorem dX10_gain_62 : decode cX10_gain 62 = .ok (.iconst 0, 1) := by decide +kernel
theorem dX10_gain_63 : decode cX10_gain 63 = .ok (.istore 4, 2) := by decide +kernel
theorem dX10_gain_65 : decode cX10_gain 65 = .ok (.iconst 0, 1) := by decide +kernel
theorem dX10_gain_66 : decode cX10_gain 66 = .ok (.istore 5, 2) := by decide +kernel
theorem dX10_gain_68 : decode cX10_gain 68 = .ok (.iconst 0, 1) := by decide +kernel
theorem dX10_gain_69 : decode cX10_gain 69 = .ok (.istore 6, 2) := by decide +kernel
theorem dX10_gain_71 : decode cX10_gain 71 = .ok (.iload 6, 2) := by decide +kernel
theorem dX10_gain_73 : decode cX10_gain 73 = .ok (.iload_n 2, 1) := by decide +kernel
theorem dX10_gain_74 : decode cX10_gain 74 = .ok (.if_icmp .ge 45, 3) := by decide +kernel
theorem dX10_gain_77 : decode cX10_gain 77 = .ok (.iload 4, 2) := by decide +kernel
theorem dX10_gain_79 : decode cX10_gain 79 = .ok (.aload_n 0, 1) := by decide +kernel
theorem dX10_gain_80 : decode cX10_gain 80 = .ok (.aload_n 0, 1) := by decide +kernel
theorem dX10_gain_81 : decode cX10_gain 81 = .ok (.getfield 73, 3) := by decide +kernel
theorem dX10_gain_84 : decode cX10_gain 84 = .ok (.iload_n 1, 1) := by decide +kernel
theorem dX10_gain_85 : decode cX10_gain 85 = .ok (.aload_n 0, 1) := by decide +kernel
theorem dX10_gain_86 : decode cX10_gain 86 = .ok (.aload_n 0, 1) := by decide +kernel
theorem dX10_gain_87 : decode cX10_gain 87 = .ok (.getfield 73, 3) := by decide +kernel
theorem dX10_gain_90 : decode cX10_gain 90 = .ok (.bipush 62, 2) := by decide +kernel
theorem dX10_gain_92 : decode cX10_gain 92 = .ok (.iaload, 1) := by decide +kernel
theorem dX10_gain_93 : decode cX10_gain 93 = .ok (.iload 6, 2) := by decide +kernel
theorem dX10_gain_95 : decode cX10_gain 95 = .ok (.iadd, 1) := by decide +kernel
theorem dX10_gain_96 : decode cX10_gain 96 = .ok (.invokevirtual 276, 3) := by decide +kernel
theorem dX10_gain_99 : decode cX10_gain 99 = .ok (.invokevirtual 282, 3) := by decide +kernel
theorem dX10_gain_102 : decode cX10_gain 102 = .ok (.ifCond .le 7, 3) := by decide +kernel
theorem dX10_gain_105 : decode cX10_gain 105 = .ok (.iconst 1, 1) := by decide +kernel
theorem dX10_gain_106 : decode cX10_gain 106 = .ok (.goto 4, 3) := by decide +kernel
theorem dX10_gain_109 : decode cX10_gain 109 = .ok (.iconst 0, 1) := by decide +kernel
theorem dX10_gain_110 : decode cX10_gain 110 = .ok (.iadd, 1) := by decide +kernel
theorem dX10_gain_111 : decode cX10_gain 111 = .ok (.istore 4, 2) := by decide +kernel
theorem dX10_gain_113 : decode cX10_gain 113 = .ok (.iinc 6 1, 3) := by decide +kernel
theorem dX10_gain_116 : decode cX10_gain 116 = .ok (.goto (-45), 3) := by decide +kernel
theorem dX10_gain_119 : decode cX10_gain 119 = .ok (.iconst 0, 1) := by decide +kernel
theorem dX10_gain_120 : decode cX10_gain 120 = .ok (.istore 6, 2) := by decide +kernel
theorem dX10_gain_122 : decode cX10_gain 122 = .ok (.iload 6, 2) := by decide +kernel
theorem dX10_gain_124 : decode cX10_gain 124 = .ok (.aload_n 0, 1) := by decide +kernel
theorem dX10_gain_125 : decode cX10_gain 125 = .ok (.getfield 23, 3) := by decide +kernel
theorem dX10_gain_128 : decode cX10_gain 128 = .ok (.iconst 3, 1) := by decide +kernel
theorem dX10_gain_129 : decode cX10_gain 129 = .ok (.iaload, 1) := by decide +kernel
theorem dX10_gain_130 : decode cX10_gain 130 = .ok (.if_icmp .ge 33, 3) := by decide +kernel
theorem dX10_gain_133 : decode cX10_gain 133 = .ok (.iload 5, 2) := by decide +kernel
theorem dX10_gain_135 : decode cX10_gain 135 = .ok (.aload_n 0, 1) := by decide +kernel
theorem dX10_gain_136 : decode cX10_gain 136 = .ok (.getfield 49, 3) := by decide +kernel
theorem dX10_gain_139 : decode cX10_gain 139 = .ok (.iload 6, 2) := by decide +kernel
theorem dX10_gain_141 : decode cX10_gain 141 = .ok (.aaload, 1) := by decide +kernel
theorem dX10_gain_142 : decode cX10_gain 142 = .ok (.iconst 0, 1) := by decide +kernel
theorem dX10_gain_143 : decode cX10_gain 143 = .ok (.iaload, 1) := by decide +kernel
theorem dX10_gain_144 : decode cX10_gain 144 = .ok (.aload_n 0, 1) := by decide +kernel
theorem dX10_gain_145 : decode cX10_gain 145 = .ok (.getfield 49, 3) := by decide +kernel
theorem dX10_gain_148 : decode cX10_gain 148 = .ok (.iload 6, 2) := by decide +kernel
theorem dX10_gain_150 : decode cX10_gain 150 = .ok (.aaload, 1) := by decide +kernel
theorem dX10_gain_151 : decode cX10_gain 151 = .ok (.iconst 1, 1) := by decide +kernel
theorem dX10_gain_152 : decode cX10_gain 152 = .ok (.iaload, 1) := by decide +kernel
theorem dX10_gain_153 : decode cX10_gain 153 = .ok (.imul, 1) := by decide +kernel
theorem dX10_gain_154 : decode cX10_gain 154 = .ok (.iadd, 1) := by decide +kernel
theorem dX10_gain_155 : decode cX10_gain 155 = .ok (.istore 5, 2) := by decide +kernel
theorem dX10_gain_157 : decode cX10_gain 157 = .ok (.iinc 6 1, 3) := by decide +kernel
theorem dX10_gain_160 : decode cX10_gain 160 = .ok (.goto (-38), 3) := by decide +kernel
theorem dX10_gain_163 : decode cX10_gain 163 = .ok (.bipush 16, 2) := by decide +kernel
theorem dX10_gain_165 : decode cX10_gain 165 = .ok (.istore 6, 2) := by decide +kernel
theorem dX10_gain_167 : decode cX10_gain 167 = .ok (.iload 4, 2) := by decide +kernel
theorem dX10_gain_169 : decode cX10_gain 169 = .ok (.iload 5, 2) := by decide +kernel
theorem dX10_gain_171 : decode cX10_gain 171 = .ok (.imul, 1) := by decide +kernel
theorem dX10_gain_172 : decode cX10_gain 172 = .ok (.istore 7, 2) := by decide +kernel
theorem dX10_gain_174 : decode cX10_gain 174 = .ok (.iload 7, 2) := by decide +kernel
theorem dX10_gain_176 : decode cX10_gain 176 = .ok (.ifCond .eq 21, 3) := by decide +kernel
theorem dX10_gain_179 : decode cX10_gain 179 = .ok (.iload 6, 2) := by decide +kernel
theorem dX10_gain_181 : decode cX10_gain 181 = .ok (.iload 7, 2) := by decide +kernel
theorem dX10_gain_183 : decode cX10_gain 183 = .ok (.irem, 1) := by decide +kernel
theorem dX10_gain_184 : decode cX10_gain 184 = .ok (.istore 8, 2) := by decide +kernel
theorem dX10_gain_186 : decode cX10_gain 186 = .ok (.iload 7, 2) := by decide +kernel
theorem dX10_gain_188 : decode cX10_gain 188 = .ok (.istore 6, 2) := by decide +kernel
theorem dX10_gain_190 : decode cX10_gain 190 = .ok (.iload 8, 2) := by decide +kernel
theorem dX10_gain_192 : decode cX10_gain 192 = .ok (.istore 7, 2) := by decide +kernel
theorem dX10_gain_194 : decode cX10_gain 194 = .ok (.goto (-20), 3) := by decide +kernel
theorem dX10_gain_197 : decode cX10_gain 197 = .ok (.iload_n 3, 1) := by decide +kernel
theorem dX10_gain_198 : decode cX10_gain 198 = .ok (.ifCond .ne 14, 3) := by decide +kernel
theorem dX10_gain_201 : decode cX10_gain 201 = .ok (.iload 4, 2) := by decide +kernel
theorem dX10_gain_203 : decode cX10_gain 203 = .ok (.iload 5, 2) := by decide +kernel
theorem dX10_gain_205 : decode cX10_gain 205 = .ok (.imul, 1) := by decide +kernel
theorem dX10_gain_206 : decode cX10_gain 206 = .ok (.iload 6, 2) := by decide +kernel
theorem dX10_gain_208 : decode cX10_gain 208 = .ok (.idiv, 1) := by decide +kernel
theorem dX10_gain_209 : decode cX10_gain 209 = .ok (.goto 8, 3) := by decide +kernel
theorem dX10_gain_212 : decode cX10_gain 212 = .ok (.bipush 16, 2) := by decide +kernel
theorem dX10_gain_214 : decode cX10_gain 214 = .ok (.iload 6, 2) := by decide +kernel
theorem dX10_gain_216 : decode cX10_gain 216 = .ok (.idiv, 1) := by decide +kernel
theorem dX10_gain_217 : decode cX10_gain 217 = .ok (.ireturn, 1) := by decide +kernel
theorem dX10_givenBy_0 : decode cX10_givenBy 0 = .ok (.iconst 0, 1) := by decide +kernel
theorem dX10_givenBy_1 : decode cX10_givenBy 1 = .ok (.istore_n 3, 1) := by decide +kernel
theorem dX10_givenBy_2 : decode cX10_givenBy 2 = .ok (.iconst 0, 1) := by decide +kernel
theorem dX10_givenBy_3 : decode cX10_givenBy 3 = .ok (.istore 4, 2) := by decide +kernel
theorem dX10_givenBy_5 : decode cX10_givenBy 5 = .ok (.iload 4, 2) := by decide +kernel
theorem dX10_givenBy_7 : decode cX10_givenBy 7 = .ok (.aload_n 0, 1) := by decide +kernel
theorem dX10_givenBy_8 : decode cX10_givenBy 8 = .ok (.getfield 23, 3) := by decide +kernel
theorem dX10_givenBy_11 : decode cX10_givenBy 11 = .ok (.iconst 0, 1) := by decide +kernel
theorem dX10_givenBy_12 : decode cX10_givenBy 12 = .ok (.iaload, 1) := by decide +kernel
theorem dX10_givenBy_13 : decode cX10_givenBy 13 = .ok (.if_icmp .ge 39, 3) := by decide +kernel
theorem dX10_givenBy_16 : decode cX10_givenBy 16 = .ok (.iload_n 3, 1) := by decide +kernel
theorem dX10_givenBy_17 : decode cX10_givenBy 17 = .ok (.iload_n 1, 1) := by decide +kernel
theorem dX10_givenBy_18 : decode cX10_givenBy 18 = .ok (.iload 4, 2) := by decide +kernel
theorem dX10_givenBy_20 : decode cX10_givenBy 20 = .ok (.invokestatic 268, 3) := by decide +kernel
theorem dX10_givenBy_23 : decode cX10_givenBy 23 = .ok (.ifCond .eq 20, 3) := by decide +kernel
theorem dX10_givenBy_26 : decode cX10_givenBy 26 = .ok (.iload_n 2, 1) := by decide +kernel
theorem dX10_givenBy_27 : decode cX10_givenBy 27 = .ok (.aload_n 0, 1) := by decide +kernel
theorem dX10_givenBy_28 : decode cX10_givenBy 28 = .ok (.getfield 73, 3) := by decide +kernel
theorem dX10_givenBy_31 : decode cX10_givenBy 31 = .ok (.bipush 56, 2) := by decide +kernel
theorem dX10_givenBy_33 : decode cX10_givenBy 33 = .ok (.iload 4, 2) := by decide +kernel
theorem dX10_givenBy_35 : decode cX10_givenBy 35 = .ok (.iadd, 1) := by decide +kernel
theorem dX10_givenBy_36 : decode cX10_givenBy 36 = .ok (.iaload, 1) := by decide +kernel
theorem dX10_givenBy_37 : decode cX10_givenBy 37 = .ok (.invokestatic 249, 3) := by decide +kernel
theorem dX10_givenBy_40 : decode cX10_givenBy 40 = .ok (.goto 4, 3) := by decide +kernel
theorem dX10_givenBy_43 : decode cX10_givenBy 43 = .ok (.iconst 0, 1) := by decide +kernel
theorem dX10_givenBy_44 : decode cX10_givenBy 44 = .ok (.iadd, 1) := by decide +kernel
theorem dX10_givenBy_45 : decode cX10_givenBy 45 = .ok (.istore_n 3, 1) := by decide +kernel
theorem dX10_givenBy_46 : decode cX10_givenBy 46 = .ok (.iinc 4 1, 3) := by decide +kernel
theorem dX10_givenBy_49 : decode cX10_givenBy 49 = .ok (.goto (-44), 3) := by decide +kernel
theorem dX10_givenBy_52 : decode cX10_givenBy 52 = .ok (.iload_n 3, 1) := by decide +kernel
theorem dX10_givenBy_53 : decode cX10_givenBy 53 = .ok (.ireturn, 1) := by decide +kernel
theorem dX10_share_0 : decode cX10_share 0 = .ok (.aload_n 0, 1) := by decide +kernel
theorem dX10_share_1 : decode cX10_share 1 = .ok (.iconst 0, 1) := by decide +kernel
theorem dX10_share_2 : decode cX10_share 2 = .ok (.putfield 103, 3) := by decide +kernel
theorem dX10_share_5 : decode cX10_share 5 = .ok (.aload_n 0, 1) := by decide +kernel
theorem dX10_share_6 : decode cX10_share 6 = .ok (.aload_n 0, 1) := by decide +kernel
theorem dX10_share_7 : decode cX10_share 7 = .ok (.iload_n 1, 1) := by decide +kernel
theorem dX10_share_8 : decode cX10_share 8 = .ok (.invokevirtual 347, 3) := by decide +kernel
theorem dX10_share_11 : decode cX10_share 11 = .ok (.ifCond .ne 7, 3) := by decide +kernel
theorem dX10_share_14 : decode cX10_share 14 = .ok (.iconst 1, 1) := by decide +kernel
theorem dX10_share_15 : decode cX10_share 15 = .ok (.goto 4, 3) := by decide +kernel
theorem dX10_share_18 : decode cX10_share 18 = .ok (.iconst 0, 1) := by decide +kernel
theorem dX10_share_19 : decode cX10_share 19 = .ok (.iconst 1, 1) := by decide +kernel
theorem dX10_share_20 : decode cX10_share 20 = .ok (.iconst 0, 1) := by decide +kernel
theorem dX10_share_21 : decode cX10_share 21 = .ok (.invokevirtual 186, 3) := by decide +kernel
theorem dX10_share_24 : decode cX10_share 24 = .ok (.ifCond .ne 36, 3) := by decide +kernel
theorem dX10_share_27 : decode cX10_share 27 = .ok (.aload_n 0, 1) := by decide +kernel
theorem dX10_share_28 : decode cX10_share 28 = .ok (.aload_n 0, 1) := by decide +kernel
theorem dX10_share_29 : decode cX10_share 29 = .ok (.iload_n 2, 1) := by decide +kernel
theorem dX10_share_30 : decode cX10_share 30 = .ok (.invokevirtual 362, 3) := by decide +kernel
theorem dX10_share_33 : decode cX10_share 33 = .ok (.ifCond .eq 14, 3) := by decide +kernel
theorem dX10_share_36 : decode cX10_share 36 = .ok (.iload_n 3, 1) := by decide +kernel
theorem dX10_share_37 : decode cX10_share 37 = .ok (.iconst 0, 1) := by decide +kernel
theorem dX10_share_38 : decode cX10_share 38 = .ok (.sipush 999, 3) := by decide +kernel
theorem dX10_share_41 : decode cX10_share 41 = .ok (.invokestatic 137, 3) := by decide +kernel
theorem dX10_share_44 : decode cX10_share 44 = .ok (.ifCond .ne 7, 3) := by decide +kernel
theorem dX10_share_47 : decode cX10_share 47 = .ok (.iconst 1, 1) := by decide +kernel
theorem dX10_share_48 : decode cX10_share 48 = .ok (.goto 4, 3) := by decide +kernel
theorem dX10_share_51 : decode cX10_share 51 = .ok (.iconst 0, 1) := by decide +kernel
theorem dX10_share_52 : decode cX10_share 52 = .ok (.iconst 2, 1) := by decide +kernel
theorem dX10_share_53 : decode cX10_share 53 = .ok (.iconst 1, 1) := by decide +kernel
theorem dX10_share_54 : decode cX10_share 54 = .ok (.invokevirtual 186, 3) := by decide +kernel
theorem dX10_share_57 : decode cX10_share 57 = .ok (.ifCond .eq 5, 3) := by decide +kernel
theorem dX10_share_60 : decode cX10_share 60 = .ok (.iconst 0, 1) := by decide +kernel
theorem dX10_share_61 : decode cX10_share 61 = .ok (.ireturn, 1) := by decide +kernel
theorem dX10_share_62 : decode cX10_share 62 = .ok (.iload_n 2, 1) := by decide +kernel
theorem dX10_share_63 : decode cX10_share 63 = .ok (.iload_n 1, 1) := by decide +kernel
theorem dX10_share_64 : decode cX10_share 64 = .ok (.invokestatic 268, 3) := by decide +kernel
theorem dX10_share_67 : decode cX10_share 67 = .ok (.ifCond .ne 5, 3) := by decide +kernel
theorem dX10_share_70 : decode cX10_share 70 = .ok (.iconst 0, 1) := by decide +kernel
theorem dX10_share_71 : decode cX10_share 71 = .ok (.ireturn, 1) := by decide +kernel
theorem dX10_share_72 : decode cX10_share 72 = .ok (.aload_n 0, 1) := by decide +kernel
theorem dX10_share_73 : decode cX10_share 73 = .ok (.iload_n 2, 1) := by decide +kernel
theorem dX10_share_74 : decode cX10_share 74 = .ok (.aload_n 0, 1) := by decide +kernel
theorem dX10_share_75 : decode cX10_share 75 = .ok (.aload_n 0, 1) := by decide +kernel
theorem dX10_share_76 : decode cX10_share 76 = .ok (.getfield 73, 3) := by decide +kernel
theorem dX10_share_79 : decode cX10_share 79 = .ok (.invokevirtual 344, 3) := by decide +kernel
theorem dX10_share_82 : decode cX10_share 82 = .ok (.invokevirtual 397, 3) := by decide +kernel
theorem dX10_share_85 : decode cX10_share 85 = .ok (.iload_n 3, 1) := by decide +kernel
theorem dX10_share_86 : decode cX10_share 86 = .ok (.if_icmp .gt 13, 3) := by decide +kernel
theorem dX10_share_89 : decode cX10_share 89 = .ok (.aload_n 0, 1) := by decide +kernel
theorem dX10_share_90 : decode cX10_share 90 = .ok (.getfield 73, 3) := by decide +kernel
theorem dX10_share_93 : decode cX10_share 93 = .ok (.bipush 56, 2) := by decide +kernel
theorem dX10_share_95 : decode cX10_share 95 = .ok (.iload_n 1, 1) := by decide +kernel
theorem dX10_share_96 : decode cX10_share 96 = .ok (.iadd, 1) := by decide +kernel
theorem dX10_share_97 : decode cX10_share 97 = .ok (.iaload, 1) := by decide +kernel
theorem dX10_share_98 : decode cX10_share 98 = .ok (.ireturn, 1) := by decide +kernel
theorem dX10_share_99 : decode cX10_share 99 = .ok (.iconst 0, 1) := by decide +kernel
theorem dX10_share_100 : decode cX10_share 100 = .ok (.istore 4, 2) := by decide +kernel
theorem dX10_share_102 : decode cX10_share 102 = .ok (.aload_n 0, 1) := by decide +kernel
theorem dX10_share_103 : decode cX10_share 103 = .ok (.iload_n 2, 1) := by decide +kernel
theorem dX10_share_104 : decode cX10_share 104 = .ok (.iload 4, 2) := by decide +kernel
theorem dX10_share_106 : decode cX10_share 106 = .ok (.iconst 1, 1) := by decide +kernel
theorem dX10_share_107 : decode cX10_share 107 = .ok (.iadd, 1) := by decide +kernel
theorem dX10_share_108 : decode cX10_share 108 = .ok (.invokevirtual 397, 3) := by decide +kernel
theorem dX10_share_111 : decode cX10_share 111 = .ok (.iload_n 3, 1) := by decide +kernel
theorem dX10_share_112 : decode cX10_share 112 = .ok (.if_icmp .gt 9, 3) := by decide +kernel
theorem dX10_share_115 : decode cX10_share 115 = .ok (.iinc 4 1, 3) := by decide +kernel
theorem dX10_share_118 : decode cX10_share 118 = .ok (.goto (-16), 3) := by decide +kernel
theorem dX10_share_121 : decode cX10_share 121 = .ok (.iload 4, 2) := by decide +kernel
theorem dX10_share_123 : decode cX10_share 123 = .ok (.aload_n 0, 1) := by decide +kernel
theorem dX10_share_124 : decode cX10_share 124 = .ok (.getfield 73, 3) := by decide +kernel
theorem dX10_share_127 : decode cX10_share 127 = .ok (.bipush 56, 2) := by decide +kernel
theorem dX10_share_129 : decode cX10_share 129 = .ok (.iload_n 1, 1) := by decide +kernel
theorem dX10_share_130 : decode cX10_share 130 = .ok (.iadd, 1) := by decide +kernel
theorem dX10_share_131 : decode cX10_share 131 = .ok (.iaload, 1) := by decide +kernel
theorem dX10_share_132 : decode cX10_share 132 = .ok (.invokestatic 249, 3) := by decide +kernel
theorem dX10_share_135 : decode cX10_share 135 = .ok (.ireturn, 1) := by decide +kernel
theorem dX10_yearBy_0 : decode cX10_yearBy 0 = .ok (.aload_n 0, 1) := by decide +kernel
theorem dX10_yearBy_1 : decode cX10_yearBy 1 = .ok (.getfield 73, 3) := by decide +kernel
theorem dX10_yearBy_4 : decode cX10_yearBy 4 = .ok (.aload_n 0, 1) := by decide +kernel
theorem dX10_yearBy_5 : decode cX10_yearBy 5 = .ok (.getfield 76, 3) := by decide +kernel
theorem dX10_yearBy_8 : decode cX10_yearBy 8 = .ok (.invokestatic 333, 3) := by decide +kernel
theorem dX10_yearBy_11 : decode cX10_yearBy 11 = .ok (.aload_n 0, 1) := by decide +kernel
theorem dX10_yearBy_12 : decode cX10_yearBy 12 = .ok (.iload_n 1, 1) := by decide +kernel
theorem dX10_yearBy_13 : decode cX10_yearBy 13 = .ok (.putfield 400, 3) := by decide +kernel
theorem dX10_yearBy_16 : decode cX10_yearBy 16 = .ok (.aload_n 0, 1) := by decide +kernel
theorem dX10_yearBy_17 : decode cX10_yearBy 17 = .ok (.iconst 0, 1) := by decide +kernel
theorem dX10_yearBy_18 : decode cX10_yearBy 18 = .ok (.putfield 403, 3) := by decide +kernel
theorem dX10_yearBy_21 : decode cX10_yearBy 21 = .ok (.iconst 0, 1) := by decide +kernel
theorem dX10_yearBy_22 : decode cX10_yearBy 22 = .ok (.istore 5, 2) := by decide +kernel
theorem dX10_yearBy_24 : decode cX10_yearBy 24 = .ok (.iload 5, 2) := by decide +kernel
theorem dX10_yearBy_26 : decode cX10_yearBy 26 = .ok (.iload_n 2, 1) := by decide +kernel
theorem dX10_yearBy_27 : decode cX10_yearBy 27 = .ok (.if_icmp .ge 85, 3) := by decide +kernel
theorem dX10_yearBy_30 : decode cX10_yearBy 30 = .ok (.aload_n 0, 1) := by decide +kernel
theorem dX10_yearBy_31 : decode cX10_yearBy 31 = .ok (.aload_n 0, 1) := by decide +kernel
theorem dX10_yearBy_32 : decode cX10_yearBy 32 = .ok (.getfield 400, 3) := by decide +kernel
theorem dX10_yearBy_35 : decode cX10_yearBy 35 = .ok (.ldc_w 406, 3) := by decide +kernel
theorem dX10_yearBy_38 : decode cX10_yearBy 38 = .ok (.imul, 1) := by decide +kernel
theorem dX10_yearBy_39 : decode cX10_yearBy 39 = .ok (.sipush 12345, 3) := by decide +kernel
theorem dX10_yearBy_42 : decode cX10_yearBy 42 = .ok (.iadd, 1) := by decide +kernel
theorem dX10_yearBy_43 : decode cX10_yearBy 43 = .ok (.putfield 400, 3) := by decide +kernel
theorem dX10_yearBy_46 : decode cX10_yearBy 46 = .ok (.aload_n 0, 1) := by decide +kernel
theorem dX10_yearBy_47 : decode cX10_yearBy 47 = .ok (.aload_n 0, 1) := by decide +kernel
theorem dX10_yearBy_48 : decode cX10_yearBy 48 = .ok (.getfield 400, 3) := by decide +kernel
theorem dX10_yearBy_51 : decode cX10_yearBy 51 = .ok (.bipush 16, 2) := by decide +kernel
theorem dX10_yearBy_53 : decode cX10_yearBy 53 = .ok (.ishr, 1) := by decide +kernel
theorem dX10_yearBy_54 : decode cX10_yearBy 54 = .ok (.bipush 15, 2) := by decide +kernel
theorem dX10_yearBy_56 : decode cX10_yearBy 56 = .ok (.iand, 1) := by decide +kernel
theorem dX10_yearBy_57 : decode cX10_yearBy 57 = .ok (.iload_n 3, 1) := by decide +kernel
theorem dX10_yearBy_58 : decode cX10_yearBy 58 = .ok (.if_icmp .ge 8, 3) := by decide +kernel
theorem dX10_yearBy_61 : decode cX10_yearBy 61 = .ok (.iload 4, 2) := by decide +kernel
theorem dX10_yearBy_63 : decode cX10_yearBy 63 = .ok (.goto 4, 3) := by decide +kernel
theorem dX10_yearBy_66 : decode cX10_yearBy 66 = .ok (.iconst 0, 1) := by decide +kernel
theorem dX10_yearBy_67 : decode cX10_yearBy 67 = .ok (.putfield 279, 3) := by decide +kernel
theorem dX10_yearBy_70 : decode cX10_yearBy 70 = .ok (.aload_n 0, 1) := by decide +kernel
theorem dX10_yearBy_71 : decode cX10_yearBy 71 = .ok (.dup, 1) := by decide +kernel
theorem dX10_yearBy_72 : decode cX10_yearBy 72 = .ok (.getfield 403, 3) := by decide +kernel
theorem dX10_yearBy_75 : decode cX10_yearBy 75 = .ok (.aload_n 0, 1) := by decide +kernel
theorem dX10_yearBy_76 : decode cX10_yearBy 76 = .ok (.getfield 400, 3) := by decide +kernel
theorem dX10_yearBy_79 : decode cX10_yearBy 79 = .ok (.bipush 16, 2) := by decide +kernel
theorem dX10_yearBy_81 : decode cX10_yearBy 81 = .ok (.ishr, 1) := by decide +kernel
theorem dX10_yearBy_82 : decode cX10_yearBy 82 = .ok (.bipush 15, 2) := by decide +kernel
theorem dX10_yearBy_84 : decode cX10_yearBy 84 = .ok (.iand, 1) := by decide +kernel
theorem dX10_yearBy_85 : decode cX10_yearBy 85 = .ok (.iload_n 3, 1) := by decide +kernel
theorem dX10_yearBy_86 : decode cX10_yearBy 86 = .ok (.if_icmp .ge 7, 3) := by decide +kernel
theorem dX10_yearBy_89 : decode cX10_yearBy 89 = .ok (.iconst 1, 1) := by decide +kernel
theorem dX10_yearBy_90 : decode cX10_yearBy 90 = .ok (.goto 4, 3) := by decide +kernel
theorem dX10_yearBy_93 : decode cX10_yearBy 93 = .ok (.iconst 0, 1) := by decide +kernel
theorem dX10_yearBy_94 : decode cX10_yearBy 94 = .ok (.iadd, 1) := by decide +kernel
theorem dX10_yearBy_95 : decode cX10_yearBy 95 = .ok (.putfield 403, 3) := by decide +kernel
theorem dX10_yearBy_98 : decode cX10_yearBy 98 = .ok (.aload_n 0, 1) := by decide +kernel
theorem dX10_yearBy_99 : decode cX10_yearBy 99 = .ok (.aload_n 0, 1) := by decide +kernel
theorem dX10_yearBy_100 : decode cX10_yearBy 100 = .ok (.getfield 76, 3) := by decide +kernel
theorem dX10_yearBy_103 : decode cX10_yearBy 103 = .ok (.invokevirtual 317, 3) := by decide +kernel
theorem dX10_yearBy_106 : decode cX10_yearBy 106 = .ok (.iinc 5 1, 3) := by decide +kernel
theorem dX10_yearBy_109 : decode cX10_yearBy 109 = .ok (.goto (-85), 3) := by decide +kernel
theorem dX10_yearBy_112 : decode cX10_yearBy 112 = .ok (.aload_n 0, 1) := by decide +kernel
theorem dX10_yearBy_113 : decode cX10_yearBy 113 = .ok (.iconst 0, 1) := by decide +kernel
theorem dX10_yearBy_114 : decode cX10_yearBy 114 = .ok (.putfield 279, 3) := by decide +kernel
theorem dX10_yearBy_117 : decode cX10_yearBy 117 = .ok (.return_, 1) := by decide +kernel
theorem dX10_isYear_0 : decode cX10_isYear 0 = .ok (.iload_n 0, 1) := by decide +kernel
theorem dX10_isYear_1 : decode cX10_isYear 1 = .ok (.iconst 1, 1) := by decide +kernel
theorem dX10_isYear_2 : decode cX10_isYear 2 = .ok (.bipush 96, 2) := by decide +kernel
theorem dX10_isYear_4 : decode cX10_isYear 4 = .ok (.invokestatic 137, 3) := by decide +kernel
theorem dX10_isYear_7 : decode cX10_isYear 7 = .ok (.ifCond .eq 27, 3) := by decide +kernel
theorem dX10_isYear_10 : decode cX10_isYear 10 = .ok (.iload_n 1, 1) := by decide +kernel
theorem dX10_isYear_11 : decode cX10_isYear 11 = .ok (.iconst 0, 1) := by decide +kernel
theorem dX10_isYear_12 : decode cX10_isYear 12 = .ok (.bipush 16, 2) := by decide +kernel
theorem dX10_isYear_14 : decode cX10_isYear 14 = .ok (.invokestatic 137, 3) := by decide +kernel
theorem dX10_isYear_17 : decode cX10_isYear 17 = .ok (.ifCond .eq 17, 3) := by decide +kernel
theorem dX10_isYear_20 : decode cX10_isYear 20 = .ok (.iload_n 2, 1) := by decide +kernel
theorem dX10_isYear_21 : decode cX10_isYear 21 = .ok (.iconst 0, 1) := by decide +kernel
theorem dX10_isYear_22 : decode cX10_isYear 22 = .ok (.bipush 20, 2) := by decide +kernel
theorem dX10_isYear_24 : decode cX10_isYear 24 = .ok (.invokestatic 137, 3) := by decide +kernel
theorem dX10_isYear_27 : decode cX10_isYear 27 = .ok (.ifCond .eq 7, 3) := by decide +kernel
theorem dX10_isYear_30 : decode cX10_isYear 30 = .ok (.iconst 1, 1) := by decide +kernel
theorem dX10_isYear_31 : decode cX10_isYear 31 = .ok (.goto 4, 3) := by decide +kernel
theorem dX10_isYear_34 : decode cX10_isYear 34 = .ok (.iconst 0, 1) := by decide +kernel
theorem dX10_isYear_35 : decode cX10_isYear 35 = .ok (.ireturn, 1) := by decide +kernel
theorem dX10_year_0 : decode cX10_year 0 = .ok (.aload_n 0, 1) := by decide +kernel
theorem dX10_year_1 : decode cX10_year 1 = .ok (.iconst 0, 1) := by decide +kernel
theorem dX10_year_2 : decode cX10_year 2 = .ok (.putfield 103, 3) := by decide +kernel
theorem dX10_year_5 : decode cX10_year 5 = .ok (.aload_n 0, 1) := by decide +kernel
theorem dX10_year_6 : decode cX10_year 6 = .ok (.iload_n 2, 1) := by decide +kernel
theorem dX10_year_7 : decode cX10_year 7 = .ok (.iload_n 3, 1) := by decide +kernel
theorem dX10_year_8 : decode cX10_year 8 = .ok (.iload 4, 2) := by decide +kernel
theorem dX10_year_10 : decode cX10_year 10 = .ok (.invokestatic 407, 3) := by decide +kernel
theorem dX10_year_13 : decode cX10_year 13 = .ok (.ifCond .eq 13, 3) := by decide +kernel
theorem dX10_year_16 : decode cX10_year 16 = .ok (.iload 5, 2) := by decide +kernel
theorem dX10_year_18 : decode cX10_year 18 = .ok (.iconst 0, 1) := by decide +kernel
theorem dX10_year_19 : decode cX10_year 19 = .ok (.iconst 3, 1) := by decide +kernel
theorem dX10_year_20 : decode cX10_year 20 = .ok (.invokestatic 137, 3) := by decide +kernel
theorem dX10_year_23 : decode cX10_year 23 = .ok (.ifCond .ne 7, 3) := by decide +kernel
theorem dX10_year_26 : decode cX10_year 26 = .ok (.iconst 1, 1) := by decide +kernel
theorem dX10_year_27 : decode cX10_year 27 = .ok (.goto 4, 3) := by decide +kernel
theorem dX10_year_30 : decode cX10_year 30 = .ok (.iconst 0, 1) := by decide +kernel
theorem dX10_year_31 : decode cX10_year 31 = .ok (.iconst 1, 1) := by decide +kernel
theorem dX10_year_32 : decode cX10_year 32 = .ok (.iconst 1, 1) := by decide +kernel
theorem dX10_year_33 : decode cX10_year 33 = .ok (.invokevirtual 186, 3) := by decide +kernel
theorem dX10_year_36 : decode cX10_year 36 = .ok (.ifCond .eq 5, 3) := by decide +kernel
theorem dX10_year_39 : decode cX10_year 39 = .ok (.iconst 0, 1) := by decide +kernel
theorem dX10_year_40 : decode cX10_year 40 = .ok (.ireturn, 1) := by decide +kernel
theorem dX10_year_41 : decode cX10_year 41 = .ok (.aload_n 0, 1) := by decide +kernel
theorem dX10_year_42 : decode cX10_year 42 = .ok (.iload_n 1, 1) := by decide +kernel
theorem dX10_year_43 : decode cX10_year 43 = .ok (.iload_n 2, 1) := by decide +kernel
theorem dX10_year_44 : decode cX10_year 44 = .ok (.iload_n 3, 1) := by decide +kernel
theorem dX10_year_45 : decode cX10_year 45 = .ok (.iload 4, 2) := by decide +kernel
theorem dX10_year_47 : decode cX10_year 47 = .ok (.invokevirtual 410, 3) := by decide +kernel
theorem dX10_year_50 : decode cX10_year 50 = .ok (.iload 5, 2) := by decide +kernel
theorem dX10_year_52 : decode cX10_year 52 = .ok (.tableswitch 64 0 2 #[28, 37, 55], 28) := by decide +kernel
theorem dX10_year_80 : decode cX10_year 80 = .ok (.aload_n 0, 1) := by decide +kernel
theorem dX10_year_81 : decode cX10_year 81 = .ok (.aload_n 0, 1) := by decide +kernel
theorem dX10_year_82 : decode cX10_year 82 = .ok (.getfield 76, 3) := by decide +kernel
theorem dX10_year_85 : decode cX10_year 85 = .ok (.invokevirtual 341, 3) := by decide +kernel
theorem dX10_year_88 : decode cX10_year 88 = .ok (.ireturn, 1) := by decide +kernel
theorem dX10_year_89 : decode cX10_year 89 = .ok (.aload_n 0, 1) := by decide +kernel
theorem dX10_year_90 : decode cX10_year 90 = .ok (.aload_n 0, 1) := by decide +kernel
theorem dX10_year_91 : decode cX10_year 91 = .ok (.getfield 76, 3) := by decide +kernel
theorem dX10_year_94 : decode cX10_year 94 = .ok (.invokevirtual 344, 3) := by decide +kernel
theorem dX10_year_97 : decode cX10_year 97 = .ok (.aload_n 0, 1) := by decide +kernel
theorem dX10_year_98 : decode cX10_year 98 = .ok (.aload_n 0, 1) := by decide +kernel
theorem dX10_year_99 : decode cX10_year 99 = .ok (.getfield 73, 3) := by decide +kernel
theorem dX10_year_102 : decode cX10_year 102 = .ok (.invokevirtual 344, 3) := by decide +kernel
theorem dX10_year_105 : decode cX10_year 105 = .ok (.isub, 1) := by decide +kernel
theorem dX10_year_106 : decode cX10_year 106 = .ok (.ireturn, 1) := by decide +kernel
theorem dX10_year_107 : decode cX10_year 107 = .ok (.aload_n 0, 1) := by decide +kernel
theorem dX10_year_108 : decode cX10_year 108 = .ok (.aload_n 0, 1) := by decide +kernel
theorem dX10_year_109 : decode cX10_year 109 = .ok (.getfield 76, 3) := by decide +kernel
theorem dX10_year_112 : decode cX10_year 112 = .ok (.invokevirtual 337, 3) := by decide +kernel
theorem dX10_year_115 : decode cX10_year 115 = .ok (.ireturn, 1) := by decide +kernel
theorem dX10_year_116 : decode cX10_year 116 = .ok (.aload_n 0, 1) := by decide +kernel
theorem dX10_year_117 : decode cX10_year 117 = .ok (.getfield 403, 3) := by decide +kernel
theorem dX10_year_120 : decode cX10_year 120 = .ok (.ireturn, 1) := by decide +kernel
theorem dX10_span_0 : decode cX10_span 0 = .ok (.aload_n 0, 1) := by decide +kernel
theorem dX10_span_1 : decode cX10_span 1 = .ok (.iconst 0, 1) := by decide +kernel
theorem dX10_span_2 : decode cX10_span 2 = .ok (.putfield 103, 3) := by decide +kernel
theorem dX10_span_5 : decode cX10_span 5 = .ok (.aload_n 0, 1) := by decide +kernel
theorem dX10_span_6 : decode cX10_span 6 = .ok (.iload_n 2, 1) := by decide +kernel
theorem dX10_span_7 : decode cX10_span 7 = .ok (.iconst 1, 1) := by decide +kernel
theorem dX10_span_8 : decode cX10_span 8 = .ok (.bipush 20, 2) := by decide +kernel
theorem dX10_span_10 : decode cX10_span 10 = .ok (.invokestatic 137, 3) := by decide +kernel
theorem dX10_span_13 : decode cX10_span 13 = .ok (.ifCond .eq 33, 3) := by decide +kernel
theorem dX10_span_16 : decode cX10_span 16 = .ok (.iload_n 3, 1) := by decide +kernel
theorem dX10_span_17 : decode cX10_span 17 = .ok (.iload 4, 2) := by decide +kernel
theorem dX10_span_19 : decode cX10_span 19 = .ok (.iload 5, 2) := by decide +kernel
theorem dX10_span_21 : decode cX10_span 21 = .ok (.invokestatic 407, 3) := by decide +kernel
theorem dX10_span_24 : decode cX10_span 24 = .ok (.ifCond .eq 22, 3) := by decide +kernel
theorem dX10_span_27 : decode cX10_span 27 = .ok (.iload 6, 2) := by decide +kernel
theorem dX10_span_29 : decode cX10_span 29 = .ok (.iconst 0, 1) := by decide +kernel
theorem dX10_span_30 : decode cX10_span 30 = .ok (.iconst 2, 1) := by decide +kernel
theorem dX10_span_31 : decode cX10_span 31 = .ok (.invokestatic 137, 3) := by decide +kernel
theorem dX10_span_34 : decode cX10_span 34 = .ok (.ifCond .eq 12, 3) := by decide +kernel
theorem dX10_span_37 : decode cX10_span 37 = .ok (.aload_n 0, 1) := by decide +kernel
theorem dX10_span_38 : decode cX10_span 38 = .ok (.iload 7, 2) := by decide +kernel
theorem dX10_span_40 : decode cX10_span 40 = .ok (.invokevirtual 350, 3) := by decide +kernel
theorem dX10_span_43 : decode cX10_span 43 = .ok (.ifCond .ne 7, 3) := by decide +kernel
theorem dX10_span_46 : decode cX10_span 46 = .ok (.iconst 1, 1) := by decide +kernel
theorem dX10_span_47 : decode cX10_span 47 = .ok (.goto 4, 3) := by decide +kernel
theorem dX10_span_50 : decode cX10_span 50 = .ok (.iconst 0, 1) := by decide +kernel
theorem dX10_span_51 : decode cX10_span 51 = .ok (.iconst 1, 1) := by decide +kernel
theorem dX10_span_52 : decode cX10_span 52 = .ok (.iconst 1, 1) := by decide +kernel
theorem dX10_span_53 : decode cX10_span 53 = .ok (.invokevirtual 186, 3) := by decide +kernel
theorem dX10_span_56 : decode cX10_span 56 = .ok (.ifCond .eq 5, 3) := by decide +kernel
theorem dX10_span_59 : decode cX10_span 59 = .ok (.iconst 0, 1) := by decide +kernel
theorem dX10_span_60 : decode cX10_span 60 = .ok (.ireturn, 1) := by decide +kernel
theorem dX10_span_61 : decode cX10_span 61 = .ok (.iconst (-1), 1) := by decide +kernel
theorem dX10_span_62 : decode cX10_span 62 = .ok (.istore 8, 2) := by decide +kernel
theorem dX10_span_64 : decode cX10_span 64 = .ok (.iconst 0, 1) := by decide +kernel
theorem dX10_span_65 : decode cX10_span 65 = .ok (.istore 9, 2) := by decide +kernel
theorem dX10_span_67 : decode cX10_span 67 = .ok (.iconst 0, 1) := by decide +kernel
theorem dX10_span_68 : decode cX10_span 68 = .ok (.istore 10, 2) := by decide +kernel
theorem dX10_span_70 : decode cX10_span 70 = .ok (.iconst 0, 1) := by decide +kernel
theorem dX10_span_71 : decode cX10_span 71 = .ok (.istore 11, 2) := by decide +kernel
theorem dX10_span_73 : decode cX10_span 73 = .ok (.iload 11, 2) := by decide +kernel
theorem dX10_span_75 : decode cX10_span 75 = .ok (.iload_n 2, 1) := by decide +kernel
theorem dX10_span_76 : decode cX10_span 76 = .ok (.if_icmp .ge 84, 3) := by decide +kernel
theorem dX10_span_79 : decode cX10_span 79 = .ok (.aload_n 0, 1) := by decide +kernel
theorem dX10_span_80 : decode cX10_span 80 = .ok (.iload_n 1, 1) := by decide +kernel
theorem dX10_span_81 : decode cX10_span 81 = .ok (.iload 11, 2) := by decide +kernel
theorem dX10_span_83 : decode cX10_span 83 = .ok (.iadd, 1) := by decide +kernel
theorem dX10_span_84 : decode cX10_span 84 = .ok (.iload_n 3, 1) := by decide +kernel
theorem dX10_span_85 : decode cX10_span 85 = .ok (.iload 4, 2) := by decide +kernel
theorem dX10_span_87 : decode cX10_span 87 = .ok (.iload 5, 2) := by decide +kernel
theorem dX10_span_89 : decode cX10_span 89 = .ok (.invokevirtual 410, 3) := by decide +kernel
theorem dX10_span_92 : decode cX10_span 92 = .ok (.aload_n 0, 1) := by decide +kernel
theorem dX10_span_93 : decode cX10_span 93 = .ok (.aload_n 0, 1) := by decide +kernel
theorem dX10_span_94 : decode cX10_span 94 = .ok (.getfield 76, 3) := by decide +kernel
theorem dX10_span_97 : decode cX10_span 97 = .ok (.invokevirtual 337, 3) := by decide +kernel
theorem dX10_span_100 : decode cX10_span 100 = .ok (.istore 12, 2) := by decide +kernel
theorem dX10_span_102 : decode cX10_span 102 = .ok (.iload 8, 2) := by decide +kernel
theorem dX10_span_104 : decode cX10_span 104 = .ok (.iconst (-1), 1) := by decide +kernel
theorem dX10_span_105 : decode cX10_span 105 = .ok (.if_icmp .ne 8, 3) := by decide +kernel
theorem dX10_span_108 : decode cX10_span 108 = .ok (.iload 12, 2) := by decide +kernel
theorem dX10_span_110 : decode cX10_span 110 = .ok (.goto 10, 3) := by decide +kernel
theorem dX10_span_113 : decode cX10_span 113 = .ok (.iload 8, 2) := by decide +kernel
theorem dX10_span_115 : decode cX10_span 115 = .ok (.iload 12, 2) := by decide +kernel
theorem dX10_span_117 : decode cX10_span 117 = .ok (.invokestatic 249, 3) := by decide +kernel
theorem dX10_span_120 : decode cX10_span 120 = .ok (.istore 8, 2) := by decide +kernel
theorem dX10_span_122 : decode cX10_span 122 = .ok (.iload 9, 2) := by decide +kernel
theorem dX10_span_124 : decode cX10_span 124 = .ok (.iload 12, 2) := by decide +kernel
theorem dX10_span_126 : decode cX10_span 126 = .ok (.invokestatic 252, 3) := by decide +kernel
theorem dX10_span_129 : decode cX10_span 129 = .ok (.istore 9, 2) := by decide +kernel
theorem dX10_span_131 : decode cX10_span 131 = .ok (.iload 10, 2) := by decide +kernel
theorem dX10_span_133 : decode cX10_span 133 = .ok (.aload_n 0, 1) := by decide +kernel
theorem dX10_span_134 : decode cX10_span 134 = .ok (.getfield 76, 3) := by decide +kernel
theorem dX10_span_137 : decode cX10_span 137 = .ok (.iconst 0, 1) := by decide +kernel
theorem dX10_span_138 : decode cX10_span 138 = .ok (.iload 7, 2) := by decide +kernel
theorem dX10_span_140 : decode cX10_span 140 = .ok (.iadd, 1) := by decide +kernel
theorem dX10_span_141 : decode cX10_span 141 = .ok (.iaload, 1) := by decide +kernel
theorem dX10_span_142 : decode cX10_span 142 = .ok (.iconst (-1), 1) := by decide +kernel
theorem dX10_span_143 : decode cX10_span 143 = .ok (.if_icmp .eq 7, 3) := by decide +kernel
theorem dX10_span_146 : decode cX10_span 146 = .ok (.iconst 1, 1) := by decide +kernel
theorem dX10_span_147 : decode cX10_span 147 = .ok (.goto 4, 3) := by decide +kernel
theorem dX10_span_150 : decode cX10_span 150 = .ok (.iconst 0, 1) := by decide +kernel
theorem dX10_span_151 : decode cX10_span 151 = .ok (.iadd, 1) := by decide +kernel
theorem dX10_span_152 : decode cX10_span 152 = .ok (.istore 10, 2) := by decide +kernel
theorem dX10_span_154 : decode cX10_span 154 = .ok (.iinc 11 1, 3) := by decide +kernel
theorem dX10_span_157 : decode cX10_span 157 = .ok (.goto (-84), 3) := by decide +kernel
theorem dX10_span_160 : decode cX10_span 160 = .ok (.iload 6, 2) := by decide +kernel
theorem dX10_span_162 : decode cX10_span 162 = .ok (.ifCond .ne 8, 3) := by decide +kernel
theorem dX10_span_165 : decode cX10_span 165 = .ok (.iload 8, 2) := by decide +kernel
theorem dX10_span_167 : decode cX10_span 167 = .ok (.goto 16, 3) := by decide +kernel
theorem dX10_span_170 : decode cX10_span 170 = .ok (.iload 6, 2) := by decide +kernel
theorem dX10_span_172 : decode cX10_span 172 = .ok (.iconst 1, 1) := by decide +kernel
theorem dX10_span_173 : decode cX10_span 173 = .ok (.if_icmp .ne 8, 3) := by decide +kernel
theorem dX10_span_176 : decode cX10_span 176 = .ok (.iload 9, 2) := by decide +kernel
theorem dX10_span_178 : decode cX10_span 178 = .ok (.goto 5, 3) := by decide +kernel
theorem dX10_span_181 : decode cX10_span 181 = .ok (.iload 10, 2) := by decide +kernel
theorem dX10_span_183 : decode cX10_span 183 = .ok (.ireturn, 1) := by decide +kernel
theorem dX10_puts_0 : decode cX10_puts 0 = .ok (.iload_n 3, 1) := by decide +kernel
theorem dX10_puts_1 : decode cX10_puts 1 = .ok (.ifCond .ne 10, 3) := by decide +kernel
theorem dX10_puts_4 : decode cX10_puts 4 = .ok (.aload_n 1, 1) := by decide +kernel
theorem dX10_puts_5 : decode cX10_puts 5 = .ok (.aload_n 0, 1) := by decide +kernel
theorem dX10_puts_6 : decode cX10_puts 6 = .ok (.getfield 414, 3) := by decide +kernel
theorem dX10_puts_9 : decode cX10_puts 9 = .ok (.iload_n 2, 1) := by decide +kernel
theorem dX10_puts_10 : decode cX10_puts 10 = .ok (.iastore, 1) := by decide +kernel
theorem dX10_puts_11 : decode cX10_puts 11 = .ok (.aload_n 0, 1) := by decide +kernel
theorem dX10_puts_12 : decode cX10_puts 12 = .ok (.dup, 1) := by decide +kernel
theorem dX10_puts_13 : decode cX10_puts 13 = .ok (.getfield 414, 3) := by decide +kernel
theorem dX10_puts_16 : decode cX10_puts 16 = .ok (.iconst 1, 1) := by decide +kernel
theorem dX10_puts_17 : decode cX10_puts 17 = .ok (.iadd, 1) := by decide +kernel
theorem dX10_puts_18 : decode cX10_puts 18 = .ok (.putfield 414, 3) := by decide +kernel
theorem dX10_puts_21 : decode cX10_puts 21 = .ok (.aload_n 1, 1) := by decide +kernel
theorem dX10_puts_22 : decode cX10_puts 22 = .ok (.aload_n 0, 1) := by decide +kernel
theorem dX10_puts_23 : decode cX10_puts 23 = .ok (.getfield 414, 3) := by decide +kernel
theorem dX10_puts_26 : decode cX10_puts 26 = .ok (.iconst 1, 1) := by decide +kernel
theorem dX10_puts_27 : decode cX10_puts 27 = .ok (.isub, 1) := by decide +kernel
theorem dX10_puts_28 : decode cX10_puts 28 = .ok (.iaload, 1) := by decide +kernel
theorem dX10_puts_29 : decode cX10_puts 29 = .ok (.ireturn, 1) := by decide +kernel
theorem dX10_putsAll_0 : decode cX10_putsAll 0 = .ok (.aload_n 0, 1) := by decide +kernel
theorem dX10_putsAll_1 : decode cX10_putsAll 1 = .ok (.iconst 0, 1) := by decide +kernel
theorem dX10_putsAll_2 : decode cX10_putsAll 2 = .ok (.putfield 414, 3) := by decide +kernel
theorem dX10_putsAll_5 : decode cX10_putsAll 5 = .ok (.aload_n 0, 1) := by decide +kernel
theorem dX10_putsAll_6 : decode cX10_putsAll 6 = .ok (.aload_n 0, 1) := by decide +kernel
theorem dX10_putsAll_7 : decode cX10_putsAll 7 = .ok (.aload_n 1, 1) := by decide +kernel
theorem dX10_putsAll_8 : decode cX10_putsAll 8 = .ok (.aload_n 0, 1) := by decide +kernel
theorem dX10_putsAll_9 : decode cX10_putsAll 9 = .ok (.getfield 212, 3) := by decide +kernel
theorem dX10_putsAll_12 : decode cX10_putsAll 12 = .ok (.iload_n 2, 1) := by decide +kernel
theorem dX10_putsAll_13 : decode cX10_putsAll 13 = .ok (.invokevirtual 417, 3) := by decide +kernel
theorem dX10_putsAll_16 : decode cX10_putsAll 16 = .ok (.putfield 212, 3) := by decide +kernel
theorem dX10_putsAll_19 : decode cX10_putsAll 19 = .ok (.iconst 0, 1) := by decide +kernel
theorem dX10_putsAll_20 : decode cX10_putsAll 20 = .ok (.istore_n 3, 1) := by decide +kernel
theorem dX10_putsAll_21 : decode cX10_putsAll 21 = .ok (.iload_n 3, 1) := by decide +kernel
theorem dX10_putsAll_22 : decode cX10_putsAll 22 = .ok (.bipush 63, 2) := by decide +kernel
theorem dX10_putsAll_24 : decode cX10_putsAll 24 = .ok (.if_icmp .ge 27, 3) := by decide +kernel
theorem dX10_putsAll_27 : decode cX10_putsAll 27 = .ok (.aload_n 0, 1) := by decide +kernel
theorem dX10_putsAll_28 : decode cX10_putsAll 28 = .ok (.getfield 73, 3) := by decide +kernel
theorem dX10_putsAll_31 : decode cX10_putsAll 31 = .ok (.iload_n 3, 1) := by decide +kernel
theorem dX10_putsAll_32 : decode cX10_putsAll 32 = .ok (.aload_n 0, 1) := by decide +kernel
theorem dX10_putsAll_33 : decode cX10_putsAll 33 = .ok (.aload_n 1, 1) := by decide +kernel
theorem dX10_putsAll_34 : decode cX10_putsAll 34 = .ok (.aload_n 0, 1) := by decide +kernel
theorem dX10_putsAll_35 : decode cX10_putsAll 35 = .ok (.getfield 73, 3) := by decide +kernel
theorem dX10_putsAll_38 : decode cX10_putsAll 38 = .ok (.iload_n 3, 1) := by decide +kernel
theorem dX10_putsAll_39 : decode cX10_putsAll 39 = .ok (.iaload, 1) := by decide +kernel
theorem dX10_putsAll_40 : decode cX10_putsAll 40 = .ok (.iload_n 2, 1) := by decide +kernel
theorem dX10_putsAll_41 : decode cX10_putsAll 41 = .ok (.invokevirtual 417, 3) := by decide +kernel
theorem dX10_putsAll_44 : decode cX10_putsAll 44 = .ok (.iastore, 1) := by decide +kernel
theorem dX10_putsAll_45 : decode cX10_putsAll 45 = .ok (.iinc 3 1, 3) := by decide +kernel
theorem dX10_putsAll_48 : decode cX10_putsAll 48 = .ok (.goto (-27), 3) := by decide +kernel
theorem dX10_putsAll_51 : decode cX10_putsAll 51 = .ok (.iconst 0, 1) := by decide +kernel
theorem dX10_putsAll_52 : decode cX10_putsAll 52 = .ok (.istore_n 3, 1) := by decide +kernel
theorem dX10_putsAll_53 : decode cX10_putsAll 53 = .ok (.iload_n 3, 1) := by decide +kernel
theorem dX10_putsAll_54 : decode cX10_putsAll 54 = .ok (.bipush 16, 2) := by decide +kernel
theorem dX10_putsAll_56 : decode cX10_putsAll 56 = .ok (.if_icmp .ge 49, 3) := by decide +kernel
theorem dX10_putsAll_59 : decode cX10_putsAll 59 = .ok (.iconst 0, 1) := by decide +kernel
theorem dX10_putsAll_60 : decode cX10_putsAll 60 = .ok (.istore 4, 2) := by decide +kernel
theorem dX10_putsAll_62 : decode cX10_putsAll 62 = .ok (.iload 4, 2) := by decide +kernel
theorem dX10_putsAll_64 : decode cX10_putsAll 64 = .ok (.bipush 63, 2) := by decide +kernel
theorem dX10_putsAll_66 : decode cX10_putsAll 66 = .ok (.if_icmp .ge 33, 3) := by decide +kernel
theorem dX10_putsAll_69 : decode cX10_putsAll 69 = .ok (.aload_n 0, 1) := by decide +kernel
theorem dX10_putsAll_70 : decode cX10_putsAll 70 = .ok (.getfield 88, 3) := by decide +kernel
theorem dX10_putsAll_73 : decode cX10_putsAll 73 = .ok (.iload_n 3, 1) := by decide +kernel
theorem dX10_putsAll_74 : decode cX10_putsAll 74 = .ok (.aaload, 1) := by decide +kernel
theorem dX10_putsAll_75 : decode cX10_putsAll 75 = .ok (.iload 4, 2) := by decide +kernel
theorem dX10_putsAll_77 : decode cX10_putsAll 77 = .ok (.aload_n 0, 1) := by decide +kernel
theorem dX10_putsAll_78 : decode cX10_putsAll 78 = .ok (.aload_n 1, 1) := by decide +kernel
theorem dX10_putsAll_79 : decode cX10_putsAll 79 = .ok (.aload_n 0, 1) := by decide +kernel
theorem dX10_putsAll_80 : decode cX10_putsAll 80 = .ok (.getfield 88, 3) := by decide +kernel
theorem dX10_putsAll_83 : decode cX10_putsAll 83 = .ok (.iload_n 3, 1) := by decide +kernel
theorem dX10_putsAll_84 : decode cX10_putsAll 84 = .ok (.aaload, 1) := by decide +kernel
theorem dX10_putsAll_85 : decode cX10_putsAll 85 = .ok (.iload 4, 2) := by decide +kernel
theorem dX10_putsAll_87 : decode cX10_putsAll 87 = .ok (.iaload, 1) := by decide +kernel
theorem dX10_putsAll_88 : decode cX10_putsAll 88 = .ok (.iload_n 2, 1) := by decide +kernel
theorem dX10_putsAll_89 : decode cX10_putsAll 89 = .ok (.invokevirtual 417, 3) := by decide +kernel
theorem dX10_putsAll_92 : decode cX10_putsAll 92 = .ok (.iastore, 1) := by decide +kernel
theorem dX10_putsAll_93 : decode cX10_putsAll 93 = .ok (.iinc 4 1, 3) := by decide +kernel
theorem dX10_putsAll_96 : decode cX10_putsAll 96 = .ok (.goto (-34), 3) := by decide +kernel
theorem dX10_putsAll_99 : decode cX10_putsAll 99 = .ok (.iinc 3 1, 3) := by decide +kernel
theorem dX10_putsAll_102 : decode cX10_putsAll 102 = .ok (.goto (-49), 3) := by decide +kernel
theorem dX10_putsAll_105 : decode cX10_putsAll 105 = .ok (.return_, 1) := by decide +kernel
theorem dX10_image_0 : decode cX10_image 0 = .ok (.aload_n 0, 1) := by decide +kernel
theorem dX10_image_1 : decode cX10_image 1 = .ok (.iconst 0, 1) := by decide +kernel
theorem dX10_image_2 : decode cX10_image 2 = .ok (.putfield 103, 3) := by decide +kernel
theorem dX10_image_5 : decode cX10_image 5 = .ok (.aload_n 0, 1) := by decide +kernel
theorem dX10_image_6 : decode cX10_image 6 = .ok (.getfield 218, 3) := by decide +kernel
theorem dX10_image_9 : decode cX10_image 9 = .ok (.iconst 3, 1) := by decide +kernel
theorem dX10_image_10 : decode cX10_image 10 = .ok (.if_icmp .ne 5, 3) := by decide +kernel
theorem dX10_image_13 : decode cX10_image 13 = .ok (.iconst (-1), 1) := by decide +kernel
theorem dX10_image_14 : decode cX10_image 14 = .ok (.ireturn, 1) := by decide +kernel
theorem dX10_image_15 : decode cX10_image 15 = .ok (.aload_n 0, 1) := by decide +kernel
theorem dX10_image_16 : decode cX10_image 16 = .ok (.aload_n 0, 1) := by decide +kernel
theorem dX10_image_17 : decode cX10_image 17 = .ok (.getfield 91, 3) := by decide +kernel
theorem dX10_image_20 : decode cX10_image 20 = .ok (.aload_n 0, 1) := by decide +kernel
theorem dX10_image_21 : decode cX10_image 21 = .ok (.getfield 218, 3) := by decide +kernel
theorem dX10_image_24 : decode cX10_image 24 = .ok (.aaload, 1) := by decide +kernel
theorem dX10_image_25 : decode cX10_image 25 = .ok (.iconst 0, 1) := by decide +kernel
theorem dX10_image_26 : decode cX10_image 26 = .ok (.invokevirtual 421, 3) := by decide +kernel
theorem dX10_image_29 : decode cX10_image 29 = .ok (.aload_n 0, 1) := by decide +kernel
theorem dX10_image_30 : decode cX10_image 30 = .ok (.dup, 1) := by decide +kernel
theorem dX10_image_31 : decode cX10_image 31 = .ok (.getfield 218, 3) := by decide +kernel
theorem dX10_image_34 : decode cX10_image 34 = .ok (.iconst 1, 1) := by decide +kernel
theorem dX10_image_35 : decode cX10_image 35 = .ok (.iadd, 1) := by decide +kernel
theorem dX10_image_36 : decode cX10_image 36 = .ok (.putfield 218, 3) := by decide +kernel
theorem dX10_image_39 : decode cX10_image 39 = .ok (.aload_n 0, 1) := by decide +kernel
theorem dX10_image_40 : decode cX10_image 40 = .ok (.getfield 218, 3) := by decide +kernel
theorem dX10_image_43 : decode cX10_image 43 = .ok (.ireturn, 1) := by decide +kernel
theorem dX10_restore_0 : decode cX10_restore 0 = .ok (.aload_n 0, 1) := by decide +kernel
theorem dX10_restore_1 : decode cX10_restore 1 = .ok (.iconst 0, 1) := by decide +kernel
theorem dX10_restore_2 : decode cX10_restore 2 = .ok (.putfield 103, 3) := by decide +kernel
theorem dX10_restore_5 : decode cX10_restore 5 = .ok (.aload_n 0, 1) := by decide +kernel
theorem dX10_restore_6 : decode cX10_restore 6 = .ok (.getfield 218, 3) := by decide +kernel
theorem dX10_restore_9 : decode cX10_restore 9 = .ok (.ifCond .ne 5, 3) := by decide +kernel
theorem dX10_restore_12 : decode cX10_restore 12 = .ok (.iconst (-1), 1) := by decide +kernel
theorem dX10_restore_13 : decode cX10_restore 13 = .ok (.ireturn, 1) := by decide +kernel
theorem dX10_restore_14 : decode cX10_restore 14 = .ok (.aload_n 0, 1) := by decide +kernel
theorem dX10_restore_15 : decode cX10_restore 15 = .ok (.dup, 1) := by decide +kernel
theorem dX10_restore_16 : decode cX10_restore 16 = .ok (.getfield 218, 3) := by decide +kernel
theorem dX10_restore_19 : decode cX10_restore 19 = .ok (.iconst 1, 1) := by decide +kernel
theorem dX10_restore_20 : decode cX10_restore 20 = .ok (.isub, 1) := by decide +kernel
theorem dX10_restore_21 : decode cX10_restore 21 = .ok (.putfield 218, 3) := by decide +kernel
theorem dX10_restore_24 : decode cX10_restore 24 = .ok (.aload_n 0, 1) := by decide +kernel
theorem dX10_restore_25 : decode cX10_restore 25 = .ok (.aload_n 0, 1) := by decide +kernel
theorem dX10_restore_26 : decode cX10_restore 26 = .ok (.getfield 91, 3) := by decide +kernel
theorem dX10_restore_29 : decode cX10_restore 29 = .ok (.aload_n 0, 1) := by decide +kernel
theorem dX10_restore_30 : decode cX10_restore 30 = .ok (.getfield 218, 3) := by decide +kernel
theorem dX10_restore_33 : decode cX10_restore 33 = .ok (.aaload, 1) := by decide +kernel
theorem dX10_restore_34 : decode cX10_restore 34 = .ok (.iconst 1, 1) := by decide +kernel
theorem dX10_restore_35 : decode cX10_restore 35 = .ok (.invokevirtual 421, 3) := by decide +kernel
theorem dX10_restore_38 : decode cX10_restore 38 = .ok (.aload_n 0, 1) := by decide +kernel
theorem dX10_restore_39 : decode cX10_restore 39 = .ok (.iconst 0, 1) := by decide +kernel
theorem dX10_restore_40 : decode cX10_restore 40 = .ok (.putfield 215, 3) := by decide +kernel
theorem dX10_restore_43 : decode cX10_restore 43 = .ok (.aload_n 0, 1) := by decide +kernel
theorem dX10_restore_44 : decode cX10_restore 44 = .ok (.getfield 218, 3) := by decide +kernel
theorem dX10_restore_47 : decode cX10_restore 47 = .ok (.ireturn, 1) := by decide +kernel
theorem dX10_status_0 : decode cX10_status 0 = .ok (.aload_n 0, 1) := by decide +kernel
theorem dX10_status_1 : decode cX10_status 1 = .ok (.iconst 0, 1) := by decide +kernel
theorem dX10_status_2 : decode cX10_status 2 = .ok (.putfield 103, 3) := by decide +kernel
theorem dX10_status_5 : decode cX10_status 5 = .ok (.iload_n 1, 1) := by decide +kernel
theorem dX10_status_6 : decode cX10_status 6 = .ok (.iconst 0, 1) := by decide +kernel
theorem dX10_status_7 : decode cX10_status 7 = .ok (.iconst 1, 1) := by decide +kernel
theorem dX10_status_8 : decode cX10_status 8 = .ok (.invokestatic 137, 3) := by decide +kernel
theorem dX10_status_11 : decode cX10_status 11 = .ok (.ifCond .eq 12, 3) := by decide +kernel
theorem dX10_status_14 : decode cX10_status 14 = .ok (.aload_n 0, 1) := by decide +kernel
theorem dX10_status_15 : decode cX10_status 15 = .ok (.getfield 17, 3) := by decide +kernel
theorem dX10_status_18 : decode cX10_status 18 = .ok (.iload_n 1, 1) := by decide +kernel
theorem dX10_status_19 : decode cX10_status 19 = .ok (.iaload, 1) := by decide +kernel
theorem dX10_status_20 : decode cX10_status 20 = .ok (.goto 4, 3) := by decide +kernel
theorem dX10_status_23 : decode cX10_status 23 = .ok (.iconst (-1), 1) := by decide +kernel
theorem dX10_status_24 : decode cX10_status 24 = .ok (.ireturn, 1) := by decide +kernel
theorem dX10_count_0 : decode cX10_count 0 = .ok (.aload_n 0, 1) := by decide +kernel
theorem dX10_count_1 : decode cX10_count 1 = .ok (.iconst 0, 1) := by decide +kernel
theorem dX10_count_2 : decode cX10_count 2 = .ok (.putfield 103, 3) := by decide +kernel
theorem dX10_count_5 : decode cX10_count 5 = .ok (.iload_n 1, 1) := by decide +kernel
theorem dX10_count_6 : decode cX10_count 6 = .ok (.ifCond .ne 10, 3) := by decide +kernel
theorem dX10_count_9 : decode cX10_count 9 = .ok (.aload_n 0, 1) := by decide +kernel
theorem dX10_count_10 : decode cX10_count 10 = .ok (.getfield 218, 3) := by decide +kernel
theorem dX10_count_13 : decode cX10_count 13 = .ok (.goto 28, 3) := by decide +kernel
theorem dX10_count_16 : decode cX10_count 16 = .ok (.iload_n 1, 1) := by decide +kernel
theorem dX10_count_17 : decode cX10_count 17 = .ok (.iconst 1, 1) := by decide +kernel
theorem dX10_count_18 : decode cX10_count 18 = .ok (.if_icmp .ne 10, 3) := by decide +kernel
theorem dX10_count_21 : decode cX10_count 21 = .ok (.aload_n 0, 1) := by decide +kernel
theorem dX10_count_22 : decode cX10_count 22 = .ok (.getfield 106, 3) := by decide +kernel
theorem dX10_count_25 : decode cX10_count 25 = .ok (.goto 16, 3) := by decide +kernel
theorem dX10_count_28 : decode cX10_count 28 = .ok (.iload_n 1, 1) := by decide +kernel
theorem dX10_count_29 : decode cX10_count 29 = .ok (.iconst 2, 1) := by decide +kernel
theorem dX10_count_30 : decode cX10_count 30 = .ok (.if_icmp .ne 10, 3) := by decide +kernel
theorem dX10_count_33 : decode cX10_count 33 = .ok (.aload_n 0, 1) := by decide +kernel
theorem dX10_count_34 : decode cX10_count 34 = .ok (.getfield 212, 3) := by decide +kernel
theorem dX10_count_37 : decode cX10_count 37 = .ok (.goto 4, 3) := by decide +kernel
theorem dX10_count_40 : decode cX10_count 40 = .ok (.iconst (-1), 1) := by decide +kernel
theorem dX10_count_41 : decode cX10_count 41 = .ok (.ireturn, 1) := by decide +kernel
theorem dJ6_bitCount_0f7a4_0 : decode cJ6_bitCount_0f7a4 0 = .ok (.iload_n 0, 1) := by decide +kernel
theorem dJ6_bitCount_0f7a4_1 : decode cJ6_bitCount_0f7a4 1 = .ok (.iload_n 0, 1) := by decide +kernel
theorem dJ6_bitCount_0f7a4_2 : decode cJ6_bitCount_0f7a4 2 = .ok (.iconst 1, 1) := by decide +kernel
theorem dJ6_bitCount_0f7a4_3 : decode cJ6_bitCount_0f7a4 3 = .ok (.iushr, 1) := by decide +kernel
theorem dJ6_bitCount_0f7a4_4 : decode cJ6_bitCount_0f7a4 4 = .ok (.ldc_w 265, 3) := by decide +kernel
theorem dJ6_bitCount_0f7a4_7 : decode cJ6_bitCount_0f7a4 7 = .ok (.iand, 1) := by decide +kernel
theorem dJ6_bitCount_0f7a4_8 : decode cJ6_bitCount_0f7a4 8 = .ok (.isub, 1) := by decide +kernel
theorem dJ6_bitCount_0f7a4_9 : decode cJ6_bitCount_0f7a4 9 = .ok (.istore_n 0, 1) := by decide +kernel
theorem dJ6_bitCount_0f7a4_10 : decode cJ6_bitCount_0f7a4 10 = .ok (.iload_n 0, 1) := by decide +kernel
theorem dJ6_bitCount_0f7a4_11 : decode cJ6_bitCount_0f7a4 11 = .ok (.ldc_w 266, 3) := by decide +kernel
theorem dJ6_bitCount_0f7a4_14 : decode cJ6_bitCount_0f7a4 14 = .ok (.iand, 1) := by decide +kernel
theorem dJ6_bitCount_0f7a4_15 : decode cJ6_bitCount_0f7a4 15 = .ok (.iload_n 0, 1) := by decide +kernel
theorem dJ6_bitCount_0f7a4_16 : decode cJ6_bitCount_0f7a4 16 = .ok (.iconst 2, 1) := by decide +kernel
theorem dJ6_bitCount_0f7a4_17 : decode cJ6_bitCount_0f7a4 17 = .ok (.iushr, 1) := by decide +kernel
theorem dJ6_bitCount_0f7a4_18 : decode cJ6_bitCount_0f7a4 18 = .ok (.ldc_w 266, 3) := by decide +kernel
theorem dJ6_bitCount_0f7a4_21 : decode cJ6_bitCount_0f7a4 21 = .ok (.iand, 1) := by decide +kernel
theorem dJ6_bitCount_0f7a4_22 : decode cJ6_bitCount_0f7a4 22 = .ok (.iadd, 1) := by decide +kernel
theorem dJ6_bitCount_0f7a4_23 : decode cJ6_bitCount_0f7a4 23 = .ok (.istore_n 0, 1) := by decide +kernel
theorem dJ6_bitCount_0f7a4_24 : decode cJ6_bitCount_0f7a4 24 = .ok (.iload_n 0, 1) := by decide +kernel
theorem dJ6_bitCount_0f7a4_25 : decode cJ6_bitCount_0f7a4 25 = .ok (.iload_n 0, 1) := by decide +kernel
theorem dJ6_bitCount_0f7a4_26 : decode cJ6_bitCount_0f7a4 26 = .ok (.iconst 4, 1) := by decide +kernel
theorem dJ6_bitCount_0f7a4_27 : decode cJ6_bitCount_0f7a4 27 = .ok (.iushr, 1) := by decide +kernel
theorem dJ6_bitCount_0f7a4_28 : decode cJ6_bitCount_0f7a4 28 = .ok (.iadd, 1) := by decide +kernel
theorem dJ6_bitCount_0f7a4_29 : decode cJ6_bitCount_0f7a4 29 = .ok (.ldc_w 267, 3) := by decide +kernel
theorem dJ6_bitCount_0f7a4_32 : decode cJ6_bitCount_0f7a4 32 = .ok (.iand, 1) := by decide +kernel
theorem dJ6_bitCount_0f7a4_33 : decode cJ6_bitCount_0f7a4 33 = .ok (.istore_n 0, 1) := by decide +kernel
theorem dJ6_bitCount_0f7a4_34 : decode cJ6_bitCount_0f7a4 34 = .ok (.iload_n 0, 1) := by decide +kernel
theorem dJ6_bitCount_0f7a4_35 : decode cJ6_bitCount_0f7a4 35 = .ok (.iload_n 0, 1) := by decide +kernel
theorem dJ6_bitCount_0f7a4_36 : decode cJ6_bitCount_0f7a4 36 = .ok (.bipush 8, 2) := by decide +kernel
theorem dJ6_bitCount_0f7a4_38 : decode cJ6_bitCount_0f7a4 38 = .ok (.iushr, 1) := by decide +kernel
theorem dJ6_bitCount_0f7a4_39 : decode cJ6_bitCount_0f7a4 39 = .ok (.iadd, 1) := by decide +kernel
theorem dJ6_bitCount_0f7a4_40 : decode cJ6_bitCount_0f7a4 40 = .ok (.istore_n 0, 1) := by decide +kernel
theorem dJ6_bitCount_0f7a4_41 : decode cJ6_bitCount_0f7a4 41 = .ok (.iload_n 0, 1) := by decide +kernel
theorem dJ6_bitCount_0f7a4_42 : decode cJ6_bitCount_0f7a4 42 = .ok (.iload_n 0, 1) := by decide +kernel
theorem dJ6_bitCount_0f7a4_43 : decode cJ6_bitCount_0f7a4 43 = .ok (.bipush 16, 2) := by decide +kernel
theorem dJ6_bitCount_0f7a4_45 : decode cJ6_bitCount_0f7a4 45 = .ok (.iushr, 1) := by decide +kernel
theorem dJ6_bitCount_0f7a4_46 : decode cJ6_bitCount_0f7a4 46 = .ok (.iadd, 1) := by decide +kernel
theorem dJ6_bitCount_0f7a4_47 : decode cJ6_bitCount_0f7a4 47 = .ok (.istore_n 0, 1) := by decide +kernel
theorem dJ6_bitCount_0f7a4_48 : decode cJ6_bitCount_0f7a4 48 = .ok (.iload_n 0, 1) := by decide +kernel
theorem dJ6_bitCount_0f7a4_49 : decode cJ6_bitCount_0f7a4 49 = .ok (.bipush 63, 2) := by decide +kernel
theorem dJ6_bitCount_0f7a4_51 : decode cJ6_bitCount_0f7a4 51 = .ok (.iand, 1) := by decide +kernel
theorem dJ6_bitCount_0f7a4_52 : decode cJ6_bitCount_0f7a4 52 = .ok (.ireturn, 1) := by decide +kernel
theorem dJ9_max_7cf53_0 : decode cJ9_max_7cf53 0 = .ok (.iload_n 0, 1) := by decide +kernel
theorem dJ9_max_7cf53_1 : decode cJ9_max_7cf53 1 = .ok (.iload_n 1, 1) := by decide +kernel
theorem dJ9_max_7cf53_2 : decode cJ9_max_7cf53 2 = .ok (.if_icmp .lt 7, 3) := by decide +kernel
theorem dJ9_max_7cf53_5 : decode cJ9_max_7cf53 5 = .ok (.iload_n 0, 1) := by decide +kernel
theorem dJ9_max_7cf53_6 : decode cJ9_max_7cf53 6 = .ok (.goto 4, 3) := by decide +kernel
theorem dJ9_max_7cf53_9 : decode cJ9_max_7cf53 9 = .ok (.iload_n 1, 1) := by decide +kernel
theorem dJ9_max_7cf53_10 : decode cJ9_max_7cf53 10 = .ok (.ireturn, 1) := by decide +kernel
theorem dJ9_min_7cf53_0 : decode cJ9_min_7cf53 0 = .ok (.iload_n 0, 1) := by decide +kernel
theorem dJ9_min_7cf53_1 : decode cJ9_min_7cf53 1 = .ok (.iload_n 1, 1) := by decide +kernel
theorem dJ9_min_7cf53_2 : decode cJ9_min_7cf53 2 = .ok (.if_icmp .gt 7, 3) := by decide +kernel
theorem dJ9_min_7cf53_5 : decode cJ9_min_7cf53 5 = .ok (.iload_n 0, 1) := by decide +kernel
theorem dJ9_min_7cf53_6 : decode cJ9_min_7cf53 6 = .ok (.goto 4, 3) := by decide +kernel
theorem dJ9_min_7cf53_9 : decode cJ9_min_7cf53 9 = .ok (.iload_n 1, 1) := by decide +kernel
theorem dJ9_min_7cf53_10 : decode cJ9_min_7cf53 10 = .ok (.ireturn, 1) := by decide +kernel
theorem dJ0_length_8abf5_0 : decode cJ0_length_8abf5 0 = .ok (.aload_n 0, 1) := by decide +kernel
theorem dJ0_length_8abf5_1 : decode cJ0_length_8abf5 1 = .ok (.getfield 9, 3) := by decide +kernel
theorem dJ0_length_8abf5_4 : decode cJ0_length_8abf5 4 = .ok (.arraylength, 1) := by decide +kernel
theorem dJ0_length_8abf5_5 : decode cJ0_length_8abf5 5 = .ok (.aload_n 0, 1) := by decide +kernel
theorem dJ0_length_8abf5_6 : decode cJ0_length_8abf5 6 = .ok (.invokevirtual 335, 3) := by decide +kernel
theorem dJ0_length_8abf5_9 : decode cJ0_length_8abf5 9 = .ok (.ishr, 1) := by decide +kernel
theorem dJ0_length_8abf5_10 : decode cJ0_length_8abf5 10 = .ok (.ireturn, 1) := by decide +kernel
theorem dJ0_charAt_5068e_0 : decode cJ0_charAt_5068e 0 = .ok (.aload_n 0, 1) := by decide +kernel
theorem dJ0_charAt_5068e_1 : decode cJ0_charAt_5068e 1 = .ok (.invokevirtual 492, 3) := by decide +kernel
theorem dJ0_charAt_5068e_4 : decode cJ0_charAt_5068e 4 = .ok (.ifCond .eq 12, 3) := by decide +kernel
theorem dJ0_charAt_5068e_7 : decode cJ0_charAt_5068e 7 = .ok (.aload_n 0, 1) := by decide +kernel
theorem dJ0_charAt_5068e_8 : decode cJ0_charAt_5068e 8 = .ok (.getfield 9, 3) := by decide +kernel
theorem dJ0_charAt_5068e_11 : decode cJ0_charAt_5068e 11 = .ok (.iload_n 1, 1) := by decide +kernel
theorem dJ0_charAt_5068e_12 : decode cJ0_charAt_5068e 12 = .ok (.invokestatic 495, 3) := by decide +kernel
theorem dJ0_charAt_5068e_15 : decode cJ0_charAt_5068e 15 = .ok (.ireturn, 1) := by decide +kernel
theorem dJ0_charAt_5068e_16 : decode cJ0_charAt_5068e 16 = .ok (.aload_n 0, 1) := by decide +kernel
theorem dJ0_charAt_5068e_17 : decode cJ0_charAt_5068e 17 = .ok (.getfield 9, 3) := by decide +kernel
theorem dJ0_charAt_5068e_20 : decode cJ0_charAt_5068e 20 = .ok (.iload_n 1, 1) := by decide +kernel
theorem dJ0_charAt_5068e_21 : decode cJ0_charAt_5068e 21 = .ok (.invokestatic 498, 3) := by decide +kernel
theorem dJ0_charAt_5068e_24 : decode cJ0_charAt_5068e 24 = .ok (.ireturn, 1) := by decide +kernel
theorem dJ0_coder_7d493_0 : decode cJ0_coder_7d493 0 = .ok (.getstatic 38, 3) := by decide +kernel
theorem dJ0_coder_7d493_3 : decode cJ0_coder_7d493 3 = .ok (.ifCond .eq 10, 3) := by decide +kernel
theorem dJ0_coder_7d493_6 : decode cJ0_coder_7d493 6 = .ok (.aload_n 0, 1) := by decide +kernel
theorem dJ0_coder_7d493_7 : decode cJ0_coder_7d493 7 = .ok (.getfield 15, 3) := by decide +kernel
theorem dJ0_coder_7d493_10 : decode cJ0_coder_7d493 10 = .ok (.goto 4, 3) := by decide +kernel
theorem dJ0_coder_7d493_13 : decode cJ0_coder_7d493 13 = .ok (.iconst 1, 1) := by decide +kernel
theorem dJ0_coder_7d493_14 : decode cJ0_coder_7d493 14 = .ok (.ireturn, 1) := by decide +kernel
theorem dJ0_isLatin1_aae02_0 : decode cJ0_isLatin1_aae02 0 = .ok (.getstatic 38, 3) := by decide +kernel
theorem dJ0_isLatin1_aae02_3 : decode cJ0_isLatin1_aae02 3 = .ok (.ifCond .eq 14, 3) := by decide +kernel
theorem dJ0_isLatin1_aae02_6 : decode cJ0_isLatin1_aae02 6 = .ok (.aload_n 0, 1) := by decide +kernel
theorem dJ0_isLatin1_aae02_7 : decode cJ0_isLatin1_aae02 7 = .ok (.getfield 15, 3) := by decide +kernel
theorem dJ0_isLatin1_aae02_10 : decode cJ0_isLatin1_aae02 10 = .ok (.ifCond .ne 7, 3) := by decide +kernel
theorem dJ0_isLatin1_aae02_13 : decode cJ0_isLatin1_aae02 13 = .ok (.iconst 1, 1) := by decide +kernel
theorem dJ0_isLatin1_aae02_14 : decode cJ0_isLatin1_aae02 14 = .ok (.goto 4, 3) := by decide +kernel
theorem dJ0_isLatin1_aae02_17 : decode cJ0_isLatin1_aae02 17 = .ok (.iconst 0, 1) := by decide +kernel
theorem dJ0_isLatin1_aae02_18 : decode cJ0_isLatin1_aae02 18 = .ok (.ireturn, 1) := by decide +kernel
theorem dJ0_checkIndex_df160_0 : decode cJ0_checkIndex_df160 0 = .ok (.iload_n 0, 1) := by decide +kernel
theorem dJ0_checkIndex_df160_1 : decode cJ0_checkIndex_df160 1 = .ok (.iload_n 1, 1) := by decide +kernel
theorem dJ0_checkIndex_df160_2 : decode cJ0_checkIndex_df160 2 = .ok (.getstatic 1053, 3) := by decide +kernel
theorem dJ0_checkIndex_df160_5 : decode cJ0_checkIndex_df160 5 = .ok (.invokestatic 1059, 3) := by decide +kernel
theorem dJ0_checkIndex_df160_8 : decode cJ0_checkIndex_df160 8 = .ok (.pop, 1) := by decide +kernel
theorem dJ0_checkIndex_df160_9 : decode cJ0_checkIndex_df160 9 = .ok (.return_, 1) := by decide +kernel
theorem dJ1_charAt_3b067_0 : decode cJ1_charAt_3b067 0 = .ok (.iload_n 1, 1) := by decide +kernel
theorem dJ1_charAt_3b067_1 : decode cJ1_charAt_3b067 1 = .ok (.aload_n 0, 1) := by decide +kernel
theorem dJ1_charAt_3b067_2 : decode cJ1_charAt_3b067 2 = .ok (.arraylength, 1) := by decide +kernel
theorem dJ1_charAt_3b067_3 : decode cJ1_charAt_3b067 3 = .ok (.invokestatic 9, 3) := by decide +kernel
theorem dJ1_charAt_3b067_6 : decode cJ1_charAt_3b067 6 = .ok (.aload_n 0, 1) := by decide +kernel
theorem dJ1_charAt_3b067_7 : decode cJ1_charAt_3b067 7 = .ok (.iload_n 1, 1) := by decide +kernel
theorem dJ1_charAt_3b067_8 : decode cJ1_charAt_3b067 8 = .ok (.baload, 1) := by decide +kernel
theorem dJ1_charAt_3b067_9 : decode cJ1_charAt_3b067 9 = .ok (.sipush 255, 3) := by decide +kernel
theorem dJ1_charAt_3b067_12 : decode cJ1_charAt_3b067 12 = .ok (.iand, 1) := by decide +kernel
theorem dJ1_charAt_3b067_13 : decode cJ1_charAt_3b067 13 = .ok (.i2c, 1) := by decide +kernel
theorem dJ1_charAt_3b067_14 : decode cJ1_charAt_3b067 14 = .ok (.ireturn, 1) := by decide +kernel
theorem dJ2_getChar_3b067_0 : decode cJ2_getChar_3b067 0 = .ok (.getstatic 44, 3) := by decide +kernel
theorem dJ2_getChar_3b067_3 : decode cJ2_getChar_3b067 3 = .ok (.ifCond .ne 25, 3) := by decide +kernel
theorem dJ2_getChar_3b067_6 : decode cJ2_getChar_3b067 6 = .ok (.iload_n 1, 1) := by decide +kernel
theorem dJ2_getChar_3b067_7 : decode cJ2_getChar_3b067 7 = .ok (.ifCond .lt 11, 3) := by decide +kernel
theorem dJ2_getChar_3b067_10 : decode cJ2_getChar_3b067 10 = .ok (.iload_n 1, 1) := by decide +kernel
theorem dJ2_getChar_3b067_11 : decode cJ2_getChar_3b067 11 = .ok (.aload_n 0, 1) := by decide +kernel
theorem dJ2_getChar_3b067_12 : decode cJ2_getChar_3b067 12 = .ok (.invokestatic 48, 3) := by decide +kernel
theorem dJ2_getChar_3b067_15 : decode cJ2_getChar_3b067 15 = .ok (.if_icmp .lt 13, 3) := by decide +kernel
theorem dJ2_getChar_3b067_18 : decode cJ2_getChar_3b067 18 = .ok (.new 52, 3) := by decide +kernel
theorem dJ2_getChar_3b067_21 : decode cJ2_getChar_3b067 21 = .ok (.dup, 1) := by decide +kernel
theorem dJ2_getChar_3b067_22 : decode cJ2_getChar_3b067 22 = .ok (.ldc 54, 2) := by decide +kernel
theorem dJ2_getChar_3b067_24 : decode cJ2_getChar_3b067 24 = .ok (.invokespecial 56, 3) := by decide +kernel
theorem dJ2_getChar_3b067_27 : decode cJ2_getChar_3b067 27 = .ok (.athrow, 1) := by decide +kernel
theorem dJ2_getChar_3b067_28 : decode cJ2_getChar_3b067 28 = .ok (.iload_n 1, 1) := by decide +kernel
theorem dJ2_getChar_3b067_29 : decode cJ2_getChar_3b067 29 = .ok (.iconst 1, 1) := by decide +kernel
theorem dJ2_getChar_3b067_30 : decode cJ2_getChar_3b067 30 = .ok (.ishl, 1) := by decide +kernel
theorem dJ2_getChar_3b067_31 : decode cJ2_getChar_3b067 31 = .ok (.istore_n 1, 1) := by decide +kernel
theorem dJ2_getChar_3b067_32 : decode cJ2_getChar_3b067 32 = .ok (.aload_n 0, 1) := by decide +kernel
theorem dJ2_getChar_3b067_33 : decode cJ2_getChar_3b067 33 = .ok (.iload_n 1, 1) := by decide +kernel
theorem dJ2_getChar_3b067_34 : decode cJ2_getChar_3b067 34 = .ok (.iinc 1 1, 3) := by decide +kernel
theorem dJ2_getChar_3b067_37 : decode cJ2_getChar_3b067 37 = .ok (.baload, 1) := by decide +kernel
theorem dJ2_getChar_3b067_38 : decode cJ2_getChar_3b067 38 = .ok (.sipush 255, 3) := by decide +kernel
theorem dJ2_getChar_3b067_41 : decode cJ2_getChar_3b067 41 = .ok (.iand, 1) := by decide +kernel
theorem dJ2_getChar_3b067_42 : decode cJ2_getChar_3b067 42 = .ok (.getstatic 59, 3) := by decide +kernel
theorem dJ2_getChar_3b067_45 : decode cJ2_getChar_3b067 45 = .ok (.ishl, 1) := by decide +kernel
theorem dJ2_getChar_3b067_46 : decode cJ2_getChar_3b067 46 = .ok (.aload_n 0, 1) := by decide +kernel
theorem dJ2_getChar_3b067_47 : decode cJ2_getChar_3b067 47 = .ok (.iload_n 1, 1) := by decide +kernel
theorem dJ2_getChar_3b067_48 : decode cJ2_getChar_3b067 48 = .ok (.baload, 1) := by decide +kernel
theorem dJ2_getChar_3b067_49 : decode cJ2_getChar_3b067 49 = .ok (.sipush 255, 3) := by decide +kernel
theorem dJ2_getChar_3b067_52 : decode cJ2_getChar_3b067 52 = .ok (.iand, 1) := by decide +kernel
theorem dJ2_getChar_3b067_53 : decode cJ2_getChar_3b067 53 = .ok (.getstatic 63, 3) := by decide +kernel
theorem dJ2_getChar_3b067_56 : decode cJ2_getChar_3b067 56 = .ok (.ishl, 1) := by decide +kernel
theorem dJ2_getChar_3b067_57 : decode cJ2_getChar_3b067 57 = .ok (.ior, 1) := by decide +kernel
theorem dJ2_getChar_3b067_58 : decode cJ2_getChar_3b067 58 = .ok (.i2c, 1) := by decide +kernel
theorem dJ2_getChar_3b067_59 : decode cJ2_getChar_3b067 59 = .ok (.ireturn, 1) := by decide +kernel
theorem dJ2_length_9d52b_0 : decode cJ2_length_9d52b 0 = .ok (.aload_n 0, 1) := by decide +kernel
theorem dJ2_length_9d52b_1 : decode cJ2_length_9d52b 1 = .ok (.arraylength, 1) := by decide +kernel
theorem dJ2_length_9d52b_2 : decode cJ2_length_9d52b 2 = .ok (.iconst 1, 1) := by decide +kernel
theorem dJ2_length_9d52b_3 : decode cJ2_length_9d52b 3 = .ok (.ishr, 1) := by decide +kernel
theorem dJ2_length_9d52b_4 : decode cJ2_length_9d52b 4 = .ok (.ireturn, 1) := by decide +kernel
theorem dJ2_charAt_3b067_0 : decode cJ2_charAt_3b067 0 = .ok (.iload_n 1, 1) := by decide +kernel
theorem dJ2_charAt_3b067_1 : decode cJ2_charAt_3b067 1 = .ok (.aload_n 0, 1) := by decide +kernel
theorem dJ2_charAt_3b067_2 : decode cJ2_charAt_3b067 2 = .ok (.invokestatic 67, 3) := by decide +kernel
theorem dJ2_charAt_3b067_5 : decode cJ2_charAt_3b067 5 = .ok (.aload_n 0, 1) := by decide +kernel
theorem dJ2_charAt_3b067_6 : decode cJ2_charAt_3b067 6 = .ok (.iload_n 1, 1) := by decide +kernel
theorem dJ2_charAt_3b067_7 : decode cJ2_charAt_3b067 7 = .ok (.invokestatic 71, 3) := by decide +kernel
theorem dJ2_charAt_3b067_10 : decode cJ2_charAt_3b067 10 = .ok (.ireturn, 1) := by decide +kernel
theorem dJ2_checkIndex_2214a_0 : decode cJ2_checkIndex_2214a 0 = .ok (.iload_n 0, 1) := by decide +kernel
theorem dJ2_checkIndex_2214a_1 : decode cJ2_checkIndex_2214a 1 = .ok (.aload_n 1, 1) := by decide +kernel
theorem dJ2_checkIndex_2214a_2 : decode cJ2_checkIndex_2214a 2 = .ok (.invokestatic 48, 3) := by decide +kernel
theorem dJ2_checkIndex_2214a_5 : decode cJ2_checkIndex_2214a 5 = .ok (.invokestatic 414, 3) := by decide +kernel
theorem dJ2_checkIndex_2214a_8 : decode cJ2_checkIndex_2214a 8 = .ok (.return_, 1) := by decide +kernel
theorem dJ3_checkIndex_8e157_0 : decode cJ3_checkIndex_8e157 0 = .ok (.iload_n 0, 1) := by decide +kernel
theorem dJ3_checkIndex_8e157_1 : decode cJ3_checkIndex_8e157 1 = .ok (.ifCond .lt 8, 3) := by decide +kernel
theorem dJ3_checkIndex_8e157_4 : decode cJ3_checkIndex_8e157 4 = .ok (.iload_n 0, 1) := by decide +kernel
theorem dJ3_checkIndex_8e157_5 : decode cJ3_checkIndex_8e157 5 = .ok (.iload_n 1, 1) := by decide +kernel
theorem dJ3_checkIndex_8e157_6 : decode cJ3_checkIndex_8e157 6 = .ok (.if_icmp .lt 10, 3) := by decide +kernel
theorem dJ3_checkIndex_8e157_9 : decode cJ3_checkIndex_8e157 9 = .ok (.aload_n 2, 1) := by decide +kernel
theorem dJ3_checkIndex_8e157_10 : decode cJ3_checkIndex_8e157 10 = .ok (.iload_n 0, 1) := by decide +kernel
theorem dJ3_checkIndex_8e157_11 : decode cJ3_checkIndex_8e157 11 = .ok (.iload_n 1, 1) := by decide +kernel
theorem dJ3_checkIndex_8e157_12 : decode cJ3_checkIndex_8e157 12 = .ok (.invokestatic 95, 3) := by decide +kernel
theorem dJ3_checkIndex_8e157_15 : decode cJ3_checkIndex_8e157 15 = .ok (.athrow, 1) := by decide +kernel
theorem dJ3_checkIndex_8e157_16 : decode cJ3_checkIndex_8e157 16 = .ok (.iload_n 0, 1) := by decide +kernel
theorem dJ3_checkIndex_8e157_17 : decode cJ3_checkIndex_8e157 17 = .ok (.ireturn, 1) := by decide +kernel
theorem dL_street_0 : decode cL_street 0 = .ok (.aload_n 2, 1) := by decide +kernel
theorem dL_street_1 : decode cL_street 1 = .ok (.iconst 0, 1) := by decide +kernel
theorem dL_street_2 : decode cL_street 2 = .ok (.aload_n 0, 1) := by decide +kernel
theorem dL_street_3 : decode cL_street 3 = .ok (.iload_n 1, 1) := by decide +kernel
theorem dL_street_4 : decode cL_street 4 = .ok (.invokevirtual 7, 3) := by decide +kernel
theorem dL_street_7 : decode cL_street 7 = .ok (.i2l, 1) := by decide +kernel
theorem dL_street_8 : decode cL_street 8 = .ok (.lastore, 1) := by decide +kernel
theorem dL_street_9 : decode cL_street 9 = .ok (.goto 6, 3) := by decide +kernel
theorem dL_street_12 : decode cL_street 12 = .ok (.astore_n 3, 1) := by decide +kernel
theorem dL_street_13 : decode cL_street 13 = .ok (.iconst 1, 1) := by decide +kernel
theorem dL_street_14 : decode cL_street 14 = .ok (.ireturn, 1) := by decide +kernel
theorem dL_street_15 : decode cL_street 15 = .ok (.iconst 0, 1) := by decide +kernel
theorem dL_street_16 : decode cL_street 16 = .ok (.ireturn, 1) := by decide +kernel
theorem dL_law_0 : decode cL_law 0 = .ok (.aload_n 2, 1) := by decide +kernel
theorem dL_law_1 : decode cL_law 1 = .ok (.iconst 0, 1) := by decide +kernel
theorem dL_law_2 : decode cL_law 2 = .ok (.aload_n 0, 1) := by decide +kernel
theorem dL_law_3 : decode cL_law 3 = .ok (.iload_n 1, 1) := by decide +kernel
theorem dL_law_4 : decode cL_law 4 = .ok (.invokevirtual 15, 3) := by decide +kernel
theorem dL_law_7 : decode cL_law 7 = .ok (.i2l, 1) := by decide +kernel
theorem dL_law_8 : decode cL_law 8 = .ok (.lastore, 1) := by decide +kernel
theorem dL_law_9 : decode cL_law 9 = .ok (.goto 6, 3) := by decide +kernel
theorem dL_law_12 : decode cL_law 12 = .ok (.astore_n 3, 1) := by decide +kernel
theorem dL_law_13 : decode cL_law 13 = .ok (.iconst 1, 1) := by decide +kernel
theorem dL_law_14 : decode cL_law 14 = .ok (.ireturn, 1) := by decide +kernel
theorem dL_law_15 : decode cL_law 15 = .ok (.iconst 0, 1) := by decide +kernel
theorem dL_law_16 : decode cL_law 16 = .ok (.ireturn, 1) := by decide +kernel
theorem dL_work_0 : decode cL_work 0 = .ok (.aload_n 2, 1) := by decide +kernel
theorem dL_work_1 : decode cL_work 1 = .ok (.iconst 0, 1) := by decide +kernel
theorem dL_work_2 : decode cL_work 2 = .ok (.aload_n 0, 1) := by decide +kernel
theorem dL_work_3 : decode cL_work 3 = .ok (.iload_n 1, 1) := by decide +kernel
theorem dL_work_4 : decode cL_work 4 = .ok (.invokevirtual 18, 3) := by decide +kernel
theorem dL_work_7 : decode cL_work 7 = .ok (.i2l, 1) := by decide +kernel
theorem dL_work_8 : decode cL_work 8 = .ok (.lastore, 1) := by decide +kernel
theorem dL_work_9 : decode cL_work 9 = .ok (.goto 6, 3) := by decide +kernel
theorem dL_work_12 : decode cL_work 12 = .ok (.astore_n 3, 1) := by decide +kernel
theorem dL_work_13 : decode cL_work 13 = .ok (.iconst 1, 1) := by decide +kernel
theorem dL_work_14 : decode cL_work 14 = .ok (.ireturn, 1) := by decide +kernel
theorem dL_work_15 : decode cL_work 15 = .ok (.iconst 0, 1) := by decide +kernel
theorem dL_work_16 : decode cL_work 16 = .ok (.ireturn, 1) := by decide +kernel
theorem dL_stains_0 : decode cL_stains 0 = .ok (.aload_n 2, 1) := by decide +kernel
theorem dL_stains_1 : decode cL_stains 1 = .ok (.iconst 0, 1) := by decide +kernel
theorem dL_stains_2 : decode cL_stains 2 = .ok (.aload_n 0, 1) := by decide +kernel
theorem dL_stains_3 : decode cL_stains 3 = .ok (.iload_n 1, 1) := by decide +kernel
theorem dL_stains_4 : decode cL_stains 4 = .ok (.invokevirtual 21, 3) := by decide +kernel
theorem dL_stains_7 : decode cL_stains 7 = .ok (.i2l, 1) := by decide +kernel
theorem dL_stains_8 : decode cL_stains 8 = .ok (.lastore, 1) := by decide +kernel
theorem dL_stains_9 : decode cL_stains 9 = .ok (.goto 6, 3) := by decide +kernel
theorem dL_stains_12 : decode cL_stains 12 = .ok (.astore_n 3, 1) := by decide +kernel
theorem dL_stains_13 : decode cL_stains 13 = .ok (.iconst 1, 1) := by decide +kernel
theorem dL_stains_14 : decode cL_stains 14 = .ok (.ireturn, 1) := by decide +kernel
theorem dL_stains_15 : decode cL_stains 15 = .ok (.iconst 0, 1) := by decide +kernel
theorem dL_stains_16 : decode cL_stains 16 = .ok (.ireturn, 1) := by decide +kernel
theorem dL_told_0 : decode cL_told 0 = .ok (.aload_n 2, 1) := by decide +kernel
theorem dL_told_1 : decode cL_told 1 = .ok (.iconst 0, 1) := by decide +kernel
theorem dL_told_2 : decode cL_told 2 = .ok (.aload_n 0, 1) := by decide +kernel
theorem dL_told_3 : decode cL_told 3 = .ok (.iload_n 1, 1) := by decide +kernel
theorem dL_told_4 : decode cL_told 4 = .ok (.invokevirtual 24, 3) := by decide +kernel
theorem dL_told_7 : decode cL_told 7 = .ok (.i2l, 1) := by decide +kernel
theorem dL_told_8 : decode cL_told 8 = .ok (.lastore, 1) := by decide +kernel
theorem dL_told_9 : decode cL_told 9 = .ok (.goto 6, 3) := by decide +kernel
theorem dL_told_12 : decode cL_told 12 = .ok (.astore_n 3, 1) := by decide +kernel
theorem dL_told_13 : decode cL_told 13 = .ok (.iconst 1, 1) := by decide +kernel
theorem dL_told_14 : decode cL_told 14 = .ok (.ireturn, 1) := by decide +kernel
theorem dL_told_15 : decode cL_told 15 = .ok (.iconst 0, 1) := by decide +kernel
theorem dL_told_16 : decode cL_told 16 = .ok (.ireturn, 1) := by decide +kernel
theorem dL_house_0 : decode cL_house 0 = .ok (.aload_n 3, 1) := by decide +kernel
theorem dL_house_1 : decode cL_house 1 = .ok (.iconst 0, 1) := by decide +kernel
theorem dL_house_2 : decode cL_house 2 = .ok (.aload_n 0, 1) := by decide +kernel
theorem dL_house_3 : decode cL_house 3 = .ok (.iload_n 1, 1) := by decide +kernel
theorem dL_house_4 : decode cL_house 4 = .ok (.iload_n 2, 1) := by decide +kernel
theorem dL_house_5 : decode cL_house 5 = .ok (.invokevirtual 27, 3) := by decide +kernel
theorem dL_house_8 : decode cL_house 8 = .ok (.i2l, 1) := by decide +kernel
theorem dL_house_9 : decode cL_house 9 = .ok (.lastore, 1) := by decide +kernel
theorem dL_house_10 : decode cL_house 10 = .ok (.goto 11, 3) := by decide +kernel
theorem dL_house_13 : decode cL_house 13 = .ok (.astore 4, 2) := by decide +kernel
theorem dL_house_15 : decode cL_house 15 = .ok (.iconst 1, 1) := by decide +kernel
theorem dL_house_16 : decode cL_house 16 = .ok (.ireturn, 1) := by decide +kernel
theorem dL_house_17 : decode cL_house 17 = .ok (.astore 4, 2) := by decide +kernel
theorem dL_house_19 : decode cL_house 19 = .ok (.iconst 2, 1) := by decide +kernel
theorem dL_house_20 : decode cL_house 20 = .ok (.ireturn, 1) := by decide +kernel
theorem dL_house_21 : decode cL_house 21 = .ok (.iconst 0, 1) := by decide +kernel
theorem dL_house_22 : decode cL_house 22 = .ok (.ireturn, 1) := by decide +kernel
theorem dL_thing_0 : decode cL_thing 0 = .ok (.aload_n 3, 1) := by decide +kernel
theorem dL_thing_1 : decode cL_thing 1 = .ok (.iconst 0, 1) := by decide +kernel
theorem dL_thing_2 : decode cL_thing 2 = .ok (.aload_n 0, 1) := by decide +kernel
theorem dL_thing_3 : decode cL_thing 3 = .ok (.iload_n 1, 1) := by decide +kernel
theorem dL_thing_4 : decode cL_thing 4 = .ok (.iload_n 2, 1) := by decide +kernel
theorem dL_thing_5 : decode cL_thing 5 = .ok (.invokevirtual 33, 3) := by decide +kernel
theorem dL_thing_8 : decode cL_thing 8 = .ok (.i2l, 1) := by decide +kernel
theorem dL_thing_9 : decode cL_thing 9 = .ok (.lastore, 1) := by decide +kernel
theorem dL_thing_10 : decode cL_thing 10 = .ok (.goto 11, 3) := by decide +kernel
theorem dL_thing_13 : decode cL_thing 13 = .ok (.astore 4, 2) := by decide +kernel
theorem dL_thing_15 : decode cL_thing 15 = .ok (.iconst 1, 1) := by decide +kernel
theorem dL_thing_16 : decode cL_thing 16 = .ok (.ireturn, 1) := by decide +kernel
theorem dL_thing_17 : decode cL_thing 17 = .ok (.astore 4, 2) := by decide +kernel
theorem dL_thing_19 : decode cL_thing 19 = .ok (.iconst 2, 1) := by decide +kernel
theorem dL_thing_20 : decode cL_thing 20 = .ok (.ireturn, 1) := by decide +kernel
theorem dL_thing_21 : decode cL_thing 21 = .ok (.iconst 0, 1) := by decide +kernel
theorem dL_thing_22 : decode cL_thing 22 = .ok (.ireturn, 1) := by decide +kernel
theorem dL_height_0 : decode cL_height 0 = .ok (.aload_n 2, 1) := by decide +kernel
theorem dL_height_1 : decode cL_height 1 = .ok (.iconst 0, 1) := by decide +kernel
theorem dL_height_2 : decode cL_height 2 = .ok (.aload_n 0, 1) := by decide +kernel
theorem dL_height_3 : decode cL_height 3 = .ok (.iload_n 1, 1) := by decide +kernel
theorem dL_height_4 : decode cL_height 4 = .ok (.invokevirtual 36, 3) := by decide +kernel
theorem dL_height_7 : decode cL_height 7 = .ok (.i2l, 1) := by decide +kernel
theorem dL_height_8 : decode cL_height 8 = .ok (.lastore, 1) := by decide +kernel
theorem dL_height_9 : decode cL_height 9 = .ok (.goto 6, 3) := by decide +kernel
theorem dL_height_12 : decode cL_height 12 = .ok (.astore_n 3, 1) := by decide +kernel
theorem dL_height_13 : decode cL_height 13 = .ok (.iconst 1, 1) := by decide +kernel
theorem dL_height_14 : decode cL_height 14 = .ok (.ireturn, 1) := by decide +kernel
theorem dL_height_15 : decode cL_height 15 = .ok (.iconst 0, 1) := by decide +kernel
theorem dL_height_16 : decode cL_height 16 = .ok (.ireturn, 1) := by decide +kernel
theorem dL_find_0 : decode cL_find 0 = .ok (.aload_n 3, 1) := by decide +kernel
theorem dL_find_1 : decode cL_find 1 = .ok (.iconst 0, 1) := by decide +kernel
theorem dL_find_2 : decode cL_find 2 = .ok (.aload_n 0, 1) := by decide +kernel
theorem dL_find_3 : decode cL_find 3 = .ok (.iload_n 1, 1) := by decide +kernel
theorem dL_find_4 : decode cL_find 4 = .ok (.iload_n 2, 1) := by decide +kernel
theorem dL_find_5 : decode cL_find 5 = .ok (.invokevirtual 39, 3) := by decide +kernel
theorem dL_find_8 : decode cL_find 8 = .ok (.i2l, 1) := by decide +kernel
theorem dL_find_9 : decode cL_find 9 = .ok (.lastore, 1) := by decide +kernel
theorem dL_find_10 : decode cL_find 10 = .ok (.goto 11, 3) := by decide +kernel
theorem dL_find_13 : decode cL_find 13 = .ok (.astore 4, 2) := by decide +kernel
theorem dL_find_15 : decode cL_find 15 = .ok (.iconst 1, 1) := by decide +kernel
theorem dL_find_16 : decode cL_find 16 = .ok (.ireturn, 1) := by decide +kernel
theorem dL_find_17 : decode cL_find 17 = .ok (.astore 4, 2) := by decide +kernel
theorem dL_find_19 : decode cL_find 19 = .ok (.iconst 2, 1) := by decide +kernel
theorem dL_find_20 : decode cL_find 20 = .ok (.ireturn, 1) := by decide +kernel
theorem dL_find_21 : decode cL_find 21 = .ok (.iconst 0, 1) := by decide +kernel
theorem dL_find_22 : decode cL_find 22 = .ok (.ireturn, 1) := by decide +kernel
theorem dL_due_0 : decode cL_due 0 = .ok (.aload_n 2, 1) := by decide +kernel
theorem dL_due_1 : decode cL_due 1 = .ok (.iconst 0, 1) := by decide +kernel
theorem dL_due_2 : decode cL_due 2 = .ok (.aload_n 0, 1) := by decide +kernel
theorem dL_due_3 : decode cL_due 3 = .ok (.iload_n 1, 1) := by decide +kernel
theorem dL_due_4 : decode cL_due 4 = .ok (.invokevirtual 42, 3) := by decide +kernel
theorem dL_due_7 : decode cL_due 7 = .ok (.i2l, 1) := by decide +kernel
theorem dL_due_8 : decode cL_due 8 = .ok (.lastore, 1) := by decide +kernel
theorem dL_due_9 : decode cL_due 9 = .ok (.goto 6, 3) := by decide +kernel
theorem dL_due_12 : decode cL_due 12 = .ok (.astore_n 3, 1) := by decide +kernel
theorem dL_due_13 : decode cL_due 13 = .ok (.iconst 1, 1) := by decide +kernel
theorem dL_due_14 : decode cL_due 14 = .ok (.ireturn, 1) := by decide +kernel
theorem dL_due_15 : decode cL_due 15 = .ok (.iconst 0, 1) := by decide +kernel
theorem dL_due_16 : decode cL_due 16 = .ok (.ireturn, 1) := by decide +kernel
theorem dL_would_0 : decode cL_would 0 = .ok (.aload 7, 2) := by decide +kernel
theorem dL_would_2 : decode cL_would 2 = .ok (.iconst 0, 1) := by decide +kernel
theorem dL_would_3 : decode cL_would 3 = .ok (.aload_n 0, 1) := by decide +kernel
theorem dL_would_4 : decode cL_would 4 = .ok (.iload_n 1, 1) := by decide +kernel
theorem dL_would_5 : decode cL_would 5 = .ok (.iload_n 2, 1) := by decide +kernel
theorem dL_would_6 : decode cL_would 6 = .ok (.iload_n 3, 1) := by decide +kernel
theorem dL_would_7 : decode cL_would 7 = .ok (.iload 4, 2) := by decide +kernel
theorem dL_would_9 : decode cL_would 9 = .ok (.iload 5, 2) := by decide +kernel
theorem dL_would_11 : decode cL_would 11 = .ok (.iload 6, 2) := by decide +kernel
theorem dL_would_13 : decode cL_would 13 = .ok (.invokevirtual 45, 3) := by decide +kernel
theorem dL_would_16 : decode cL_would 16 = .ok (.i2l, 1) := by decide +kernel
theorem dL_would_17 : decode cL_would 17 = .ok (.lastore, 1) := by decide +kernel
theorem dL_would_18 : decode cL_would 18 = .ok (.goto 7, 3) := by decide +kernel
theorem dL_would_21 : decode cL_would 21 = .ok (.astore 8, 2) := by decide +kernel
theorem dL_would_23 : decode cL_would 23 = .ok (.iconst 1, 1) := by decide +kernel
theorem dL_would_24 : decode cL_would 24 = .ok (.ireturn, 1) := by decide +kernel
theorem dL_would_25 : decode cL_would 25 = .ok (.iconst 0, 1) := by decide +kernel
theorem dL_would_26 : decode cL_would 26 = .ok (.ireturn, 1) := by decide +kernel
theorem dL_ahead_0 : decode cL_ahead 0 = .ok (.aload_n 3, 1) := by decide +kernel
theorem dL_ahead_1 : decode cL_ahead 1 = .ok (.iconst 0, 1) := by decide +kernel
theorem dL_ahead_2 : decode cL_ahead 2 = .ok (.aload_n 0, 1) := by decide +kernel
theorem dL_ahead_3 : decode cL_ahead 3 = .ok (.iload_n 1, 1) := by decide +kernel
theorem dL_ahead_4 : decode cL_ahead 4 = .ok (.iload_n 2, 1) := by decide +kernel
theorem dL_ahead_5 : decode cL_ahead 5 = .ok (.invokevirtual 49, 3) := by decide +kernel
theorem dL_ahead_8 : decode cL_ahead 8 = .ok (.i2l, 1) := by decide +kernel
theorem dL_ahead_9 : decode cL_ahead 9 = .ok (.lastore, 1) := by decide +kernel
theorem dL_ahead_10 : decode cL_ahead 10 = .ok (.goto 7, 3) := by decide +kernel
theorem dL_ahead_13 : decode cL_ahead 13 = .ok (.astore 4, 2) := by decide +kernel
theorem dL_ahead_15 : decode cL_ahead 15 = .ok (.iconst 1, 1) := by decide +kernel
theorem dL_ahead_16 : decode cL_ahead 16 = .ok (.ireturn, 1) := by decide +kernel
theorem dL_ahead_17 : decode cL_ahead 17 = .ok (.iconst 0, 1) := by decide +kernel
theorem dL_ahead_18 : decode cL_ahead 18 = .ok (.ireturn, 1) := by decide +kernel
theorem dL_comes_0 : decode cL_comes 0 = .ok (.aload_n 2, 1) := by decide +kernel
theorem dL_comes_1 : decode cL_comes 1 = .ok (.iconst 0, 1) := by decide +kernel
theorem dL_comes_2 : decode cL_comes 2 = .ok (.aload_n 0, 1) := by decide +kernel
theorem dL_comes_3 : decode cL_comes 3 = .ok (.iload_n 1, 1) := by decide +kernel
theorem dL_comes_4 : decode cL_comes 4 = .ok (.invokevirtual 52, 3) := by decide +kernel
theorem dL_comes_7 : decode cL_comes 7 = .ok (.i2l, 1) := by decide +kernel
theorem dL_comes_8 : decode cL_comes 8 = .ok (.lastore, 1) := by decide +kernel
theorem dL_comes_9 : decode cL_comes 9 = .ok (.goto 6, 3) := by decide +kernel
theorem dL_comes_12 : decode cL_comes 12 = .ok (.astore_n 3, 1) := by decide +kernel
theorem dL_comes_13 : decode cL_comes 13 = .ok (.iconst 1, 1) := by decide +kernel
theorem dL_comes_14 : decode cL_comes 14 = .ok (.ireturn, 1) := by decide +kernel
theorem dL_comes_15 : decode cL_comes 15 = .ok (.iconst 0, 1) := by decide +kernel
theorem dL_comes_16 : decode cL_comes 16 = .ok (.ireturn, 1) := by decide +kernel
theorem dL_spring_0 : decode cL_spring 0 = .ok (.aload_n 2, 1) := by decide +kernel
theorem dL_spring_1 : decode cL_spring 1 = .ok (.iconst 0, 1) := by decide +kernel
theorem dL_spring_2 : decode cL_spring 2 = .ok (.aload_n 0, 1) := by decide +kernel
theorem dL_spring_3 : decode cL_spring 3 = .ok (.iload_n 1, 1) := by decide +kernel
theorem dL_spring_4 : decode cL_spring 4 = .ok (.invokevirtual 55, 3) := by decide +kernel
theorem dL_spring_7 : decode cL_spring 7 = .ok (.i2l, 1) := by decide +kernel
theorem dL_spring_8 : decode cL_spring 8 = .ok (.lastore, 1) := by decide +kernel
theorem dL_spring_9 : decode cL_spring 9 = .ok (.goto 6, 3) := by decide +kernel
theorem dL_spring_12 : decode cL_spring 12 = .ok (.astore_n 3, 1) := by decide +kernel
theorem dL_spring_13 : decode cL_spring 13 = .ok (.iconst 1, 1) := by decide +kernel
theorem dL_spring_14 : decode cL_spring 14 = .ok (.ireturn, 1) := by decide +kernel
theorem dL_spring_15 : decode cL_spring 15 = .ok (.iconst 0, 1) := by decide +kernel
theorem dL_spring_16 : decode cL_spring 16 = .ok (.ireturn, 1) := by decide +kernel
theorem dL_carry_0 : decode cL_carry 0 = .ok (.aload 4, 2) := by decide +kernel
theorem dL_carry_2 : decode cL_carry 2 = .ok (.iconst 0, 1) := by decide +kernel
theorem dL_carry_3 : decode cL_carry 3 = .ok (.aload_n 0, 1) := by decide +kernel
theorem dL_carry_4 : decode cL_carry 4 = .ok (.iload_n 1, 1) := by decide +kernel
theorem dL_carry_5 : decode cL_carry 5 = .ok (.iload_n 2, 1) := by decide +kernel
theorem dL_carry_6 : decode cL_carry 6 = .ok (.iload_n 3, 1) := by decide +kernel
theorem dL_carry_7 : decode cL_carry 7 = .ok (.invokevirtual 58, 3) := by decide +kernel
theorem dL_carry_10 : decode cL_carry 10 = .ok (.i2l, 1) := by decide +kernel
theorem dL_carry_11 : decode cL_carry 11 = .ok (.lastore, 1) := by decide +kernel
theorem dL_carry_12 : decode cL_carry 12 = .ok (.goto 7, 3) := by decide +kernel
theorem dL_carry_15 : decode cL_carry 15 = .ok (.astore 5, 2) := by decide +kernel
theorem dL_carry_17 : decode cL_carry 17 = .ok (.iconst 1, 1) := by decide +kernel
theorem dL_carry_18 : decode cL_carry 18 = .ok (.ireturn, 1) := by decide +kernel
theorem dL_carry_19 : decode cL_carry 19 = .ok (.iconst 0, 1) := by decide +kernel
theorem dL_carry_20 : decode cL_carry 20 = .ok (.ireturn, 1) := by decide +kernel
theorem dL_rent_0 : decode cL_rent 0 = .ok (.aload_n 3, 1) := by decide +kernel
theorem dL_rent_1 : decode cL_rent 1 = .ok (.iconst 0, 1) := by decide +kernel
theorem dL_rent_2 : decode cL_rent 2 = .ok (.aload_n 0, 1) := by decide +kernel
theorem dL_rent_3 : decode cL_rent 3 = .ok (.iload_n 1, 1) := by decide +kernel
theorem dL_rent_4 : decode cL_rent 4 = .ok (.iload_n 2, 1) := by decide +kernel
theorem dL_rent_5 : decode cL_rent 5 = .ok (.invokevirtual 62, 3) := by decide +kernel
theorem dL_rent_8 : decode cL_rent 8 = .ok (.i2l, 1) := by decide +kernel
theorem dL_rent_9 : decode cL_rent 9 = .ok (.lastore, 1) := by decide +kernel
theorem dL_rent_10 : decode cL_rent 10 = .ok (.goto 7, 3) := by decide +kernel
theorem dL_rent_13 : decode cL_rent 13 = .ok (.astore 4, 2) := by decide +kernel
theorem dL_rent_15 : decode cL_rent 15 = .ok (.iconst 1, 1) := by decide +kernel
theorem dL_rent_16 : decode cL_rent 16 = .ok (.ireturn, 1) := by decide +kernel
theorem dL_rent_17 : decode cL_rent 17 = .ok (.iconst 0, 1) := by decide +kernel
theorem dL_rent_18 : decode cL_rent 18 = .ok (.ireturn, 1) := by decide +kernel
theorem dL_bags_0 : decode cL_bags 0 = .ok (.aload_n 3, 1) := by decide +kernel
theorem dL_bags_1 : decode cL_bags 1 = .ok (.iconst 0, 1) := by decide +kernel
theorem dL_bags_2 : decode cL_bags 2 = .ok (.aload_n 0, 1) := by decide +kernel
theorem dL_bags_3 : decode cL_bags 3 = .ok (.iload_n 1, 1) := by decide +kernel
theorem dL_bags_4 : decode cL_bags 4 = .ok (.iload_n 2, 1) := by decide +kernel
theorem dL_bags_5 : decode cL_bags 5 = .ok (.invokevirtual 65, 3) := by decide +kernel
theorem dL_bags_8 : decode cL_bags 8 = .ok (.i2l, 1) := by decide +kernel
theorem dL_bags_9 : decode cL_bags 9 = .ok (.lastore, 1) := by decide +kernel
theorem dL_bags_10 : decode cL_bags 10 = .ok (.goto 7, 3) := by decide +kernel
theorem dL_bags_13 : decode cL_bags 13 = .ok (.astore 4, 2) := by decide +kernel
theorem dL_bags_15 : decode cL_bags 15 = .ok (.iconst 1, 1) := by decide +kernel
theorem dL_bags_16 : decode cL_bags 16 = .ok (.ireturn, 1) := by decide +kernel
theorem dL_bags_17 : decode cL_bags 17 = .ok (.iconst 0, 1) := by decide +kernel
theorem dL_bags_18 : decode cL_bags 18 = .ok (.ireturn, 1) := by decide +kernel
theorem dL_parlour_0 : decode cL_parlour 0 = .ok (.aload 4, 2) := by decide +kernel
theorem dL_parlour_2 : decode cL_parlour 2 = .ok (.iconst 0, 1) := by decide +kernel
theorem dL_parlour_3 : decode cL_parlour 3 = .ok (.aload_n 0, 1) := by decide +kernel
theorem dL_parlour_4 : decode cL_parlour 4 = .ok (.iload_n 1, 1) := by decide +kernel
theorem dL_parlour_5 : decode cL_parlour 5 = .ok (.iload_n 2, 1) := by decide +kernel
theorem dL_parlour_6 : decode cL_parlour 6 = .ok (.iload_n 3, 1) := by decide +kernel
theorem dL_parlour_7 : decode cL_parlour 7 = .ok (.invokevirtual 68, 3) := by decide +kernel
theorem dL_parlour_10 : decode cL_parlour 10 = .ok (.i2l, 1) := by decide +kernel
theorem dL_parlour_11 : decode cL_parlour 11 = .ok (.lastore, 1) := by decide +kernel
theorem dL_parlour_12 : decode cL_parlour 12 = .ok (.goto 7, 3) := by decide +kernel
theorem dL_parlour_15 : decode cL_parlour 15 = .ok (.astore 5, 2) := by decide +kernel
theorem dL_parlour_17 : decode cL_parlour 17 = .ok (.iconst 1, 1) := by decide +kernel
theorem dL_parlour_18 : decode cL_parlour 18 = .ok (.ireturn, 1) := by decide +kernel
theorem dL_parlour_19 : decode cL_parlour 19 = .ok (.iconst 0, 1) := by decide +kernel
theorem dL_parlour_20 : decode cL_parlour 20 = .ok (.ireturn, 1) := by decide +kernel
theorem dL_in_0 : decode cL_in 0 = .ok (.aload_n 2, 1) := by decide +kernel
theorem dL_in_1 : decode cL_in 1 = .ok (.iconst 0, 1) := by decide +kernel
theorem dL_in_2 : decode cL_in 2 = .ok (.aload_n 0, 1) := by decide +kernel
theorem dL_in_3 : decode cL_in 3 = .ok (.iload_n 1, 1) := by decide +kernel
theorem dL_in_4 : decode cL_in 4 = .ok (.invokevirtual 71, 3) := by decide +kernel
theorem dL_in_7 : decode cL_in 7 = .ok (.i2l, 1) := by decide +kernel
theorem dL_in_8 : decode cL_in 8 = .ok (.lastore, 1) := by decide +kernel
theorem dL_in_9 : decode cL_in 9 = .ok (.goto 6, 3) := by decide +kernel
theorem dL_in_12 : decode cL_in 12 = .ok (.astore_n 3, 1) := by decide +kernel
theorem dL_in_13 : decode cL_in 13 = .ok (.iconst 1, 1) := by decide +kernel
theorem dL_in_14 : decode cL_in 14 = .ok (.ireturn, 1) := by decide +kernel
theorem dL_in_15 : decode cL_in 15 = .ok (.iconst 0, 1) := by decide +kernel
theorem dL_in_16 : decode cL_in 16 = .ok (.ireturn, 1) := by decide +kernel
theorem dL_board_0 : decode cL_board 0 = .ok (.aload_n 2, 1) := by decide +kernel
theorem dL_board_1 : decode cL_board 1 = .ok (.iconst 0, 1) := by decide +kernel
theorem dL_board_2 : decode cL_board 2 = .ok (.aload_n 0, 1) := by decide +kernel
theorem dL_board_3 : decode cL_board 3 = .ok (.iload_n 1, 1) := by decide +kernel
theorem dL_board_4 : decode cL_board 4 = .ok (.invokevirtual 74, 3) := by decide +kernel
theorem dL_board_7 : decode cL_board 7 = .ok (.i2l, 1) := by decide +kernel
theorem dL_board_8 : decode cL_board 8 = .ok (.lastore, 1) := by decide +kernel
theorem dL_board_9 : decode cL_board 9 = .ok (.goto 6, 3) := by decide +kernel
theorem dL_board_12 : decode cL_board 12 = .ok (.astore_n 3, 1) := by decide +kernel
theorem dL_board_13 : decode cL_board 13 = .ok (.iconst 1, 1) := by decide +kernel
theorem dL_board_14 : decode cL_board 14 = .ok (.ireturn, 1) := by decide +kernel
theorem dL_board_15 : decode cL_board 15 = .ok (.iconst 0, 1) := by decide +kernel
theorem dL_board_16 : decode cL_board 16 = .ok (.ireturn, 1) := by decide +kernel
theorem dL_drift_0 : decode cL_drift 0 = .ok (.aload 4, 2) := by decide +kernel
theorem dL_drift_2 : decode cL_drift 2 = .ok (.iconst 0, 1) := by decide +kernel
theorem dL_drift_3 : decode cL_drift 3 = .ok (.aload_n 0, 1) := by decide +kernel
theorem dL_drift_4 : decode cL_drift 4 = .ok (.iload_n 1, 1) := by decide +kernel
theorem dL_drift_5 : decode cL_drift 5 = .ok (.iload_n 2, 1) := by decide +kernel
theorem dL_drift_6 : decode cL_drift 6 = .ok (.iload_n 3, 1) := by decide +kernel
theorem dL_drift_7 : decode cL_drift 7 = .ok (.invokevirtual 77, 3) := by decide +kernel
theorem dL_drift_10 : decode cL_drift 10 = .ok (.i2l, 1) := by decide +kernel
theorem dL_drift_11 : decode cL_drift 11 = .ok (.lastore, 1) := by decide +kernel
theorem dL_drift_12 : decode cL_drift 12 = .ok (.goto 11, 3) := by decide +kernel
theorem dL_drift_15 : decode cL_drift 15 = .ok (.astore 5, 2) := by decide +kernel
theorem dL_drift_17 : decode cL_drift 17 = .ok (.iconst 1, 1) := by decide +kernel
theorem dL_drift_18 : decode cL_drift 18 = .ok (.ireturn, 1) := by decide +kernel
theorem dL_drift_19 : decode cL_drift 19 = .ok (.astore 5, 2) := by decide +kernel
theorem dL_drift_21 : decode cL_drift 21 = .ok (.iconst 2, 1) := by decide +kernel
theorem dL_drift_22 : decode cL_drift 22 = .ok (.ireturn, 1) := by decide +kernel
theorem dL_drift_23 : decode cL_drift 23 = .ok (.iconst 0, 1) := by decide +kernel
theorem dL_drift_24 : decode cL_drift 24 = .ok (.ireturn, 1) := by decide +kernel
theorem dL_whence_0 : decode cL_whence 0 = .ok (.aload 4, 2) := by decide +kernel
theorem dL_whence_2 : decode cL_whence 2 = .ok (.iconst 0, 1) := by decide +kernel
theorem dL_whence_3 : decode cL_whence 3 = .ok (.aload_n 0, 1) := by decide +kernel
theorem dL_whence_4 : decode cL_whence 4 = .ok (.iload_n 1, 1) := by decide +kernel
theorem dL_whence_5 : decode cL_whence 5 = .ok (.iload_n 2, 1) := by decide +kernel
theorem dL_whence_6 : decode cL_whence 6 = .ok (.iload_n 3, 1) := by decide +kernel
theorem dL_whence_7 : decode cL_whence 7 = .ok (.invokevirtual 80, 3) := by decide +kernel
theorem dL_whence_10 : decode cL_whence 10 = .ok (.i2l, 1) := by decide +kernel
theorem dL_whence_11 : decode cL_whence 11 = .ok (.lastore, 1) := by decide +kernel
theorem dL_whence_12 : decode cL_whence 12 = .ok (.goto 11, 3) := by decide +kernel
theorem dL_whence_15 : decode cL_whence 15 = .ok (.astore 5, 2) := by decide +kernel
theorem dL_whence_17 : decode cL_whence 17 = .ok (.iconst 1, 1) := by decide +kernel
theorem dL_whence_18 : decode cL_whence 18 = .ok (.ireturn, 1) := by decide +kernel
theorem dL_whence_19 : decode cL_whence 19 = .ok (.astore 5, 2) := by decide +kernel
theorem dL_whence_21 : decode cL_whence 21 = .ok (.iconst 2, 1) := by decide +kernel
theorem dL_whence_22 : decode cL_whence 22 = .ok (.ireturn, 1) := by decide +kernel
theorem dL_whence_23 : decode cL_whence 23 = .ok (.iconst 0, 1) := by decide +kernel
theorem dL_whence_24 : decode cL_whence 24 = .ok (.ireturn, 1) := by decide +kernel
theorem dL_gain_0 : decode cL_gain 0 = .ok (.aload 4, 2) := by decide +kernel
theorem dL_gain_2 : decode cL_gain 2 = .ok (.iconst 0, 1) := by decide +kernel
theorem dL_gain_3 : decode cL_gain 3 = .ok (.aload_n 0, 1) := by decide +kernel
theorem dL_gain_4 : decode cL_gain 4 = .ok (.iload_n 1, 1) := by decide +kernel
theorem dL_gain_5 : decode cL_gain 5 = .ok (.iload_n 2, 1) := by decide +kernel
theorem dL_gain_6 : decode cL_gain 6 = .ok (.iload_n 3, 1) := by decide +kernel
theorem dL_gain_7 : decode cL_gain 7 = .ok (.invokevirtual 83, 3) := by decide +kernel
theorem dL_gain_10 : decode cL_gain 10 = .ok (.i2l, 1) := by decide +kernel
theorem dL_gain_11 : decode cL_gain 11 = .ok (.lastore, 1) := by decide +kernel
theorem dL_gain_12 : decode cL_gain 12 = .ok (.goto 11, 3) := by decide +kernel
theorem dL_gain_15 : decode cL_gain 15 = .ok (.astore 5, 2) := by decide +kernel
theorem dL_gain_17 : decode cL_gain 17 = .ok (.iconst 1, 1) := by decide +kernel
theorem dL_gain_18 : decode cL_gain 18 = .ok (.ireturn, 1) := by decide +kernel
theorem dL_gain_19 : decode cL_gain 19 = .ok (.astore 5, 2) := by decide +kernel
theorem dL_gain_21 : decode cL_gain 21 = .ok (.iconst 2, 1) := by decide +kernel
theorem dL_gain_22 : decode cL_gain 22 = .ok (.ireturn, 1) := by decide +kernel
theorem dL_gain_23 : decode cL_gain 23 = .ok (.iconst 0, 1) := by decide +kernel
theorem dL_gain_24 : decode cL_gain 24 = .ok (.ireturn, 1) := by decide +kernel
theorem dL_share_0 : decode cL_share 0 = .ok (.aload 4, 2) := by decide +kernel
theorem dL_share_2 : decode cL_share 2 = .ok (.iconst 0, 1) := by decide +kernel
theorem dL_share_3 : decode cL_share 3 = .ok (.aload_n 0, 1) := by decide +kernel
theorem dL_share_4 : decode cL_share 4 = .ok (.iload_n 1, 1) := by decide +kernel
theorem dL_share_5 : decode cL_share 5 = .ok (.iload_n 2, 1) := by decide +kernel
theorem dL_share_6 : decode cL_share 6 = .ok (.iload_n 3, 1) := by decide +kernel
theorem dL_share_7 : decode cL_share 7 = .ok (.invokevirtual 86, 3) := by decide +kernel
theorem dL_share_10 : decode cL_share 10 = .ok (.i2l, 1) := by decide +kernel
theorem dL_share_11 : decode cL_share 11 = .ok (.lastore, 1) := by decide +kernel
theorem dL_share_12 : decode cL_share 12 = .ok (.goto 11, 3) := by decide +kernel
theorem dL_share_15 : decode cL_share 15 = .ok (.astore 5, 2) := by decide +kernel
theorem dL_share_17 : decode cL_share 17 = .ok (.iconst 1, 1) := by decide +kernel
theorem dL_share_18 : decode cL_share 18 = .ok (.ireturn, 1) := by decide +kernel
theorem dL_share_19 : decode cL_share 19 = .ok (.astore 5, 2) := by decide +kernel
theorem dL_share_21 : decode cL_share 21 = .ok (.iconst 2, 1) := by decide +kernel
theorem dL_share_22 : decode cL_share 22 = .ok (.ireturn, 1) := by decide +kernel
theorem dL_share_23 : decode cL_share 23 = .ok (.iconst 0, 1) := by decide +kernel
theorem dL_share_24 : decode cL_share 24 = .ok (.ireturn, 1) := by decide +kernel
theorem dL_soaked_0 : decode cL_soaked 0 = .ok (.aload_n 3, 1) := by decide +kernel
theorem dL_soaked_1 : decode cL_soaked 1 = .ok (.iconst 0, 1) := by decide +kernel
theorem dL_soaked_2 : decode cL_soaked 2 = .ok (.aload_n 0, 1) := by decide +kernel
theorem dL_soaked_3 : decode cL_soaked 3 = .ok (.iload_n 1, 1) := by decide +kernel
theorem dL_soaked_4 : decode cL_soaked 4 = .ok (.iload_n 2, 1) := by decide +kernel
theorem dL_soaked_5 : decode cL_soaked 5 = .ok (.invokevirtual 89, 3) := by decide +kernel
theorem dL_soaked_8 : decode cL_soaked 8 = .ok (.i2l, 1) := by decide +kernel
theorem dL_soaked_9 : decode cL_soaked 9 = .ok (.lastore, 1) := by decide +kernel
theorem dL_soaked_10 : decode cL_soaked 10 = .ok (.goto 11, 3) := by decide +kernel
theorem dL_soaked_13 : decode cL_soaked 13 = .ok (.astore 4, 2) := by decide +kernel
theorem dL_soaked_15 : decode cL_soaked 15 = .ok (.iconst 1, 1) := by decide +kernel
theorem dL_soaked_16 : decode cL_soaked 16 = .ok (.ireturn, 1) := by decide +kernel
theorem dL_soaked_17 : decode cL_soaked 17 = .ok (.astore 4, 2) := by decide +kernel
theorem dL_soaked_19 : decode cL_soaked 19 = .ok (.iconst 2, 1) := by decide +kernel
theorem dL_soaked_20 : decode cL_soaked 20 = .ok (.ireturn, 1) := by decide +kernel
theorem dL_soaked_21 : decode cL_soaked 21 = .ok (.iconst 0, 1) := by decide +kernel
theorem dL_soaked_22 : decode cL_soaked 22 = .ok (.ireturn, 1) := by decide +kernel
theorem dL_snaps_0 : decode cL_snaps 0 = .ok (.aload_n 2, 1) := by decide +kernel
theorem dL_snaps_1 : decode cL_snaps 1 = .ok (.iconst 0, 1) := by decide +kernel
theorem dL_snaps_2 : decode cL_snaps 2 = .ok (.aload_n 0, 1) := by decide +kernel
theorem dL_snaps_3 : decode cL_snaps 3 = .ok (.iload_n 1, 1) := by decide +kernel
theorem dL_snaps_4 : decode cL_snaps 4 = .ok (.invokevirtual 92, 3) := by decide +kernel
theorem dL_snaps_7 : decode cL_snaps 7 = .ok (.i2l, 1) := by decide +kernel
theorem dL_snaps_8 : decode cL_snaps 8 = .ok (.lastore, 1) := by decide +kernel
theorem dL_snaps_9 : decode cL_snaps 9 = .ok (.goto 6, 3) := by decide +kernel
theorem dL_snaps_12 : decode cL_snaps 12 = .ok (.astore_n 3, 1) := by decide +kernel
theorem dL_snaps_13 : decode cL_snaps 13 = .ok (.iconst 1, 1) := by decide +kernel
theorem dL_snaps_14 : decode cL_snaps 14 = .ok (.ireturn, 1) := by decide +kernel
theorem dL_snaps_15 : decode cL_snaps 15 = .ok (.iconst 0, 1) := by decide +kernel
theorem dL_snaps_16 : decode cL_snaps 16 = .ok (.ireturn, 1) := by decide +kernel
theorem dL_fullest_0 : decode cL_fullest 0 = .ok (.aload_n 2, 1) := by decide +kernel
theorem dL_fullest_1 : decode cL_fullest 1 = .ok (.iconst 0, 1) := by decide +kernel
theorem dL_fullest_2 : decode cL_fullest 2 = .ok (.aload_n 0, 1) := by decide +kernel
theorem dL_fullest_3 : decode cL_fullest 3 = .ok (.iload_n 1, 1) := by decide +kernel
theorem dL_fullest_4 : decode cL_fullest 4 = .ok (.invokevirtual 95, 3) := by decide +kernel
theorem dL_fullest_7 : decode cL_fullest 7 = .ok (.i2l, 1) := by decide +kernel
theorem dL_fullest_8 : decode cL_fullest 8 = .ok (.lastore, 1) := by decide +kernel
theorem dL_fullest_9 : decode cL_fullest 9 = .ok (.goto 6, 3) := by decide +kernel
theorem dL_fullest_12 : decode cL_fullest 12 = .ok (.astore_n 3, 1) := by decide +kernel
theorem dL_fullest_13 : decode cL_fullest 13 = .ok (.iconst 1, 1) := by decide +kernel
theorem dL_fullest_14 : decode cL_fullest 14 = .ok (.ireturn, 1) := by decide +kernel
theorem dL_fullest_15 : decode cL_fullest 15 = .ok (.iconst 0, 1) := by decide +kernel
theorem dL_fullest_16 : decode cL_fullest 16 = .ok (.ireturn, 1) := by decide +kernel
theorem dL_pays_0 : decode cL_pays 0 = .ok (.aload_n 3, 1) := by decide +kernel
theorem dL_pays_1 : decode cL_pays 1 = .ok (.iconst 0, 1) := by decide +kernel
theorem dL_pays_2 : decode cL_pays 2 = .ok (.aload_n 0, 1) := by decide +kernel
theorem dL_pays_3 : decode cL_pays 3 = .ok (.iload_n 1, 1) := by decide +kernel
theorem dL_pays_4 : decode cL_pays 4 = .ok (.iload_n 2, 1) := by decide +kernel
theorem dL_pays_5 : decode cL_pays 5 = .ok (.invokevirtual 98, 3) := by decide +kernel
theorem dL_pays_8 : decode cL_pays 8 = .ok (.i2l, 1) := by decide +kernel
theorem dL_pays_9 : decode cL_pays 9 = .ok (.lastore, 1) := by decide +kernel
theorem dL_pays_10 : decode cL_pays 10 = .ok (.goto 11, 3) := by decide +kernel
theorem dL_pays_13 : decode cL_pays 13 = .ok (.astore 4, 2) := by decide +kernel
theorem dL_pays_15 : decode cL_pays 15 = .ok (.iconst 1, 1) := by decide +kernel
theorem dL_pays_16 : decode cL_pays 16 = .ok (.ireturn, 1) := by decide +kernel
theorem dL_pays_17 : decode cL_pays 17 = .ok (.astore 4, 2) := by decide +kernel
theorem dL_pays_19 : decode cL_pays 19 = .ok (.iconst 2, 1) := by decide +kernel
theorem dL_pays_20 : decode cL_pays 20 = .ok (.ireturn, 1) := by decide +kernel
theorem dL_pays_21 : decode cL_pays 21 = .ok (.iconst 0, 1) := by decide +kernel
theorem dL_pays_22 : decode cL_pays 22 = .ok (.ireturn, 1) := by decide +kernel
theorem dL_neap_0 : decode cL_neap 0 = .ok (.aload_n 2, 1) := by decide +kernel
theorem dL_neap_1 : decode cL_neap 1 = .ok (.iconst 0, 1) := by decide +kernel
theorem dL_neap_2 : decode cL_neap 2 = .ok (.aload_n 0, 1) := by decide +kernel
theorem dL_neap_3 : decode cL_neap 3 = .ok (.iload_n 1, 1) := by decide +kernel
theorem dL_neap_4 : decode cL_neap 4 = .ok (.invokevirtual 101, 3) := by decide +kernel
theorem dL_neap_7 : decode cL_neap 7 = .ok (.i2l, 1) := by decide +kernel
theorem dL_neap_8 : decode cL_neap 8 = .ok (.lastore, 1) := by decide +kernel
theorem dL_neap_9 : decode cL_neap 9 = .ok (.goto 6, 3) := by decide +kernel
theorem dL_neap_12 : decode cL_neap 12 = .ok (.astore_n 3, 1) := by decide +kernel
theorem dL_neap_13 : decode cL_neap 13 = .ok (.iconst 1, 1) := by decide +kernel
theorem dL_neap_14 : decode cL_neap 14 = .ok (.ireturn, 1) := by decide +kernel
theorem dL_neap_15 : decode cL_neap 15 = .ok (.iconst 0, 1) := by decide +kernel
theorem dL_neap_16 : decode cL_neap 16 = .ok (.ireturn, 1) := by decide +kernel
theorem dL_loads_0 : decode cL_loads 0 = .ok (.aload_n 3, 1) := by decide +kernel
theorem dL_loads_1 : decode cL_loads 1 = .ok (.iconst 0, 1) := by decide +kernel
theorem dL_loads_2 : decode cL_loads 2 = .ok (.aload_n 0, 1) := by decide +kernel
theorem dL_loads_3 : decode cL_loads 3 = .ok (.iload_n 1, 1) := by decide +kernel
theorem dL_loads_4 : decode cL_loads 4 = .ok (.iload_n 2, 1) := by decide +kernel
theorem dL_loads_5 : decode cL_loads 5 = .ok (.invokevirtual 104, 3) := by decide +kernel
theorem dL_loads_8 : decode cL_loads 8 = .ok (.i2l, 1) := by decide +kernel
theorem dL_loads_9 : decode cL_loads 9 = .ok (.lastore, 1) := by decide +kernel
theorem dL_loads_10 : decode cL_loads 10 = .ok (.goto 11, 3) := by decide +kernel
theorem dL_loads_13 : decode cL_loads 13 = .ok (.astore 4, 2) := by decide +kernel
theorem dL_loads_15 : decode cL_loads 15 = .ok (.iconst 1, 1) := by decide +kernel
theorem dL_loads_16 : decode cL_loads 16 = .ok (.ireturn, 1) := by decide +kernel
theorem dL_loads_17 : decode cL_loads 17 = .ok (.astore 4, 2) := by decide +kernel
theorem dL_loads_19 : decode cL_loads 19 = .ok (.iconst 2, 1) := by decide +kernel
theorem dL_loads_20 : decode cL_loads 20 = .ok (.ireturn, 1) := by decide +kernel
theorem dL_loads_21 : decode cL_loads 21 = .ok (.iconst 0, 1) := by decide +kernel
theorem dL_loads_22 : decode cL_loads 22 = .ok (.ireturn, 1) := by decide +kernel
theorem dL_dearest_0 : decode cL_dearest 0 = .ok (.aload_n 2, 1) := by decide +kernel
theorem dL_dearest_1 : decode cL_dearest 1 = .ok (.iconst 0, 1) := by decide +kernel
theorem dL_dearest_2 : decode cL_dearest 2 = .ok (.aload_n 0, 1) := by decide +kernel
theorem dL_dearest_3 : decode cL_dearest 3 = .ok (.iload_n 1, 1) := by decide +kernel
theorem dL_dearest_4 : decode cL_dearest 4 = .ok (.invokevirtual 107, 3) := by decide +kernel
theorem dL_dearest_7 : decode cL_dearest 7 = .ok (.i2l, 1) := by decide +kernel
theorem dL_dearest_8 : decode cL_dearest 8 = .ok (.lastore, 1) := by decide +kernel
theorem dL_dearest_9 : decode cL_dearest 9 = .ok (.goto 6, 3) := by decide +kernel
theorem dL_dearest_12 : decode cL_dearest 12 = .ok (.astore_n 3, 1) := by decide +kernel
theorem dL_dearest_13 : decode cL_dearest 13 = .ok (.iconst 1, 1) := by decide +kernel
theorem dL_dearest_14 : decode cL_dearest 14 = .ok (.ireturn, 1) := by decide +kernel
theorem dL_dearest_15 : decode cL_dearest 15 = .ok (.iconst 0, 1) := by decide +kernel
theorem dL_dearest_16 : decode cL_dearest 16 = .ok (.ireturn, 1) := by decide +kernel
theorem dL_dry_0 : decode cL_dry 0 = .ok (.aload_n 3, 1) := by decide +kernel
theorem dL_dry_1 : decode cL_dry 1 = .ok (.iconst 0, 1) := by decide +kernel
theorem dL_dry_2 : decode cL_dry 2 = .ok (.aload_n 0, 1) := by decide +kernel
theorem dL_dry_3 : decode cL_dry 3 = .ok (.iload_n 1, 1) := by decide +kernel
theorem dL_dry_4 : decode cL_dry 4 = .ok (.iload_n 2, 1) := by decide +kernel
theorem dL_dry_5 : decode cL_dry 5 = .ok (.invokevirtual 110, 3) := by decide +kernel
theorem dL_dry_8 : decode cL_dry 8 = .ok (.i2l, 1) := by decide +kernel
theorem dL_dry_9 : decode cL_dry 9 = .ok (.lastore, 1) := by decide +kernel
theorem dL_dry_10 : decode cL_dry 10 = .ok (.goto 7, 3) := by decide +kernel
theorem dL_dry_13 : decode cL_dry 13 = .ok (.astore 4, 2) := by decide +kernel
theorem dL_dry_15 : decode cL_dry 15 = .ok (.iconst 1, 1) := by decide +kernel
theorem dL_dry_16 : decode cL_dry 16 = .ok (.ireturn, 1) := by decide +kernel
theorem dL_dry_17 : decode cL_dry 17 = .ok (.iconst 0, 1) := by decide +kernel
theorem dL_dry_18 : decode cL_dry 18 = .ok (.ireturn, 1) := by decide +kernel
theorem dL_year_0 : decode cL_year 0 = .ok (.aload 6, 2) := by decide +kernel
theorem dL_year_2 : decode cL_year 2 = .ok (.iconst 0, 1) := by decide +kernel
theorem dL_year_3 : decode cL_year 3 = .ok (.aload_n 0, 1) := by decide +kernel
theorem dL_year_4 : decode cL_year 4 = .ok (.iload_n 1, 1) := by decide +kernel
theorem dL_year_5 : decode cL_year 5 = .ok (.iload_n 2, 1) := by decide +kernel
theorem dL_year_6 : decode cL_year 6 = .ok (.iload_n 3, 1) := by decide +kernel
theorem dL_year_7 : decode cL_year 7 = .ok (.iload 4, 2) := by decide +kernel
theorem dL_year_9 : decode cL_year 9 = .ok (.iload 5, 2) := by decide +kernel
theorem dL_year_11 : decode cL_year 11 = .ok (.invokevirtual 113, 3) := by decide +kernel
theorem dL_year_14 : decode cL_year 14 = .ok (.i2l, 1) := by decide +kernel
theorem dL_year_15 : decode cL_year 15 = .ok (.lastore, 1) := by decide +kernel
theorem dL_year_16 : decode cL_year 16 = .ok (.goto 7, 3) := by decide +kernel
theorem dL_year_19 : decode cL_year 19 = .ok (.astore 7, 2) := by decide +kernel
theorem dL_year_21 : decode cL_year 21 = .ok (.iconst 1, 1) := by decide +kernel
theorem dL_year_22 : decode cL_year 22 = .ok (.ireturn, 1) := by decide +kernel
theorem dL_year_23 : decode cL_year 23 = .ok (.iconst 0, 1) := by decide +kernel
theorem dL_year_24 : decode cL_year 24 = .ok (.ireturn, 1) := by decide +kernel
theorem dL_span_0 : decode cL_span 0 = .ok (.aload 8, 2) := by decide +kernel
theorem dL_span_2 : decode cL_span 2 = .ok (.iconst 0, 1) := by decide +kernel
theorem dL_span_3 : decode cL_span 3 = .ok (.aload_n 0, 1) := by decide +kernel
theorem dL_span_4 : decode cL_span 4 = .ok (.iload_n 1, 1) := by decide +kernel
theorem dL_span_5 : decode cL_span 5 = .ok (.iload_n 2, 1) := by decide +kernel
theorem dL_span_6 : decode cL_span 6 = .ok (.iload_n 3, 1) := by decide +kernel
theorem dL_span_7 : decode cL_span 7 = .ok (.iload 4, 2) := by decide +kernel
theorem dL_span_9 : decode cL_span 9 = .ok (.iload 5, 2) := by decide +kernel
theorem dL_span_11 : decode cL_span 11 = .ok (.iload 6, 2) := by decide +kernel
theorem dL_span_13 : decode cL_span 13 = .ok (.iload 7, 2) := by decide +kernel
theorem dL_span_15 : decode cL_span 15 = .ok (.invokevirtual 117, 3) := by decide +kernel
theorem dL_span_18 : decode cL_span 18 = .ok (.i2l, 1) := by decide +kernel
theorem dL_span_19 : decode cL_span 19 = .ok (.lastore, 1) := by decide +kernel
theorem dL_span_20 : decode cL_span 20 = .ok (.goto 7, 3) := by decide +kernel
theorem dL_span_23 : decode cL_span 23 = .ok (.astore 9, 2) := by decide +kernel
theorem dL_span_25 : decode cL_span 25 = .ok (.iconst 1, 1) := by decide +kernel
theorem dL_span_26 : decode cL_span 26 = .ok (.ireturn, 1) := by decide +kernel
theorem dL_span_27 : decode cL_span 27 = .ok (.iconst 0, 1) := by decide +kernel
theorem dL_span_28 : decode cL_span 28 = .ok (.ireturn, 1) := by decide +kernel
theorem dL_law__0 : decode cL_law_ 0 = .ok (.new 8, 3) := by decide +kernel
theorem dL_law__3 : decode cL_law_ 3 = .ok (.dup, 1) := by decide +kernel
theorem dL_law__4 : decode cL_law_ 4 = .ok (.invokespecial 121, 3) := by decide +kernel
theorem dL_law__7 : decode cL_law_ 7 = .ok (.astore_n 1, 1) := by decide +kernel
theorem dL_law__8 : decode cL_law_ 8 = .ok (.new 122, 3) := by decide +kernel
theorem dL_law__11 : decode cL_law_ 11 = .ok (.dup, 1) := by decide +kernel
theorem dL_law__12 : decode cL_law_ 12 = .ok (.invokespecial 124, 3) := by decide +kernel
theorem dL_law__15 : decode cL_law_ 15 = .ok (.astore_n 2, 1) := by decide +kernel
theorem dL_law__16 : decode cL_law_ 16 = .ok (.iconst 1, 1) := by decide +kernel
theorem dL_law__17 : decode cL_law_ 17 = .ok (.newarray .long, 2) := by decide +kernel
theorem dL_law__19 : decode cL_law_ 19 = .ok (.astore_n 3, 1) := by decide +kernel
theorem dL_law__20 : decode cL_law_ 20 = .ok (.iconst 0, 1) := by decide +kernel
theorem dL_law__21 : decode cL_law_ 21 = .ok (.istore 4, 2) := by decide +kernel
theorem dL_law__23 : decode cL_law_ 23 = .ok (.iload 4, 2) := by decide +kernel
theorem dL_law__25 : decode cL_law_ 25 = .ok (.aload_n 0, 1) := by decide +kernel
theorem dL_law__26 : decode cL_law_ 26 = .ok (.arraylength, 1) := by decide +kernel
theorem dL_law__27 : decode cL_law_ 27 = .ok (.bipush 8, 2) := by decide +kernel
theorem dL_law__29 : decode cL_law_ 29 = .ok (.isub, 1) := by decide +kernel
theorem dL_law__30 : decode cL_law_ 30 = .ok (.if_icmp .gt 2725, 3) := by decide +kernel
theorem dL_law__33 : decode cL_law_ 33 = .ok (.aload_n 0, 1) := by decide +kernel
theorem dL_law__34 : decode cL_law_ 34 = .ok (.iload 4, 2) := by decide +kernel
theorem dL_law__36 : decode cL_law_ 36 = .ok (.iaload, 1) := by decide +kernel
theorem dL_law__37 : decode cL_law_ 37 = .ok (.bipush 63, 2) := by decide +kernel
theorem dL_law__39 : decode cL_law_ 39 = .ok (.iand, 1) := by decide +kernel
theorem dL_law__40 : decode cL_law_ 40 = .ok (.tableswitch 2709 0 40 #[180, 253, 309, 365, 421, 477, 490, 503, 559, 627, 695, 751, 819, 875, 993, 1061, 1117, 1173, 1253, 1321, 1389, 1469, 1525, 1581, 1661, 1741, 1821, 1901, 1969, 2025, 2081, 2149, 2205, 2273, 2329, 2397, 2501, 2633, 2646, 2659, 2684], 180) := by decide +kernel
theorem dL_law__220 : decode cL_law_ 220 = .ok (.aload_n 1, 1) := by decide +kernel
theorem dL_law__221 : decode cL_law_ 221 = .ok (.aload_n 0, 1) := by decide +kernel
theorem dL_law__222 : decode cL_law_ 222 = .ok (.iload 4, 2) := by decide +kernel
theorem dL_law__224 : decode cL_law_ 224 = .ok (.iconst 1, 1) := by decide +kernel
theorem dL_law__225 : decode cL_law_ 225 = .ok (.iadd, 1) := by decide +kernel
theorem dL_law__226 : decode cL_law_ 226 = .ok (.iaload, 1) := by decide +kernel
theorem dL_law__227 : decode cL_law_ 227 = .ok (.aload_n 0, 1) := by decide +kernel
theorem dL_law__228 : decode cL_law_ 228 = .ok (.iload 4, 2) := by decide +kernel
theorem dL_law__230 : decode cL_law_ 230 = .ok (.iconst 2, 1) := by decide +kernel
theorem dL_law__231 : decode cL_law_ 231 = .ok (.iadd, 1) := by decide +kernel
theorem dL_law__232 : decode cL_law_ 232 = .ok (.iaload, 1) := by decide +kernel
theorem dL_law__233 : decode cL_law_ 233 = .ok (.aload_n 0, 1) := by decide +kernel
theorem dL_law__234 : decode cL_law_ 234 = .ok (.iload 4, 2) := by decide +kernel
theorem dL_law__236 : decode cL_law_ 236 = .ok (.iconst 3, 1) := by decide +kernel
theorem dL_law__237 : decode cL_law_ 237 = .ok (.iadd, 1) := by decide +kernel
theorem dL_law__238 : decode cL_law_ 238 = .ok (.iaload, 1) := by decide +kernel
theorem dL_law__239 : decode cL_law_ 239 = .ok (.aload_n 0, 1) := by decide +kernel
theorem dL_law__240 : decode cL_law_ 240 = .ok (.iload 4, 2) := by decide +kernel
theorem dL_law__242 : decode cL_law_ 242 = .ok (.iconst 4, 1) := by decide +kernel
theorem dL_law__243 : decode cL_law_ 243 = .ok (.iadd, 1) := by decide +kernel
theorem dL_law__244 : decode cL_law_ 244 = .ok (.iaload, 1) := by decide +kernel
theorem dL_law__245 : decode cL_law_ 245 = .ok (.aload_n 0, 1) := by decide +kernel
theorem dL_law__246 : decode cL_law_ 246 = .ok (.iload 4, 2) := by decide +kernel
theorem dL_law__248 : decode cL_law_ 248 = .ok (.iconst 5, 1) := by decide +kernel
theorem dL_law__249 : decode cL_law_ 249 = .ok (.iadd, 1) := by decide +kernel
theorem dL_law__250 : decode cL_law_ 250 = .ok (.iaload, 1) := by decide +kernel
theorem dL_law__251 : decode cL_law_ 251 = .ok (.invokevirtual 125, 3) := by decide +kernel
theorem dL_law__254 : decode cL_law_ 254 = .ok (.aload_n 2, 1) := by decide +kernel
theorem dL_law__255 : decode cL_law_ 255 = .ok (.aload_n 0, 1) := by decide +kernel
theorem dL_law__256 : decode cL_law_ 256 = .ok (.iload 4, 2) := by decide +kernel
theorem dL_law__258 : decode cL_law_ 258 = .ok (.iconst 1, 1) := by decide +kernel
theorem dL_law__259 : decode cL_law_ 259 = .ok (.iadd, 1) := by decide +kernel
theorem dL_law__260 : decode cL_law_ 260 = .ok (.iaload, 1) := by decide +kernel
theorem dL_law__261 : decode cL_law_ 261 = .ok (.aload_n 0, 1) := by decide +kernel
theorem dL_law__262 : decode cL_law_ 262 = .ok (.iload 4, 2) := by decide +kernel
theorem dL_law__264 : decode cL_law_ 264 = .ok (.iconst 2, 1) := by decide +kernel
theorem dL_law__265 : decode cL_law_ 265 = .ok (.iadd, 1) := by decide +kernel
theorem dL_law__266 : decode cL_law_ 266 = .ok (.iaload, 1) := by decide +kernel
theorem dL_law__267 : decode cL_law_ 267 = .ok (.aload_n 0, 1) := by decide +kernel
theorem dL_law__268 : decode cL_law_ 268 = .ok (.iload 4, 2) := by decide +kernel
theorem dL_law__270 : decode cL_law_ 270 = .ok (.iconst 3, 1) := by decide +kernel
theorem dL_law__271 : decode cL_law_ 271 = .ok (.iadd, 1) := by decide +kernel
theorem dL_law__272 : decode cL_law_ 272 = .ok (.iaload, 1) := by decide +kernel
theorem dL_law__273 : decode cL_law_ 273 = .ok (.aload_n 0, 1) := by decide +kernel
theorem dL_law__274 : decode cL_law_ 274 = .ok (.iload 4, 2) := by decide +kernel
theorem dL_law__276 : decode cL_law_ 276 = .ok (.iconst 4, 1) := by decide +kernel
theorem dL_law__277 : decode cL_law_ 277 = .ok (.iadd, 1) := by decide +kernel
theorem dL_law__278 : decode cL_law_ 278 = .ok (.iaload, 1) := by decide +kernel
theorem dL_law__279 : decode cL_law_ 279 = .ok (.aload_n 0, 1) := by decide +kernel
theorem dL_law__280 : decode cL_law_ 280 = .ok (.iload 4, 2) := by decide +kernel
theorem dL_law__282 : decode cL_law_ 282 = .ok (.iconst 5, 1) := by decide +kernel
theorem dL_law__283 : decode cL_law_ 283 = .ok (.iadd, 1) := by decide +kernel
theorem dL_law__284 : decode cL_law_ 284 = .ok (.iaload, 1) := by decide +kernel
theorem dL_law__285 : decode cL_law_ 285 = .ok (.invokevirtual 128, 3) := by decide +kernel
theorem dL_law__288 : decode cL_law_ 288 = .ok (.if_icmp .eq 2461, 3) := by decide +kernel
theorem dL_law__291 : decode cL_law_ 291 = .ok (.iconst 0, 1) := by decide +kernel
theorem dL_law__292 : decode cL_law_ 292 = .ok (.ireturn, 1) := by decide +kernel
theorem dL_law__293 : decode cL_law_ 293 = .ok (.aload_n 1, 1) := by decide +kernel
theorem dL_law__294 : decode cL_law_ 294 = .ok (.aload_n 0, 1) := by decide +kernel
theorem dL_law__295 : decode cL_law_ 295 = .ok (.iload 4, 2) := by decide +kernel
theorem dL_law__297 : decode cL_law_ 297 = .ok (.iconst 1, 1) := by decide +kernel
theorem dL_law__298 : decode cL_law_ 298 = .ok (.iadd, 1) := by decide +kernel
theorem dL_law__299 : decode cL_law_ 299 = .ok (.iaload, 1) := by decide +kernel
theorem dL_law__300 : decode cL_law_ 300 = .ok (.aload_n 3, 1) := by decide +kernel
theorem dL_law__301 : decode cL_law_ 301 = .ok (.invokestatic 129, 3) := by decide +kernel
theorem dL_law__304 : decode cL_law_ 304 = .ok (.istore 5, 2) := by decide +kernel
theorem dL_law__306 : decode cL_law_ 306 = .ok (.aload_n 2, 1) := by decide +kernel
theorem dL_law__307 : decode cL_law_ 307 = .ok (.aload_n 0, 1) := by decide +kernel
theorem dL_law__308 : decode cL_law_ 308 = .ok (.iload 4, 2) := by decide +kernel
theorem dL_law__310 : decode cL_law_ 310 = .ok (.iconst 1, 1) := by decide +kernel
theorem dL_law__311 : decode cL_law_ 311 = .ok (.iadd, 1) := by decide +kernel
theorem dL_law__312 : decode cL_law_ 312 = .ok (.iaload, 1) := by decide +kernel
theorem dL_law__313 : decode cL_law_ 313 = .ok (.invokevirtual 134, 3) := by decide +kernel
theorem dL_law__316 : decode cL_law_ 316 = .ok (.istore 6, 2) := by decide +kernel
theorem dL_law__318 : decode cL_law_ 318 = .ok (.aload_n 2, 1) := by decide +kernel
theorem dL_law__319 : decode cL_law_ 319 = .ok (.invokevirtual 135, 3) := by decide +kernel
theorem dL_law__322 : decode cL_law_ 322 = .ok (.iload 5, 2) := by decide +kernel
theorem dL_law__324 : decode cL_law_ 324 = .ok (.if_icmp .eq 5, 3) := by decide +kernel
theorem dL_law__327 : decode cL_law_ 327 = .ok (.iconst 0, 1) := by decide +kernel
theorem dL_law__328 : decode cL_law_ 328 = .ok (.ireturn, 1) := by decide +kernel
theorem dL_law__329 : decode cL_law_ 329 = .ok (.iload 5, 2) := by decide +kernel
theorem dL_law__331 : decode cL_law_ 331 = .ok (.ifCond .ne 15, 3) := by decide +kernel
theorem dL_law__334 : decode cL_law_ 334 = .ok (.aload_n 3, 1) := by decide +kernel
theorem dL_law__335 : decode cL_law_ 335 = .ok (.iconst 0, 1) := by decide +kernel
theorem dL_law__336 : decode cL_law_ 336 = .ok (.laload, 1) := by decide +kernel
theorem dL_law__337 : decode cL_law_ 337 = .ok (.iload 6, 2) := by decide +kernel
theorem dL_law__339 : decode cL_law_ 339 = .ok (.i2l, 1) := by decide +kernel
theorem dL_law__340 : decode cL_law_ 340 = .ok (.lcmp, 1) := by decide +kernel
theorem dL_law__341 : decode cL_law_ 341 = .ok (.ifCond .eq 5, 3) := by decide +kernel
theorem dL_law__344 : decode cL_law_ 344 = .ok (.iconst 0, 1) := by decide +kernel
theorem dL_law__345 : decode cL_law_ 345 = .ok (.ireturn, 1) := by decide +kernel
theorem dL_law__346 : decode cL_law_ 346 = .ok (.goto 2403, 3) := by decide +kernel
theorem dL_law__349 : decode cL_law_ 349 = .ok (.aload_n 1, 1) := by decide +kernel
theorem dL_law__350 : decode cL_law_ 350 = .ok (.aload_n 0, 1) := by decide +kernel
theorem dL_law__351 : decode cL_law_ 351 = .ok (.iload 4, 2) := by decide +kernel
theorem dL_law__353 : decode cL_law_ 353 = .ok (.iconst 1, 1) := by decide +kernel
theorem dL_law__354 : decode cL_law_ 354 = .ok (.iadd, 1) := by decide +kernel
theorem dL_law__355 : decode cL_law_ 355 = .ok (.iaload, 1) := by decide +kernel
theorem dL_law__356 : decode cL_law_ 356 = .ok (.aload_n 3, 1) := by decide +kernel
theorem dL_law__357 : decode cL_law_ 357 = .ok (.invokestatic 139, 3) := by decide +kernel
theorem dL_law__360 : decode cL_law_ 360 = .ok (.istore 5, 2) := by decide +kernel
theorem dL_law__362 : decode cL_law_ 362 = .ok (.aload_n 2, 1) := by decide +kernel
theorem dL_law__363 : decode cL_law_ 363 = .ok (.aload_n 0, 1) := by decide +kernel
theorem dL_law__364 : decode cL_law_ 364 = .ok (.iload 4, 2) := by decide +kernel
theorem dL_law__366 : decode cL_law_ 366 = .ok (.iconst 1, 1) := by decide +kernel
theorem dL_law__367 : decode cL_law_ 367 = .ok (.iadd, 1) := by decide +kernel
theorem dL_law__368 : decode cL_law_ 368 = .ok (.iaload, 1) := by decide +kernel
theorem dL_law__369 : decode cL_law_ 369 = .ok (.invokevirtual 141, 3) := by decide +kernel
theorem dL_law__372 : decode cL_law_ 372 = .ok (.istore 6, 2) := by decide +kernel
theorem dL_law__374 : decode cL_law_ 374 = .ok (.aload_n 2, 1) := by decide +kernel
theorem dL_law__375 : decode cL_law_ 375 = .ok (.invokevirtual 135, 3) := by decide +kernel
theorem dL_law__378 : decode cL_law_ 378 = .ok (.iload 5, 2) := by decide +kernel
theorem dL_law__380 : decode cL_law_ 380 = .ok (.if_icmp .eq 5, 3) := by decide +kernel
theorem dL_law__383 : decode cL_law_ 383 = .ok (.iconst 0, 1) := by decide +kernel
theorem dL_law__384 : decode cL_law_ 384 = .ok (.ireturn, 1) := by decide +kernel
theorem dL_law__385 : decode cL_law_ 385 = .ok (.iload 5, 2) := by decide +kernel
theorem dL_law__387 : decode cL_law_ 387 = .ok (.ifCond .ne 15, 3) := by decide +kernel
theorem dL_law__390 : decode cL_law_ 390 = .ok (.aload_n 3, 1) := by decide +kernel
theorem dL_law__391 : decode cL_law_ 391 = .ok (.iconst 0, 1) := by decide +kernel
theorem dL_law__392 : decode cL_law_ 392 = .ok (.laload, 1) := by decide +kernel
theorem dL_law__393 : decode cL_law_ 393 = .ok (.iload 6, 2) := by decide +kernel
theorem dL_law__395 : decode cL_law_ 395 = .ok (.i2l, 1) := by decide +kernel
theorem dL_law__396 : decode cL_law_ 396 = .ok (.lcmp, 1) := by decide +kernel
theorem dL_law__397 : decode cL_law_ 397 = .ok (.ifCond .eq 5, 3) := by decide +kernel
theorem dL_law__400 : decode cL_law_ 400 = .ok (.iconst 0, 1) := by decide +kernel
theorem dL_law__401 : decode cL_law_ 401 = .ok (.ireturn, 1) := by decide +kernel
theorem dL_law__402 : decode cL_law_ 402 = .ok (.goto 2347, 3) := by decide +kernel
theorem dL_law__405 : decode cL_law_ 405 = .ok (.aload_n 1, 1) := by decide +kernel
theorem dL_law__406 : decode cL_law_ 406 = .ok (.aload_n 0, 1) := by decide +kernel
theorem dL_law__407 : decode cL_law_ 407 = .ok (.iload 4, 2) := by decide +kernel
theorem dL_law__409 : decode cL_law_ 409 = .ok (.iconst 1, 1) := by decide +kernel
theorem dL_law__410 : decode cL_law_ 410 = .ok (.iadd, 1) := by decide +kernel
theorem dL_law__411 : decode cL_law_ 411 = .ok (.iaload, 1) := by decide +kernel
theorem dL_law__412 : decode cL_law_ 412 = .ok (.aload_n 3, 1) := by decide +kernel
theorem dL_law__413 : decode cL_law_ 413 = .ok (.invokestatic 142, 3) := by decide +kernel
theorem dL_law__416 : decode cL_law_ 416 = .ok (.istore 5, 2) := by decide +kernel
theorem dL_law__418 : decode cL_law_ 418 = .ok (.aload_n 2, 1) := by decide +kernel
theorem dL_law__419 : decode cL_law_ 419 = .ok (.aload_n 0, 1) := by decide +kernel
theorem dL_law__420 : decode cL_law_ 420 = .ok (.iload 4, 2) := by decide +kernel
theorem dL_law__422 : decode cL_law_ 422 = .ok (.iconst 1, 1) := by decide +kernel
theorem dL_law__423 : decode cL_law_ 423 = .ok (.iadd, 1) := by decide +kernel
theorem dL_law__424 : decode cL_law_ 424 = .ok (.iaload, 1) := by decide +kernel
theorem dL_law__425 : decode cL_law_ 425 = .ok (.invokevirtual 144, 3) := by decide +kernel
theorem dL_law__428 : decode cL_law_ 428 = .ok (.istore 6, 2) := by decide +kernel
theorem dL_law__430 : decode cL_law_ 430 = .ok (.aload_n 2, 1) := by decide +kernel
theorem dL_law__431 : decode cL_law_ 431 = .ok (.invokevirtual 135, 3) := by decide +kernel
theorem dL_law__434 : decode cL_law_ 434 = .ok (.iload 5, 2) := by decide +kernel
theorem dL_law__436 : decode cL_law_ 436 = .ok (.if_icmp .eq 5, 3) := by decide +kernel
theorem dL_law__439 : decode cL_law_ 439 = .ok (.iconst 0, 1) := by decide +kernel
theorem dL_law__440 : decode cL_law_ 440 = .ok (.ireturn, 1) := by decide +kernel
theorem dL_law__441 : decode cL_law_ 441 = .ok (.iload 5, 2) := by decide +kernel
theorem dL_law__443 : decode cL_law_ 443 = .ok (.ifCond .ne 15, 3) := by decide +kernel
theorem dL_law__446 : decode cL_law_ 446 = .ok (.aload_n 3, 1) := by decide +kernel
theorem dL_law__447 : decode cL_law_ 447 = .ok (.iconst 0, 1) := by decide +kernel
theorem dL_law__448 : decode cL_law_ 448 = .ok (.laload, 1) := by decide +kernel
theorem dL_law__449 : decode cL_law_ 449 = .ok (.iload 6, 2) := by decide +kernel
theorem dL_law__451 : decode cL_law_ 451 = .ok (.i2l, 1) := by decide +kernel
theorem dL_law__452 : decode cL_law_ 452 = .ok (.lcmp, 1) := by decide +kernel
theorem dL_law__453 : decode cL_law_ 453 = .ok (.ifCond .eq 5, 3) := by decide +kernel
theorem dL_law__456 : decode cL_law_ 456 = .ok (.iconst 0, 1) := by decide +kernel
theorem dL_law__457 : decode cL_law_ 457 = .ok (.ireturn, 1) := by decide +kernel
theorem dL_law__458 : decode cL_law_ 458 = .ok (.goto 2291, 3) := by decide +kernel
theorem dL_law__461 : decode cL_law_ 461 = .ok (.aload_n 1, 1) := by decide +kernel
theorem dL_law__462 : decode cL_law_ 462 = .ok (.aload_n 0, 1) := by decide +kernel
theorem dL_law__463 : decode cL_law_ 463 = .ok (.iload 4, 2) := by decide +kernel
theorem dL_law__465 : decode cL_law_ 465 = .ok (.iconst 1, 1) := by decide +kernel
theorem dL_law__466 : decode cL_law_ 466 = .ok (.iadd, 1) := by decide +kernel
theorem dL_law__467 : decode cL_law_ 467 = .ok (.iaload, 1) := by decide +kernel
theorem dL_law__468 : decode cL_law_ 468 = .ok (.aload_n 3, 1) := by decide +kernel
theorem dL_law__469 : decode cL_law_ 469 = .ok (.invokestatic 145, 3) := by decide +kernel
theorem dL_law__472 : decode cL_law_ 472 = .ok (.istore 5, 2) := by decide +kernel
theorem dL_law__474 : decode cL_law_ 474 = .ok (.aload_n 2, 1) := by decide +kernel
theorem dL_law__475 : decode cL_law_ 475 = .ok (.aload_n 0, 1) := by decide +kernel
theorem dL_law__476 : decode cL_law_ 476 = .ok (.iload 4, 2) := by decide +kernel
theorem dL_law__478 : decode cL_law_ 478 = .ok (.iconst 1, 1) := by decide +kernel
theorem dL_law__479 : decode cL_law_ 479 = .ok (.iadd, 1) := by decide +kernel
theorem dL_law__480 : decode cL_law_ 480 = .ok (.iaload, 1) := by decide +kernel
theorem dL_law__481 : decode cL_law_ 481 = .ok (.invokevirtual 147, 3) := by decide +kernel
theorem dL_law__484 : decode cL_law_ 484 = .ok (.istore 6, 2) := by decide +kernel
theorem dL_law__486 : decode cL_law_ 486 = .ok (.aload_n 2, 1) := by decide +kernel
theorem dL_law__487 : decode cL_law_ 487 = .ok (.invokevirtual 135, 3) := by decide +kernel
theorem dL_law__490 : decode cL_law_ 490 = .ok (.iload 5, 2) := by decide +kernel
theorem dL_law__492 : decode cL_law_ 492 = .ok (.if_icmp .eq 5, 3) := by decide +kernel
theorem dL_law__495 : decode cL_law_ 495 = .ok (.iconst 0, 1) := by decide +kernel
theorem dL_law__496 : decode cL_law_ 496 = .ok (.ireturn, 1) := by decide +kernel
theorem dL_law__497 : decode cL_law_ 497 = .ok (.iload 5, 2) := by decide +kernel
theorem dL_law__499 : decode cL_law_ 499 = .ok (.ifCond .ne 15, 3) := by decide +kernel
theorem dL_law__502 : decode cL_law_ 502 = .ok (.aload_n 3, 1) := by decide +kernel
theorem dL_law__503 : decode cL_law_ 503 = .ok (.iconst 0, 1) := by decide +kernel
theorem dL_law__504 : decode cL_law_ 504 = .ok (.laload, 1) := by decide +kernel
theorem dL_law__505 : decode cL_law_ 505 = .ok (.iload 6, 2) := by decide +kernel
theorem dL_law__507 : decode cL_law_ 507 = .ok (.i2l, 1) := by decide +kernel
theorem dL_law__508 : decode cL_law_ 508 = .ok (.lcmp, 1) := by decide +kernel
theorem dL_law__509 : decode cL_law_ 509 = .ok (.ifCond .eq 5, 3) := by decide +kernel
theorem dL_law__512 : decode cL_law_ 512 = .ok (.iconst 0, 1) := by decide +kernel
theorem dL_law__513 : decode cL_law_ 513 = .ok (.ireturn, 1) := by decide +kernel
theorem dL_law__514 : decode cL_law_ 514 = .ok (.goto 2235, 3) := by decide +kernel
theorem dL_law__517 : decode cL_law_ 517 = .ok (.aload_n 1, 1) := by decide +kernel
theorem dL_law__518 : decode cL_law_ 518 = .ok (.invokevirtual 148, 3) := by decide +kernel
theorem dL_law__521 : decode cL_law_ 521 = .ok (.aload_n 2, 1) := by decide +kernel
theorem dL_law__522 : decode cL_law_ 522 = .ok (.invokevirtual 151, 3) := by decide +kernel
theorem dL_law__525 : decode cL_law_ 525 = .ok (.if_icmp .eq 2224, 3) := by decide +kernel
theorem dL_law__528 : decode cL_law_ 528 = .ok (.iconst 0, 1) := by decide +kernel
theorem dL_law__529 : decode cL_law_ 529 = .ok (.ireturn, 1) := by decide +kernel
theorem dL_law__530 : decode cL_law_ 530 = .ok (.aload_n 1, 1) := by decide +kernel
theorem dL_law__531 : decode cL_law_ 531 = .ok (.invokevirtual 152, 3) := by decide +kernel
theorem dL_law__534 : decode cL_law_ 534 = .ok (.aload_n 2, 1) := by decide +kernel
theorem dL_law__535 : decode cL_law_ 535 = .ok (.invokevirtual 155, 3) := by decide +kernel
theorem dL_law__538 : decode cL_law_ 538 = .ok (.if_icmp .eq 2211, 3) := by decide +kernel
theorem dL_law__541 : decode cL_law_ 541 = .ok (.iconst 0, 1) := by decide +kernel
theorem dL_law__542 : decode cL_law_ 542 = .ok (.ireturn, 1) := by decide +kernel
theorem dL_law__543 : decode cL_law_ 543 = .ok (.aload_n 1, 1) := by decide +kernel
theorem dL_law__544 : decode cL_law_ 544 = .ok (.aload_n 0, 1) := by decide +kernel
theorem dL_law__545 : decode cL_law_ 545 = .ok (.iload 4, 2) := by decide +kernel
theorem dL_law__547 : decode cL_law_ 547 = .ok (.iconst 1, 1) := by decide +kernel
theorem dL_law__548 : decode cL_law_ 548 = .ok (.iadd, 1) := by decide +kernel
theorem dL_law__549 : decode cL_law_ 549 = .ok (.iaload, 1) := by decide +kernel
theorem dL_law__550 : decode cL_law_ 550 = .ok (.aload_n 3, 1) := by decide +kernel
theorem dL_law__551 : decode cL_law_ 551 = .ok (.invokestatic 156, 3) := by decide +kernel
theorem dL_law__554 : decode cL_law_ 554 = .ok (.istore 5, 2) := by decide +kernel
theorem dL_law__556 : decode cL_law_ 556 = .ok (.aload_n 2, 1) := by decide +kernel
theorem dL_law__557 : decode cL_law_ 557 = .ok (.aload_n 0, 1) := by decide +kernel
theorem dL_law__558 : decode cL_law_ 558 = .ok (.iload 4, 2) := by decide +kernel
theorem dL_law__560 : decode cL_law_ 560 = .ok (.iconst 1, 1) := by decide +kernel
theorem dL_law__561 : decode cL_law_ 561 = .ok (.iadd, 1) := by decide +kernel
theorem dL_law__562 : decode cL_law_ 562 = .ok (.iaload, 1) := by decide +kernel
theorem dL_law__563 : decode cL_law_ 563 = .ok (.invokevirtual 158, 3) := by decide +kernel
theorem dL_law__566 : decode cL_law_ 566 = .ok (.istore 6, 2) := by decide +kernel
theorem dL_law__568 : decode cL_law_ 568 = .ok (.aload_n 2, 1) := by decide +kernel
theorem dL_law__569 : decode cL_law_ 569 = .ok (.invokevirtual 135, 3) := by decide +kernel
theorem dL_law__572 : decode cL_law_ 572 = .ok (.iload 5, 2) := by decide +kernel
theorem dL_law__574 : decode cL_law_ 574 = .ok (.if_icmp .eq 5, 3) := by decide +kernel
theorem dL_law__577 : decode cL_law_ 577 = .ok (.iconst 0, 1) := by decide +kernel
theorem dL_law__578 : decode cL_law_ 578 = .ok (.ireturn, 1) := by decide +kernel
theorem dL_law__579 : decode cL_law_ 579 = .ok (.iload 5, 2) := by decide +kernel
theorem dL_law__581 : decode cL_law_ 581 = .ok (.ifCond .ne 15, 3) := by decide +kernel
theorem dL_law__584 : decode cL_law_ 584 = .ok (.aload_n 3, 1) := by decide +kernel
theorem dL_law__585 : decode cL_law_ 585 = .ok (.iconst 0, 1) := by decide +kernel
theorem dL_law__586 : decode cL_law_ 586 = .ok (.laload, 1) := by decide +kernel
theorem dL_law__587 : decode cL_law_ 587 = .ok (.iload 6, 2) := by decide +kernel
theorem dL_law__589 : decode cL_law_ 589 = .ok (.i2l, 1) := by decide +kernel
theorem dL_law__590 : decode cL_law_ 590 = .ok (.lcmp, 1) := by decide +kernel
theorem dL_law__591 : decode cL_law_ 591 = .ok (.ifCond .eq 5, 3) := by decide +kernel
theorem dL_law__594 : decode cL_law_ 594 = .ok (.iconst 0, 1) := by decide +kernel
theorem dL_law__595 : decode cL_law_ 595 = .ok (.ireturn, 1) := by decide +kernel
theorem dL_law__596 : decode cL_law_ 596 = .ok (.goto 2153, 3) := by decide +kernel
theorem dL_law__599 : decode cL_law_ 599 = .ok (.aload_n 1, 1) := by decide +kernel
theorem dL_law__600 : decode cL_law_ 600 = .ok (.aload_n 0, 1) := by decide +kernel
theorem dL_law__601 : decode cL_law_ 601 = .ok (.iload 4, 2) := by decide +kernel
theorem dL_law__603 : decode cL_law_ 603 = .ok (.iconst 1, 1) := by decide +kernel
theorem dL_law__604 : decode cL_law_ 604 = .ok (.iadd, 1) := by decide +kernel
theorem dL_law__605 : decode cL_law_ 605 = .ok (.iaload, 1) := by decide +kernel
theorem dL_law__606 : decode cL_law_ 606 = .ok (.aload_n 0, 1) := by decide +kernel
theorem dL_law__607 : decode cL_law_ 607 = .ok (.iload 4, 2) := by decide +kernel
theorem dL_law__609 : decode cL_law_ 609 = .ok (.iconst 2, 1) := by decide +kernel
theorem dL_law__610 : decode cL_law_ 610 = .ok (.iadd, 1) := by decide +kernel
theorem dL_law__611 : decode cL_law_ 611 = .ok (.iaload, 1) := by decide +kernel
theorem dL_law__612 : decode cL_law_ 612 = .ok (.aload_n 3, 1) := by decide +kernel
theorem dL_law__613 : decode cL_law_ 613 = .ok (.invokestatic 159, 3) := by decide +kernel
theorem dL_law__616 : decode cL_law_ 616 = .ok (.istore 5, 2) := by decide +kernel
theorem dL_law__618 : decode cL_law_ 618 = .ok (.aload_n 2, 1) := by decide +kernel
theorem dL_law__619 : decode cL_law_ 619 = .ok (.aload_n 0, 1) := by decide +kernel
theorem dL_law__620 : decode cL_law_ 620 = .ok (.iload 4, 2) := by decide +kernel
theorem dL_law__622 : decode cL_law_ 622 = .ok (.iconst 1, 1) := by decide +kernel
theorem dL_law__623 : decode cL_law_ 623 = .ok (.iadd, 1) := by decide +kernel
theorem dL_law__624 : decode cL_law_ 624 = .ok (.iaload, 1) := by decide +kernel
theorem dL_law__625 : decode cL_law_ 625 = .ok (.aload_n 0, 1) := by decide +kernel
theorem dL_law__626 : decode cL_law_ 626 = .ok (.iload 4, 2) := by decide +kernel
theorem dL_law__628 : decode cL_law_ 628 = .ok (.iconst 2, 1) := by decide +kernel
theorem dL_law__629 : decode cL_law_ 629 = .ok (.iadd, 1) := by decide +kernel
theorem dL_law__630 : decode cL_law_ 630 = .ok (.iaload, 1) := by decide +kernel
theorem dL_law__631 : decode cL_law_ 631 = .ok (.invokevirtual 162, 3) := by decide +kernel
theorem dL_law__634 : decode cL_law_ 634 = .ok (.istore 6, 2) := by decide +kernel
theorem dL_law__636 : decode cL_law_ 636 = .ok (.aload_n 2, 1) := by decide +kernel
theorem dL_law__637 : decode cL_law_ 637 = .ok (.invokevirtual 135, 3) := by decide +kernel
theorem dL_law__640 : decode cL_law_ 640 = .ok (.iload 5, 2) := by decide +kernel
theorem dL_law__642 : decode cL_law_ 642 = .ok (.if_icmp .eq 5, 3) := by decide +kernel
theorem dL_law__645 : decode cL_law_ 645 = .ok (.iconst 0, 1) := by decide +kernel
theorem dL_law__646 : decode cL_law_ 646 = .ok (.ireturn, 1) := by decide +kernel
theorem dL_law__647 : decode cL_law_ 647 = .ok (.iload 5, 2) := by decide +kernel
theorem dL_law__649 : decode cL_law_ 649 = .ok (.ifCond .ne 15, 3) := by decide +kernel
theorem dL_law__652 : decode cL_law_ 652 = .ok (.aload_n 3, 1) := by decide +kernel
theorem dL_law__653 : decode cL_law_ 653 = .ok (.iconst 0, 1) := by decide +kernel
theorem dL_law__654 : decode cL_law_ 654 = .ok (.laload, 1) := by decide +kernel
theorem dL_law__655 : decode cL_law_ 655 = .ok (.iload 6, 2) := by decide +kernel
theorem dL_law__657 : decode cL_law_ 657 = .ok (.i2l, 1) := by decide +kernel
theorem dL_law__658 : decode cL_law_ 658 = .ok (.lcmp, 1) := by decide +kernel
theorem dL_law__659 : decode cL_law_ 659 = .ok (.ifCond .eq 5, 3) := by decide +kernel
theorem dL_law__662 : decode cL_law_ 662 = .ok (.iconst 0, 1) := by decide +kernel
theorem dL_law__663 : decode cL_law_ 663 = .ok (.ireturn, 1) := by decide +kernel
theorem dL_law__664 : decode cL_law_ 664 = .ok (.goto 2085, 3) := by decide +kernel
theorem dL_law__667 : decode cL_law_ 667 = .ok (.aload_n 1, 1) := by decide +kernel
theorem dL_law__668 : decode cL_law_ 668 = .ok (.aload_n 0, 1) := by decide +kernel
theorem dL_law__669 : decode cL_law_ 669 = .ok (.iload 4, 2) := by decide +kernel
theorem dL_law__671 : decode cL_law_ 671 = .ok (.iconst 1, 1) := by decide +kernel
theorem dL_law__672 : decode cL_law_ 672 = .ok (.iadd, 1) := by decide +kernel
theorem dL_law__673 : decode cL_law_ 673 = .ok (.iaload, 1) := by decide +kernel
theorem dL_law__674 : decode cL_law_ 674 = .ok (.aload_n 0, 1) := by decide +kernel
theorem dL_law__675 : decode cL_law_ 675 = .ok (.iload 4, 2) := by decide +kernel
theorem dL_law__677 : decode cL_law_ 677 = .ok (.iconst 2, 1) := by decide +kernel
theorem dL_law__678 : decode cL_law_ 678 = .ok (.iadd, 1) := by decide +kernel
theorem dL_law__679 : decode cL_law_ 679 = .ok (.iaload, 1) := by decide +kernel
theorem dL_law__680 : decode cL_law_ 680 = .ok (.aload_n 3, 1) := by decide +kernel
theorem dL_law__681 : decode cL_law_ 681 = .ok (.invokestatic 163, 3) := by decide +kernel
theorem dL_law__684 : decode cL_law_ 684 = .ok (.istore 5, 2) := by decide +kernel
theorem dL_law__686 : decode cL_law_ 686 = .ok (.aload_n 2, 1) := by decide +kernel
theorem dL_law__687 : decode cL_law_ 687 = .ok (.aload_n 0, 1) := by decide +kernel
theorem dL_law__688 : decode cL_law_ 688 = .ok (.iload 4, 2) := by decide +kernel
theorem dL_law__690 : decode cL_law_ 690 = .ok (.iconst 1, 1) := by decide +kernel
theorem dL_law__691 : decode cL_law_ 691 = .ok (.iadd, 1) := by decide +kernel
theorem dL_law__692 : decode cL_law_ 692 = .ok (.iaload, 1) := by decide +kernel
theorem dL_law__693 : decode cL_law_ 693 = .ok (.aload_n 0, 1) := by decide +kernel
theorem dL_law__694 : decode cL_law_ 694 = .ok (.iload 4, 2) := by decide +kernel
theorem dL_law__696 : decode cL_law_ 696 = .ok (.iconst 2, 1) := by decide +kernel
theorem dL_law__697 : decode cL_law_ 697 = .ok (.iadd, 1) := by decide +kernel
theorem dL_law__698 : decode cL_law_ 698 = .ok (.iaload, 1) := by decide +kernel
theorem dL_law__699 : decode cL_law_ 699 = .ok (.invokevirtual 165, 3) := by decide +kernel
theorem dL_law__702 : decode cL_law_ 702 = .ok (.istore 6, 2) := by decide +kernel
theorem dL_law__704 : decode cL_law_ 704 = .ok (.aload_n 2, 1) := by decide +kernel
theorem dL_law__705 : decode cL_law_ 705 = .ok (.invokevirtual 135, 3) := by decide +kernel
theorem dL_law__708 : decode cL_law_ 708 = .ok (.iload 5, 2) := by decide +kernel
theorem dL_law__710 : decode cL_law_ 710 = .ok (.if_icmp .eq 5, 3) := by decide +kernel
theorem dL_law__713 : decode cL_law_ 713 = .ok (.iconst 0, 1) := by decide +kernel
theorem dL_law__714 : decode cL_law_ 714 = .ok (.ireturn, 1) := by decide +kernel
theorem dL_law__715 : decode cL_law_ 715 = .ok (.iload 5, 2) := by decide +kernel
theorem dL_law__717 : decode cL_law_ 717 = .ok (.ifCond .ne 15, 3) := by decide +kernel
theorem dL_law__720 : decode cL_law_ 720 = .ok (.aload_n 3, 1) := by decide +kernel
theorem dL_law__721 : decode cL_law_ 721 = .ok (.iconst 0, 1) := by decide +kernel
theorem dL_law__722 : decode cL_law_ 722 = .ok (.laload, 1) := by decide +kernel
theorem dL_law__723 : decode cL_law_ 723 = .ok (.iload 6, 2) := by decide +kernel
theorem dL_law__725 : decode cL_law_ 725 = .ok (.i2l, 1) := by decide +kernel
theorem dL_law__726 : decode cL_law_ 726 = .ok (.lcmp, 1) := by decide +kernel
theorem dL_law__727 : decode cL_law_ 727 = .ok (.ifCond .eq 5, 3) := by decide +kernel
theorem dL_law__730 : decode cL_law_ 730 = .ok (.iconst 0, 1) := by decide +kernel
theorem dL_law__731 : decode cL_law_ 731 = .ok (.ireturn, 1) := by decide +kernel
theorem dL_law__732 : decode cL_law_ 732 = .ok (.goto 2017, 3) := by decide +kernel
theorem dL_law__735 : decode cL_law_ 735 = .ok (.aload_n 1, 1) := by decide +kernel
theorem dL_law__736 : decode cL_law_ 736 = .ok (.aload_n 0, 1) := by decide +kernel
theorem dL_law__737 : decode cL_law_ 737 = .ok (.iload 4, 2) := by decide +kernel
theorem dL_law__739 : decode cL_law_ 739 = .ok (.iconst 1, 1) := by decide +kernel
theorem dL_law__740 : decode cL_law_ 740 = .ok (.iadd, 1) := by decide +kernel
theorem dL_law__741 : decode cL_law_ 741 = .ok (.iaload, 1) := by decide +kernel
theorem dL_law__742 : decode cL_law_ 742 = .ok (.aload_n 3, 1) := by decide +kernel
theorem dL_law__743 : decode cL_law_ 743 = .ok (.invokestatic 166, 3) := by decide +kernel
theorem dL_law__746 : decode cL_law_ 746 = .ok (.istore 5, 2) := by decide +kernel
theorem dL_law__748 : decode cL_law_ 748 = .ok (.aload_n 2, 1) := by decide +kernel
theorem dL_law__749 : decode cL_law_ 749 = .ok (.aload_n 0, 1) := by decide +kernel
theorem dL_law__750 : decode cL_law_ 750 = .ok (.iload 4, 2) := by decide +kernel
theorem dL_law__752 : decode cL_law_ 752 = .ok (.iconst 1, 1) := by decide +kernel
theorem dL_law__753 : decode cL_law_ 753 = .ok (.iadd, 1) := by decide +kernel
theorem dL_law__754 : decode cL_law_ 754 = .ok (.iaload, 1) := by decide +kernel
theorem dL_law__755 : decode cL_law_ 755 = .ok (.invokevirtual 168, 3) := by decide +kernel
theorem dL_law__758 : decode cL_law_ 758 = .ok (.istore 6, 2) := by decide +kernel
theorem dL_law__760 : decode cL_law_ 760 = .ok (.aload_n 2, 1) := by decide +kernel
theorem dL_law__761 : decode cL_law_ 761 = .ok (.invokevirtual 135, 3) := by decide +kernel
theorem dL_law__764 : decode cL_law_ 764 = .ok (.iload 5, 2) := by decide +kernel
theorem dL_law__766 : decode cL_law_ 766 = .ok (.if_icmp .eq 5, 3) := by decide +kernel
theorem dL_law__769 : decode cL_law_ 769 = .ok (.iconst 0, 1) := by decide +kernel
theorem dL_law__770 : decode cL_law_ 770 = .ok (.ireturn, 1) := by decide +kernel
theorem dL_law__771 : decode cL_law_ 771 = .ok (.iload 5, 2) := by decide +kernel
theorem dL_law__773 : decode cL_law_ 773 = .ok (.ifCond .ne 15, 3) := by decide +kernel
theorem dL_law__776 : decode cL_law_ 776 = .ok (.aload_n 3, 1) := by decide +kernel
theorem dL_law__777 : decode cL_law_ 777 = .ok (.iconst 0, 1) := by decide +kernel
theorem dL_law__778 : decode cL_law_ 778 = .ok (.laload, 1) := by decide +kernel
theorem dL_law__779 : decode cL_law_ 779 = .ok (.iload 6, 2) := by decide +kernel
theorem dL_law__781 : decode cL_law_ 781 = .ok (.i2l, 1) := by decide +kernel
theorem dL_law__782 : decode cL_law_ 782 = .ok (.lcmp, 1) := by decide +kernel
theorem dL_law__783 : decode cL_law_ 783 = .ok (.ifCond .eq 5, 3) := by decide +kernel
theorem dL_law__786 : decode cL_law_ 786 = .ok (.iconst 0, 1) := by decide +kernel
theorem dL_law__787 : decode cL_law_ 787 = .ok (.ireturn, 1) := by decide +kernel
theorem dL_law__788 : decode cL_law_ 788 = .ok (.goto 1961, 3) := by decide +kernel
theorem dL_law__791 : decode cL_law_ 791 = .ok (.aload_n 1, 1) := by decide +kernel
theorem dL_law__792 : decode cL_law_ 792 = .ok (.aload_n 0, 1) := by decide +kernel
theorem dL_law__793 : decode cL_law_ 793 = .ok (.iload 4, 2) := by decide +kernel
theorem dL_law__795 : decode cL_law_ 795 = .ok (.iconst 1, 1) := by decide +kernel
theorem dL_law__796 : decode cL_law_ 796 = .ok (.iadd, 1) := by decide +kernel
theorem dL_law__797 : decode cL_law_ 797 = .ok (.iaload, 1) := by decide +kernel
theorem dL_law__798 : decode cL_law_ 798 = .ok (.aload_n 0, 1) := by decide +kernel
theorem dL_law__799 : decode cL_law_ 799 = .ok (.iload 4, 2) := by decide +kernel
theorem dL_law__801 : decode cL_law_ 801 = .ok (.iconst 2, 1) := by decide +kernel
theorem dL_law__802 : decode cL_law_ 802 = .ok (.iadd, 1) := by decide +kernel
theorem dL_law__803 : decode cL_law_ 803 = .ok (.iaload, 1) := by decide +kernel
theorem dL_law__804 : decode cL_law_ 804 = .ok (.aload_n 3, 1) := by decide +kernel
theorem dL_law__805 : decode cL_law_ 805 = .ok (.invokestatic 169, 3) := by decide +kernel
theorem dL_law__808 : decode cL_law_ 808 = .ok (.istore 5, 2) := by decide +kernel
theorem dL_law__810 : decode cL_law_ 810 = .ok (.aload_n 2, 1) := by decide +kernel
theorem dL_law__811 : decode cL_law_ 811 = .ok (.aload_n 0, 1) := by decide +kernel
theorem dL_law__812 : decode cL_law_ 812 = .ok (.iload 4, 2) := by decide +kernel
theorem dL_law__814 : decode cL_law_ 814 = .ok (.iconst 1, 1) := by decide +kernel
theorem dL_law__815 : decode cL_law_ 815 = .ok (.iadd, 1) := by decide +kernel
theorem dL_law__816 : decode cL_law_ 816 = .ok (.iaload, 1) := by decide +kernel
theorem dL_law__817 : decode cL_law_ 817 = .ok (.aload_n 0, 1) := by decide +kernel
theorem dL_law__818 : decode cL_law_ 818 = .ok (.iload 4, 2) := by decide +kernel
theorem dL_law__820 : decode cL_law_ 820 = .ok (.iconst 2, 1) := by decide +kernel
theorem dL_law__821 : decode cL_law_ 821 = .ok (.iadd, 1) := by decide +kernel
theorem dL_law__822 : decode cL_law_ 822 = .ok (.iaload, 1) := by decide +kernel
theorem dL_law__823 : decode cL_law_ 823 = .ok (.invokevirtual 171, 3) := by decide +kernel
theorem dL_law__826 : decode cL_law_ 826 = .ok (.istore 6, 2) := by decide +kernel
theorem dL_law__828 : decode cL_law_ 828 = .ok (.aload_n 2, 1) := by decide +kernel
theorem dL_law__829 : decode cL_law_ 829 = .ok (.invokevirtual 135, 3) := by decide +kernel
theorem dL_law__832 : decode cL_law_ 832 = .ok (.iload 5, 2) := by decide +kernel
theorem dL_law__834 : decode cL_law_ 834 = .ok (.if_icmp .eq 5, 3) := by decide +kernel
theorem dL_law__837 : decode cL_law_ 837 = .ok (.iconst 0, 1) := by decide +kernel
theorem dL_law__838 : decode cL_law_ 838 = .ok (.ireturn, 1) := by decide +kernel
theorem dL_law__839 : decode cL_law_ 839 = .ok (.iload 5, 2) := by decide +kernel
theorem dL_law__841 : decode cL_law_ 841 = .ok (.ifCond .ne 15, 3) := by decide +kernel
theorem dL_law__844 : decode cL_law_ 844 = .ok (.aload_n 3, 1) := by decide +kernel
theorem dL_law__845 : decode cL_law_ 845 = .ok (.iconst 0, 1) := by decide +kernel
theorem dL_law__846 : decode cL_law_ 846 = .ok (.laload, 1) := by decide +kernel
theorem dL_law__847 : decode cL_law_ 847 = .ok (.iload 6, 2) := by decide +kernel
theorem dL_law__849 : decode cL_law_ 849 = .ok (.i2l, 1) := by decide +kernel
theorem dL_law__850 : decode cL_law_ 850 = .ok (.lcmp, 1) := by decide +kernel
theorem dL_law__851 : decode cL_law_ 851 = .ok (.ifCond .eq 5, 3) := by decide +kernel
theorem dL_law__854 : decode cL_law_ 854 = .ok (.iconst 0, 1) := by decide +kernel
theorem dL_law__855 : decode cL_law_ 855 = .ok (.ireturn, 1) := by decide +kernel
theorem dL_law__856 : decode cL_law_ 856 = .ok (.goto 1893, 3) := by decide +kernel
theorem dL_law__859 : decode cL_law_ 859 = .ok (.aload_n 1, 1) := by decide +kernel
theorem dL_law__860 : decode cL_law_ 860 = .ok (.aload_n 0, 1) := by decide +kernel
theorem dL_law__861 : decode cL_law_ 861 = .ok (.iload 4, 2) := by decide +kernel
theorem dL_law__863 : decode cL_law_ 863 = .ok (.iconst 1, 1) := by decide +kernel
theorem dL_law__864 : decode cL_law_ 864 = .ok (.iadd, 1) := by decide +kernel
theorem dL_law__865 : decode cL_law_ 865 = .ok (.iaload, 1) := by decide +kernel
theorem dL_law__866 : decode cL_law_ 866 = .ok (.aload_n 3, 1) := by decide +kernel
theorem dL_law__867 : decode cL_law_ 867 = .ok (.invokestatic 172, 3) := by decide +kernel
theorem dL_law__870 : decode cL_law_ 870 = .ok (.istore 5, 2) := by decide +kernel
theorem dL_law__872 : decode cL_law_ 872 = .ok (.aload_n 2, 1) := by decide +kernel
theorem dL_law__873 : decode cL_law_ 873 = .ok (.aload_n 0, 1) := by decide +kernel
theorem dL_law__874 : decode cL_law_ 874 = .ok (.iload 4, 2) := by decide +kernel
theorem dL_law__876 : decode cL_law_ 876 = .ok (.iconst 1, 1) := by decide +kernel
theorem dL_law__877 : decode cL_law_ 877 = .ok (.iadd, 1) := by decide +kernel
theorem dL_law__878 : decode cL_law_ 878 = .ok (.iaload, 1) := by decide +kernel
theorem dL_law__879 : decode cL_law_ 879 = .ok (.invokevirtual 174, 3) := by decide +kernel
theorem dL_law__882 : decode cL_law_ 882 = .ok (.istore 6, 2) := by decide +kernel
theorem dL_law__884 : decode cL_law_ 884 = .ok (.aload_n 2, 1) := by decide +kernel
theorem dL_law__885 : decode cL_law_ 885 = .ok (.invokevirtual 135, 3) := by decide +kernel
theorem dL_law__888 : decode cL_law_ 888 = .ok (.iload 5, 2) := by decide +kernel
theorem dL_law__890 : decode cL_law_ 890 = .ok (.if_icmp .eq 5, 3) := by decide +kernel
theorem dL_law__893 : decode cL_law_ 893 = .ok (.iconst 0, 1) := by decide +kernel
theorem dL_law__894 : decode cL_law_ 894 = .ok (.ireturn, 1) := by decide +kernel
theorem dL_law__895 : decode cL_law_ 895 = .ok (.iload 5, 2) := by decide +kernel
theorem dL_law__897 : decode cL_law_ 897 = .ok (.ifCond .ne 15, 3) := by decide +kernel
theorem dL_law__900 : decode cL_law_ 900 = .ok (.aload_n 3, 1) := by decide +kernel
theorem dL_law__901 : decode cL_law_ 901 = .ok (.iconst 0, 1) := by decide +kernel
theorem dL_law__902 : decode cL_law_ 902 = .ok (.laload, 1) := by decide +kernel
theorem dL_law__903 : decode cL_law_ 903 = .ok (.iload 6, 2) := by decide +kernel
theorem dL_law__905 : decode cL_law_ 905 = .ok (.i2l, 1) := by decide +kernel
theorem dL_law__906 : decode cL_law_ 906 = .ok (.lcmp, 1) := by decide +kernel
theorem dL_law__907 : decode cL_law_ 907 = .ok (.ifCond .eq 5, 3) := by decide +kernel
theorem dL_law__910 : decode cL_law_ 910 = .ok (.iconst 0, 1) := by decide +kernel
theorem dL_law__911 : decode cL_law_ 911 = .ok (.ireturn, 1) := by decide +kernel
theorem dL_law__912 : decode cL_law_ 912 = .ok (.goto 1837, 3) := by decide +kernel
theorem dL_law__915 : decode cL_law_ 915 = .ok (.aload_n 1, 1) := by decide +kernel
theorem dL_law__916 : decode cL_law_ 916 = .ok (.aload_n 0, 1) := by decide +kernel
theorem dL_law__917 : decode cL_law_ 917 = .ok (.iload 4, 2) := by decide +kernel
theorem dL_law__919 : decode cL_law_ 919 = .ok (.iconst 1, 1) := by decide +kernel
theorem dL_law__920 : decode cL_law_ 920 = .ok (.iadd, 1) := by decide +kernel
theorem dL_law__921 : decode cL_law_ 921 = .ok (.iaload, 1) := by decide +kernel
theorem dL_law__922 : decode cL_law_ 922 = .ok (.aload_n 0, 1) := by decide +kernel
theorem dL_law__923 : decode cL_law_ 923 = .ok (.iload 4, 2) := by decide +kernel
theorem dL_law__925 : decode cL_law_ 925 = .ok (.iconst 2, 1) := by decide +kernel
theorem dL_law__926 : decode cL_law_ 926 = .ok (.iadd, 1) := by decide +kernel
theorem dL_law__927 : decode cL_law_ 927 = .ok (.iaload, 1) := by decide +kernel
theorem dL_law__928 : decode cL_law_ 928 = .ok (.aload_n 0, 1) := by decide +kernel
theorem dL_law__929 : decode cL_law_ 929 = .ok (.iload 4, 2) := by decide +kernel
theorem dL_law__931 : decode cL_law_ 931 = .ok (.iconst 3, 1) := by decide +kernel
theorem dL_law__932 : decode cL_law_ 932 = .ok (.iadd, 1) := by decide +kernel
theorem dL_law__933 : decode cL_law_ 933 = .ok (.iaload, 1) := by decide +kernel
theorem dL_law__934 : decode cL_law_ 934 = .ok (.aload_n 0, 1) := by decide +kernel
theorem dL_law__935 : decode cL_law_ 935 = .ok (.iload 4, 2) := by decide +kernel
theorem dL_law__937 : decode cL_law_ 937 = .ok (.iconst 4, 1) := by decide +kernel
theorem dL_law__938 : decode cL_law_ 938 = .ok (.iadd, 1) := by decide +kernel
theorem dL_law__939 : decode cL_law_ 939 = .ok (.iaload, 1) := by decide +kernel
theorem dL_law__940 : decode cL_law_ 940 = .ok (.aload_n 0, 1) := by decide +kernel
theorem dL_law__941 : decode cL_law_ 941 = .ok (.iload 4, 2) := by decide +kernel
theorem dL_law__943 : decode cL_law_ 943 = .ok (.iconst 5, 1) := by decide +kernel
theorem dL_law__944 : decode cL_law_ 944 = .ok (.iadd, 1) := by decide +kernel
theorem dL_law__945 : decode cL_law_ 945 = .ok (.iaload, 1) := by decide +kernel
theorem dL_law__946 : decode cL_law_ 946 = .ok (.aload_n 0, 1) := by decide +kernel
theorem dL_law__947 : decode cL_law_ 947 = .ok (.iload 4, 2) := by decide +kernel
theorem dL_law__949 : decode cL_law_ 949 = .ok (.bipush 6, 2) := by decide +kernel
theorem dL_law__951 : decode cL_law_ 951 = .ok (.iadd, 1) := by decide +kernel
theorem dL_law__952 : decode cL_law_ 952 = .ok (.iaload, 1) := by decide +kernel
theorem dL_law__953 : decode cL_law_ 953 = .ok (.aload_n 3, 1) := by decide +kernel
theorem dL_law__954 : decode cL_law_ 954 = .ok (.invokestatic 175, 3) := by decide +kernel
theorem dL_law__957 : decode cL_law_ 957 = .ok (.istore 5, 2) := by decide +kernel
theorem dL_law__959 : decode cL_law_ 959 = .ok (.aload_n 2, 1) := by decide +kernel
theorem dL_law__960 : decode cL_law_ 960 = .ok (.aload_n 0, 1) := by decide +kernel
theorem dL_law__961 : decode cL_law_ 961 = .ok (.iload 4, 2) := by decide +kernel
theorem dL_law__963 : decode cL_law_ 963 = .ok (.iconst 1, 1) := by decide +kernel
theorem dL_law__964 : decode cL_law_ 964 = .ok (.iadd, 1) := by decide +kernel
theorem dL_law__965 : decode cL_law_ 965 = .ok (.iaload, 1) := by decide +kernel
theorem dL_law__966 : decode cL_law_ 966 = .ok (.aload_n 0, 1) := by decide +kernel
theorem dL_law__967 : decode cL_law_ 967 = .ok (.iload 4, 2) := by decide +kernel
theorem dL_law__969 : decode cL_law_ 969 = .ok (.iconst 2, 1) := by decide +kernel
theorem dL_law__970 : decode cL_law_ 970 = .ok (.iadd, 1) := by decide +kernel
theorem dL_law__971 : decode cL_law_ 971 = .ok (.iaload, 1) := by decide +kernel
theorem dL_law__972 : decode cL_law_ 972 = .ok (.aload_n 0, 1) := by decide +kernel
theorem dL_law__973 : decode cL_law_ 973 = .ok (.iload 4, 2) := by decide +kernel
theorem dL_law__975 : decode cL_law_ 975 = .ok (.iconst 3, 1) := by decide +kernel
theorem dL_law__976 : decode cL_law_ 976 = .ok (.iadd, 1) := by decide +kernel
theorem dL_law__977 : decode cL_law_ 977 = .ok (.iaload, 1) := by decide +kernel
theorem dL_law__978 : decode cL_law_ 978 = .ok (.aload_n 0, 1) := by decide +kernel
theorem dL_law__979 : decode cL_law_ 979 = .ok (.iload 4, 2) := by decide +kernel
theorem dL_law__981 : decode cL_law_ 981 = .ok (.iconst 4, 1) := by decide +kernel
theorem dL_law__982 : decode cL_law_ 982 = .ok (.iadd, 1) := by decide +kernel
theorem dL_law__983 : decode cL_law_ 983 = .ok (.iaload, 1) := by decide +kernel
theorem dL_law__984 : decode cL_law_ 984 = .ok (.aload_n 0, 1) := by decide +kernel
theorem dL_law__985 : decode cL_law_ 985 = .ok (.iload 4, 2) := by decide +kernel
theorem dL_law__987 : decode cL_law_ 987 = .ok (.iconst 5, 1) := by decide +kernel
theorem dL_law__988 : decode cL_law_ 988 = .ok (.iadd, 1) := by decide +kernel
theorem dL_law__989 : decode cL_law_ 989 = .ok (.iaload, 1) := by decide +kernel
theorem dL_law__990 : decode cL_law_ 990 = .ok (.aload_n 0, 1) := by decide +kernel
theorem dL_law__991 : decode cL_law_ 991 = .ok (.iload 4, 2) := by decide +kernel
theorem dL_law__993 : decode cL_law_ 993 = .ok (.bipush 6, 2) := by decide +kernel
theorem dL_law__995 : decode cL_law_ 995 = .ok (.iadd, 1) := by decide +kernel
theorem dL_law__996 : decode cL_law_ 996 = .ok (.iaload, 1) := by decide +kernel
theorem dL_law__997 : decode cL_law_ 997 = .ok (.invokevirtual 178, 3) := by decide +kernel
theorem dL_law__1000 : decode cL_law_ 1000 = .ok (.istore 6, 2) := by decide +kernel
theorem dL_law__1002 : decode cL_law_ 1002 = .ok (.aload_n 2, 1) := by decide +kernel
theorem dL_law__1003 : decode cL_law_ 1003 = .ok (.invokevirtual 135, 3) := by decide +kernel
theorem dL_law__1006 : decode cL_law_ 1006 = .ok (.iload 5, 2) := by decide +kernel
theorem dL_law__1008 : decode cL_law_ 1008 = .ok (.if_icmp .eq 5, 3) := by decide +kernel
theorem dL_law__1011 : decode cL_law_ 1011 = .ok (.iconst 0, 1) := by decide +kernel
theorem dL_law__1012 : decode cL_law_ 1012 = .ok (.ireturn, 1) := by decide +kernel
theorem dL_law__1013 : decode cL_law_ 1013 = .ok (.iload 5, 2) := by decide +kernel
theorem dL_law__1015 : decode cL_law_ 1015 = .ok (.ifCond .ne 15, 3) := by decide +kernel
theorem dL_law__1018 : decode cL_law_ 1018 = .ok (.aload_n 3, 1) := by decide +kernel
theorem dL_law__1019 : decode cL_law_ 1019 = .ok (.iconst 0, 1) := by decide +kernel
theorem dL_law__1020 : decode cL_law_ 1020 = .ok (.laload, 1) := by decide +kernel
theorem dL_law__1021 : decode cL_law_ 1021 = .ok (.iload 6, 2) := by decide +kernel
theorem dL_law__1023 : decode cL_law_ 1023 = .ok (.i2l, 1) := by decide +kernel
theorem dL_law__1024 : decode cL_law_ 1024 = .ok (.lcmp, 1) := by decide +kernel
theorem dL_law__1025 : decode cL_law_ 1025 = .ok (.ifCond .eq 5, 3) := by decide +kernel
theorem dL_law__1028 : decode cL_law_ 1028 = .ok (.iconst 0, 1) := by decide +kernel
theorem dL_law__1029 : decode cL_law_ 1029 = .ok (.ireturn, 1) := by decide +kernel
theorem dL_law__1030 : decode cL_law_ 1030 = .ok (.goto 1719, 3) := by decide +kernel
theorem dL_law__1033 : decode cL_law_ 1033 = .ok (.aload_n 1, 1) := by decide +kernel
theorem dL_law__1034 : decode cL_law_ 1034 = .ok (.aload_n 0, 1) := by decide +kernel
theorem dL_law__1035 : decode cL_law_ 1035 = .ok (.iload 4, 2) := by decide +kernel
theorem dL_law__1037 : decode cL_law_ 1037 = .ok (.iconst 1, 1) := by decide +kernel
theorem dL_law__1038 : decode cL_law_ 1038 = .ok (.iadd, 1) := by decide +kernel
theorem dL_law__1039 : decode cL_law_ 1039 = .ok (.iaload, 1) := by decide +kernel
theorem dL_law__1040 : decode cL_law_ 1040 = .ok (.aload_n 0, 1) := by decide +kernel
theorem dL_law__1041 : decode cL_law_ 1041 = .ok (.iload 4, 2) := by decide +kernel
theorem dL_law__1043 : decode cL_law_ 1043 = .ok (.iconst 2, 1) := by decide +kernel
theorem dL_law__1044 : decode cL_law_ 1044 = .ok (.iadd, 1) := by decide +kernel
theorem dL_law__1045 : decode cL_law_ 1045 = .ok (.iaload, 1) := by decide +kernel
theorem dL_law__1046 : decode cL_law_ 1046 = .ok (.aload_n 3, 1) := by decide +kernel
theorem dL_law__1047 : decode cL_law_ 1047 = .ok (.invokestatic 179, 3) := by decide +kernel
theorem dL_law__1050 : decode cL_law_ 1050 = .ok (.istore 5, 2) := by decide +kernel
theorem dL_law__1052 : decode cL_law_ 1052 = .ok (.aload_n 2, 1) := by decide +kernel
theorem dL_law__1053 : decode cL_law_ 1053 = .ok (.aload_n 0, 1) := by decide +kernel
theorem dL_law__1054 : decode cL_law_ 1054 = .ok (.iload 4, 2) := by decide +kernel
theorem dL_law__1056 : decode cL_law_ 1056 = .ok (.iconst 1, 1) := by decide +kernel
theorem dL_law__1057 : decode cL_law_ 1057 = .ok (.iadd, 1) := by decide +kernel
theorem dL_law__1058 : decode cL_law_ 1058 = .ok (.iaload, 1) := by decide +kernel
theorem dL_law__1059 : decode cL_law_ 1059 = .ok (.aload_n 0, 1) := by decide +kernel
theorem dL_law__1060 : decode cL_law_ 1060 = .ok (.iload 4, 2) := by decide +kernel
theorem dL_law__1062 : decode cL_law_ 1062 = .ok (.iconst 2, 1) := by decide +kernel
theorem dL_law__1063 : decode cL_law_ 1063 = .ok (.iadd, 1) := by decide +kernel
theorem dL_law__1064 : decode cL_law_ 1064 = .ok (.iaload, 1) := by decide +kernel
theorem dL_law__1065 : decode cL_law_ 1065 = .ok (.invokevirtual 181, 3) := by decide +kernel
theorem dL_law__1068 : decode cL_law_ 1068 = .ok (.istore 6, 2) := by decide +kernel
theorem dL_law__1070 : decode cL_law_ 1070 = .ok (.aload_n 2, 1) := by decide +kernel
theorem dL_law__1071 : decode cL_law_ 1071 = .ok (.invokevirtual 135, 3) := by decide +kernel
theorem dL_law__1074 : decode cL_law_ 1074 = .ok (.iload 5, 2) := by decide +kernel
theorem dL_law__1076 : decode cL_law_ 1076 = .ok (.if_icmp .eq 5, 3) := by decide +kernel
theorem dL_law__1079 : decode cL_law_ 1079 = .ok (.iconst 0, 1) := by decide +kernel
theorem dL_law__1080 : decode cL_law_ 1080 = .ok (.ireturn, 1) := by decide +kernel
theorem dL_law__1081 : decode cL_law_ 1081 = .ok (.iload 5, 2) := by decide +kernel
theorem dL_law__1083 : decode cL_law_ 1083 = .ok (.ifCond .ne 15, 3) := by decide +kernel
theorem dL_law__1086 : decode cL_law_ 1086 = .ok (.aload_n 3, 1) := by decide +kernel
theorem dL_law__1087 : decode cL_law_ 1087 = .ok (.iconst 0, 1) := by decide +kernel
theorem dL_law__1088 : decode cL_law_ 1088 = .ok (.laload, 1) := by decide +kernel
theorem dL_law__1089 : decode cL_law_ 1089 = .ok (.iload 6, 2) := by decide +kernel
theorem dL_law__1091 : decode cL_law_ 1091 = .ok (.i2l, 1) := by decide +kernel
theorem dL_law__1092 : decode cL_law_ 1092 = .ok (.lcmp, 1) := by decide +kernel
theorem dL_law__1093 : decode cL_law_ 1093 = .ok (.ifCond .eq 5, 3) := by decide +kernel
theorem dL_law__1096 : decode cL_law_ 1096 = .ok (.iconst 0, 1) := by decide +kernel
theorem dL_law__1097 : decode cL_law_ 1097 = .ok (.ireturn, 1) := by decide +kernel
theorem dL_law__1098 : decode cL_law_ 1098 = .ok (.goto 1651, 3) := by decide +kernel
theorem dL_law__1101 : decode cL_law_ 1101 = .ok (.aload_n 1, 1) := by decide +kernel
theorem dL_law__1102 : decode cL_law_ 1102 = .ok (.aload_n 0, 1) := by decide +kernel
theorem dL_law__1103 : decode cL_law_ 1103 = .ok (.iload 4, 2) := by decide +kernel
theorem dL_law__1105 : decode cL_law_ 1105 = .ok (.iconst 1, 1) := by decide +kernel
theorem dL_law__1106 : decode cL_law_ 1106 = .ok (.iadd, 1) := by decide +kernel
theorem dL_law__1107 : decode cL_law_ 1107 = .ok (.iaload, 1) := by decide +kernel
theorem dL_law__1108 : decode cL_law_ 1108 = .ok (.aload_n 3, 1) := by decide +kernel
theorem dL_law__1109 : decode cL_law_ 1109 = .ok (.invokestatic 182, 3) := by decide +kernel
theorem dL_law__1112 : decode cL_law_ 1112 = .ok (.istore 5, 2) := by decide +kernel
theorem dL_law__1114 : decode cL_law_ 1114 = .ok (.aload_n 2, 1) := by decide +kernel
theorem dL_law__1115 : decode cL_law_ 1115 = .ok (.aload_n 0, 1) := by decide +kernel
theorem dL_law__1116 : decode cL_law_ 1116 = .ok (.iload 4, 2) := by decide +kernel
theorem dL_law__1118 : decode cL_law_ 1118 = .ok (.iconst 1, 1) := by decide +kernel
theorem dL_law__1119 : decode cL_law_ 1119 = .ok (.iadd, 1) := by decide +kernel
theorem dL_law__1120 : decode cL_law_ 1120 = .ok (.iaload, 1) := by decide +kernel
theorem dL_law__1121 : decode cL_law_ 1121 = .ok (.invokevirtual 184, 3) := by decide +kernel
theorem dL_law__1124 : decode cL_law_ 1124 = .ok (.istore 6, 2) := by decide +kernel
theorem dL_law__1126 : decode cL_law_ 1126 = .ok (.aload_n 2, 1) := by decide +kernel
theorem dL_law__1127 : decode cL_law_ 1127 = .ok (.invokevirtual 135, 3) := by decide +kernel
theorem dL_law__1130 : decode cL_law_ 1130 = .ok (.iload 5, 2) := by decide +kernel
theorem dL_law__1132 : decode cL_law_ 1132 = .ok (.if_icmp .eq 5, 3) := by decide +kernel
theorem dL_law__1135 : decode cL_law_ 1135 = .ok (.iconst 0, 1) := by decide +kernel
theorem dL_law__1136 : decode cL_law_ 1136 = .ok (.ireturn, 1) := by decide +kernel
theorem dL_law__1137 : decode cL_law_ 1137 = .ok (.iload 5, 2) := by decide +kernel
theorem dL_law__1139 : decode cL_law_ 1139 = .ok (.ifCond .ne 15, 3) := by decide +kernel
theorem dL_law__1142 : decode cL_law_ 1142 = .ok (.aload_n 3, 1) := by decide +kernel
theorem dL_law__1143 : decode cL_law_ 1143 = .ok (.iconst 0, 1) := by decide +kernel
theorem dL_law__1144 : decode cL_law_ 1144 = .ok (.laload, 1) := by decide +kernel
theorem dL_law__1145 : decode cL_law_ 1145 = .ok (.iload 6, 2) := by decide +kernel
theorem dL_law__1147 : decode cL_law_ 1147 = .ok (.i2l, 1) := by decide +kernel
theorem dL_law__1148 : decode cL_law_ 1148 = .ok (.lcmp, 1) := by decide +kernel
theorem dL_law__1149 : decode cL_law_ 1149 = .ok (.ifCond .eq 5, 3) := by decide +kernel
theorem dL_law__1152 : decode cL_law_ 1152 = .ok (.iconst 0, 1) := by decide +kernel
theorem dL_law__1153 : decode cL_law_ 1153 = .ok (.ireturn, 1) := by decide +kernel
theorem dL_law__1154 : decode cL_law_ 1154 = .ok (.goto 1595, 3) := by decide +kernel
theorem dL_law__1157 : decode cL_law_ 1157 = .ok (.aload_n 1, 1) := by decide +kernel
theorem dL_law__1158 : decode cL_law_ 1158 = .ok (.aload_n 0, 1) := by decide +kernel
theorem dL_law__1159 : decode cL_law_ 1159 = .ok (.iload 4, 2) := by decide +kernel
theorem dL_law__1161 : decode cL_law_ 1161 = .ok (.iconst 1, 1) := by decide +kernel
theorem dL_law__1162 : decode cL_law_ 1162 = .ok (.iadd, 1) := by decide +kernel
theorem dL_law__1163 : decode cL_law_ 1163 = .ok (.iaload, 1) := by decide +kernel
theorem dL_law__1164 : decode cL_law_ 1164 = .ok (.aload_n 3, 1) := by decide +kernel
theorem dL_law__1165 : decode cL_law_ 1165 = .ok (.invokestatic 185, 3) := by decide +kernel
theorem dL_law__1168 : decode cL_law_ 1168 = .ok (.istore 5, 2) := by decide +kernel
theorem dL_law__1170 : decode cL_law_ 1170 = .ok (.aload_n 2, 1) := by decide +kernel
theorem dL_law__1171 : decode cL_law_ 1171 = .ok (.aload_n 0, 1) := by decide +kernel
theorem dL_law__1172 : decode cL_law_ 1172 = .ok (.iload 4, 2) := by decide +kernel
theorem dL_law__1174 : decode cL_law_ 1174 = .ok (.iconst 1, 1) := by decide +kernel
theorem dL_law__1175 : decode cL_law_ 1175 = .ok (.iadd, 1) := by decide +kernel
theorem dL_law__1176 : decode cL_law_ 1176 = .ok (.iaload, 1) := by decide +kernel
theorem dL_law__1177 : decode cL_law_ 1177 = .ok (.invokevirtual 187, 3) := by decide +kernel
theorem dL_law__1180 : decode cL_law_ 1180 = .ok (.istore 6, 2) := by decide +kernel
theorem dL_law__1182 : decode cL_law_ 1182 = .ok (.aload_n 2, 1) := by decide +kernel
theorem dL_law__1183 : decode cL_law_ 1183 = .ok (.invokevirtual 135, 3) := by decide +kernel
theorem dL_law__1186 : decode cL_law_ 1186 = .ok (.iload 5, 2) := by decide +kernel
theorem dL_law__1188 : decode cL_law_ 1188 = .ok (.if_icmp .eq 5, 3) := by decide +kernel
theorem dL_law__1191 : decode cL_law_ 1191 = .ok (.iconst 0, 1) := by decide +kernel
theorem dL_law__1192 : decode cL_law_ 1192 = .ok (.ireturn, 1) := by decide +kernel
theorem dL_law__1193 : decode cL_law_ 1193 = .ok (.iload 5, 2) := by decide +kernel
theorem dL_law__1195 : decode cL_law_ 1195 = .ok (.ifCond .ne 15, 3) := by decide +kernel
theorem dL_law__1198 : decode cL_law_ 1198 = .ok (.aload_n 3, 1) := by decide +kernel
theorem dL_law__1199 : decode cL_law_ 1199 = .ok (.iconst 0, 1) := by decide +kernel
theorem dL_law__1200 : decode cL_law_ 1200 = .ok (.laload, 1) := by decide +kernel
theorem dL_law__1201 : decode cL_law_ 1201 = .ok (.iload 6, 2) := by decide +kernel
theorem dL_law__1203 : decode cL_law_ 1203 = .ok (.i2l, 1) := by decide +kernel
theorem dL_law__1204 : decode cL_law_ 1204 = .ok (.lcmp, 1) := by decide +kernel
theorem dL_law__1205 : decode cL_law_ 1205 = .ok (.ifCond .eq 5, 3) := by decide +kernel
theorem dL_law__1208 : decode cL_law_ 1208 = .ok (.iconst 0, 1) := by decide +kernel
theorem dL_law__1209 : decode cL_law_ 1209 = .ok (.ireturn, 1) := by decide +kernel
theorem dL_law__1210 : decode cL_law_ 1210 = .ok (.goto 1539, 3) := by decide +kernel
theorem dL_law__1213 : decode cL_law_ 1213 = .ok (.aload_n 1, 1) := by decide +kernel
theorem dL_law__1214 : decode cL_law_ 1214 = .ok (.aload_n 0, 1) := by decide +kernel
theorem dL_law__1215 : decode cL_law_ 1215 = .ok (.iload 4, 2) := by decide +kernel
theorem dL_law__1217 : decode cL_law_ 1217 = .ok (.iconst 1, 1) := by decide +kernel
theorem dL_law__1218 : decode cL_law_ 1218 = .ok (.iadd, 1) := by decide +kernel
theorem dL_law__1219 : decode cL_law_ 1219 = .ok (.iaload, 1) := by decide +kernel
theorem dL_law__1220 : decode cL_law_ 1220 = .ok (.aload_n 0, 1) := by decide +kernel
theorem dL_law__1221 : decode cL_law_ 1221 = .ok (.iload 4, 2) := by decide +kernel
theorem dL_law__1223 : decode cL_law_ 1223 = .ok (.iconst 2, 1) := by decide +kernel
theorem dL_law__1224 : decode cL_law_ 1224 = .ok (.iadd, 1) := by decide +kernel
theorem dL_law__1225 : decode cL_law_ 1225 = .ok (.iaload, 1) := by decide +kernel
theorem dL_law__1226 : decode cL_law_ 1226 = .ok (.aload_n 0, 1) := by decide +kernel
theorem dL_law__1227 : decode cL_law_ 1227 = .ok (.iload 4, 2) := by decide +kernel
theorem dL_law__1229 : decode cL_law_ 1229 = .ok (.iconst 3, 1) := by decide +kernel
theorem dL_law__1230 : decode cL_law_ 1230 = .ok (.iadd, 1) := by decide +kernel
theorem dL_law__1231 : decode cL_law_ 1231 = .ok (.iaload, 1) := by decide +kernel
theorem dL_law__1232 : decode cL_law_ 1232 = .ok (.aload_n 3, 1) := by decide +kernel
theorem dL_law__1233 : decode cL_law_ 1233 = .ok (.invokestatic 188, 3) := by decide +kernel
theorem dL_law__1236 : decode cL_law_ 1236 = .ok (.istore 5, 2) := by decide +kernel
theorem dL_law__1238 : decode cL_law_ 1238 = .ok (.aload_n 2, 1) := by decide +kernel
theorem dL_law__1239 : decode cL_law_ 1239 = .ok (.aload_n 0, 1) := by decide +kernel
theorem dL_law__1240 : decode cL_law_ 1240 = .ok (.iload 4, 2) := by decide +kernel
theorem dL_law__1242 : decode cL_law_ 1242 = .ok (.iconst 1, 1) := by decide +kernel
theorem dL_law__1243 : decode cL_law_ 1243 = .ok (.iadd, 1) := by decide +kernel
theorem dL_law__1244 : decode cL_law_ 1244 = .ok (.iaload, 1) := by decide +kernel
theorem dL_law__1245 : decode cL_law_ 1245 = .ok (.aload_n 0, 1) := by decide +kernel
theorem dL_law__1246 : decode cL_law_ 1246 = .ok (.iload 4, 2) := by decide +kernel
theorem dL_law__1248 : decode cL_law_ 1248 = .ok (.iconst 2, 1) := by decide +kernel
theorem dL_law__1249 : decode cL_law_ 1249 = .ok (.iadd, 1) := by decide +kernel
theorem dL_law__1250 : decode cL_law_ 1250 = .ok (.iaload, 1) := by decide +kernel
theorem dL_law__1251 : decode cL_law_ 1251 = .ok (.aload_n 0, 1) := by decide +kernel
theorem dL_law__1252 : decode cL_law_ 1252 = .ok (.iload 4, 2) := by decide +kernel
theorem dL_law__1254 : decode cL_law_ 1254 = .ok (.iconst 3, 1) := by decide +kernel
theorem dL_law__1255 : decode cL_law_ 1255 = .ok (.iadd, 1) := by decide +kernel
theorem dL_law__1256 : decode cL_law_ 1256 = .ok (.iaload, 1) := by decide +kernel
theorem dL_law__1257 : decode cL_law_ 1257 = .ok (.invokevirtual 191, 3) := by decide +kernel
theorem dL_law__1260 : decode cL_law_ 1260 = .ok (.istore 6, 2) := by decide +kernel
theorem dL_law__1262 : decode cL_law_ 1262 = .ok (.aload_n 2, 1) := by decide +kernel
theorem dL_law__1263 : decode cL_law_ 1263 = .ok (.invokevirtual 135, 3) := by decide +kernel
theorem dL_law__1266 : decode cL_law_ 1266 = .ok (.iload 5, 2) := by decide +kernel
theorem dL_law__1268 : decode cL_law_ 1268 = .ok (.if_icmp .eq 5, 3) := by decide +kernel
theorem dL_law__1271 : decode cL_law_ 1271 = .ok (.iconst 0, 1) := by decide +kernel
theorem dL_law__1272 : decode cL_law_ 1272 = .ok (.ireturn, 1) := by decide +kernel
theorem dL_law__1273 : decode cL_law_ 1273 = .ok (.iload 5, 2) := by decide +kernel
theorem dL_law__1275 : decode cL_law_ 1275 = .ok (.ifCond .ne 15, 3) := by decide +kernel
theorem dL_law__1278 : decode cL_law_ 1278 = .ok (.aload_n 3, 1) := by decide +kernel
theorem dL_law__1279 : decode cL_law_ 1279 = .ok (.iconst 0, 1) := by decide +kernel
theorem dL_law__1280 : decode cL_law_ 1280 = .ok (.laload, 1) := by decide +kernel
theorem dL_law__1281 : decode cL_law_ 1281 = .ok (.iload 6, 2) := by decide +kernel
theorem dL_law__1283 : decode cL_law_ 1283 = .ok (.i2l, 1) := by decide +kernel
theorem dL_law__1284 : decode cL_law_ 1284 = .ok (.lcmp, 1) := by decide +kernel
theorem dL_law__1285 : decode cL_law_ 1285 = .ok (.ifCond .eq 5, 3) := by decide +kernel
theorem dL_law__1288 : decode cL_law_ 1288 = .ok (.iconst 0, 1) := by decide +kernel
theorem dL_law__1289 : decode cL_law_ 1289 = .ok (.ireturn, 1) := by decide +kernel
theorem dL_law__1290 : decode cL_law_ 1290 = .ok (.goto 1459, 3) := by decide +kernel
theorem dL_law__1293 : decode cL_law_ 1293 = .ok (.aload_n 1, 1) := by decide +kernel
theorem dL_law__1294 : decode cL_law_ 1294 = .ok (.aload_n 0, 1) := by decide +kernel
theorem dL_law__1295 : decode cL_law_ 1295 = .ok (.iload 4, 2) := by decide +kernel
theorem dL_law__1297 : decode cL_law_ 1297 = .ok (.iconst 1, 1) := by decide +kernel
theorem dL_law__1298 : decode cL_law_ 1298 = .ok (.iadd, 1) := by decide +kernel
theorem dL_law__1299 : decode cL_law_ 1299 = .ok (.iaload, 1) := by decide +kernel
theorem dL_law__1300 : decode cL_law_ 1300 = .ok (.aload_n 0, 1) := by decide +kernel
theorem dL_law__1301 : decode cL_law_ 1301 = .ok (.iload 4, 2) := by decide +kernel
theorem dL_law__1303 : decode cL_law_ 1303 = .ok (.iconst 2, 1) := by decide +kernel
theorem dL_law__1304 : decode cL_law_ 1304 = .ok (.iadd, 1) := by decide +kernel
theorem dL_law__1305 : decode cL_law_ 1305 = .ok (.iaload, 1) := by decide +kernel
theorem dL_law__1306 : decode cL_law_ 1306 = .ok (.aload_n 3, 1) := by decide +kernel
theorem dL_law__1307 : decode cL_law_ 1307 = .ok (.invokestatic 192, 3) := by decide +kernel
theorem dL_law__1310 : decode cL_law_ 1310 = .ok (.istore 5, 2) := by decide +kernel
theorem dL_law__1312 : decode cL_law_ 1312 = .ok (.aload_n 2, 1) := by decide +kernel
theorem dL_law__1313 : decode cL_law_ 1313 = .ok (.aload_n 0, 1) := by decide +kernel
theorem dL_law__1314 : decode cL_law_ 1314 = .ok (.iload 4, 2) := by decide +kernel
theorem dL_law__1316 : decode cL_law_ 1316 = .ok (.iconst 1, 1) := by decide +kernel
theorem dL_law__1317 : decode cL_law_ 1317 = .ok (.iadd, 1) := by decide +kernel
theorem dL_law__1318 : decode cL_law_ 1318 = .ok (.iaload, 1) := by decide +kernel
theorem dL_law__1319 : decode cL_law_ 1319 = .ok (.aload_n 0, 1) := by decide +kernel
theorem dL_law__1320 : decode cL_law_ 1320 = .ok (.iload 4, 2) := by decide +kernel
theorem dL_law__1322 : decode cL_law_ 1322 = .ok (.iconst 2, 1) := by decide +kernel
theorem dL_law__1323 : decode cL_law_ 1323 = .ok (.iadd, 1) := by decide +kernel
theorem dL_law__1324 : decode cL_law_ 1324 = .ok (.iaload, 1) := by decide +kernel
theorem dL_law__1325 : decode cL_law_ 1325 = .ok (.invokevirtual 194, 3) := by decide +kernel
theorem dL_law__1328 : decode cL_law_ 1328 = .ok (.istore 6, 2) := by decide +kernel
theorem dL_law__1330 : decode cL_law_ 1330 = .ok (.aload_n 2, 1) := by decide +kernel
theorem dL_law__1331 : decode cL_law_ 1331 = .ok (.invokevirtual 135, 3) := by decide +kernel
theorem dL_law__1334 : decode cL_law_ 1334 = .ok (.iload 5, 2) := by decide +kernel
theorem dL_law__1336 : decode cL_law_ 1336 = .ok (.if_icmp .eq 5, 3) := by decide +kernel
theorem dL_law__1339 : decode cL_law_ 1339 = .ok (.iconst 0, 1) := by decide +kernel
theorem dL_law__1340 : decode cL_law_ 1340 = .ok (.ireturn, 1) := by decide +kernel
theorem dL_law__1341 : decode cL_law_ 1341 = .ok (.iload 5, 2) := by decide +kernel
theorem dL_law__1343 : decode cL_law_ 1343 = .ok (.ifCond .ne 15, 3) := by decide +kernel
theorem dL_law__1346 : decode cL_law_ 1346 = .ok (.aload_n 3, 1) := by decide +kernel
theorem dL_law__1347 : decode cL_law_ 1347 = .ok (.iconst 0, 1) := by decide +kernel
theorem dL_law__1348 : decode cL_law_ 1348 = .ok (.laload, 1) := by decide +kernel
theorem dL_law__1349 : decode cL_law_ 1349 = .ok (.iload 6, 2) := by decide +kernel
theorem dL_law__1351 : decode cL_law_ 1351 = .ok (.i2l, 1) := by decide +kernel
theorem dL_law__1352 : decode cL_law_ 1352 = .ok (.lcmp, 1) := by decide +kernel
theorem dL_law__1353 : decode cL_law_ 1353 = .ok (.ifCond .eq 5, 3) := by decide +kernel
theorem dL_law__1356 : decode cL_law_ 1356 = .ok (.iconst 0, 1) := by decide +kernel
theorem dL_law__1357 : decode cL_law_ 1357 = .ok (.ireturn, 1) := by decide +kernel
theorem dL_law__1358 : decode cL_law_ 1358 = .ok (.goto 1391, 3) := by decide +kernel
theorem dL_law__1361 : decode cL_law_ 1361 = .ok (.aload_n 1, 1) := by decide +kernel
theorem dL_law__1362 : decode cL_law_ 1362 = .ok (.aload_n 0, 1) := by decide +kernel
theorem dL_law__1363 : decode cL_law_ 1363 = .ok (.iload 4, 2) := by decide +kernel
theorem dL_law__1365 : decode cL_law_ 1365 = .ok (.iconst 1, 1) := by decide +kernel
theorem dL_law__1366 : decode cL_law_ 1366 = .ok (.iadd, 1) := by decide +kernel
theorem dL_law__1367 : decode cL_law_ 1367 = .ok (.iaload, 1) := by decide +kernel
theorem dL_law__1368 : decode cL_law_ 1368 = .ok (.aload_n 0, 1) := by decide +kernel
theorem dL_law__1369 : decode cL_law_ 1369 = .ok (.iload 4, 2) := by decide +kernel
theorem dL_law__1371 : decode cL_law_ 1371 = .ok (.iconst 2, 1) := by decide +kernel
theorem dL_law__1372 : decode cL_law_ 1372 = .ok (.iadd, 1) := by decide +kernel
theorem dL_law__1373 : decode cL_law_ 1373 = .ok (.iaload, 1) := by decide +kernel
theorem dL_law__1374 : decode cL_law_ 1374 = .ok (.aload_n 3, 1) := by decide +kernel
theorem dL_law__1375 : decode cL_law_ 1375 = .ok (.invokestatic 195, 3) := by decide +kernel
theorem dL_law__1378 : decode cL_law_ 1378 = .ok (.istore 5, 2) := by decide +kernel
theorem dL_law__1380 : decode cL_law_ 1380 = .ok (.aload_n 2, 1) := by decide +kernel
theorem dL_law__1381 : decode cL_law_ 1381 = .ok (.aload_n 0, 1) := by decide +kernel
theorem dL_law__1382 : decode cL_law_ 1382 = .ok (.iload 4, 2) := by decide +kernel
theorem dL_law__1384 : decode cL_law_ 1384 = .ok (.iconst 1, 1) := by decide +kernel
theorem dL_law__1385 : decode cL_law_ 1385 = .ok (.iadd, 1) := by decide +kernel
theorem dL_law__1386 : decode cL_law_ 1386 = .ok (.iaload, 1) := by decide +kernel
theorem dL_law__1387 : decode cL_law_ 1387 = .ok (.aload_n 0, 1) := by decide +kernel
theorem dL_law__1388 : decode cL_law_ 1388 = .ok (.iload 4, 2) := by decide +kernel
theorem dL_law__1390 : decode cL_law_ 1390 = .ok (.iconst 2, 1) := by decide +kernel
theorem dL_law__1391 : decode cL_law_ 1391 = .ok (.iadd, 1) := by decide +kernel
theorem dL_law__1392 : decode cL_law_ 1392 = .ok (.iaload, 1) := by decide +kernel
theorem dL_law__1393 : decode cL_law_ 1393 = .ok (.invokevirtual 197, 3) := by decide +kernel
theorem dL_law__1396 : decode cL_law_ 1396 = .ok (.istore 6, 2) := by decide +kernel
theorem dL_law__1398 : decode cL_law_ 1398 = .ok (.aload_n 2, 1) := by decide +kernel
theorem dL_law__1399 : decode cL_law_ 1399 = .ok (.invokevirtual 135, 3) := by decide +kernel
theorem dL_law__1402 : decode cL_law_ 1402 = .ok (.iload 5, 2) := by decide +kernel
theorem dL_law__1404 : decode cL_law_ 1404 = .ok (.if_icmp .eq 5, 3) := by decide +kernel
theorem dL_law__1407 : decode cL_law_ 1407 = .ok (.iconst 0, 1) := by decide +kernel
theorem dL_law__1408 : decode cL_law_ 1408 = .ok (.ireturn, 1) := by decide +kernel
theorem dL_law__1409 : decode cL_law_ 1409 = .ok (.iload 5, 2) := by decide +kernel
theorem dL_law__1411 : decode cL_law_ 1411 = .ok (.ifCond .ne 15, 3) := by decide +kernel
theorem dL_law__1414 : decode cL_law_ 1414 = .ok (.aload_n 3, 1) := by decide +kernel
theorem dL_law__1415 : decode cL_law_ 1415 = .ok (.iconst 0, 1) := by decide +kernel
theorem dL_law__1416 : decode cL_law_ 1416 = .ok (.laload, 1) := by decide +kernel
theorem dL_law__1417 : decode cL_law_ 1417 = .ok (.iload 6, 2) := by decide +kernel
theorem dL_law__1419 : decode cL_law_ 1419 = .ok (.i2l, 1) := by decide +kernel
theorem dL_law__1420 : decode cL_law_ 1420 = .ok (.lcmp, 1) := by decide +kernel
theorem dL_law__1421 : decode cL_law_ 1421 = .ok (.ifCond .eq 5, 3) := by decide +kernel
theorem dL_law__1424 : decode cL_law_ 1424 = .ok (.iconst 0, 1) := by decide +kernel
theorem dL_law__1425 : decode cL_law_ 1425 = .ok (.ireturn, 1) := by decide +kernel
theorem dL_law__1426 : decode cL_law_ 1426 = .ok (.goto 1323, 3) := by decide +kernel
theorem dL_law__1429 : decode cL_law_ 1429 = .ok (.aload_n 1, 1) := by decide +kernel
theorem dL_law__1430 : decode cL_law_ 1430 = .ok (.aload_n 0, 1) := by decide +kernel
theorem dL_law__1431 : decode cL_law_ 1431 = .ok (.iload 4, 2) := by decide +kernel
theorem dL_law__1433 : decode cL_law_ 1433 = .ok (.iconst 1, 1) := by decide +kernel
theorem dL_law__1434 : decode cL_law_ 1434 = .ok (.iadd, 1) := by decide +kernel
theorem dL_law__1435 : decode cL_law_ 1435 = .ok (.iaload, 1) := by decide +kernel
theorem dL_law__1436 : decode cL_law_ 1436 = .ok (.aload_n 0, 1) := by decide +kernel
theorem dL_law__1437 : decode cL_law_ 1437 = .ok (.iload 4, 2) := by decide +kernel
theorem dL_law__1439 : decode cL_law_ 1439 = .ok (.iconst 2, 1) := by decide +kernel
theorem dL_law__1440 : decode cL_law_ 1440 = .ok (.iadd, 1) := by decide +kernel
theorem dL_law__1441 : decode cL_law_ 1441 = .ok (.iaload, 1) := by decide +kernel
theorem dL_law__1442 : decode cL_law_ 1442 = .ok (.aload_n 0, 1) := by decide +kernel
theorem dL_law__1443 : decode cL_law_ 1443 = .ok (.iload 4, 2) := by decide +kernel
theorem dL_law__1445 : decode cL_law_ 1445 = .ok (.iconst 3, 1) := by decide +kernel
theorem dL_law__1446 : decode cL_law_ 1446 = .ok (.iadd, 1) := by decide +kernel
theorem dL_law__1447 : decode cL_law_ 1447 = .ok (.iaload, 1) := by decide +kernel
theorem dL_law__1448 : decode cL_law_ 1448 = .ok (.aload_n 3, 1) := by decide +kernel
theorem dL_law__1449 : decode cL_law_ 1449 = .ok (.invokestatic 198, 3) := by decide +kernel
theorem dL_law__1452 : decode cL_law_ 1452 = .ok (.istore 5, 2) := by decide +kernel
theorem dL_law__1454 : decode cL_law_ 1454 = .ok (.aload_n 2, 1) := by decide +kernel
theorem dL_law__1455 : decode cL_law_ 1455 = .ok (.aload_n 0, 1) := by decide +kernel
theorem dL_law__1456 : decode cL_law_ 1456 = .ok (.iload 4, 2) := by decide +kernel
theorem dL_law__1458 : decode cL_law_ 1458 = .ok (.iconst 1, 1) := by decide +kernel
theorem dL_law__1459 : decode cL_law_ 1459 = .ok (.iadd, 1) := by decide +kernel
theorem dL_law__1460 : decode cL_law_ 1460 = .ok (.iaload, 1) := by decide +kernel
theorem dL_law__1461 : decode cL_law_ 1461 = .ok (.aload_n 0, 1) := by decide +kernel
theorem dL_law__1462 : decode cL_law_ 1462 = .ok (.iload 4, 2) := by decide +kernel
theorem dL_law__1464 : decode cL_law_ 1464 = .ok (.iconst 2, 1) := by decide +kernel
theorem dL_law__1465 : decode cL_law_ 1465 = .ok (.iadd, 1) := by decide +kernel
theorem dL_law__1466 : decode cL_law_ 1466 = .ok (.iaload, 1) := by decide +kernel
theorem dL_law__1467 : decode cL_law_ 1467 = .ok (.aload_n 0, 1) := by decide +kernel
theorem dL_law__1468 : decode cL_law_ 1468 = .ok (.iload 4, 2) := by decide +kernel
theorem dL_law__1470 : decode cL_law_ 1470 = .ok (.iconst 3, 1) := by decide +kernel
theorem dL_law__1471 : decode cL_law_ 1471 = .ok (.iadd, 1) := by decide +kernel
theorem dL_law__1472 : decode cL_law_ 1472 = .ok (.iaload, 1) := by decide +kernel
theorem dL_law__1473 : decode cL_law_ 1473 = .ok (.invokevirtual 200, 3) := by decide +kernel
theorem dL_law__1476 : decode cL_law_ 1476 = .ok (.istore 6, 2) := by decide +kernel
theorem dL_law__1478 : decode cL_law_ 1478 = .ok (.aload_n 2, 1) := by decide +kernel
theorem dL_law__1479 : decode cL_law_ 1479 = .ok (.invokevirtual 135, 3) := by decide +kernel
theorem dL_law__1482 : decode cL_law_ 1482 = .ok (.iload 5, 2) := by decide +kernel
theorem dL_law__1484 : decode cL_law_ 1484 = .ok (.if_icmp .eq 5, 3) := by decide +kernel
theorem dL_law__1487 : decode cL_law_ 1487 = .ok (.iconst 0, 1) := by decide +kernel
theorem dL_law__1488 : decode cL_law_ 1488 = .ok (.ireturn, 1) := by decide +kernel
theorem dL_law__1489 : decode cL_law_ 1489 = .ok (.iload 5, 2) := by decide +kernel
theorem dL_law__1491 : decode cL_law_ 1491 = .ok (.ifCond .ne 15, 3) := by decide +kernel
theorem dL_law__1494 : decode cL_law_ 1494 = .ok (.aload_n 3, 1) := by decide +kernel
theorem dL_law__1495 : decode cL_law_ 1495 = .ok (.iconst 0, 1) := by decide +kernel
theorem dL_law__1496 : decode cL_law_ 1496 = .ok (.laload, 1) := by decide +kernel
theorem dL_law__1497 : decode cL_law_ 1497 = .ok (.iload 6, 2) := by decide +kernel
theorem dL_law__1499 : decode cL_law_ 1499 = .ok (.i2l, 1) := by decide +kernel
theorem dL_law__1500 : decode cL_law_ 1500 = .ok (.lcmp, 1) := by decide +kernel
theorem dL_law__1501 : decode cL_law_ 1501 = .ok (.ifCond .eq 5, 3) := by decide +kernel
theorem dL_law__1504 : decode cL_law_ 1504 = .ok (.iconst 0, 1) := by decide +kernel
theorem dL_law__1505 : decode cL_law_ 1505 = .ok (.ireturn, 1) := by decide +kernel
theorem dL_law__1506 : decode cL_law_ 1506 = .ok (.goto 1243, 3) := by decide +kernel
theorem dL_law__1509 : decode cL_law_ 1509 = .ok (.aload_n 1, 1) := by decide +kernel
theorem dL_law__1510 : decode cL_law_ 1510 = .ok (.aload_n 0, 1) := by decide +kernel
theorem dL_law__1511 : decode cL_law_ 1511 = .ok (.iload 4, 2) := by decide +kernel
theorem dL_law__1513 : decode cL_law_ 1513 = .ok (.iconst 1, 1) := by decide +kernel
theorem dL_law__1514 : decode cL_law_ 1514 = .ok (.iadd, 1) := by decide +kernel
theorem dL_law__1515 : decode cL_law_ 1515 = .ok (.iaload, 1) := by decide +kernel
theorem dL_law__1516 : decode cL_law_ 1516 = .ok (.aload_n 3, 1) := by decide +kernel
theorem dL_law__1517 : decode cL_law_ 1517 = .ok (.invokestatic 201, 3) := by decide +kernel
theorem dL_law__1520 : decode cL_law_ 1520 = .ok (.istore 5, 2) := by decide +kernel
theorem dL_law__1522 : decode cL_law_ 1522 = .ok (.aload_n 2, 1) := by decide +kernel
theorem dL_law__1523 : decode cL_law_ 1523 = .ok (.aload_n 0, 1) := by decide +kernel
theorem dL_law__1524 : decode cL_law_ 1524 = .ok (.iload 4, 2) := by decide +kernel
theorem dL_law__1526 : decode cL_law_ 1526 = .ok (.iconst 1, 1) := by decide +kernel
theorem dL_law__1527 : decode cL_law_ 1527 = .ok (.iadd, 1) := by decide +kernel
theorem dL_law__1528 : decode cL_law_ 1528 = .ok (.iaload, 1) := by decide +kernel
theorem dL_law__1529 : decode cL_law_ 1529 = .ok (.invokevirtual 203, 3) := by decide +kernel
theorem dL_law__1532 : decode cL_law_ 1532 = .ok (.istore 6, 2) := by decide +kernel
theorem dL_law__1534 : decode cL_law_ 1534 = .ok (.aload_n 2, 1) := by decide +kernel
theorem dL_law__1535 : decode cL_law_ 1535 = .ok (.invokevirtual 135, 3) := by decide +kernel
theorem dL_law__1538 : decode cL_law_ 1538 = .ok (.iload 5, 2) := by decide +kernel
theorem dL_law__1540 : decode cL_law_ 1540 = .ok (.if_icmp .eq 5, 3) := by decide +kernel
theorem dL_law__1543 : decode cL_law_ 1543 = .ok (.iconst 0, 1) := by decide +kernel
theorem dL_law__1544 : decode cL_law_ 1544 = .ok (.ireturn, 1) := by decide +kernel
theorem dL_law__1545 : decode cL_law_ 1545 = .ok (.iload 5, 2) := by decide +kernel
theorem dL_law__1547 : decode cL_law_ 1547 = .ok (.ifCond .ne 15, 3) := by decide +kernel
theorem dL_law__1550 : decode cL_law_ 1550 = .ok (.aload_n 3, 1) := by decide +kernel
theorem dL_law__1551 : decode cL_law_ 1551 = .ok (.iconst 0, 1) := by decide +kernel
theorem dL_law__1552 : decode cL_law_ 1552 = .ok (.laload, 1) := by decide +kernel
theorem dL_law__1553 : decode cL_law_ 1553 = .ok (.iload 6, 2) := by decide +kernel
theorem dL_law__1555 : decode cL_law_ 1555 = .ok (.i2l, 1) := by decide +kernel
theorem dL_law__1556 : decode cL_law_ 1556 = .ok (.lcmp, 1) := by decide +kernel
theorem dL_law__1557 : decode cL_law_ 1557 = .ok (.ifCond .eq 5, 3) := by decide +kernel
theorem dL_law__1560 : decode cL_law_ 1560 = .ok (.iconst 0, 1) := by decide +kernel
theorem dL_law__1561 : decode cL_law_ 1561 = .ok (.ireturn, 1) := by decide +kernel
theorem dL_law__1562 : decode cL_law_ 1562 = .ok (.goto 1187, 3) := by decide +kernel
theorem dL_law__1565 : decode cL_law_ 1565 = .ok (.aload_n 1, 1) := by decide +kernel
theorem dL_law__1566 : decode cL_law_ 1566 = .ok (.aload_n 0, 1) := by decide +kernel
theorem dL_law__1567 : decode cL_law_ 1567 = .ok (.iload 4, 2) := by decide +kernel
theorem dL_law__1569 : decode cL_law_ 1569 = .ok (.iconst 1, 1) := by decide +kernel
theorem dL_law__1570 : decode cL_law_ 1570 = .ok (.iadd, 1) := by decide +kernel
theorem dL_law__1571 : decode cL_law_ 1571 = .ok (.iaload, 1) := by decide +kernel
theorem dL_law__1572 : decode cL_law_ 1572 = .ok (.aload_n 3, 1) := by decide +kernel
theorem dL_law__1573 : decode cL_law_ 1573 = .ok (.invokestatic 204, 3) := by decide +kernel
theorem dL_law__1576 : decode cL_law_ 1576 = .ok (.istore 5, 2) := by decide +kernel
theorem dL_law__1578 : decode cL_law_ 1578 = .ok (.aload_n 2, 1) := by decide +kernel
theorem dL_law__1579 : decode cL_law_ 1579 = .ok (.aload_n 0, 1) := by decide +kernel
theorem dL_law__1580 : decode cL_law_ 1580 = .ok (.iload 4, 2) := by decide +kernel
theorem dL_law__1582 : decode cL_law_ 1582 = .ok (.iconst 1, 1) := by decide +kernel
theorem dL_law__1583 : decode cL_law_ 1583 = .ok (.iadd, 1) := by decide +kernel
theorem dL_law__1584 : decode cL_law_ 1584 = .ok (.iaload, 1) := by decide +kernel
theorem dL_law__1585 : decode cL_law_ 1585 = .ok (.invokevirtual 206, 3) := by decide +kernel
theorem dL_law__1588 : decode cL_law_ 1588 = .ok (.istore 6, 2) := by decide +kernel
theorem dL_law__1590 : decode cL_law_ 1590 = .ok (.aload_n 2, 1) := by decide +kernel
theorem dL_law__1591 : decode cL_law_ 1591 = .ok (.invokevirtual 135, 3) := by decide +kernel
theorem dL_law__1594 : decode cL_law_ 1594 = .ok (.iload 5, 2) := by decide +kernel
theorem dL_law__1596 : decode cL_law_ 1596 = .ok (.if_icmp .eq 5, 3) := by decide +kernel
theorem dL_law__1599 : decode cL_law_ 1599 = .ok (.iconst 0, 1) := by decide +kernel
theorem dL_law__1600 : decode cL_law_ 1600 = .ok (.ireturn, 1) := by decide +kernel
theorem dL_law__1601 : decode cL_law_ 1601 = .ok (.iload 5, 2) := by decide +kernel
theorem dL_law__1603 : decode cL_law_ 1603 = .ok (.ifCond .ne 15, 3) := by decide +kernel
theorem dL_law__1606 : decode cL_law_ 1606 = .ok (.aload_n 3, 1) := by decide +kernel
theorem dL_law__1607 : decode cL_law_ 1607 = .ok (.iconst 0, 1) := by decide +kernel
theorem dL_law__1608 : decode cL_law_ 1608 = .ok (.laload, 1) := by decide +kernel
theorem dL_law__1609 : decode cL_law_ 1609 = .ok (.iload 6, 2) := by decide +kernel
theorem dL_law__1611 : decode cL_law_ 1611 = .ok (.i2l, 1) := by decide +kernel
theorem dL_law__1612 : decode cL_law_ 1612 = .ok (.lcmp, 1) := by decide +kernel
theorem dL_law__1613 : decode cL_law_ 1613 = .ok (.ifCond .eq 5, 3) := by decide +kernel
theorem dL_law__1616 : decode cL_law_ 1616 = .ok (.iconst 0, 1) := by decide +kernel
theorem dL_law__1617 : decode cL_law_ 1617 = .ok (.ireturn, 1) := by decide +kernel
theorem dL_law__1618 : decode cL_law_ 1618 = .ok (.goto 1131, 3) := by decide +kernel
theorem dL_law__1621 : decode cL_law_ 1621 = .ok (.aload_n 1, 1) := by decide +kernel
theorem dL_law__1622 : decode cL_law_ 1622 = .ok (.aload_n 0, 1) := by decide +kernel
theorem dL_law__1623 : decode cL_law_ 1623 = .ok (.iload 4, 2) := by decide +kernel
theorem dL_law__1625 : decode cL_law_ 1625 = .ok (.iconst 1, 1) := by decide +kernel
theorem dL_law__1626 : decode cL_law_ 1626 = .ok (.iadd, 1) := by decide +kernel
theorem dL_law__1627 : decode cL_law_ 1627 = .ok (.iaload, 1) := by decide +kernel
theorem dL_law__1628 : decode cL_law_ 1628 = .ok (.aload_n 0, 1) := by decide +kernel
theorem dL_law__1629 : decode cL_law_ 1629 = .ok (.iload 4, 2) := by decide +kernel
theorem dL_law__1631 : decode cL_law_ 1631 = .ok (.iconst 2, 1) := by decide +kernel
theorem dL_law__1632 : decode cL_law_ 1632 = .ok (.iadd, 1) := by decide +kernel
theorem dL_law__1633 : decode cL_law_ 1633 = .ok (.iaload, 1) := by decide +kernel
theorem dL_law__1634 : decode cL_law_ 1634 = .ok (.aload_n 0, 1) := by decide +kernel
theorem dL_law__1635 : decode cL_law_ 1635 = .ok (.iload 4, 2) := by decide +kernel
theorem dL_law__1637 : decode cL_law_ 1637 = .ok (.iconst 3, 1) := by decide +kernel
theorem dL_law__1638 : decode cL_law_ 1638 = .ok (.iadd, 1) := by decide +kernel
theorem dL_law__1639 : decode cL_law_ 1639 = .ok (.iaload, 1) := by decide +kernel
theorem dL_law__1640 : decode cL_law_ 1640 = .ok (.aload_n 3, 1) := by decide +kernel
theorem dL_law__1641 : decode cL_law_ 1641 = .ok (.invokestatic 207, 3) := by decide +kernel
theorem dL_law__1644 : decode cL_law_ 1644 = .ok (.istore 5, 2) := by decide +kernel
theorem dL_law__1646 : decode cL_law_ 1646 = .ok (.aload_n 2, 1) := by decide +kernel
theorem dL_law__1647 : decode cL_law_ 1647 = .ok (.aload_n 0, 1) := by decide +kernel
theorem dL_law__1648 : decode cL_law_ 1648 = .ok (.iload 4, 2) := by decide +kernel
theorem dL_law__1650 : decode cL_law_ 1650 = .ok (.iconst 1, 1) := by decide +kernel
theorem dL_law__1651 : decode cL_law_ 1651 = .ok (.iadd, 1) := by decide +kernel
theorem dL_law__1652 : decode cL_law_ 1652 = .ok (.iaload, 1) := by decide +kernel
theorem dL_law__1653 : decode cL_law_ 1653 = .ok (.aload_n 0, 1) := by decide +kernel
theorem dL_law__1654 : decode cL_law_ 1654 = .ok (.iload 4, 2) := by decide +kernel
theorem dL_law__1656 : decode cL_law_ 1656 = .ok (.iconst 2, 1) := by decide +kernel
theorem dL_law__1657 : decode cL_law_ 1657 = .ok (.iadd, 1) := by decide +kernel
theorem dL_law__1658 : decode cL_law_ 1658 = .ok (.iaload, 1) := by decide +kernel
theorem dL_law__1659 : decode cL_law_ 1659 = .ok (.aload_n 0, 1) := by decide +kernel
theorem dL_law__1660 : decode cL_law_ 1660 = .ok (.iload 4, 2) := by decide +kernel
theorem dL_law__1662 : decode cL_law_ 1662 = .ok (.iconst 3, 1) := by decide +kernel
theorem dL_law__1663 : decode cL_law_ 1663 = .ok (.iadd, 1) := by decide +kernel
theorem dL_law__1664 : decode cL_law_ 1664 = .ok (.iaload, 1) := by decide +kernel
theorem dL_law__1665 : decode cL_law_ 1665 = .ok (.invokevirtual 209, 3) := by decide +kernel
theorem dL_law__1668 : decode cL_law_ 1668 = .ok (.istore 6, 2) := by decide +kernel
theorem dL_law__1670 : decode cL_law_ 1670 = .ok (.aload_n 2, 1) := by decide +kernel
theorem dL_law__1671 : decode cL_law_ 1671 = .ok (.invokevirtual 135, 3) := by decide +kernel
theorem dL_law__1674 : decode cL_law_ 1674 = .ok (.iload 5, 2) := by decide +kernel
theorem dL_law__1676 : decode cL_law_ 1676 = .ok (.if_icmp .eq 5, 3) := by decide +kernel
theorem dL_law__1679 : decode cL_law_ 1679 = .ok (.iconst 0, 1) := by decide +kernel
theorem dL_law__1680 : decode cL_law_ 1680 = .ok (.ireturn, 1) := by decide +kernel
theorem dL_law__1681 : decode cL_law_ 1681 = .ok (.iload 5, 2) := by decide +kernel
theorem dL_law__1683 : decode cL_law_ 1683 = .ok (.ifCond .ne 15, 3) := by decide +kernel
theorem dL_law__1686 : decode cL_law_ 1686 = .ok (.aload_n 3, 1) := by decide +kernel
theorem dL_law__1687 : decode cL_law_ 1687 = .ok (.iconst 0, 1) := by decide +kernel
theorem dL_law__1688 : decode cL_law_ 1688 = .ok (.laload, 1) := by decide +kernel
theorem dL_law__1689 : decode cL_law_ 1689 = .ok (.iload 6, 2) := by decide +kernel
theorem dL_law__1691 : decode cL_law_ 1691 = .ok (.i2l, 1) := by decide +kernel
theorem dL_law__1692 : decode cL_law_ 1692 = .ok (.lcmp, 1) := by decide +kernel
theorem dL_law__1693 : decode cL_law_ 1693 = .ok (.ifCond .eq 5, 3) := by decide +kernel
theorem dL_law__1696 : decode cL_law_ 1696 = .ok (.iconst 0, 1) := by decide +kernel
theorem dL_law__1697 : decode cL_law_ 1697 = .ok (.ireturn, 1) := by decide +kernel
theorem dL_law__1698 : decode cL_law_ 1698 = .ok (.goto 1051, 3) := by decide +kernel
theorem dL_law__1701 : decode cL_law_ 1701 = .ok (.aload_n 1, 1) := by decide +kernel
theorem dL_law__1702 : decode cL_law_ 1702 = .ok (.aload_n 0, 1) := by decide +kernel
theorem dL_law__1703 : decode cL_law_ 1703 = .ok (.iload 4, 2) := by decide +kernel
theorem dL_law__1705 : decode cL_law_ 1705 = .ok (.iconst 1, 1) := by decide +kernel
theorem dL_law__1706 : decode cL_law_ 1706 = .ok (.iadd, 1) := by decide +kernel
theorem dL_law__1707 : decode cL_law_ 1707 = .ok (.iaload, 1) := by decide +kernel
theorem dL_law__1708 : decode cL_law_ 1708 = .ok (.aload_n 0, 1) := by decide +kernel
theorem dL_law__1709 : decode cL_law_ 1709 = .ok (.iload 4, 2) := by decide +kernel
theorem dL_law__1711 : decode cL_law_ 1711 = .ok (.iconst 2, 1) := by decide +kernel
theorem dL_law__1712 : decode cL_law_ 1712 = .ok (.iadd, 1) := by decide +kernel
theorem dL_law__1713 : decode cL_law_ 1713 = .ok (.iaload, 1) := by decide +kernel
theorem dL_law__1714 : decode cL_law_ 1714 = .ok (.aload_n 0, 1) := by decide +kernel
theorem dL_law__1715 : decode cL_law_ 1715 = .ok (.iload 4, 2) := by decide +kernel
theorem dL_law__1717 : decode cL_law_ 1717 = .ok (.iconst 3, 1) := by decide +kernel
theorem dL_law__1718 : decode cL_law_ 1718 = .ok (.iadd, 1) := by decide +kernel
theorem dL_law__1719 : decode cL_law_ 1719 = .ok (.iaload, 1) := by decide +kernel
theorem dL_law__1720 : decode cL_law_ 1720 = .ok (.aload_n 3, 1) := by decide +kernel
theorem dL_law__1721 : decode cL_law_ 1721 = .ok (.invokestatic 210, 3) := by decide +kernel
theorem dL_law__1724 : decode cL_law_ 1724 = .ok (.istore 5, 2) := by decide +kernel
theorem dL_law__1726 : decode cL_law_ 1726 = .ok (.aload_n 2, 1) := by decide +kernel
theorem dL_law__1727 : decode cL_law_ 1727 = .ok (.aload_n 0, 1) := by decide +kernel
theorem dL_law__1728 : decode cL_law_ 1728 = .ok (.iload 4, 2) := by decide +kernel
theorem dL_law__1730 : decode cL_law_ 1730 = .ok (.iconst 1, 1) := by decide +kernel
theorem dL_law__1731 : decode cL_law_ 1731 = .ok (.iadd, 1) := by decide +kernel
theorem dL_law__1732 : decode cL_law_ 1732 = .ok (.iaload, 1) := by decide +kernel
theorem dL_law__1733 : decode cL_law_ 1733 = .ok (.aload_n 0, 1) := by decide +kernel
theorem dL_law__1734 : decode cL_law_ 1734 = .ok (.iload 4, 2) := by decide +kernel
theorem dL_law__1736 : decode cL_law_ 1736 = .ok (.iconst 2, 1) := by decide +kernel
theorem dL_law__1737 : decode cL_law_ 1737 = .ok (.iadd, 1) := by decide +kernel
theorem dL_law__1738 : decode cL_law_ 1738 = .ok (.iaload, 1) := by decide +kernel
theorem dL_law__1739 : decode cL_law_ 1739 = .ok (.aload_n 0, 1) := by decide +kernel
theorem dL_law__1740 : decode cL_law_ 1740 = .ok (.iload 4, 2) := by decide +kernel
theorem dL_law__1742 : decode cL_law_ 1742 = .ok (.iconst 3, 1) := by decide +kernel
theorem dL_law__1743 : decode cL_law_ 1743 = .ok (.iadd, 1) := by decide +kernel
theorem dL_law__1744 : decode cL_law_ 1744 = .ok (.iaload, 1) := by decide +kernel
theorem dL_law__1745 : decode cL_law_ 1745 = .ok (.invokevirtual 212, 3) := by decide +kernel
theorem dL_law__1748 : decode cL_law_ 1748 = .ok (.istore 6, 2) := by decide +kernel
theorem dL_law__1750 : decode cL_law_ 1750 = .ok (.aload_n 2, 1) := by decide +kernel
theorem dL_law__1751 : decode cL_law_ 1751 = .ok (.invokevirtual 135, 3) := by decide +kernel
theorem dL_law__1754 : decode cL_law_ 1754 = .ok (.iload 5, 2) := by decide +kernel
theorem dL_law__1756 : decode cL_law_ 1756 = .ok (.if_icmp .eq 5, 3) := by decide +kernel
theorem dL_law__1759 : decode cL_law_ 1759 = .ok (.iconst 0, 1) := by decide +kernel
theorem dL_law__1760 : decode cL_law_ 1760 = .ok (.ireturn, 1) := by decide +kernel
theorem dL_law__1761 : decode cL_law_ 1761 = .ok (.iload 5, 2) := by decide +kernel
theorem dL_law__1763 : decode cL_law_ 1763 = .ok (.ifCond .ne 15, 3) := by decide +kernel
theorem dL_law__1766 : decode cL_law_ 1766 = .ok (.aload_n 3, 1) := by decide +kernel
theorem dL_law__1767 : decode cL_law_ 1767 = .ok (.iconst 0, 1) := by decide +kernel
theorem dL_law__1768 : decode cL_law_ 1768 = .ok (.laload, 1) := by decide +kernel
theorem dL_law__1769 : decode cL_law_ 1769 = .ok (.iload 6, 2) := by decide +kernel
theorem dL_law__1771 : decode cL_law_ 1771 = .ok (.i2l, 1) := by decide +kernel
theorem dL_law__1772 : decode cL_law_ 1772 = .ok (.lcmp, 1) := by decide +kernel
theorem dL_law__1773 : decode cL_law_ 1773 = .ok (.ifCond .eq 5, 3) := by decide +kernel
theorem dL_law__1776 : decode cL_law_ 1776 = .ok (.iconst 0, 1) := by decide +kernel
theorem dL_law__1777 : decode cL_law_ 1777 = .ok (.ireturn, 1) := by decide +kernel
theorem dL_law__1778 : decode cL_law_ 1778 = .ok (.goto 971, 3) := by decide +kernel
theorem dL_law__1781 : decode cL_law_ 1781 = .ok (.aload_n 1, 1) := by decide +kernel
theorem dL_law__1782 : decode cL_law_ 1782 = .ok (.aload_n 0, 1) := by decide +kernel
theorem dL_law__1783 : decode cL_law_ 1783 = .ok (.iload 4, 2) := by decide +kernel
theorem dL_law__1785 : decode cL_law_ 1785 = .ok (.iconst 1, 1) := by decide +kernel
theorem dL_law__1786 : decode cL_law_ 1786 = .ok (.iadd, 1) := by decide +kernel
theorem dL_law__1787 : decode cL_law_ 1787 = .ok (.iaload, 1) := by decide +kernel
theorem dL_law__1788 : decode cL_law_ 1788 = .ok (.aload_n 0, 1) := by decide +kernel
theorem dL_law__1789 : decode cL_law_ 1789 = .ok (.iload 4, 2) := by decide +kernel
theorem dL_law__1791 : decode cL_law_ 1791 = .ok (.iconst 2, 1) := by decide +kernel
theorem dL_law__1792 : decode cL_law_ 1792 = .ok (.iadd, 1) := by decide +kernel
theorem dL_law__1793 : decode cL_law_ 1793 = .ok (.iaload, 1) := by decide +kernel
theorem dL_law__1794 : decode cL_law_ 1794 = .ok (.aload_n 0, 1) := by decide +kernel
theorem dL_law__1795 : decode cL_law_ 1795 = .ok (.iload 4, 2) := by decide +kernel
theorem dL_law__1797 : decode cL_law_ 1797 = .ok (.iconst 3, 1) := by decide +kernel
theorem dL_law__1798 : decode cL_law_ 1798 = .ok (.iadd, 1) := by decide +kernel
theorem dL_law__1799 : decode cL_law_ 1799 = .ok (.iaload, 1) := by decide +kernel
theorem dL_law__1800 : decode cL_law_ 1800 = .ok (.aload_n 3, 1) := by decide +kernel
theorem dL_law__1801 : decode cL_law_ 1801 = .ok (.invokestatic 213, 3) := by decide +kernel
theorem dL_law__1804 : decode cL_law_ 1804 = .ok (.istore 5, 2) := by decide +kernel
theorem dL_law__1806 : decode cL_law_ 1806 = .ok (.aload_n 2, 1) := by decide +kernel
theorem dL_law__1807 : decode cL_law_ 1807 = .ok (.aload_n 0, 1) := by decide +kernel
theorem dL_law__1808 : decode cL_law_ 1808 = .ok (.iload 4, 2) := by decide +kernel
theorem dL_law__1810 : decode cL_law_ 1810 = .ok (.iconst 1, 1) := by decide +kernel
theorem dL_law__1811 : decode cL_law_ 1811 = .ok (.iadd, 1) := by decide +kernel
theorem dL_law__1812 : decode cL_law_ 1812 = .ok (.iaload, 1) := by decide +kernel
theorem dL_law__1813 : decode cL_law_ 1813 = .ok (.aload_n 0, 1) := by decide +kernel
theorem dL_law__1814 : decode cL_law_ 1814 = .ok (.iload 4, 2) := by decide +kernel
theorem dL_law__1816 : decode cL_law_ 1816 = .ok (.iconst 2, 1) := by decide +kernel
theorem dL_law__1817 : decode cL_law_ 1817 = .ok (.iadd, 1) := by decide +kernel
theorem dL_law__1818 : decode cL_law_ 1818 = .ok (.iaload, 1) := by decide +kernel
theorem dL_law__1819 : decode cL_law_ 1819 = .ok (.aload_n 0, 1) := by decide +kernel
theorem dL_law__1820 : decode cL_law_ 1820 = .ok (.iload 4, 2) := by decide +kernel
theorem dL_law__1822 : decode cL_law_ 1822 = .ok (.iconst 3, 1) := by decide +kernel
theorem dL_law__1823 : decode cL_law_ 1823 = .ok (.iadd, 1) := by decide +kernel
theorem dL_law__1824 : decode cL_law_ 1824 = .ok (.iaload, 1) := by decide +kernel
theorem dL_law__1825 : decode cL_law_ 1825 = .ok (.invokevirtual 215, 3) := by decide +kernel
theorem dL_law__1828 : decode cL_law_ 1828 = .ok (.istore 6, 2) := by decide +kernel
theorem dL_law__1830 : decode cL_law_ 1830 = .ok (.aload_n 2, 1) := by decide +kernel
theorem dL_law__1831 : decode cL_law_ 1831 = .ok (.invokevirtual 135, 3) := by decide +kernel
theorem dL_law__1834 : decode cL_law_ 1834 = .ok (.iload 5, 2) := by decide +kernel
theorem dL_law__1836 : decode cL_law_ 1836 = .ok (.if_icmp .eq 5, 3) := by decide +kernel
theorem dL_law__1839 : decode cL_law_ 1839 = .ok (.iconst 0, 1) := by decide +kernel
theorem dL_law__1840 : decode cL_law_ 1840 = .ok (.ireturn, 1) := by decide +kernel
theorem dL_law__1841 : decode cL_law_ 1841 = .ok (.iload 5, 2) := by decide +kernel
theorem dL_law__1843 : decode cL_law_ 1843 = .ok (.ifCond .ne 15, 3) := by decide +kernel
theorem dL_law__1846 : decode cL_law_ 1846 = .ok (.aload_n 3, 1) := by decide +kernel
theorem dL_law__1847 : decode cL_law_ 1847 = .ok (.iconst 0, 1) := by decide +kernel
theorem dL_law__1848 : decode cL_law_ 1848 = .ok (.laload, 1) := by decide +kernel
theorem dL_law__1849 : decode cL_law_ 1849 = .ok (.iload 6, 2) := by decide +kernel
theorem dL_law__1851 : decode cL_law_ 1851 = .ok (.i2l, 1) := by decide +kernel
theorem dL_law__1852 : decode cL_law_ 1852 = .ok (.lcmp, 1) := by decide +kernel
theorem dL_law__1853 : decode cL_law_ 1853 = .ok (.ifCond .eq 5, 3) := by decide +kernel
theorem dL_law__1856 : decode cL_law_ 1856 = .ok (.iconst 0, 1) := by decide +kernel
theorem dL_law__1857 : decode cL_law_ 1857 = .ok (.ireturn, 1) := by decide +kernel
theorem dL_law__1858 : decode cL_law_ 1858 = .ok (.goto 891, 3) := by decide +kernel
theorem dL_law__1861 : decode cL_law_ 1861 = .ok (.aload_n 1, 1) := by decide +kernel
theorem dL_law__1862 : decode cL_law_ 1862 = .ok (.aload_n 0, 1) := by decide +kernel
theorem dL_law__1863 : decode cL_law_ 1863 = .ok (.iload 4, 2) := by decide +kernel
theorem dL_law__1865 : decode cL_law_ 1865 = .ok (.iconst 1, 1) := by decide +kernel
theorem dL_law__1866 : decode cL_law_ 1866 = .ok (.iadd, 1) := by decide +kernel
theorem dL_law__1867 : decode cL_law_ 1867 = .ok (.iaload, 1) := by decide +kernel
theorem dL_law__1868 : decode cL_law_ 1868 = .ok (.aload_n 0, 1) := by decide +kernel
theorem dL_law__1869 : decode cL_law_ 1869 = .ok (.iload 4, 2) := by decide +kernel
theorem dL_law__1871 : decode cL_law_ 1871 = .ok (.iconst 2, 1) := by decide +kernel
theorem dL_law__1872 : decode cL_law_ 1872 = .ok (.iadd, 1) := by decide +kernel
theorem dL_law__1873 : decode cL_law_ 1873 = .ok (.iaload, 1) := by decide +kernel
theorem dL_law__1874 : decode cL_law_ 1874 = .ok (.aload_n 0, 1) := by decide +kernel
theorem dL_law__1875 : decode cL_law_ 1875 = .ok (.iload 4, 2) := by decide +kernel
theorem dL_law__1877 : decode cL_law_ 1877 = .ok (.iconst 3, 1) := by decide +kernel
theorem dL_law__1878 : decode cL_law_ 1878 = .ok (.iadd, 1) := by decide +kernel
theorem dL_law__1879 : decode cL_law_ 1879 = .ok (.iaload, 1) := by decide +kernel
theorem dL_law__1880 : decode cL_law_ 1880 = .ok (.aload_n 3, 1) := by decide +kernel
theorem dL_law__1881 : decode cL_law_ 1881 = .ok (.invokestatic 216, 3) := by decide +kernel
theorem dL_law__1884 : decode cL_law_ 1884 = .ok (.istore 5, 2) := by decide +kernel
theorem dL_law__1886 : decode cL_law_ 1886 = .ok (.aload_n 2, 1) := by decide +kernel
theorem dL_law__1887 : decode cL_law_ 1887 = .ok (.aload_n 0, 1) := by decide +kernel
theorem dL_law__1888 : decode cL_law_ 1888 = .ok (.iload 4, 2) := by decide +kernel
theorem dL_law__1890 : decode cL_law_ 1890 = .ok (.iconst 1, 1) := by decide +kernel
theorem dL_law__1891 : decode cL_law_ 1891 = .ok (.iadd, 1) := by decide +kernel
theorem dL_law__1892 : decode cL_law_ 1892 = .ok (.iaload, 1) := by decide +kernel
theorem dL_law__1893 : decode cL_law_ 1893 = .ok (.aload_n 0, 1) := by decide +kernel
theorem dL_law__1894 : decode cL_law_ 1894 = .ok (.iload 4, 2) := by decide +kernel
theorem dL_law__1896 : decode cL_law_ 1896 = .ok (.iconst 2, 1) := by decide +kernel
theorem dL_law__1897 : decode cL_law_ 1897 = .ok (.iadd, 1) := by decide +kernel
theorem dL_law__1898 : decode cL_law_ 1898 = .ok (.iaload, 1) := by decide +kernel
theorem dL_law__1899 : decode cL_law_ 1899 = .ok (.aload_n 0, 1) := by decide +kernel
theorem dL_law__1900 : decode cL_law_ 1900 = .ok (.iload 4, 2) := by decide +kernel
theorem dL_law__1902 : decode cL_law_ 1902 = .ok (.iconst 3, 1) := by decide +kernel
theorem dL_law__1903 : decode cL_law_ 1903 = .ok (.iadd, 1) := by decide +kernel
theorem dL_law__1904 : decode cL_law_ 1904 = .ok (.iaload, 1) := by decide +kernel
theorem dL_law__1905 : decode cL_law_ 1905 = .ok (.invokevirtual 218, 3) := by decide +kernel
theorem dL_law__1908 : decode cL_law_ 1908 = .ok (.istore 6, 2) := by decide +kernel
theorem dL_law__1910 : decode cL_law_ 1910 = .ok (.aload_n 2, 1) := by decide +kernel
theorem dL_law__1911 : decode cL_law_ 1911 = .ok (.invokevirtual 135, 3) := by decide +kernel
theorem dL_law__1914 : decode cL_law_ 1914 = .ok (.iload 5, 2) := by decide +kernel
theorem dL_law__1916 : decode cL_law_ 1916 = .ok (.if_icmp .eq 5, 3) := by decide +kernel
theorem dL_law__1919 : decode cL_law_ 1919 = .ok (.iconst 0, 1) := by decide +kernel
theorem dL_law__1920 : decode cL_law_ 1920 = .ok (.ireturn, 1) := by decide +kernel
theorem dL_law__1921 : decode cL_law_ 1921 = .ok (.iload 5, 2) := by decide +kernel
theorem dL_law__1923 : decode cL_law_ 1923 = .ok (.ifCond .ne 15, 3) := by decide +kernel
theorem dL_law__1926 : decode cL_law_ 1926 = .ok (.aload_n 3, 1) := by decide +kernel
theorem dL_law__1927 : decode cL_law_ 1927 = .ok (.iconst 0, 1) := by decide +kernel
theorem dL_law__1928 : decode cL_law_ 1928 = .ok (.laload, 1) := by decide +kernel
theorem dL_law__1929 : decode cL_law_ 1929 = .ok (.iload 6, 2) := by decide +kernel
theorem dL_law__1931 : decode cL_law_ 1931 = .ok (.i2l, 1) := by decide +kernel
theorem dL_law__1932 : decode cL_law_ 1932 = .ok (.lcmp, 1) := by decide +kernel
theorem dL_law__1933 : decode cL_law_ 1933 = .ok (.ifCond .eq 5, 3) := by decide +kernel
theorem dL_law__1936 : decode cL_law_ 1936 = .ok (.iconst 0, 1) := by decide +kernel
theorem dL_law__1937 : decode cL_law_ 1937 = .ok (.ireturn, 1) := by decide +kernel
theorem dL_law__1938 : decode cL_law_ 1938 = .ok (.goto 811, 3) := by decide +kernel
theorem dL_law__1941 : decode cL_law_ 1941 = .ok (.aload_n 1, 1) := by decide +kernel
theorem dL_law__1942 : decode cL_law_ 1942 = .ok (.aload_n 0, 1) := by decide +kernel
theorem dL_law__1943 : decode cL_law_ 1943 = .ok (.iload 4, 2) := by decide +kernel
theorem dL_law__1945 : decode cL_law_ 1945 = .ok (.iconst 1, 1) := by decide +kernel
theorem dL_law__1946 : decode cL_law_ 1946 = .ok (.iadd, 1) := by decide +kernel
theorem dL_law__1947 : decode cL_law_ 1947 = .ok (.iaload, 1) := by decide +kernel
theorem dL_law__1948 : decode cL_law_ 1948 = .ok (.aload_n 0, 1) := by decide +kernel
theorem dL_law__1949 : decode cL_law_ 1949 = .ok (.iload 4, 2) := by decide +kernel
theorem dL_law__1951 : decode cL_law_ 1951 = .ok (.iconst 2, 1) := by decide +kernel
theorem dL_law__1952 : decode cL_law_ 1952 = .ok (.iadd, 1) := by decide +kernel
theorem dL_law__1953 : decode cL_law_ 1953 = .ok (.iaload, 1) := by decide +kernel
theorem dL_law__1954 : decode cL_law_ 1954 = .ok (.aload_n 3, 1) := by decide +kernel
theorem dL_law__1955 : decode cL_law_ 1955 = .ok (.invokestatic 219, 3) := by decide +kernel
theorem dL_law__1958 : decode cL_law_ 1958 = .ok (.istore 5, 2) := by decide +kernel
theorem dL_law__1960 : decode cL_law_ 1960 = .ok (.aload_n 2, 1) := by decide +kernel
theorem dL_law__1961 : decode cL_law_ 1961 = .ok (.aload_n 0, 1) := by decide +kernel
theorem dL_law__1962 : decode cL_law_ 1962 = .ok (.iload 4, 2) := by decide +kernel
theorem dL_law__1964 : decode cL_law_ 1964 = .ok (.iconst 1, 1) := by decide +kernel
theorem dL_law__1965 : decode cL_law_ 1965 = .ok (.iadd, 1) := by decide +kernel
theorem dL_law__1966 : decode cL_law_ 1966 = .ok (.iaload, 1) := by decide +kernel
theorem dL_law__1967 : decode cL_law_ 1967 = .ok (.aload_n 0, 1) := by decide +kernel
theorem dL_law__1968 : decode cL_law_ 1968 = .ok (.iload 4, 2) := by decide +kernel
theorem dL_law__1970 : decode cL_law_ 1970 = .ok (.iconst 2, 1) := by decide +kernel
theorem dL_law__1971 : decode cL_law_ 1971 = .ok (.iadd, 1) := by decide +kernel
theorem dL_law__1972 : decode cL_law_ 1972 = .ok (.iaload, 1) := by decide +kernel
theorem dL_law__1973 : decode cL_law_ 1973 = .ok (.invokevirtual 221, 3) := by decide +kernel
theorem dL_law__1976 : decode cL_law_ 1976 = .ok (.istore 6, 2) := by decide +kernel
theorem dL_law__1978 : decode cL_law_ 1978 = .ok (.aload_n 2, 1) := by decide +kernel
theorem dL_law__1979 : decode cL_law_ 1979 = .ok (.invokevirtual 135, 3) := by decide +kernel
theorem dL_law__1982 : decode cL_law_ 1982 = .ok (.iload 5, 2) := by decide +kernel
theorem dL_law__1984 : decode cL_law_ 1984 = .ok (.if_icmp .eq 5, 3) := by decide +kernel
theorem dL_law__1987 : decode cL_law_ 1987 = .ok (.iconst 0, 1) := by decide +kernel
theorem dL_law__1988 : decode cL_law_ 1988 = .ok (.ireturn, 1) := by decide +kernel
theorem dL_law__1989 : decode cL_law_ 1989 = .ok (.iload 5, 2) := by decide +kernel
theorem dL_law__1991 : decode cL_law_ 1991 = .ok (.ifCond .ne 15, 3) := by decide +kernel
theorem dL_law__1994 : decode cL_law_ 1994 = .ok (.aload_n 3, 1) := by decide +kernel
theorem dL_law__1995 : decode cL_law_ 1995 = .ok (.iconst 0, 1) := by decide +kernel
theorem dL_law__1996 : decode cL_law_ 1996 = .ok (.laload, 1) := by decide +kernel
theorem dL_law__1997 : decode cL_law_ 1997 = .ok (.iload 6, 2) := by decide +kernel
theorem dL_law__1999 : decode cL_law_ 1999 = .ok (.i2l, 1) := by decide +kernel
theorem dL_law__2000 : decode cL_law_ 2000 = .ok (.lcmp, 1) := by decide +kernel
theorem dL_law__2001 : decode cL_law_ 2001 = .ok (.ifCond .eq 5, 3) := by decide +kernel
theorem dL_law__2004 : decode cL_law_ 2004 = .ok (.iconst 0, 1) := by decide +kernel
theorem dL_law__2005 : decode cL_law_ 2005 = .ok (.ireturn, 1) := by decide +kernel
theorem dL_law__2006 : decode cL_law_ 2006 = .ok (.goto 743, 3) := by decide +kernel
theorem dL_law__2009 : decode cL_law_ 2009 = .ok (.aload_n 1, 1) := by decide +kernel
theorem dL_law__2010 : decode cL_law_ 2010 = .ok (.aload_n 0, 1) := by decide +kernel
theorem dL_law__2011 : decode cL_law_ 2011 = .ok (.iload 4, 2) := by decide +kernel
theorem dL_law__2013 : decode cL_law_ 2013 = .ok (.iconst 1, 1) := by decide +kernel
theorem dL_law__2014 : decode cL_law_ 2014 = .ok (.iadd, 1) := by decide +kernel
theorem dL_law__2015 : decode cL_law_ 2015 = .ok (.iaload, 1) := by decide +kernel
theorem dL_law__2016 : decode cL_law_ 2016 = .ok (.aload_n 3, 1) := by decide +kernel
theorem dL_law__2017 : decode cL_law_ 2017 = .ok (.invokestatic 222, 3) := by decide +kernel
theorem dL_law__2020 : decode cL_law_ 2020 = .ok (.istore 5, 2) := by decide +kernel
theorem dL_law__2022 : decode cL_law_ 2022 = .ok (.aload_n 2, 1) := by decide +kernel
theorem dL_law__2023 : decode cL_law_ 2023 = .ok (.aload_n 0, 1) := by decide +kernel
theorem dL_law__2024 : decode cL_law_ 2024 = .ok (.iload 4, 2) := by decide +kernel
theorem dL_law__2026 : decode cL_law_ 2026 = .ok (.iconst 1, 1) := by decide +kernel
theorem dL_law__2027 : decode cL_law_ 2027 = .ok (.iadd, 1) := by decide +kernel
theorem dL_law__2028 : decode cL_law_ 2028 = .ok (.iaload, 1) := by decide +kernel
theorem dL_law__2029 : decode cL_law_ 2029 = .ok (.invokevirtual 224, 3) := by decide +kernel
theorem dL_law__2032 : decode cL_law_ 2032 = .ok (.istore 6, 2) := by decide +kernel
theorem dL_law__2034 : decode cL_law_ 2034 = .ok (.aload_n 2, 1) := by decide +kernel
theorem dL_law__2035 : decode cL_law_ 2035 = .ok (.invokevirtual 135, 3) := by decide +kernel
theorem dL_law__2038 : decode cL_law_ 2038 = .ok (.iload 5, 2) := by decide +kernel
theorem dL_law__2040 : decode cL_law_ 2040 = .ok (.if_icmp .eq 5, 3) := by decide +kernel
theorem dL_law__2043 : decode cL_law_ 2043 = .ok (.iconst 0, 1) := by decide +kernel
theorem dL_law__2044 : decode cL_law_ 2044 = .ok (.ireturn, 1) := by decide +kernel
theorem dL_law__2045 : decode cL_law_ 2045 = .ok (.iload 5, 2) := by decide +kernel
theorem dL_law__2047 : decode cL_law_ 2047 = .ok (.ifCond .ne 15, 3) := by decide +kernel
theorem dL_law__2050 : decode cL_law_ 2050 = .ok (.aload_n 3, 1) := by decide +kernel
theorem dL_law__2051 : decode cL_law_ 2051 = .ok (.iconst 0, 1) := by decide +kernel
theorem dL_law__2052 : decode cL_law_ 2052 = .ok (.laload, 1) := by decide +kernel
theorem dL_law__2053 : decode cL_law_ 2053 = .ok (.iload 6, 2) := by decide +kernel
theorem dL_law__2055 : decode cL_law_ 2055 = .ok (.i2l, 1) := by decide +kernel
theorem dL_law__2056 : decode cL_law_ 2056 = .ok (.lcmp, 1) := by decide +kernel
theorem dL_law__2057 : decode cL_law_ 2057 = .ok (.ifCond .eq 5, 3) := by decide +kernel
theorem dL_law__2060 : decode cL_law_ 2060 = .ok (.iconst 0, 1) := by decide +kernel
theorem dL_law__2061 : decode cL_law_ 2061 = .ok (.ireturn, 1) := by decide +kernel
theorem dL_law__2062 : decode cL_law_ 2062 = .ok (.goto 687, 3) := by decide +kernel
theorem dL_law__2065 : decode cL_law_ 2065 = .ok (.aload_n 1, 1) := by decide +kernel
theorem dL_law__2066 : decode cL_law_ 2066 = .ok (.aload_n 0, 1) := by decide +kernel
theorem dL_law__2067 : decode cL_law_ 2067 = .ok (.iload 4, 2) := by decide +kernel
theorem dL_law__2069 : decode cL_law_ 2069 = .ok (.iconst 1, 1) := by decide +kernel
theorem dL_law__2070 : decode cL_law_ 2070 = .ok (.iadd, 1) := by decide +kernel
theorem dL_law__2071 : decode cL_law_ 2071 = .ok (.iaload, 1) := by decide +kernel
theorem dL_law__2072 : decode cL_law_ 2072 = .ok (.aload_n 3, 1) := by decide +kernel
theorem dL_law__2073 : decode cL_law_ 2073 = .ok (.invokestatic 225, 3) := by decide +kernel
theorem dL_law__2076 : decode cL_law_ 2076 = .ok (.istore 5, 2) := by decide +kernel
theorem dL_law__2078 : decode cL_law_ 2078 = .ok (.aload_n 2, 1) := by decide +kernel
theorem dL_law__2079 : decode cL_law_ 2079 = .ok (.aload_n 0, 1) := by decide +kernel
theorem dL_law__2080 : decode cL_law_ 2080 = .ok (.iload 4, 2) := by decide +kernel
theorem dL_law__2082 : decode cL_law_ 2082 = .ok (.iconst 1, 1) := by decide +kernel
theorem dL_law__2083 : decode cL_law_ 2083 = .ok (.iadd, 1) := by decide +kernel
theorem dL_law__2084 : decode cL_law_ 2084 = .ok (.iaload, 1) := by decide +kernel
theorem dL_law__2085 : decode cL_law_ 2085 = .ok (.invokevirtual 227, 3) := by decide +kernel
theorem dL_law__2088 : decode cL_law_ 2088 = .ok (.istore 6, 2) := by decide +kernel
theorem dL_law__2090 : decode cL_law_ 2090 = .ok (.aload_n 2, 1) := by decide +kernel
theorem dL_law__2091 : decode cL_law_ 2091 = .ok (.invokevirtual 135, 3) := by decide +kernel
theorem dL_law__2094 : decode cL_law_ 2094 = .ok (.iload 5, 2) := by decide +kernel
theorem dL_law__2096 : decode cL_law_ 2096 = .ok (.if_icmp .eq 5, 3) := by decide +kernel
theorem dL_law__2099 : decode cL_law_ 2099 = .ok (.iconst 0, 1) := by decide +kernel
theorem dL_law__2100 : decode cL_law_ 2100 = .ok (.ireturn, 1) := by decide +kernel
theorem dL_law__2101 : decode cL_law_ 2101 = .ok (.iload 5, 2) := by decide +kernel
theorem dL_law__2103 : decode cL_law_ 2103 = .ok (.ifCond .ne 15, 3) := by decide +kernel
theorem dL_law__2106 : decode cL_law_ 2106 = .ok (.aload_n 3, 1) := by decide +kernel
theorem dL_law__2107 : decode cL_law_ 2107 = .ok (.iconst 0, 1) := by decide +kernel
theorem dL_law__2108 : decode cL_law_ 2108 = .ok (.laload, 1) := by decide +kernel
theorem dL_law__2109 : decode cL_law_ 2109 = .ok (.iload 6, 2) := by decide +kernel
theorem dL_law__2111 : decode cL_law_ 2111 = .ok (.i2l, 1) := by decide +kernel
theorem dL_law__2112 : decode cL_law_ 2112 = .ok (.lcmp, 1) := by decide +kernel
theorem dL_law__2113 : decode cL_law_ 2113 = .ok (.ifCond .eq 5, 3) := by decide +kernel
theorem dL_law__2116 : decode cL_law_ 2116 = .ok (.iconst 0, 1) := by decide +kernel
theorem dL_law__2117 : decode cL_law_ 2117 = .ok (.ireturn, 1) := by decide +kernel
theorem dL_law__2118 : decode cL_law_ 2118 = .ok (.goto 631, 3) := by decide +kernel
theorem dL_law__2121 : decode cL_law_ 2121 = .ok (.aload_n 1, 1) := by decide +kernel
theorem dL_law__2122 : decode cL_law_ 2122 = .ok (.aload_n 0, 1) := by decide +kernel
theorem dL_law__2123 : decode cL_law_ 2123 = .ok (.iload 4, 2) := by decide +kernel
theorem dL_law__2125 : decode cL_law_ 2125 = .ok (.iconst 1, 1) := by decide +kernel
theorem dL_law__2126 : decode cL_law_ 2126 = .ok (.iadd, 1) := by decide +kernel
theorem dL_law__2127 : decode cL_law_ 2127 = .ok (.iaload, 1) := by decide +kernel
theorem dL_law__2128 : decode cL_law_ 2128 = .ok (.aload_n 0, 1) := by decide +kernel
theorem dL_law__2129 : decode cL_law_ 2129 = .ok (.iload 4, 2) := by decide +kernel
theorem dL_law__2131 : decode cL_law_ 2131 = .ok (.iconst 2, 1) := by decide +kernel
theorem dL_law__2132 : decode cL_law_ 2132 = .ok (.iadd, 1) := by decide +kernel
theorem dL_law__2133 : decode cL_law_ 2133 = .ok (.iaload, 1) := by decide +kernel
theorem dL_law__2134 : decode cL_law_ 2134 = .ok (.aload_n 3, 1) := by decide +kernel
theorem dL_law__2135 : decode cL_law_ 2135 = .ok (.invokestatic 228, 3) := by decide +kernel
theorem dL_law__2138 : decode cL_law_ 2138 = .ok (.istore 5, 2) := by decide +kernel
theorem dL_law__2140 : decode cL_law_ 2140 = .ok (.aload_n 2, 1) := by decide +kernel
theorem dL_law__2141 : decode cL_law_ 2141 = .ok (.aload_n 0, 1) := by decide +kernel
theorem dL_law__2142 : decode cL_law_ 2142 = .ok (.iload 4, 2) := by decide +kernel
theorem dL_law__2144 : decode cL_law_ 2144 = .ok (.iconst 1, 1) := by decide +kernel
theorem dL_law__2145 : decode cL_law_ 2145 = .ok (.iadd, 1) := by decide +kernel
theorem dL_law__2146 : decode cL_law_ 2146 = .ok (.iaload, 1) := by decide +kernel
theorem dL_law__2147 : decode cL_law_ 2147 = .ok (.aload_n 0, 1) := by decide +kernel
theorem dL_law__2148 : decode cL_law_ 2148 = .ok (.iload 4, 2) := by decide +kernel
theorem dL_law__2150 : decode cL_law_ 2150 = .ok (.iconst 2, 1) := by decide +kernel
theorem dL_law__2151 : decode cL_law_ 2151 = .ok (.iadd, 1) := by decide +kernel
theorem dL_law__2152 : decode cL_law_ 2152 = .ok (.iaload, 1) := by decide +kernel
theorem dL_law__2153 : decode cL_law_ 2153 = .ok (.invokevirtual 230, 3) := by decide +kernel
theorem dL_law__2156 : decode cL_law_ 2156 = .ok (.istore 6, 2) := by decide +kernel
theorem dL_law__2158 : decode cL_law_ 2158 = .ok (.aload_n 2, 1) := by decide +kernel
theorem dL_law__2159 : decode cL_law_ 2159 = .ok (.invokevirtual 135, 3) := by decide +kernel
theorem dL_law__2162 : decode cL_law_ 2162 = .ok (.iload 5, 2) := by decide +kernel
theorem dL_law__2164 : decode cL_law_ 2164 = .ok (.if_icmp .eq 5, 3) := by decide +kernel
theorem dL_law__2167 : decode cL_law_ 2167 = .ok (.iconst 0, 1) := by decide +kernel
theorem dL_law__2168 : decode cL_law_ 2168 = .ok (.ireturn, 1) := by decide +kernel
theorem dL_law__2169 : decode cL_law_ 2169 = .ok (.iload 5, 2) := by decide +kernel
theorem dL_law__2171 : decode cL_law_ 2171 = .ok (.ifCond .ne 15, 3) := by decide +kernel
theorem dL_law__2174 : decode cL_law_ 2174 = .ok (.aload_n 3, 1) := by decide +kernel
theorem dL_law__2175 : decode cL_law_ 2175 = .ok (.iconst 0, 1) := by decide +kernel
theorem dL_law__2176 : decode cL_law_ 2176 = .ok (.laload, 1) := by decide +kernel
theorem dL_law__2177 : decode cL_law_ 2177 = .ok (.iload 6, 2) := by decide +kernel
theorem dL_law__2179 : decode cL_law_ 2179 = .ok (.i2l, 1) := by decide +kernel
theorem dL_law__2180 : decode cL_law_ 2180 = .ok (.lcmp, 1) := by decide +kernel
theorem dL_law__2181 : decode cL_law_ 2181 = .ok (.ifCond .eq 5, 3) := by decide +kernel
theorem dL_law__2184 : decode cL_law_ 2184 = .ok (.iconst 0, 1) := by decide +kernel
theorem dL_law__2185 : decode cL_law_ 2185 = .ok (.ireturn, 1) := by decide +kernel
theorem dL_law__2186 : decode cL_law_ 2186 = .ok (.goto 563, 3) := by decide +kernel
theorem dL_law__2189 : decode cL_law_ 2189 = .ok (.aload_n 1, 1) := by decide +kernel
theorem dL_law__2190 : decode cL_law_ 2190 = .ok (.aload_n 0, 1) := by decide +kernel
theorem dL_law__2191 : decode cL_law_ 2191 = .ok (.iload 4, 2) := by decide +kernel
theorem dL_law__2193 : decode cL_law_ 2193 = .ok (.iconst 1, 1) := by decide +kernel
theorem dL_law__2194 : decode cL_law_ 2194 = .ok (.iadd, 1) := by decide +kernel
theorem dL_law__2195 : decode cL_law_ 2195 = .ok (.iaload, 1) := by decide +kernel
theorem dL_law__2196 : decode cL_law_ 2196 = .ok (.aload_n 3, 1) := by decide +kernel
theorem dL_law__2197 : decode cL_law_ 2197 = .ok (.invokestatic 231, 3) := by decide +kernel
theorem dL_law__2200 : decode cL_law_ 2200 = .ok (.istore 5, 2) := by decide +kernel
theorem dL_law__2202 : decode cL_law_ 2202 = .ok (.aload_n 2, 1) := by decide +kernel
theorem dL_law__2203 : decode cL_law_ 2203 = .ok (.aload_n 0, 1) := by decide +kernel
theorem dL_law__2204 : decode cL_law_ 2204 = .ok (.iload 4, 2) := by decide +kernel
theorem dL_law__2206 : decode cL_law_ 2206 = .ok (.iconst 1, 1) := by decide +kernel
theorem dL_law__2207 : decode cL_law_ 2207 = .ok (.iadd, 1) := by decide +kernel
theorem dL_law__2208 : decode cL_law_ 2208 = .ok (.iaload, 1) := by decide +kernel
theorem dL_law__2209 : decode cL_law_ 2209 = .ok (.invokevirtual 233, 3) := by decide +kernel
theorem dL_law__2212 : decode cL_law_ 2212 = .ok (.istore 6, 2) := by decide +kernel
theorem dL_law__2214 : decode cL_law_ 2214 = .ok (.aload_n 2, 1) := by decide +kernel
theorem dL_law__2215 : decode cL_law_ 2215 = .ok (.invokevirtual 135, 3) := by decide +kernel
theorem dL_law__2218 : decode cL_law_ 2218 = .ok (.iload 5, 2) := by decide +kernel
theorem dL_law__2220 : decode cL_law_ 2220 = .ok (.if_icmp .eq 5, 3) := by decide +kernel
theorem dL_law__2223 : decode cL_law_ 2223 = .ok (.iconst 0, 1) := by decide +kernel
theorem dL_law__2224 : decode cL_law_ 2224 = .ok (.ireturn, 1) := by decide +kernel
theorem dL_law__2225 : decode cL_law_ 2225 = .ok (.iload 5, 2) := by decide +kernel
theorem dL_law__2227 : decode cL_law_ 2227 = .ok (.ifCond .ne 15, 3) := by decide +kernel
theorem dL_law__2230 : decode cL_law_ 2230 = .ok (.aload_n 3, 1) := by decide +kernel
theorem dL_law__2231 : decode cL_law_ 2231 = .ok (.iconst 0, 1) := by decide +kernel
theorem dL_law__2232 : decode cL_law_ 2232 = .ok (.laload, 1) := by decide +kernel
theorem dL_law__2233 : decode cL_law_ 2233 = .ok (.iload 6, 2) := by decide +kernel
theorem dL_law__2235 : decode cL_law_ 2235 = .ok (.i2l, 1) := by decide +kernel
theorem dL_law__2236 : decode cL_law_ 2236 = .ok (.lcmp, 1) := by decide +kernel
theorem dL_law__2237 : decode cL_law_ 2237 = .ok (.ifCond .eq 5, 3) := by decide +kernel
theorem dL_law__2240 : decode cL_law_ 2240 = .ok (.iconst 0, 1) := by decide +kernel
theorem dL_law__2241 : decode cL_law_ 2241 = .ok (.ireturn, 1) := by decide +kernel
theorem dL_law__2242 : decode cL_law_ 2242 = .ok (.goto 507, 3) := by decide +kernel
theorem dL_law__2245 : decode cL_law_ 2245 = .ok (.aload_n 1, 1) := by decide +kernel
theorem dL_law__2246 : decode cL_law_ 2246 = .ok (.aload_n 0, 1) := by decide +kernel
theorem dL_law__2247 : decode cL_law_ 2247 = .ok (.iload 4, 2) := by decide +kernel
theorem dL_law__2249 : decode cL_law_ 2249 = .ok (.iconst 1, 1) := by decide +kernel
theorem dL_law__2250 : decode cL_law_ 2250 = .ok (.iadd, 1) := by decide +kernel
theorem dL_law__2251 : decode cL_law_ 2251 = .ok (.iaload, 1) := by decide +kernel
theorem dL_law__2252 : decode cL_law_ 2252 = .ok (.aload_n 0, 1) := by decide +kernel
theorem dL_law__2253 : decode cL_law_ 2253 = .ok (.iload 4, 2) := by decide +kernel
theorem dL_law__2255 : decode cL_law_ 2255 = .ok (.iconst 2, 1) := by decide +kernel
theorem dL_law__2256 : decode cL_law_ 2256 = .ok (.iadd, 1) := by decide +kernel
theorem dL_law__2257 : decode cL_law_ 2257 = .ok (.iaload, 1) := by decide +kernel
theorem dL_law__2258 : decode cL_law_ 2258 = .ok (.aload_n 3, 1) := by decide +kernel
theorem dL_law__2259 : decode cL_law_ 2259 = .ok (.invokestatic 234, 3) := by decide +kernel
theorem dL_law__2262 : decode cL_law_ 2262 = .ok (.istore 5, 2) := by decide +kernel
theorem dL_law__2264 : decode cL_law_ 2264 = .ok (.aload_n 2, 1) := by decide +kernel
theorem dL_law__2265 : decode cL_law_ 2265 = .ok (.aload_n 0, 1) := by decide +kernel
theorem dL_law__2266 : decode cL_law_ 2266 = .ok (.iload 4, 2) := by decide +kernel
theorem dL_law__2268 : decode cL_law_ 2268 = .ok (.iconst 1, 1) := by decide +kernel
theorem dL_law__2269 : decode cL_law_ 2269 = .ok (.iadd, 1) := by decide +kernel
theorem dL_law__2270 : decode cL_law_ 2270 = .ok (.iaload, 1) := by decide +kernel
theorem dL_law__2271 : decode cL_law_ 2271 = .ok (.aload_n 0, 1) := by decide +kernel
theorem dL_law__2272 : decode cL_law_ 2272 = .ok (.iload 4, 2) := by decide +kernel
theorem dL_law__2274 : decode cL_law_ 2274 = .ok (.iconst 2, 1) := by decide +kernel
theorem dL_law__2275 : decode cL_law_ 2275 = .ok (.iadd, 1) := by decide +kernel
theorem dL_law__2276 : decode cL_law_ 2276 = .ok (.iaload, 1) := by decide +kernel
theorem dL_law__2277 : decode cL_law_ 2277 = .ok (.invokevirtual 236, 3) := by decide +kernel
theorem dL_law__2280 : decode cL_law_ 2280 = .ok (.istore 6, 2) := by decide +kernel
theorem dL_law__2282 : decode cL_law_ 2282 = .ok (.aload_n 2, 1) := by decide +kernel
theorem dL_law__2283 : decode cL_law_ 2283 = .ok (.invokevirtual 135, 3) := by decide +kernel
theorem dL_law__2286 : decode cL_law_ 2286 = .ok (.iload 5, 2) := by decide +kernel
theorem dL_law__2288 : decode cL_law_ 2288 = .ok (.if_icmp .eq 5, 3) := by decide +kernel
theorem dL_law__2291 : decode cL_law_ 2291 = .ok (.iconst 0, 1) := by decide +kernel
theorem dL_law__2292 : decode cL_law_ 2292 = .ok (.ireturn, 1) := by decide +kernel
theorem dL_law__2293 : decode cL_law_ 2293 = .ok (.iload 5, 2) := by decide +kernel
theorem dL_law__2295 : decode cL_law_ 2295 = .ok (.ifCond .ne 15, 3) := by decide +kernel
theorem dL_law__2298 : decode cL_law_ 2298 = .ok (.aload_n 3, 1) := by decide +kernel
theorem dL_law__2299 : decode cL_law_ 2299 = .ok (.iconst 0, 1) := by decide +kernel
theorem dL_law__2300 : decode cL_law_ 2300 = .ok (.laload, 1) := by decide +kernel
theorem dL_law__2301 : decode cL_law_ 2301 = .ok (.iload 6, 2) := by decide +kernel
theorem dL_law__2303 : decode cL_law_ 2303 = .ok (.i2l, 1) := by decide +kernel
theorem dL_law__2304 : decode cL_law_ 2304 = .ok (.lcmp, 1) := by decide +kernel
theorem dL_law__2305 : decode cL_law_ 2305 = .ok (.ifCond .eq 5, 3) := by decide +kernel
theorem dL_law__2308 : decode cL_law_ 2308 = .ok (.iconst 0, 1) := by decide +kernel
theorem dL_law__2309 : decode cL_law_ 2309 = .ok (.ireturn, 1) := by decide +kernel
theorem dL_law__2310 : decode cL_law_ 2310 = .ok (.goto 439, 3) := by decide +kernel
theorem dL_law__2313 : decode cL_law_ 2313 = .ok (.aload_n 1, 1) := by decide +kernel
theorem dL_law__2314 : decode cL_law_ 2314 = .ok (.aload_n 0, 1) := by decide +kernel
theorem dL_law__2315 : decode cL_law_ 2315 = .ok (.iload 4, 2) := by decide +kernel
theorem dL_law__2317 : decode cL_law_ 2317 = .ok (.iconst 1, 1) := by decide +kernel
theorem dL_law__2318 : decode cL_law_ 2318 = .ok (.iadd, 1) := by decide +kernel
theorem dL_law__2319 : decode cL_law_ 2319 = .ok (.iaload, 1) := by decide +kernel
theorem dL_law__2320 : decode cL_law_ 2320 = .ok (.aload_n 3, 1) := by decide +kernel
theorem dL_law__2321 : decode cL_law_ 2321 = .ok (.invokestatic 237, 3) := by decide +kernel
theorem dL_law__2324 : decode cL_law_ 2324 = .ok (.istore 5, 2) := by decide +kernel
theorem dL_law__2326 : decode cL_law_ 2326 = .ok (.aload_n 2, 1) := by decide +kernel
theorem dL_law__2327 : decode cL_law_ 2327 = .ok (.aload_n 0, 1) := by decide +kernel
theorem dL_law__2328 : decode cL_law_ 2328 = .ok (.iload 4, 2) := by decide +kernel
theorem dL_law__2330 : decode cL_law_ 2330 = .ok (.iconst 1, 1) := by decide +kernel
theorem dL_law__2331 : decode cL_law_ 2331 = .ok (.iadd, 1) := by decide +kernel
theorem dL_law__2332 : decode cL_law_ 2332 = .ok (.iaload, 1) := by decide +kernel
theorem dL_law__2333 : decode cL_law_ 2333 = .ok (.invokevirtual 239, 3) := by decide +kernel
theorem dL_law__2336 : decode cL_law_ 2336 = .ok (.istore 6, 2) := by decide +kernel
theorem dL_law__2338 : decode cL_law_ 2338 = .ok (.aload_n 2, 1) := by decide +kernel
theorem dL_law__2339 : decode cL_law_ 2339 = .ok (.invokevirtual 135, 3) := by decide +kernel
theorem dL_law__2342 : decode cL_law_ 2342 = .ok (.iload 5, 2) := by decide +kernel
theorem dL_law__2344 : decode cL_law_ 2344 = .ok (.if_icmp .eq 5, 3) := by decide +kernel
theorem dL_law__2347 : decode cL_law_ 2347 = .ok (.iconst 0, 1) := by decide +kernel
theorem dL_law__2348 : decode cL_law_ 2348 = .ok (.ireturn, 1) := by decide +kernel
theorem dL_law__2349 : decode cL_law_ 2349 = .ok (.iload 5, 2) := by decide +kernel
theorem dL_law__2351 : decode cL_law_ 2351 = .ok (.ifCond .ne 15, 3) := by decide +kernel
theorem dL_law__2354 : decode cL_law_ 2354 = .ok (.aload_n 3, 1) := by decide +kernel
theorem dL_law__2355 : decode cL_law_ 2355 = .ok (.iconst 0, 1) := by decide +kernel
theorem dL_law__2356 : decode cL_law_ 2356 = .ok (.laload, 1) := by decide +kernel
theorem dL_law__2357 : decode cL_law_ 2357 = .ok (.iload 6, 2) := by decide +kernel
theorem dL_law__2359 : decode cL_law_ 2359 = .ok (.i2l, 1) := by decide +kernel
theorem dL_law__2360 : decode cL_law_ 2360 = .ok (.lcmp, 1) := by decide +kernel
theorem dL_law__2361 : decode cL_law_ 2361 = .ok (.ifCond .eq 5, 3) := by decide +kernel
theorem dL_law__2364 : decode cL_law_ 2364 = .ok (.iconst 0, 1) := by decide +kernel
theorem dL_law__2365 : decode cL_law_ 2365 = .ok (.ireturn, 1) := by decide +kernel
theorem dL_law__2366 : decode cL_law_ 2366 = .ok (.goto 383, 3) := by decide +kernel
theorem dL_law__2369 : decode cL_law_ 2369 = .ok (.aload_n 1, 1) := by decide +kernel
theorem dL_law__2370 : decode cL_law_ 2370 = .ok (.aload_n 0, 1) := by decide +kernel
theorem dL_law__2371 : decode cL_law_ 2371 = .ok (.iload 4, 2) := by decide +kernel
theorem dL_law__2373 : decode cL_law_ 2373 = .ok (.iconst 1, 1) := by decide +kernel
theorem dL_law__2374 : decode cL_law_ 2374 = .ok (.iadd, 1) := by decide +kernel
theorem dL_law__2375 : decode cL_law_ 2375 = .ok (.iaload, 1) := by decide +kernel
theorem dL_law__2376 : decode cL_law_ 2376 = .ok (.aload_n 0, 1) := by decide +kernel
theorem dL_law__2377 : decode cL_law_ 2377 = .ok (.iload 4, 2) := by decide +kernel
theorem dL_law__2379 : decode cL_law_ 2379 = .ok (.iconst 2, 1) := by decide +kernel
theorem dL_law__2380 : decode cL_law_ 2380 = .ok (.iadd, 1) := by decide +kernel
theorem dL_law__2381 : decode cL_law_ 2381 = .ok (.iaload, 1) := by decide +kernel
theorem dL_law__2382 : decode cL_law_ 2382 = .ok (.aload_n 3, 1) := by decide +kernel
theorem dL_law__2383 : decode cL_law_ 2383 = .ok (.invokestatic 240, 3) := by decide +kernel
theorem dL_law__2386 : decode cL_law_ 2386 = .ok (.istore 5, 2) := by decide +kernel
theorem dL_law__2388 : decode cL_law_ 2388 = .ok (.aload_n 2, 1) := by decide +kernel
theorem dL_law__2389 : decode cL_law_ 2389 = .ok (.aload_n 0, 1) := by decide +kernel
theorem dL_law__2390 : decode cL_law_ 2390 = .ok (.iload 4, 2) := by decide +kernel
theorem dL_law__2392 : decode cL_law_ 2392 = .ok (.iconst 1, 1) := by decide +kernel
theorem dL_law__2393 : decode cL_law_ 2393 = .ok (.iadd, 1) := by decide +kernel
theorem dL_law__2394 : decode cL_law_ 2394 = .ok (.iaload, 1) := by decide +kernel
theorem dL_law__2395 : decode cL_law_ 2395 = .ok (.aload_n 0, 1) := by decide +kernel
theorem dL_law__2396 : decode cL_law_ 2396 = .ok (.iload 4, 2) := by decide +kernel
theorem dL_law__2398 : decode cL_law_ 2398 = .ok (.iconst 2, 1) := by decide +kernel
theorem dL_law__2399 : decode cL_law_ 2399 = .ok (.iadd, 1) := by decide +kernel
theorem dL_law__2400 : decode cL_law_ 2400 = .ok (.iaload, 1) := by decide +kernel
theorem dL_law__2401 : decode cL_law_ 2401 = .ok (.invokevirtual 242, 3) := by decide +kernel
theorem dL_law__2404 : decode cL_law_ 2404 = .ok (.istore 6, 2) := by decide +kernel
theorem dL_law__2406 : decode cL_law_ 2406 = .ok (.aload_n 2, 1) := by decide +kernel
theorem dL_law__2407 : decode cL_law_ 2407 = .ok (.invokevirtual 135, 3) := by decide +kernel
theorem dL_law__2410 : decode cL_law_ 2410 = .ok (.iload 5, 2) := by decide +kernel
theorem dL_law__2412 : decode cL_law_ 2412 = .ok (.if_icmp .eq 5, 3) := by decide +kernel
theorem dL_law__2415 : decode cL_law_ 2415 = .ok (.iconst 0, 1) := by decide +kernel
theorem dL_law__2416 : decode cL_law_ 2416 = .ok (.ireturn, 1) := by decide +kernel
theorem dL_law__2417 : decode cL_law_ 2417 = .ok (.iload 5, 2) := by decide +kernel
theorem dL_law__2419 : decode cL_law_ 2419 = .ok (.ifCond .ne 15, 3) := by decide +kernel
theorem dL_law__2422 : decode cL_law_ 2422 = .ok (.aload_n 3, 1) := by decide +kernel
theorem dL_law__2423 : decode cL_law_ 2423 = .ok (.iconst 0, 1) := by decide +kernel
theorem dL_law__2424 : decode cL_law_ 2424 = .ok (.laload, 1) := by decide +kernel
theorem dL_law__2425 : decode cL_law_ 2425 = .ok (.iload 6, 2) := by decide +kernel
theorem dL_law__2427 : decode cL_law_ 2427 = .ok (.i2l, 1) := by decide +kernel
theorem dL_law__2428 : decode cL_law_ 2428 = .ok (.lcmp, 1) := by decide +kernel
theorem dL_law__2429 : decode cL_law_ 2429 = .ok (.ifCond .eq 5, 3) := by decide +kernel
theorem dL_law__2432 : decode cL_law_ 2432 = .ok (.iconst 0, 1) := by decide +kernel
theorem dL_law__2433 : decode cL_law_ 2433 = .ok (.ireturn, 1) := by decide +kernel
theorem dL_law__2434 : decode cL_law_ 2434 = .ok (.goto 315, 3) := by decide +kernel
theorem dL_law__2437 : decode cL_law_ 2437 = .ok (.aload_n 1, 1) := by decide +kernel
theorem dL_law__2438 : decode cL_law_ 2438 = .ok (.aload_n 0, 1) := by decide +kernel
theorem dL_law__2439 : decode cL_law_ 2439 = .ok (.iload 4, 2) := by decide +kernel
theorem dL_law__2441 : decode cL_law_ 2441 = .ok (.iconst 1, 1) := by decide +kernel
theorem dL_law__2442 : decode cL_law_ 2442 = .ok (.iadd, 1) := by decide +kernel
theorem dL_law__2443 : decode cL_law_ 2443 = .ok (.iaload, 1) := by decide +kernel
theorem dL_law__2444 : decode cL_law_ 2444 = .ok (.aload_n 0, 1) := by decide +kernel
theorem dL_law__2445 : decode cL_law_ 2445 = .ok (.iload 4, 2) := by decide +kernel
theorem dL_law__2447 : decode cL_law_ 2447 = .ok (.iconst 2, 1) := by decide +kernel
theorem dL_law__2448 : decode cL_law_ 2448 = .ok (.iadd, 1) := by decide +kernel
theorem dL_law__2449 : decode cL_law_ 2449 = .ok (.iaload, 1) := by decide +kernel
theorem dL_law__2450 : decode cL_law_ 2450 = .ok (.aload_n 0, 1) := by decide +kernel
theorem dL_law__2451 : decode cL_law_ 2451 = .ok (.iload 4, 2) := by decide +kernel
theorem dL_law__2453 : decode cL_law_ 2453 = .ok (.iconst 3, 1) := by decide +kernel
theorem dL_law__2454 : decode cL_law_ 2454 = .ok (.iadd, 1) := by decide +kernel
theorem dL_law__2455 : decode cL_law_ 2455 = .ok (.iaload, 1) := by decide +kernel
theorem dL_law__2456 : decode cL_law_ 2456 = .ok (.aload_n 0, 1) := by decide +kernel
theorem dL_law__2457 : decode cL_law_ 2457 = .ok (.iload 4, 2) := by decide +kernel
theorem dL_law__2459 : decode cL_law_ 2459 = .ok (.iconst 4, 1) := by decide +kernel
theorem dL_law__2460 : decode cL_law_ 2460 = .ok (.iadd, 1) := by decide +kernel
theorem dL_law__2461 : decode cL_law_ 2461 = .ok (.iaload, 1) := by decide +kernel
theorem dL_law__2462 : decode cL_law_ 2462 = .ok (.aload_n 0, 1) := by decide +kernel
theorem dL_law__2463 : decode cL_law_ 2463 = .ok (.iload 4, 2) := by decide +kernel
theorem dL_law__2465 : decode cL_law_ 2465 = .ok (.iconst 5, 1) := by decide +kernel
theorem dL_law__2466 : decode cL_law_ 2466 = .ok (.iadd, 1) := by decide +kernel
theorem dL_law__2467 : decode cL_law_ 2467 = .ok (.iaload, 1) := by decide +kernel
theorem dL_law__2468 : decode cL_law_ 2468 = .ok (.aload_n 3, 1) := by decide +kernel
theorem dL_law__2469 : decode cL_law_ 2469 = .ok (.invokestatic 243, 3) := by decide +kernel
theorem dL_law__2472 : decode cL_law_ 2472 = .ok (.istore 5, 2) := by decide +kernel
theorem dL_law__2474 : decode cL_law_ 2474 = .ok (.aload_n 2, 1) := by decide +kernel
theorem dL_law__2475 : decode cL_law_ 2475 = .ok (.aload_n 0, 1) := by decide +kernel
theorem dL_law__2476 : decode cL_law_ 2476 = .ok (.iload 4, 2) := by decide +kernel
theorem dL_law__2478 : decode cL_law_ 2478 = .ok (.iconst 1, 1) := by decide +kernel
theorem dL_law__2479 : decode cL_law_ 2479 = .ok (.iadd, 1) := by decide +kernel
theorem dL_law__2480 : decode cL_law_ 2480 = .ok (.iaload, 1) := by decide +kernel
theorem dL_law__2481 : decode cL_law_ 2481 = .ok (.aload_n 0, 1) := by decide +kernel
theorem dL_law__2482 : decode cL_law_ 2482 = .ok (.iload 4, 2) := by decide +kernel
theorem dL_law__2484 : decode cL_law_ 2484 = .ok (.iconst 2, 1) := by decide +kernel
theorem dL_law__2485 : decode cL_law_ 2485 = .ok (.iadd, 1) := by decide +kernel
theorem dL_law__2486 : decode cL_law_ 2486 = .ok (.iaload, 1) := by decide +kernel
theorem dL_law__2487 : decode cL_law_ 2487 = .ok (.aload_n 0, 1) := by decide +kernel
theorem dL_law__2488 : decode cL_law_ 2488 = .ok (.iload 4, 2) := by decide +kernel
theorem dL_law__2490 : decode cL_law_ 2490 = .ok (.iconst 3, 1) := by decide +kernel
theorem dL_law__2491 : decode cL_law_ 2491 = .ok (.iadd, 1) := by decide +kernel
theorem dL_law__2492 : decode cL_law_ 2492 = .ok (.iaload, 1) := by decide +kernel
theorem dL_law__2493 : decode cL_law_ 2493 = .ok (.aload_n 0, 1) := by decide +kernel
theorem dL_law__2494 : decode cL_law_ 2494 = .ok (.iload 4, 2) := by decide +kernel
theorem dL_law__2496 : decode cL_law_ 2496 = .ok (.iconst 4, 1) := by decide +kernel
theorem dL_law__2497 : decode cL_law_ 2497 = .ok (.iadd, 1) := by decide +kernel
theorem dL_law__2498 : decode cL_law_ 2498 = .ok (.iaload, 1) := by decide +kernel
theorem dL_law__2499 : decode cL_law_ 2499 = .ok (.aload_n 0, 1) := by decide +kernel
theorem dL_law__2500 : decode cL_law_ 2500 = .ok (.iload 4, 2) := by decide +kernel
theorem dL_law__2502 : decode cL_law_ 2502 = .ok (.iconst 5, 1) := by decide +kernel
theorem dL_law__2503 : decode cL_law_ 2503 = .ok (.iadd, 1) := by decide +kernel
theorem dL_law__2504 : decode cL_law_ 2504 = .ok (.iaload, 1) := by decide +kernel
theorem dL_law__2505 : decode cL_law_ 2505 = .ok (.invokevirtual 246, 3) := by decide +kernel
theorem dL_law__2508 : decode cL_law_ 2508 = .ok (.istore 6, 2) := by decide +kernel
theorem dL_law__2510 : decode cL_law_ 2510 = .ok (.aload_n 2, 1) := by decide +kernel
theorem dL_law__2511 : decode cL_law_ 2511 = .ok (.invokevirtual 135, 3) := by decide +kernel
theorem dL_law__2514 : decode cL_law_ 2514 = .ok (.iload 5, 2) := by decide +kernel
theorem dL_law__2516 : decode cL_law_ 2516 = .ok (.if_icmp .eq 5, 3) := by decide +kernel
theorem dL_law__2519 : decode cL_law_ 2519 = .ok (.iconst 0, 1) := by decide +kernel
theorem dL_law__2520 : decode cL_law_ 2520 = .ok (.ireturn, 1) := by decide +kernel
theorem dL_law__2521 : decode cL_law_ 2521 = .ok (.iload 5, 2) := by decide +kernel
theorem dL_law__2523 : decode cL_law_ 2523 = .ok (.ifCond .ne 15, 3) := by decide +kernel
theorem dL_law__2526 : decode cL_law_ 2526 = .ok (.aload_n 3, 1) := by decide +kernel
theorem dL_law__2527 : decode cL_law_ 2527 = .ok (.iconst 0, 1) := by decide +kernel
theorem dL_law__2528 : decode cL_law_ 2528 = .ok (.laload, 1) := by decide +kernel
theorem dL_law__2529 : decode cL_law_ 2529 = .ok (.iload 6, 2) := by decide +kernel
theorem dL_law__2531 : decode cL_law_ 2531 = .ok (.i2l, 1) := by decide +kernel
theorem dL_law__2532 : decode cL_law_ 2532 = .ok (.lcmp, 1) := by decide +kernel
theorem dL_law__2533 : decode cL_law_ 2533 = .ok (.ifCond .eq 5, 3) := by decide +kernel
theorem dL_law__2536 : decode cL_law_ 2536 = .ok (.iconst 0, 1) := by decide +kernel
theorem dL_law__2537 : decode cL_law_ 2537 = .ok (.ireturn, 1) := by decide +kernel
theorem dL_law__2538 : decode cL_law_ 2538 = .ok (.goto 211, 3) := by decide +kernel
theorem dL_law__2541 : decode cL_law_ 2541 = .ok (.aload_n 1, 1) := by decide +kernel
theorem dL_law__2542 : decode cL_law_ 2542 = .ok (.aload_n 0, 1) := by decide +kernel
theorem dL_law__2543 : decode cL_law_ 2543 = .ok (.iload 4, 2) := by decide +kernel
theorem dL_law__2545 : decode cL_law_ 2545 = .ok (.iconst 1, 1) := by decide +kernel
theorem dL_law__2546 : decode cL_law_ 2546 = .ok (.iadd, 1) := by decide +kernel
theorem dL_law__2547 : decode cL_law_ 2547 = .ok (.iaload, 1) := by decide +kernel
theorem dL_law__2548 : decode cL_law_ 2548 = .ok (.aload_n 0, 1) := by decide +kernel
theorem dL_law__2549 : decode cL_law_ 2549 = .ok (.iload 4, 2) := by decide +kernel
theorem dL_law__2551 : decode cL_law_ 2551 = .ok (.iconst 2, 1) := by decide +kernel
theorem dL_law__2552 : decode cL_law_ 2552 = .ok (.iadd, 1) := by decide +kernel
theorem dL_law__2553 : decode cL_law_ 2553 = .ok (.iaload, 1) := by decide +kernel
theorem dL_law__2554 : decode cL_law_ 2554 = .ok (.aload_n 0, 1) := by decide +kernel
theorem dL_law__2555 : decode cL_law_ 2555 = .ok (.iload 4, 2) := by decide +kernel
theorem dL_law__2557 : decode cL_law_ 2557 = .ok (.iconst 3, 1) := by decide +kernel
theorem dL_law__2558 : decode cL_law_ 2558 = .ok (.iadd, 1) := by decide +kernel
theorem dL_law__2559 : decode cL_law_ 2559 = .ok (.iaload, 1) := by decide +kernel
theorem dL_law__2560 : decode cL_law_ 2560 = .ok (.aload_n 0, 1) := by decide +kernel
theorem dL_law__2561 : decode cL_law_ 2561 = .ok (.iload 4, 2) := by decide +kernel
theorem dL_law__2563 : decode cL_law_ 2563 = .ok (.iconst 4, 1) := by decide +kernel
theorem dL_law__2564 : decode cL_law_ 2564 = .ok (.iadd, 1) := by decide +kernel
theorem dL_law__2565 : decode cL_law_ 2565 = .ok (.iaload, 1) := by decide +kernel
theorem dL_law__2566 : decode cL_law_ 2566 = .ok (.aload_n 0, 1) := by decide +kernel
theorem dL_law__2567 : decode cL_law_ 2567 = .ok (.iload 4, 2) := by decide +kernel
theorem dL_law__2569 : decode cL_law_ 2569 = .ok (.iconst 5, 1) := by decide +kernel
theorem dL_law__2570 : decode cL_law_ 2570 = .ok (.iadd, 1) := by decide +kernel
theorem dL_law__2571 : decode cL_law_ 2571 = .ok (.iaload, 1) := by decide +kernel
theorem dL_law__2572 : decode cL_law_ 2572 = .ok (.aload_n 0, 1) := by decide +kernel
theorem dL_law__2573 : decode cL_law_ 2573 = .ok (.iload 4, 2) := by decide +kernel
theorem dL_law__2575 : decode cL_law_ 2575 = .ok (.bipush 6, 2) := by decide +kernel
theorem dL_law__2577 : decode cL_law_ 2577 = .ok (.iadd, 1) := by decide +kernel
theorem dL_law__2578 : decode cL_law_ 2578 = .ok (.iaload, 1) := by decide +kernel
theorem dL_law__2579 : decode cL_law_ 2579 = .ok (.aload_n 0, 1) := by decide +kernel
theorem dL_law__2580 : decode cL_law_ 2580 = .ok (.iload 4, 2) := by decide +kernel
theorem dL_law__2582 : decode cL_law_ 2582 = .ok (.bipush 7, 2) := by decide +kernel
theorem dL_law__2584 : decode cL_law_ 2584 = .ok (.iadd, 1) := by decide +kernel
theorem dL_law__2585 : decode cL_law_ 2585 = .ok (.iaload, 1) := by decide +kernel
theorem dL_law__2586 : decode cL_law_ 2586 = .ok (.aload_n 3, 1) := by decide +kernel
theorem dL_law__2587 : decode cL_law_ 2587 = .ok (.invokestatic 247, 3) := by decide +kernel
theorem dL_law__2590 : decode cL_law_ 2590 = .ok (.istore 5, 2) := by decide +kernel
theorem dL_law__2592 : decode cL_law_ 2592 = .ok (.aload_n 2, 1) := by decide +kernel
theorem dL_law__2593 : decode cL_law_ 2593 = .ok (.aload_n 0, 1) := by decide +kernel
theorem dL_law__2594 : decode cL_law_ 2594 = .ok (.iload 4, 2) := by decide +kernel
theorem dL_law__2596 : decode cL_law_ 2596 = .ok (.iconst 1, 1) := by decide +kernel
theorem dL_law__2597 : decode cL_law_ 2597 = .ok (.iadd, 1) := by decide +kernel
theorem dL_law__2598 : decode cL_law_ 2598 = .ok (.iaload, 1) := by decide +kernel
theorem dL_law__2599 : decode cL_law_ 2599 = .ok (.aload_n 0, 1) := by decide +kernel
theorem dL_law__2600 : decode cL_law_ 2600 = .ok (.iload 4, 2) := by decide +kernel
theorem dL_law__2602 : decode cL_law_ 2602 = .ok (.iconst 2, 1) := by decide +kernel
theorem dL_law__2603 : decode cL_law_ 2603 = .ok (.iadd, 1) := by decide +kernel
theorem dL_law__2604 : decode cL_law_ 2604 = .ok (.iaload, 1) := by decide +kernel
theorem dL_law__2605 : decode cL_law_ 2605 = .ok (.aload_n 0, 1) := by decide +kernel
theorem dL_law__2606 : decode cL_law_ 2606 = .ok (.iload 4, 2) := by decide +kernel
theorem dL_law__2608 : decode cL_law_ 2608 = .ok (.iconst 3, 1) := by decide +kernel
theorem dL_law__2609 : decode cL_law_ 2609 = .ok (.iadd, 1) := by decide +kernel
theorem dL_law__2610 : decode cL_law_ 2610 = .ok (.iaload, 1) := by decide +kernel
theorem dL_law__2611 : decode cL_law_ 2611 = .ok (.aload_n 0, 1) := by decide +kernel
theorem dL_law__2612 : decode cL_law_ 2612 = .ok (.iload 4, 2) := by decide +kernel
theorem dL_law__2614 : decode cL_law_ 2614 = .ok (.iconst 4, 1) := by decide +kernel
theorem dL_law__2615 : decode cL_law_ 2615 = .ok (.iadd, 1) := by decide +kernel
theorem dL_law__2616 : decode cL_law_ 2616 = .ok (.iaload, 1) := by decide +kernel
theorem dL_law__2617 : decode cL_law_ 2617 = .ok (.aload_n 0, 1) := by decide +kernel
theorem dL_law__2618 : decode cL_law_ 2618 = .ok (.iload 4, 2) := by decide +kernel
theorem dL_law__2620 : decode cL_law_ 2620 = .ok (.iconst 5, 1) := by decide +kernel
theorem dL_law__2621 : decode cL_law_ 2621 = .ok (.iadd, 1) := by decide +kernel
theorem dL_law__2622 : decode cL_law_ 2622 = .ok (.iaload, 1) := by decide +kernel
theorem dL_law__2623 : decode cL_law_ 2623 = .ok (.aload_n 0, 1) := by decide +kernel
theorem dL_law__2624 : decode cL_law_ 2624 = .ok (.iload 4, 2) := by decide +kernel
theorem dL_law__2626 : decode cL_law_ 2626 = .ok (.bipush 6, 2) := by decide +kernel
theorem dL_law__2628 : decode cL_law_ 2628 = .ok (.iadd, 1) := by decide +kernel
theorem dL_law__2629 : decode cL_law_ 2629 = .ok (.iaload, 1) := by decide +kernel
theorem dL_law__2630 : decode cL_law_ 2630 = .ok (.aload_n 0, 1) := by decide +kernel
theorem dL_law__2631 : decode cL_law_ 2631 = .ok (.iload 4, 2) := by decide +kernel
theorem dL_law__2633 : decode cL_law_ 2633 = .ok (.bipush 7, 2) := by decide +kernel
theorem dL_law__2635 : decode cL_law_ 2635 = .ok (.iadd, 1) := by decide +kernel
theorem dL_law__2636 : decode cL_law_ 2636 = .ok (.iaload, 1) := by decide +kernel
theorem dL_law__2637 : decode cL_law_ 2637 = .ok (.invokevirtual 250, 3) := by decide +kernel
theorem dL_law__2640 : decode cL_law_ 2640 = .ok (.istore 6, 2) := by decide +kernel
theorem dL_law__2642 : decode cL_law_ 2642 = .ok (.aload_n 2, 1) := by decide +kernel
theorem dL_law__2643 : decode cL_law_ 2643 = .ok (.invokevirtual 135, 3) := by decide +kernel
theorem dL_law__2646 : decode cL_law_ 2646 = .ok (.iload 5, 2) := by decide +kernel
theorem dL_law__2648 : decode cL_law_ 2648 = .ok (.if_icmp .eq 5, 3) := by decide +kernel
theorem dL_law__2651 : decode cL_law_ 2651 = .ok (.iconst 0, 1) := by decide +kernel
theorem dL_law__2652 : decode cL_law_ 2652 = .ok (.ireturn, 1) := by decide +kernel
theorem dL_law__2653 : decode cL_law_ 2653 = .ok (.iload 5, 2) := by decide +kernel
theorem dL_law__2655 : decode cL_law_ 2655 = .ok (.ifCond .ne 15, 3) := by decide +kernel
theorem dL_law__2658 : decode cL_law_ 2658 = .ok (.aload_n 3, 1) := by decide +kernel
theorem dL_law__2659 : decode cL_law_ 2659 = .ok (.iconst 0, 1) := by decide +kernel
theorem dL_law__2660 : decode cL_law_ 2660 = .ok (.laload, 1) := by decide +kernel
theorem dL_law__2661 : decode cL_law_ 2661 = .ok (.iload 6, 2) := by decide +kernel
theorem dL_law__2663 : decode cL_law_ 2663 = .ok (.i2l, 1) := by decide +kernel
theorem dL_law__2664 : decode cL_law_ 2664 = .ok (.lcmp, 1) := by decide +kernel
theorem dL_law__2665 : decode cL_law_ 2665 = .ok (.ifCond .eq 5, 3) := by decide +kernel
theorem dL_law__2668 : decode cL_law_ 2668 = .ok (.iconst 0, 1) := by decide +kernel
theorem dL_law__2669 : decode cL_law_ 2669 = .ok (.ireturn, 1) := by decide +kernel
theorem dL_law__2670 : decode cL_law_ 2670 = .ok (.goto 79, 3) := by decide +kernel
theorem dL_law__2673 : decode cL_law_ 2673 = .ok (.aload_n 1, 1) := by decide +kernel
theorem dL_law__2674 : decode cL_law_ 2674 = .ok (.invokevirtual 251, 3) := by decide +kernel
theorem dL_law__2677 : decode cL_law_ 2677 = .ok (.aload_n 2, 1) := by decide +kernel
theorem dL_law__2678 : decode cL_law_ 2678 = .ok (.invokevirtual 254, 3) := by decide +kernel
theorem dL_law__2681 : decode cL_law_ 2681 = .ok (.if_icmp .eq 68, 3) := by decide +kernel
theorem dL_law__2684 : decode cL_law_ 2684 = .ok (.iconst 0, 1) := by decide +kernel
theorem dL_law__2685 : decode cL_law_ 2685 = .ok (.ireturn, 1) := by decide +kernel
theorem dL_law__2686 : decode cL_law_ 2686 = .ok (.aload_n 1, 1) := by decide +kernel
theorem dL_law__2687 : decode cL_law_ 2687 = .ok (.invokevirtual 255, 3) := by decide +kernel
theorem dL_law__2690 : decode cL_law_ 2690 = .ok (.aload_n 2, 1) := by decide +kernel
theorem dL_law__2691 : decode cL_law_ 2691 = .ok (.invokevirtual 258, 3) := by decide +kernel
theorem dL_law__2694 : decode cL_law_ 2694 = .ok (.if_icmp .eq 55, 3) := by decide +kernel
theorem dL_law__2697 : decode cL_law_ 2697 = .ok (.iconst 0, 1) := by decide +kernel
theorem dL_law__2698 : decode cL_law_ 2698 = .ok (.ireturn, 1) := by decide +kernel
theorem dL_law__2699 : decode cL_law_ 2699 = .ok (.aload_n 1, 1) := by decide +kernel
theorem dL_law__2700 : decode cL_law_ 2700 = .ok (.aload_n 0, 1) := by decide +kernel
theorem dL_law__2701 : decode cL_law_ 2701 = .ok (.iload 4, 2) := by decide +kernel
theorem dL_law__2703 : decode cL_law_ 2703 = .ok (.iconst 1, 1) := by decide +kernel
theorem dL_law__2704 : decode cL_law_ 2704 = .ok (.iadd, 1) := by decide +kernel
theorem dL_law__2705 : decode cL_law_ 2705 = .ok (.iaload, 1) := by decide +kernel
theorem dL_law__2706 : decode cL_law_ 2706 = .ok (.invokevirtual 259, 3) := by decide +kernel
theorem dL_law__2709 : decode cL_law_ 2709 = .ok (.aload_n 2, 1) := by decide +kernel
theorem dL_law__2710 : decode cL_law_ 2710 = .ok (.aload_n 0, 1) := by decide +kernel
theorem dL_law__2711 : decode cL_law_ 2711 = .ok (.iload 4, 2) := by decide +kernel
theorem dL_law__2713 : decode cL_law_ 2713 = .ok (.iconst 1, 1) := by decide +kernel
theorem dL_law__2714 : decode cL_law_ 2714 = .ok (.iadd, 1) := by decide +kernel
theorem dL_law__2715 : decode cL_law_ 2715 = .ok (.iaload, 1) := by decide +kernel
theorem dL_law__2716 : decode cL_law_ 2716 = .ok (.invokevirtual 262, 3) := by decide +kernel
theorem dL_law__2719 : decode cL_law_ 2719 = .ok (.if_icmp .eq 30, 3) := by decide +kernel
theorem dL_law__2722 : decode cL_law_ 2722 = .ok (.iconst 0, 1) := by decide +kernel
theorem dL_law__2723 : decode cL_law_ 2723 = .ok (.ireturn, 1) := by decide +kernel
theorem dL_law__2724 : decode cL_law_ 2724 = .ok (.aload_n 1, 1) := by decide +kernel
theorem dL_law__2725 : decode cL_law_ 2725 = .ok (.aload_n 0, 1) := by decide +kernel
theorem dL_law__2726 : decode cL_law_ 2726 = .ok (.iload 4, 2) := by decide +kernel
theorem dL_law__2728 : decode cL_law_ 2728 = .ok (.iconst 1, 1) := by decide +kernel
theorem dL_law__2729 : decode cL_law_ 2729 = .ok (.iadd, 1) := by decide +kernel
theorem dL_law__2730 : decode cL_law_ 2730 = .ok (.iaload, 1) := by decide +kernel
theorem dL_law__2731 : decode cL_law_ 2731 = .ok (.invokevirtual 263, 3) := by decide +kernel
theorem dL_law__2734 : decode cL_law_ 2734 = .ok (.aload_n 2, 1) := by decide +kernel
theorem dL_law__2735 : decode cL_law_ 2735 = .ok (.aload_n 0, 1) := by decide +kernel
theorem dL_law__2736 : decode cL_law_ 2736 = .ok (.iload 4, 2) := by decide +kernel
theorem dL_law__2738 : decode cL_law_ 2738 = .ok (.iconst 1, 1) := by decide +kernel
theorem dL_law__2739 : decode cL_law_ 2739 = .ok (.iadd, 1) := by decide +kernel
theorem dL_law__2740 : decode cL_law_ 2740 = .ok (.iaload, 1) := by decide +kernel
theorem dL_law__2741 : decode cL_law_ 2741 = .ok (.invokevirtual 266, 3) := by decide +kernel
theorem dL_law__2744 : decode cL_law_ 2744 = .ok (.if_icmp .eq 5, 3) := by decide +kernel
theorem dL_law__2747 : decode cL_law_ 2747 = .ok (.iconst 0, 1) := by decide +kernel
theorem dL_law__2748 : decode cL_law_ 2748 = .ok (.ireturn, 1) := by decide +kernel
theorem dL_law__2749 : decode cL_law_ 2749 = .ok (.iinc 4 8, 3) := by decide +kernel
theorem dL_law__2752 : decode cL_law_ 2752 = .ok (.goto (-2729), 3) := by decide +kernel
theorem dL_law__2755 : decode cL_law_ 2755 = .ok (.iconst 1, 1) := by decide +kernel
theorem dL_law__2756 : decode cL_law_ 2756 = .ok (.ireturn, 1) := by decide +kernel
