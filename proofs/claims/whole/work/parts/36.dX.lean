theorem dX7_init_0 : decode cX7_init 0 = .ok (.aload_n 0, 1) := by decide +kernel
theorem dX7_init_1 : decode cX7_init 1 = .ok (.invokespecial 1, 3) := by decide +kernel
theorem dX7_init_4 : decode cX7_init 4 = .ok (.aload_n 0, 1) := by decide +kernel
theorem dX7_init_5 : decode cX7_init 5 = .ok (.bipush 10, 2) := by decide +kernel
theorem dX7_init_7 : decode cX7_init 7 = .ok (.putfield 7, 3) := by decide +kernel
theorem dX7_init_10 : decode cX7_init 10 = .ok (.aload_n 0, 1) := by decide +kernel
theorem dX7_init_11 : decode cX7_init 11 = .ok (.iconst (-1), 1) := by decide +kernel
theorem dX7_init_12 : decode cX7_init 12 = .ok (.putfield 13, 3) := by decide +kernel
theorem dX7_init_15 : decode cX7_init 15 = .ok (.aload_n 0, 1) := by decide +kernel
theorem dX7_init_16 : decode cX7_init 16 = .ok (.iconst (-1), 1) := by decide +kernel
theorem dX7_init_17 : decode cX7_init 17 = .ok (.putfield 16, 3) := by decide +kernel
theorem dX7_init_20 : decode cX7_init 20 = .ok (.return_, 1) := by decide +kernel
theorem dX8_init_0 : decode cX8_init 0 = .ok (.aload_n 0, 1) := by decide +kernel
theorem dX8_init_1 : decode cX8_init 1 = .ok (.invokespecial 1, 3) := by decide +kernel
theorem dX8_init_4 : decode cX8_init 4 = .ok (.aload_n 0, 1) := by decide +kernel
theorem dX8_init_5 : decode cX8_init 5 = .ok (.new 7, 3) := by decide +kernel
theorem dX8_init_8 : decode cX8_init 8 = .ok (.dup, 1) := by decide +kernel
theorem dX8_init_9 : decode cX8_init 9 = .ok (.invokespecial 9, 3) := by decide +kernel
theorem dX8_init_12 : decode cX8_init 12 = .ok (.putfield 10, 3) := by decide +kernel
theorem dX8_init_15 : decode cX8_init 15 = .ok (.aload_n 0, 1) := by decide +kernel
theorem dX8_init_16 : decode cX8_init 16 = .ok (.new 7, 3) := by decide +kernel
theorem dX8_init_19 : decode cX8_init 19 = .ok (.dup, 1) := by decide +kernel
theorem dX8_init_20 : decode cX8_init 20 = .ok (.invokespecial 9, 3) := by decide +kernel
theorem dX8_init_23 : decode cX8_init 23 = .ok (.putfield 16, 3) := by decide +kernel
theorem dX8_init_26 : decode cX8_init 26 = .ok (.aload_n 0, 1) := by decide +kernel
theorem dX8_init_27 : decode cX8_init 27 = .ok (.new 7, 3) := by decide +kernel
theorem dX8_init_30 : decode cX8_init 30 = .ok (.dup, 1) := by decide +kernel
theorem dX8_init_31 : decode cX8_init 31 = .ok (.invokespecial 9, 3) := by decide +kernel
theorem dX8_init_34 : decode cX8_init 34 = .ok (.putfield 19, 3) := by decide +kernel
theorem dX8_init_37 : decode cX8_init 37 = .ok (.aload_n 0, 1) := by decide +kernel
theorem dX8_init_38 : decode cX8_init 38 = .ok (.bipush 12, 2) := by decide +kernel
theorem dX8_init_40 : decode cX8_init 40 = .ok (.anewarray 22, 3) := by decide +kernel
theorem dX8_init_43 : decode cX8_init 43 = .ok (.putfield 24, 3) := by decide +kernel
theorem dX8_init_46 : decode cX8_init 46 = .ok (.aload_n 0, 1) := by decide +kernel
theorem dX8_init_47 : decode cX8_init 47 = .ok (.iconst 4, 1) := by decide +kernel
theorem dX8_init_48 : decode cX8_init 48 = .ok (.newarray .int, 2) := by decide +kernel
theorem dX8_init_50 : decode cX8_init 50 = .ok (.dup, 1) := by decide +kernel
theorem dX8_init_51 : decode cX8_init 51 = .ok (.iconst 0, 1) := by decide +kernel
theorem dX8_init_52 : decode cX8_init 52 = .ok (.iconst 1, 1) := by decide +kernel
theorem dX8_init_53 : decode cX8_init 53 = .ok (.iastore, 1) := by decide +kernel
theorem dX8_init_54 : decode cX8_init 54 = .ok (.dup, 1) := by decide +kernel
theorem dX8_init_55 : decode cX8_init 55 = .ok (.iconst 1, 1) := by decide +kernel
theorem dX8_init_56 : decode cX8_init 56 = .ok (.iconst 0, 1) := by decide +kernel
theorem dX8_init_57 : decode cX8_init 57 = .ok (.iastore, 1) := by decide +kernel
theorem dX8_init_58 : decode cX8_init 58 = .ok (.dup, 1) := by decide +kernel
theorem dX8_init_59 : decode cX8_init 59 = .ok (.iconst 2, 1) := by decide +kernel
theorem dX8_init_60 : decode cX8_init 60 = .ok (.bipush 100, 2) := by decide +kernel
theorem dX8_init_62 : decode cX8_init 62 = .ok (.iastore, 1) := by decide +kernel
theorem dX8_init_63 : decode cX8_init 63 = .ok (.dup, 1) := by decide +kernel
theorem dX8_init_64 : decode cX8_init 64 = .ok (.iconst 3, 1) := by decide +kernel
theorem dX8_init_65 : decode cX8_init 65 = .ok (.iconst 0, 1) := by decide +kernel
theorem dX8_init_66 : decode cX8_init 66 = .ok (.iastore, 1) := by decide +kernel
theorem dX8_init_67 : decode cX8_init 67 = .ok (.putfield 28, 3) := by decide +kernel
theorem dX8_init_70 : decode cX8_init 70 = .ok (.aload_n 0, 1) := by decide +kernel
theorem dX8_init_71 : decode cX8_init 71 = .ok (.bipush 16, 2) := by decide +kernel
theorem dX8_init_73 : decode cX8_init 73 = .ok (.newarray .boolean, 2) := by decide +kernel
theorem dX8_init_75 : decode cX8_init 75 = .ok (.putfield 32, 3) := by decide +kernel
theorem dX8_init_78 : decode cX8_init 78 = .ok (.aload_n 0, 1) := by decide +kernel
theorem dX8_init_79 : decode cX8_init 79 = .ok (.iconst (-1), 1) := by decide +kernel
theorem dX8_init_80 : decode cX8_init 80 = .ok (.putfield 36, 3) := by decide +kernel
theorem dX8_init_83 : decode cX8_init 83 = .ok (.aload_n 0, 1) := by decide +kernel
theorem dX8_init_84 : decode cX8_init 84 = .ok (.sipush 400, 3) := by decide +kernel
theorem dX8_init_87 : decode cX8_init 87 = .ok (.putfield 40, 3) := by decide +kernel
theorem dX8_init_90 : decode cX8_init 90 = .ok (.aload_n 0, 1) := by decide +kernel
theorem dX8_init_91 : decode cX8_init 91 = .ok (.bipush 97, 2) := by decide +kernel
theorem dX8_init_93 : decode cX8_init 93 = .ok (.putfield 43, 3) := by decide +kernel
theorem dX8_init_96 : decode cX8_init 96 = .ok (.iconst 0, 1) := by decide +kernel
theorem dX8_init_97 : decode cX8_init 97 = .ok (.istore_n 1, 1) := by decide +kernel
theorem dX8_init_98 : decode cX8_init 98 = .ok (.iload_n 1, 1) := by decide +kernel
theorem dX8_init_99 : decode cX8_init 99 = .ok (.bipush 12, 2) := by decide +kernel
theorem dX8_init_101 : decode cX8_init 101 = .ok (.if_icmp .ge 32, 3) := by decide +kernel
theorem dX8_init_104 : decode cX8_init 104 = .ok (.aload_n 0, 1) := by decide +kernel
theorem dX8_init_105 : decode cX8_init 105 = .ok (.getfield 24, 3) := by decide +kernel
theorem dX8_init_108 : decode cX8_init 108 = .ok (.iload_n 1, 1) := by decide +kernel
theorem dX8_init_109 : decode cX8_init 109 = .ok (.new 22, 3) := by decide +kernel
theorem dX8_init_112 : decode cX8_init 112 = .ok (.dup, 1) := by decide +kernel
theorem dX8_init_113 : decode cX8_init 113 = .ok (.invokespecial 47, 3) := by decide +kernel
theorem dX8_init_116 : decode cX8_init 116 = .ok (.aastore, 1) := by decide +kernel
theorem dX8_init_117 : decode cX8_init 117 = .ok (.aload_n 0, 1) := by decide +kernel
theorem dX8_init_118 : decode cX8_init 118 = .ok (.getfield 24, 3) := by decide +kernel
theorem dX8_init_121 : decode cX8_init 121 = .ok (.iload_n 1, 1) := by decide +kernel
theorem dX8_init_122 : decode cX8_init 122 = .ok (.aaload, 1) := by decide +kernel
theorem dX8_init_123 : decode cX8_init 123 = .ok (.iload_n 1, 1) := by decide +kernel
theorem dX8_init_124 : decode cX8_init 124 = .ok (.putfield 48, 3) := by decide +kernel
theorem dX8_init_127 : decode cX8_init 127 = .ok (.iinc 1 1, 3) := by decide +kernel
theorem dX8_init_130 : decode cX8_init 130 = .ok (.goto (-32), 3) := by decide +kernel
theorem dX8_init_133 : decode cX8_init 133 = .ok (.return_, 1) := by decide +kernel
theorem dX8_thrown_0 : decode cX8_thrown 0 = .ok (.aload_n 0, 1) := by decide +kernel
theorem dX8_thrown_1 : decode cX8_thrown 1 = .ok (.getfield 51, 3) := by decide +kernel
theorem dX8_thrown_4 : decode cX8_thrown 4 = .ok (.ireturn, 1) := by decide +kernel
theorem dX8_no_0 : decode cX8_no 0 = .ok (.aload_n 0, 1) := by decide +kernel
theorem dX8_no_1 : decode cX8_no 1 = .ok (.iload_n 1, 1) := by decide +kernel
theorem dX8_no_2 : decode cX8_no 2 = .ok (.ifCond .eq 7, 3) := by decide +kernel
theorem dX8_no_5 : decode cX8_no 5 = .ok (.iconst 0, 1) := by decide +kernel
theorem dX8_no_6 : decode cX8_no 6 = .ok (.goto 4, 3) := by decide +kernel
theorem dX8_no_9 : decode cX8_no 9 = .ok (.iload_n 2, 1) := by decide +kernel
theorem dX8_no_10 : decode cX8_no 10 = .ok (.putfield 51, 3) := by decide +kernel
theorem dX8_no_13 : decode cX8_no 13 = .ok (.iload_n 1, 1) := by decide +kernel
theorem dX8_no_14 : decode cX8_no 14 = .ok (.ifCond .ne 7, 3) := by decide +kernel
theorem dX8_no_17 : decode cX8_no 17 = .ok (.iconst 1, 1) := by decide +kernel
theorem dX8_no_18 : decode cX8_no 18 = .ok (.goto 4, 3) := by decide +kernel
theorem dX8_no_21 : decode cX8_no 21 = .ok (.iconst 0, 1) := by decide +kernel
theorem dX8_no_22 : decode cX8_no 22 = .ok (.ireturn, 1) := by decide +kernel
theorem dX8_isIn_0 : decode cX8_isIn 0 = .ok (.iload_n 0, 1) := by decide +kernel
theorem dX8_isIn_1 : decode cX8_isIn 1 = .ok (.iload_n 1, 1) := by decide +kernel
theorem dX8_isIn_2 : decode cX8_isIn 2 = .ok (.if_icmp .lt 12, 3) := by decide +kernel
theorem dX8_isIn_5 : decode cX8_isIn 5 = .ok (.iload_n 0, 1) := by decide +kernel
theorem dX8_isIn_6 : decode cX8_isIn 6 = .ok (.iload_n 2, 1) := by decide +kernel
theorem dX8_isIn_7 : decode cX8_isIn 7 = .ok (.if_icmp .gt 7, 3) := by decide +kernel
theorem dX8_isIn_10 : decode cX8_isIn 10 = .ok (.iconst 1, 1) := by decide +kernel
theorem dX8_isIn_11 : decode cX8_isIn 11 = .ok (.goto 4, 3) := by decide +kernel
theorem dX8_isIn_14 : decode cX8_isIn 14 = .ok (.iconst 0, 1) := by decide +kernel
theorem dX8_isIn_15 : decode cX8_isIn 15 = .ok (.ireturn, 1) := by decide +kernel
theorem dX8_isRoll_0 : decode cX8_isRoll 0 = .ok (.iload_n 1, 1) := by decide +kernel
theorem dX8_isRoll_1 : decode cX8_isRoll 1 = .ok (.iconst 0, 1) := by decide +kernel
theorem dX8_isRoll_2 : decode cX8_isRoll 2 = .ok (.aload_n 0, 1) := by decide +kernel
theorem dX8_isRoll_3 : decode cX8_isRoll 3 = .ok (.getfield 10, 3) := by decide +kernel
theorem dX8_isRoll_6 : decode cX8_isRoll 6 = .ok (.invokeinterface 54 1, 5) := by decide +kernel
theorem dX8_isRoll_11 : decode cX8_isRoll 11 = .ok (.iconst 1, 1) := by decide +kernel
theorem dX8_isRoll_12 : decode cX8_isRoll 12 = .ok (.isub, 1) := by decide +kernel
theorem dX8_isRoll_13 : decode cX8_isRoll 13 = .ok (.invokestatic 60, 3) := by decide +kernel
theorem dX8_isRoll_16 : decode cX8_isRoll 16 = .ok (.ireturn, 1) := by decide +kernel
theorem dX8_isNote_0 : decode cX8_isNote 0 = .ok (.iload_n 0, 1) := by decide +kernel
theorem dX8_isNote_1 : decode cX8_isNote 1 = .ok (.iconst 0, 1) := by decide +kernel
theorem dX8_isNote_2 : decode cX8_isNote 2 = .ok (.bipush 11, 2) := by decide +kernel
theorem dX8_isNote_4 : decode cX8_isNote 4 = .ok (.invokestatic 60, 3) := by decide +kernel
theorem dX8_isNote_7 : decode cX8_isNote 7 = .ok (.ireturn, 1) := by decide +kernel
theorem dX8_roll_0 : decode cX8_roll 0 = .ok (.aload_n 0, 1) := by decide +kernel
theorem dX8_roll_1 : decode cX8_roll 1 = .ok (.aload_n 0, 1) := by decide +kernel
theorem dX8_roll_2 : decode cX8_roll 2 = .ok (.getfield 10, 3) := by decide +kernel
theorem dX8_roll_5 : decode cX8_roll 5 = .ok (.invokeinterface 54 1, 5) := by decide +kernel
theorem dX8_roll_10 : decode cX8_roll 10 = .ok (.iconst 4, 1) := by decide +kernel
theorem dX8_roll_11 : decode cX8_roll 11 = .ok (.if_icmp .ge 7, 3) := by decide +kernel
theorem dX8_roll_14 : decode cX8_roll 14 = .ok (.iconst 1, 1) := by decide +kernel
theorem dX8_roll_15 : decode cX8_roll 15 = .ok (.goto 4, 3) := by decide +kernel
theorem dX8_roll_18 : decode cX8_roll 18 = .ok (.iconst 0, 1) := by decide +kernel
theorem dX8_roll_19 : decode cX8_roll 19 = .ok (.iconst 1, 1) := by decide +kernel
theorem dX8_roll_20 : decode cX8_roll 20 = .ok (.invokevirtual 64, 3) := by decide +kernel
theorem dX8_roll_23 : decode cX8_roll 23 = .ok (.ifCond .eq 5, 3) := by decide +kernel
theorem dX8_roll_26 : decode cX8_roll 26 = .ok (.iconst 0, 1) := by decide +kernel
theorem dX8_roll_27 : decode cX8_roll 27 = .ok (.ireturn, 1) := by decide +kernel
theorem dX8_roll_28 : decode cX8_roll 28 = .ok (.aload_n 0, 1) := by decide +kernel
theorem dX8_roll_29 : decode cX8_roll 29 = .ok (.getfield 10, 3) := by decide +kernel
theorem dX8_roll_32 : decode cX8_roll 32 = .ok (.sipush 200, 3) := by decide +kernel
theorem dX8_roll_35 : decode cX8_roll 35 = .ok (.bipush 16, 2) := by decide +kernel
theorem dX8_roll_37 : decode cX8_roll 37 = .ok (.multianewarray 68 2, 4) := by decide +kernel
theorem dX8_roll_41 : decode cX8_roll 41 = .ok (.invokeinterface 70 2, 5) := by decide +kernel
theorem dX8_roll_46 : decode cX8_roll 46 = .ok (.pop, 1) := by decide +kernel
theorem dX8_roll_47 : decode cX8_roll 47 = .ok (.aload_n 0, 1) := by decide +kernel
theorem dX8_roll_48 : decode cX8_roll 48 = .ok (.getfield 10, 3) := by decide +kernel
theorem dX8_roll_51 : decode cX8_roll 51 = .ok (.invokeinterface 54 1, 5) := by decide +kernel
theorem dX8_roll_56 : decode cX8_roll 56 = .ok (.iconst 1, 1) := by decide +kernel
theorem dX8_roll_57 : decode cX8_roll 57 = .ok (.isub, 1) := by decide +kernel
theorem dX8_roll_58 : decode cX8_roll 58 = .ok (.ireturn, 1) := by decide +kernel
theorem dX8_noHole_0 : decode cX8_noHole 0 = .ok (.aload_n 0, 1) := by decide +kernel
theorem dX8_noHole_1 : decode cX8_noHole 1 = .ok (.aload_n 0, 1) := by decide +kernel
theorem dX8_noHole_2 : decode cX8_noHole 2 = .ok (.iload_n 1, 1) := by decide +kernel
theorem dX8_noHole_3 : decode cX8_noHole 3 = .ok (.invokevirtual 74, 3) := by decide +kernel
theorem dX8_noHole_6 : decode cX8_noHole 6 = .ok (.iconst 1, 1) := by decide +kernel
theorem dX8_noHole_7 : decode cX8_noHole 7 = .ok (.invokevirtual 64, 3) := by decide +kernel
theorem dX8_noHole_10 : decode cX8_noHole 10 = .ok (.ifCond .ne 37, 3) := by decide +kernel
theorem dX8_noHole_13 : decode cX8_noHole 13 = .ok (.aload_n 0, 1) := by decide +kernel
theorem dX8_noHole_14 : decode cX8_noHole 14 = .ok (.iload_n 2, 1) := by decide +kernel
theorem dX8_noHole_15 : decode cX8_noHole 15 = .ok (.iconst 0, 1) := by decide +kernel
theorem dX8_noHole_16 : decode cX8_noHole 16 = .ok (.sipush 199, 3) := by decide +kernel
theorem dX8_noHole_19 : decode cX8_noHole 19 = .ok (.invokestatic 60, 3) := by decide +kernel
theorem dX8_noHole_22 : decode cX8_noHole 22 = .ok (.ifCond .eq 17, 3) := by decide +kernel
theorem dX8_noHole_25 : decode cX8_noHole 25 = .ok (.iload_n 3, 1) := by decide +kernel
theorem dX8_noHole_26 : decode cX8_noHole 26 = .ok (.iconst 0, 1) := by decide +kernel
theorem dX8_noHole_27 : decode cX8_noHole 27 = .ok (.bipush 15, 2) := by decide +kernel
theorem dX8_noHole_29 : decode cX8_noHole 29 = .ok (.invokestatic 60, 3) := by decide +kernel
theorem dX8_noHole_32 : decode cX8_noHole 32 = .ok (.ifCond .eq 7, 3) := by decide +kernel
theorem dX8_noHole_35 : decode cX8_noHole 35 = .ok (.iconst 1, 1) := by decide +kernel
theorem dX8_noHole_36 : decode cX8_noHole 36 = .ok (.goto 4, 3) := by decide +kernel
theorem dX8_noHole_39 : decode cX8_noHole 39 = .ok (.iconst 0, 1) := by decide +kernel
theorem dX8_noHole_40 : decode cX8_noHole 40 = .ok (.iconst 2, 1) := by decide +kernel
theorem dX8_noHole_41 : decode cX8_noHole 41 = .ok (.invokevirtual 64, 3) := by decide +kernel
theorem dX8_noHole_44 : decode cX8_noHole 44 = .ok (.ifCond .eq 7, 3) := by decide +kernel
theorem dX8_noHole_47 : decode cX8_noHole 47 = .ok (.iconst 1, 1) := by decide +kernel
theorem dX8_noHole_48 : decode cX8_noHole 48 = .ok (.goto 4, 3) := by decide +kernel
theorem dX8_noHole_51 : decode cX8_noHole 51 = .ok (.iconst 0, 1) := by decide +kernel
theorem dX8_noHole_52 : decode cX8_noHole 52 = .ok (.ireturn, 1) := by decide +kernel
theorem dX8_punch_0 : decode cX8_punch 0 = .ok (.aload_n 0, 1) := by decide +kernel
theorem dX8_punch_1 : decode cX8_punch 1 = .ok (.iload_n 1, 1) := by decide +kernel
theorem dX8_punch_2 : decode cX8_punch 2 = .ok (.iload_n 2, 1) := by decide +kernel
theorem dX8_punch_3 : decode cX8_punch 3 = .ok (.iload_n 3, 1) := by decide +kernel
theorem dX8_punch_4 : decode cX8_punch 4 = .ok (.invokevirtual 78, 3) := by decide +kernel
theorem dX8_punch_7 : decode cX8_punch 7 = .ok (.ifCond .eq 5, 3) := by decide +kernel
theorem dX8_punch_10 : decode cX8_punch 10 = .ok (.iconst 0, 1) := by decide +kernel
theorem dX8_punch_11 : decode cX8_punch 11 = .ok (.ireturn, 1) := by decide +kernel
theorem dX8_punch_12 : decode cX8_punch 12 = .ok (.aload_n 0, 1) := by decide +kernel
theorem dX8_punch_13 : decode cX8_punch 13 = .ok (.getfield 10, 3) := by decide +kernel
theorem dX8_punch_16 : decode cX8_punch 16 = .ok (.iload_n 1, 1) := by decide +kernel
theorem dX8_punch_17 : decode cX8_punch 17 = .ok (.invokeinterface 81 2, 5) := by decide +kernel
theorem dX8_punch_22 : decode cX8_punch 22 = .ok (.checkcast 68, 3) := by decide +kernel
theorem dX8_punch_25 : decode cX8_punch 25 = .ok (.iload_n 2, 1) := by decide +kernel
theorem dX8_punch_26 : decode cX8_punch 26 = .ok (.aaload, 1) := by decide +kernel
theorem dX8_punch_27 : decode cX8_punch 27 = .ok (.iload_n 3, 1) := by decide +kernel
theorem dX8_punch_28 : decode cX8_punch 28 = .ok (.baload, 1) := by decide +kernel
theorem dX8_punch_29 : decode cX8_punch 29 = .ok (.istore 5, 2) := by decide +kernel
theorem dX8_punch_31 : decode cX8_punch 31 = .ok (.aload_n 0, 1) := by decide +kernel
theorem dX8_punch_32 : decode cX8_punch 32 = .ok (.getfield 10, 3) := by decide +kernel
theorem dX8_punch_35 : decode cX8_punch 35 = .ok (.iload_n 1, 1) := by decide +kernel
theorem dX8_punch_36 : decode cX8_punch 36 = .ok (.invokeinterface 81 2, 5) := by decide +kernel
theorem dX8_punch_41 : decode cX8_punch 41 = .ok (.checkcast 68, 3) := by decide +kernel
theorem dX8_punch_44 : decode cX8_punch 44 = .ok (.iload_n 2, 1) := by decide +kernel
theorem dX8_punch_45 : decode cX8_punch 45 = .ok (.aaload, 1) := by decide +kernel
theorem dX8_punch_46 : decode cX8_punch 46 = .ok (.iload_n 3, 1) := by decide +kernel
theorem dX8_punch_47 : decode cX8_punch 47 = .ok (.iload 4, 2) := by decide +kernel
theorem dX8_punch_49 : decode cX8_punch 49 = .ok (.bastore, 1) := by decide +kernel
theorem dX8_punch_50 : decode cX8_punch 50 = .ok (.iload 5, 2) := by decide +kernel
theorem dX8_punch_52 : decode cX8_punch 52 = .ok (.ireturn, 1) := by decide +kernel
theorem dX8_hole_0 : decode cX8_hole 0 = .ok (.aload_n 0, 1) := by decide +kernel
theorem dX8_hole_1 : decode cX8_hole 1 = .ok (.iload_n 1, 1) := by decide +kernel
theorem dX8_hole_2 : decode cX8_hole 2 = .ok (.iload_n 2, 1) := by decide +kernel
theorem dX8_hole_3 : decode cX8_hole 3 = .ok (.iload_n 3, 1) := by decide +kernel
theorem dX8_hole_4 : decode cX8_hole 4 = .ok (.invokevirtual 78, 3) := by decide +kernel
theorem dX8_hole_7 : decode cX8_hole 7 = .ok (.ifCond .ne 27, 3) := by decide +kernel
theorem dX8_hole_10 : decode cX8_hole 10 = .ok (.aload_n 0, 1) := by decide +kernel
theorem dX8_hole_11 : decode cX8_hole 11 = .ok (.getfield 10, 3) := by decide +kernel
theorem dX8_hole_14 : decode cX8_hole 14 = .ok (.iload_n 1, 1) := by decide +kernel
theorem dX8_hole_15 : decode cX8_hole 15 = .ok (.invokeinterface 81 2, 5) := by decide +kernel
theorem dX8_hole_20 : decode cX8_hole 20 = .ok (.checkcast 68, 3) := by decide +kernel
theorem dX8_hole_23 : decode cX8_hole 23 = .ok (.iload_n 2, 1) := by decide +kernel
theorem dX8_hole_24 : decode cX8_hole 24 = .ok (.aaload, 1) := by decide +kernel
theorem dX8_hole_25 : decode cX8_hole 25 = .ok (.iload_n 3, 1) := by decide +kernel
theorem dX8_hole_26 : decode cX8_hole 26 = .ok (.baload, 1) := by decide +kernel
theorem dX8_hole_27 : decode cX8_hole 27 = .ok (.ifCond .eq 7, 3) := by decide +kernel
theorem dX8_hole_30 : decode cX8_hole 30 = .ok (.iconst 1, 1) := by decide +kernel
theorem dX8_hole_31 : decode cX8_hole 31 = .ok (.goto 4, 3) := by decide +kernel
theorem dX8_hole_34 : decode cX8_hole 34 = .ok (.iconst 0, 1) := by decide +kernel
theorem dX8_hole_35 : decode cX8_hole 35 = .ok (.ireturn, 1) := by decide +kernel
theorem dX8_lengthOf_0 : decode cX8_lengthOf 0 = .ok (.iconst 0, 1) := by decide +kernel
theorem dX8_lengthOf_1 : decode cX8_lengthOf 1 = .ok (.istore_n 2, 1) := by decide +kernel
theorem dX8_lengthOf_2 : decode cX8_lengthOf 2 = .ok (.iconst 0, 1) := by decide +kernel
theorem dX8_lengthOf_3 : decode cX8_lengthOf 3 = .ok (.istore_n 3, 1) := by decide +kernel
theorem dX8_lengthOf_4 : decode cX8_lengthOf 4 = .ok (.iload_n 3, 1) := by decide +kernel
theorem dX8_lengthOf_5 : decode cX8_lengthOf 5 = .ok (.sipush 200, 3) := by decide +kernel
theorem dX8_lengthOf_8 : decode cX8_lengthOf 8 = .ok (.if_icmp .ge 54, 3) := by decide +kernel
theorem dX8_lengthOf_11 : decode cX8_lengthOf 11 = .ok (.iconst 0, 1) := by decide +kernel
theorem dX8_lengthOf_12 : decode cX8_lengthOf 12 = .ok (.istore 4, 2) := by decide +kernel
theorem dX8_lengthOf_14 : decode cX8_lengthOf 14 = .ok (.iload 4, 2) := by decide +kernel
theorem dX8_lengthOf_16 : decode cX8_lengthOf 16 = .ok (.bipush 16, 2) := by decide +kernel
theorem dX8_lengthOf_18 : decode cX8_lengthOf 18 = .ok (.if_icmp .ge 38, 3) := by decide +kernel
theorem dX8_lengthOf_21 : decode cX8_lengthOf 21 = .ok (.aload_n 0, 1) := by decide +kernel
theorem dX8_lengthOf_22 : decode cX8_lengthOf 22 = .ok (.getfield 10, 3) := by decide +kernel
theorem dX8_lengthOf_25 : decode cX8_lengthOf 25 = .ok (.iload_n 1, 1) := by decide +kernel
theorem dX8_lengthOf_26 : decode cX8_lengthOf 26 = .ok (.invokeinterface 81 2, 5) := by decide +kernel
theorem dX8_lengthOf_31 : decode cX8_lengthOf 31 = .ok (.checkcast 68, 3) := by decide +kernel
theorem dX8_lengthOf_34 : decode cX8_lengthOf 34 = .ok (.iload_n 3, 1) := by decide +kernel
theorem dX8_lengthOf_35 : decode cX8_lengthOf 35 = .ok (.aaload, 1) := by decide +kernel
theorem dX8_lengthOf_36 : decode cX8_lengthOf 36 = .ok (.iload 4, 2) := by decide +kernel
theorem dX8_lengthOf_38 : decode cX8_lengthOf 38 = .ok (.baload, 1) := by decide +kernel
theorem dX8_lengthOf_39 : decode cX8_lengthOf 39 = .ok (.ifCond .eq 9, 3) := by decide +kernel
theorem dX8_lengthOf_42 : decode cX8_lengthOf 42 = .ok (.iload_n 3, 1) := by decide +kernel
theorem dX8_lengthOf_43 : decode cX8_lengthOf 43 = .ok (.iconst 1, 1) := by decide +kernel
theorem dX8_lengthOf_44 : decode cX8_lengthOf 44 = .ok (.iadd, 1) := by decide +kernel
theorem dX8_lengthOf_45 : decode cX8_lengthOf 45 = .ok (.goto 4, 3) := by decide +kernel
theorem dX8_lengthOf_48 : decode cX8_lengthOf 48 = .ok (.iload_n 2, 1) := by decide +kernel
theorem dX8_lengthOf_49 : decode cX8_lengthOf 49 = .ok (.istore_n 2, 1) := by decide +kernel
theorem dX8_lengthOf_50 : decode cX8_lengthOf 50 = .ok (.iinc 4 1, 3) := by decide +kernel
theorem dX8_lengthOf_53 : decode cX8_lengthOf 53 = .ok (.goto (-39), 3) := by decide +kernel
theorem dX8_lengthOf_56 : decode cX8_lengthOf 56 = .ok (.iinc 3 1, 3) := by decide +kernel
theorem dX8_lengthOf_59 : decode cX8_lengthOf 59 = .ok (.goto (-55), 3) := by decide +kernel
theorem dX8_lengthOf_62 : decode cX8_lengthOf 62 = .ok (.iload_n 2, 1) := by decide +kernel
theorem dX8_lengthOf_63 : decode cX8_lengthOf 63 = .ok (.ireturn, 1) := by decide +kernel
theorem dX8_length_0 : decode cX8_length 0 = .ok (.aload_n 0, 1) := by decide +kernel
theorem dX8_length_1 : decode cX8_length 1 = .ok (.aload_n 0, 1) := by decide +kernel
theorem dX8_length_2 : decode cX8_length 2 = .ok (.iload_n 1, 1) := by decide +kernel
theorem dX8_length_3 : decode cX8_length 3 = .ok (.invokevirtual 74, 3) := by decide +kernel
theorem dX8_length_6 : decode cX8_length 6 = .ok (.iconst 1, 1) := by decide +kernel
theorem dX8_length_7 : decode cX8_length 7 = .ok (.invokevirtual 64, 3) := by decide +kernel
theorem dX8_length_10 : decode cX8_length 10 = .ok (.ifCond .eq 7, 3) := by decide +kernel
theorem dX8_length_13 : decode cX8_length 13 = .ok (.iconst 0, 1) := by decide +kernel
theorem dX8_length_14 : decode cX8_length 14 = .ok (.goto 8, 3) := by decide +kernel
theorem dX8_length_17 : decode cX8_length 17 = .ok (.aload_n 0, 1) := by decide +kernel
theorem dX8_length_18 : decode cX8_length 18 = .ok (.iload_n 1, 1) := by decide +kernel
theorem dX8_length_19 : decode cX8_length 19 = .ok (.invokevirtual 85, 3) := by decide +kernel
theorem dX8_length_22 : decode cX8_length 22 = .ok (.ireturn, 1) := by decide +kernel
theorem dX8_holesAt_0 : decode cX8_holesAt 0 = .ok (.iconst 0, 1) := by decide +kernel
theorem dX8_holesAt_1 : decode cX8_holesAt 1 = .ok (.istore_n 3, 1) := by decide +kernel
theorem dX8_holesAt_2 : decode cX8_holesAt 2 = .ok (.iconst 0, 1) := by decide +kernel
theorem dX8_holesAt_3 : decode cX8_holesAt 3 = .ok (.istore 4, 2) := by decide +kernel
theorem dX8_holesAt_5 : decode cX8_holesAt 5 = .ok (.iload 4, 2) := by decide +kernel
theorem dX8_holesAt_7 : decode cX8_holesAt 7 = .ok (.sipush 200, 3) := by decide +kernel
theorem dX8_holesAt_10 : decode cX8_holesAt 10 = .ok (.if_icmp .ge 38, 3) := by decide +kernel
theorem dX8_holesAt_13 : decode cX8_holesAt 13 = .ok (.iload_n 3, 1) := by decide +kernel
theorem dX8_holesAt_14 : decode cX8_holesAt 14 = .ok (.aload_n 0, 1) := by decide +kernel
theorem dX8_holesAt_15 : decode cX8_holesAt 15 = .ok (.getfield 10, 3) := by decide +kernel
theorem dX8_holesAt_18 : decode cX8_holesAt 18 = .ok (.iload_n 1, 1) := by decide +kernel
theorem dX8_holesAt_19 : decode cX8_holesAt 19 = .ok (.invokeinterface 81 2, 5) := by decide +kernel
theorem dX8_holesAt_24 : decode cX8_holesAt 24 = .ok (.checkcast 68, 3) := by decide +kernel
theorem dX8_holesAt_27 : decode cX8_holesAt 27 = .ok (.iload 4, 2) := by decide +kernel
theorem dX8_holesAt_29 : decode cX8_holesAt 29 = .ok (.aaload, 1) := by decide +kernel
theorem dX8_holesAt_30 : decode cX8_holesAt 30 = .ok (.iload_n 2, 1) := by decide +kernel
theorem dX8_holesAt_31 : decode cX8_holesAt 31 = .ok (.baload, 1) := by decide +kernel
theorem dX8_holesAt_32 : decode cX8_holesAt 32 = .ok (.ifCond .eq 7, 3) := by decide +kernel
theorem dX8_holesAt_35 : decode cX8_holesAt 35 = .ok (.iconst 1, 1) := by decide +kernel
theorem dX8_holesAt_36 : decode cX8_holesAt 36 = .ok (.goto 4, 3) := by decide +kernel
theorem dX8_holesAt_39 : decode cX8_holesAt 39 = .ok (.iconst 0, 1) := by decide +kernel
theorem dX8_holesAt_40 : decode cX8_holesAt 40 = .ok (.iadd, 1) := by decide +kernel
theorem dX8_holesAt_41 : decode cX8_holesAt 41 = .ok (.istore_n 3, 1) := by decide +kernel
theorem dX8_holesAt_42 : decode cX8_holesAt 42 = .ok (.iinc 4 1, 3) := by decide +kernel
theorem dX8_holesAt_45 : decode cX8_holesAt 45 = .ok (.goto (-40), 3) := by decide +kernel
theorem dX8_holesAt_48 : decode cX8_holesAt 48 = .ok (.iload_n 3, 1) := by decide +kernel
theorem dX8_holesAt_49 : decode cX8_holesAt 49 = .ok (.ireturn, 1) := by decide +kernel
theorem dX8_holes_0 : decode cX8_holes 0 = .ok (.aload_n 0, 1) := by decide +kernel
theorem dX8_holes_1 : decode cX8_holes 1 = .ok (.aload_n 0, 1) := by decide +kernel
theorem dX8_holes_2 : decode cX8_holes 2 = .ok (.iload_n 1, 1) := by decide +kernel
theorem dX8_holes_3 : decode cX8_holes 3 = .ok (.invokevirtual 74, 3) := by decide +kernel
theorem dX8_holes_6 : decode cX8_holes 6 = .ok (.iconst 1, 1) := by decide +kernel
theorem dX8_holes_7 : decode cX8_holes 7 = .ok (.invokevirtual 64, 3) := by decide +kernel
theorem dX8_holes_10 : decode cX8_holes 10 = .ok (.ifCond .ne 18, 3) := by decide +kernel
theorem dX8_holes_13 : decode cX8_holes 13 = .ok (.aload_n 0, 1) := by decide +kernel
theorem dX8_holes_14 : decode cX8_holes 14 = .ok (.iload_n 2, 1) := by decide +kernel
theorem dX8_holes_15 : decode cX8_holes 15 = .ok (.iconst 0, 1) := by decide +kernel
theorem dX8_holes_16 : decode cX8_holes 16 = .ok (.bipush 15, 2) := by decide +kernel
theorem dX8_holes_18 : decode cX8_holes 18 = .ok (.invokestatic 60, 3) := by decide +kernel
theorem dX8_holes_21 : decode cX8_holes 21 = .ok (.iconst 2, 1) := by decide +kernel
theorem dX8_holes_22 : decode cX8_holes 22 = .ok (.invokevirtual 64, 3) := by decide +kernel
theorem dX8_holes_25 : decode cX8_holes 25 = .ok (.ifCond .eq 7, 3) := by decide +kernel
theorem dX8_holes_28 : decode cX8_holes 28 = .ok (.iconst 0, 1) := by decide +kernel
theorem dX8_holes_29 : decode cX8_holes 29 = .ok (.goto 9, 3) := by decide +kernel
theorem dX8_holes_32 : decode cX8_holes 32 = .ok (.aload_n 0, 1) := by decide +kernel
theorem dX8_holes_33 : decode cX8_holes 33 = .ok (.iload_n 1, 1) := by decide +kernel
theorem dX8_holes_34 : decode cX8_holes 34 = .ok (.iload_n 2, 1) := by decide +kernel
theorem dX8_holes_35 : decode cX8_holes 35 = .ok (.invokevirtual 89, 3) := by decide +kernel
theorem dX8_holes_38 : decode cX8_holes 38 = .ok (.ireturn, 1) := by decide +kernel
theorem dX8_copy_0 : decode cX8_copy 0 = .ok (.aload_n 0, 1) := by decide +kernel
theorem dX8_copy_1 : decode cX8_copy 1 = .ok (.aload_n 0, 1) := by decide +kernel
theorem dX8_copy_2 : decode cX8_copy 2 = .ok (.iload_n 1, 1) := by decide +kernel
theorem dX8_copy_3 : decode cX8_copy 3 = .ok (.invokevirtual 74, 3) := by decide +kernel
theorem dX8_copy_6 : decode cX8_copy 6 = .ok (.iconst 1, 1) := by decide +kernel
theorem dX8_copy_7 : decode cX8_copy 7 = .ok (.invokevirtual 64, 3) := by decide +kernel
theorem dX8_copy_10 : decode cX8_copy 10 = .ok (.ifCond .ne 29, 3) := by decide +kernel
theorem dX8_copy_13 : decode cX8_copy 13 = .ok (.aload_n 0, 1) := by decide +kernel
theorem dX8_copy_14 : decode cX8_copy 14 = .ok (.aload_n 0, 1) := by decide +kernel
theorem dX8_copy_15 : decode cX8_copy 15 = .ok (.getfield 10, 3) := by decide +kernel
theorem dX8_copy_18 : decode cX8_copy 18 = .ok (.invokeinterface 54 1, 5) := by decide +kernel
theorem dX8_copy_23 : decode cX8_copy 23 = .ok (.iconst 4, 1) := by decide +kernel
theorem dX8_copy_24 : decode cX8_copy 24 = .ok (.if_icmp .ge 7, 3) := by decide +kernel
theorem dX8_copy_27 : decode cX8_copy 27 = .ok (.iconst 1, 1) := by decide +kernel
theorem dX8_copy_28 : decode cX8_copy 28 = .ok (.goto 4, 3) := by decide +kernel
theorem dX8_copy_31 : decode cX8_copy 31 = .ok (.iconst 0, 1) := by decide +kernel
theorem dX8_copy_32 : decode cX8_copy 32 = .ok (.iconst 2, 1) := by decide +kernel
theorem dX8_copy_33 : decode cX8_copy 33 = .ok (.invokevirtual 64, 3) := by decide +kernel
theorem dX8_copy_36 : decode cX8_copy 36 = .ok (.ifCond .eq 5, 3) := by decide +kernel
theorem dX8_copy_39 : decode cX8_copy 39 = .ok (.iconst 0, 1) := by decide +kernel
theorem dX8_copy_40 : decode cX8_copy 40 = .ok (.ireturn, 1) := by decide +kernel
theorem dX8_copy_41 : decode cX8_copy 41 = .ok (.sipush 200, 3) := by decide +kernel
theorem dX8_copy_44 : decode cX8_copy 44 = .ok (.anewarray 93, 3) := by decide +kernel
theorem dX8_copy_47 : decode cX8_copy 47 = .ok (.astore_n 2, 1) := by decide +kernel
theorem dX8_copy_48 : decode cX8_copy 48 = .ok (.iconst 0, 1) := by decide +kernel
theorem dX8_copy_49 : decode cX8_copy 49 = .ok (.istore_n 3, 1) := by decide +kernel
theorem dX8_copy_50 : decode cX8_copy 50 = .ok (.iload_n 3, 1) := by decide +kernel
theorem dX8_copy_51 : decode cX8_copy 51 = .ok (.sipush 200, 3) := by decide +kernel
theorem dX8_copy_54 : decode cX8_copy 54 = .ok (.if_icmp .ge 33, 3) := by decide +kernel
theorem dX8_copy_57 : decode cX8_copy 57 = .ok (.aload_n 2, 1) := by decide +kernel
theorem dX8_copy_58 : decode cX8_copy 58 = .ok (.iload_n 3, 1) := by decide +kernel
theorem dX8_copy_59 : decode cX8_copy 59 = .ok (.aload_n 0, 1) := by decide +kernel
theorem dX8_copy_60 : decode cX8_copy 60 = .ok (.getfield 10, 3) := by decide +kernel
theorem dX8_copy_63 : decode cX8_copy 63 = .ok (.iload_n 1, 1) := by decide +kernel
theorem dX8_copy_64 : decode cX8_copy 64 = .ok (.invokeinterface 81 2, 5) := by decide +kernel
theorem dX8_copy_69 : decode cX8_copy 69 = .ok (.checkcast 68, 3) := by decide +kernel
theorem dX8_copy_72 : decode cX8_copy 72 = .ok (.iload_n 3, 1) := by decide +kernel
theorem dX8_copy_73 : decode cX8_copy 73 = .ok (.aaload, 1) := by decide +kernel
theorem dX8_copy_74 : decode cX8_copy 74 = .ok (.invokevirtual 94, 3) := by decide +kernel
theorem dX8_copy_77 : decode cX8_copy 77 = .ok (.checkcast 93, 3) := by decide +kernel
theorem dX8_copy_80 : decode cX8_copy 80 = .ok (.aastore, 1) := by decide +kernel
theorem dX8_copy_81 : decode cX8_copy 81 = .ok (.iinc 3 1, 3) := by decide +kernel
theorem dX8_copy_84 : decode cX8_copy 84 = .ok (.goto (-34), 3) := by decide +kernel
theorem dX8_copy_87 : decode cX8_copy 87 = .ok (.aload_n 0, 1) := by decide +kernel
theorem dX8_copy_88 : decode cX8_copy 88 = .ok (.getfield 10, 3) := by decide +kernel
theorem dX8_copy_91 : decode cX8_copy 91 = .ok (.aload_n 2, 1) := by decide +kernel
theorem dX8_copy_92 : decode cX8_copy 92 = .ok (.invokeinterface 70 2, 5) := by decide +kernel
theorem dX8_copy_97 : decode cX8_copy 97 = .ok (.pop, 1) := by decide +kernel
theorem dX8_copy_98 : decode cX8_copy 98 = .ok (.aload_n 0, 1) := by decide +kernel
theorem dX8_copy_99 : decode cX8_copy 99 = .ok (.getfield 10, 3) := by decide +kernel
theorem dX8_copy_102 : decode cX8_copy 102 = .ok (.invokeinterface 54 1, 5) := by decide +kernel
theorem dX8_copy_107 : decode cX8_copy 107 = .ok (.iconst 1, 1) := by decide +kernel
theorem dX8_copy_108 : decode cX8_copy 108 = .ok (.isub, 1) := by decide +kernel
theorem dX8_copy_109 : decode cX8_copy 109 = .ok (.ireturn, 1) := by decide +kernel
theorem dX8_apart_0 : decode cX8_apart 0 = .ok (.iconst 0, 1) := by decide +kernel
theorem dX8_apart_1 : decode cX8_apart 1 = .ok (.istore_n 3, 1) := by decide +kernel
theorem dX8_apart_2 : decode cX8_apart 2 = .ok (.iconst 0, 1) := by decide +kernel
theorem dX8_apart_3 : decode cX8_apart 3 = .ok (.istore 4, 2) := by decide +kernel
theorem dX8_apart_5 : decode cX8_apart 5 = .ok (.iload 4, 2) := by decide +kernel
theorem dX8_apart_7 : decode cX8_apart 7 = .ok (.sipush 200, 3) := by decide +kernel
theorem dX8_apart_10 : decode cX8_apart 10 = .ok (.if_icmp .ge 74, 3) := by decide +kernel
theorem dX8_apart_13 : decode cX8_apart 13 = .ok (.iconst 0, 1) := by decide +kernel
theorem dX8_apart_14 : decode cX8_apart 14 = .ok (.istore 5, 2) := by decide +kernel
theorem dX8_apart_16 : decode cX8_apart 16 = .ok (.iload 5, 2) := by decide +kernel
theorem dX8_apart_18 : decode cX8_apart 18 = .ok (.bipush 16, 2) := by decide +kernel
theorem dX8_apart_20 : decode cX8_apart 20 = .ok (.if_icmp .ge 58, 3) := by decide +kernel
theorem dX8_apart_23 : decode cX8_apart 23 = .ok (.iload_n 3, 1) := by decide +kernel
theorem dX8_apart_24 : decode cX8_apart 24 = .ok (.aload_n 0, 1) := by decide +kernel
theorem dX8_apart_25 : decode cX8_apart 25 = .ok (.getfield 10, 3) := by decide +kernel
theorem dX8_apart_28 : decode cX8_apart 28 = .ok (.iload_n 1, 1) := by decide +kernel
theorem dX8_apart_29 : decode cX8_apart 29 = .ok (.invokeinterface 81 2, 5) := by decide +kernel
theorem dX8_apart_34 : decode cX8_apart 34 = .ok (.checkcast 68, 3) := by decide +kernel
theorem dX8_apart_37 : decode cX8_apart 37 = .ok (.iload 4, 2) := by decide +kernel
theorem dX8_apart_39 : decode cX8_apart 39 = .ok (.aaload, 1) := by decide +kernel
theorem dX8_apart_40 : decode cX8_apart 40 = .ok (.iload 5, 2) := by decide +kernel
theorem dX8_apart_42 : decode cX8_apart 42 = .ok (.baload, 1) := by decide +kernel
theorem dX8_apart_43 : decode cX8_apart 43 = .ok (.aload_n 0, 1) := by decide +kernel
theorem dX8_apart_44 : decode cX8_apart 44 = .ok (.getfield 10, 3) := by decide +kernel
theorem dX8_apart_47 : decode cX8_apart 47 = .ok (.iload_n 2, 1) := by decide +kernel
theorem dX8_apart_48 : decode cX8_apart 48 = .ok (.invokeinterface 81 2, 5) := by decide +kernel
theorem dX8_apart_53 : decode cX8_apart 53 = .ok (.checkcast 68, 3) := by decide +kernel
theorem dX8_apart_56 : decode cX8_apart 56 = .ok (.iload 4, 2) := by decide +kernel
theorem dX8_apart_58 : decode cX8_apart 58 = .ok (.aaload, 1) := by decide +kernel
theorem dX8_apart_59 : decode cX8_apart 59 = .ok (.iload 5, 2) := by decide +kernel
theorem dX8_apart_61 : decode cX8_apart 61 = .ok (.baload, 1) := by decide +kernel
theorem dX8_apart_62 : decode cX8_apart 62 = .ok (.if_icmp .eq 7, 3) := by decide +kernel
theorem dX8_apart_65 : decode cX8_apart 65 = .ok (.iconst 1, 1) := by decide +kernel
theorem dX8_apart_66 : decode cX8_apart 66 = .ok (.goto 4, 3) := by decide +kernel
theorem dX8_apart_69 : decode cX8_apart 69 = .ok (.iconst 0, 1) := by decide +kernel
theorem dX8_apart_70 : decode cX8_apart 70 = .ok (.iadd, 1) := by decide +kernel
theorem dX8_apart_71 : decode cX8_apart 71 = .ok (.istore_n 3, 1) := by decide +kernel
theorem dX8_apart_72 : decode cX8_apart 72 = .ok (.iinc 5 1, 3) := by decide +kernel
theorem dX8_apart_75 : decode cX8_apart 75 = .ok (.goto (-59), 3) := by decide +kernel
theorem dX8_apart_78 : decode cX8_apart 78 = .ok (.iinc 4 1, 3) := by decide +kernel
theorem dX8_apart_81 : decode cX8_apart 81 = .ok (.goto (-76), 3) := by decide +kernel
theorem dX8_apart_84 : decode cX8_apart 84 = .ok (.iload_n 3, 1) := by decide +kernel
theorem dX8_apart_85 : decode cX8_apart 85 = .ok (.ireturn, 1) := by decide +kernel
theorem dX8_unlike_0 : decode cX8_unlike 0 = .ok (.aload_n 0, 1) := by decide +kernel
theorem dX8_unlike_1 : decode cX8_unlike 1 = .ok (.aload_n 0, 1) := by decide +kernel
theorem dX8_unlike_2 : decode cX8_unlike 2 = .ok (.iload_n 1, 1) := by decide +kernel
theorem dX8_unlike_3 : decode cX8_unlike 3 = .ok (.invokevirtual 74, 3) := by decide +kernel
theorem dX8_unlike_6 : decode cX8_unlike 6 = .ok (.ifCond .eq 15, 3) := by decide +kernel
theorem dX8_unlike_9 : decode cX8_unlike 9 = .ok (.aload_n 0, 1) := by decide +kernel
theorem dX8_unlike_10 : decode cX8_unlike 10 = .ok (.iload_n 2, 1) := by decide +kernel
theorem dX8_unlike_11 : decode cX8_unlike 11 = .ok (.invokevirtual 74, 3) := by decide +kernel
theorem dX8_unlike_14 : decode cX8_unlike 14 = .ok (.ifCond .eq 7, 3) := by decide +kernel
theorem dX8_unlike_17 : decode cX8_unlike 17 = .ok (.iconst 1, 1) := by decide +kernel
theorem dX8_unlike_18 : decode cX8_unlike 18 = .ok (.goto 4, 3) := by decide +kernel
theorem dX8_unlike_21 : decode cX8_unlike 21 = .ok (.iconst 0, 1) := by decide +kernel
theorem dX8_unlike_22 : decode cX8_unlike 22 = .ok (.iconst 1, 1) := by decide +kernel
theorem dX8_unlike_23 : decode cX8_unlike 23 = .ok (.invokevirtual 64, 3) := by decide +kernel
theorem dX8_unlike_26 : decode cX8_unlike 26 = .ok (.ifCond .eq 7, 3) := by decide +kernel
theorem dX8_unlike_29 : decode cX8_unlike 29 = .ok (.iconst 0, 1) := by decide +kernel
theorem dX8_unlike_30 : decode cX8_unlike 30 = .ok (.goto 9, 3) := by decide +kernel
theorem dX8_unlike_33 : decode cX8_unlike 33 = .ok (.aload_n 0, 1) := by decide +kernel
theorem dX8_unlike_34 : decode cX8_unlike 34 = .ok (.iload_n 1, 1) := by decide +kernel
theorem dX8_unlike_35 : decode cX8_unlike 35 = .ok (.iload_n 2, 1) := by decide +kernel
theorem dX8_unlike_36 : decode cX8_unlike 36 = .ok (.invokevirtual 98, 3) := by decide +kernel
theorem dX8_unlike_39 : decode cX8_unlike 39 = .ok (.ireturn, 1) := by decide +kernel
theorem dX8_parent_0 : decode cX8_parent 0 = .ok (.aload_n 0, 1) := by decide +kernel
theorem dX8_parent_1 : decode cX8_parent 1 = .ok (.aload_n 0, 1) := by decide +kernel
theorem dX8_parent_2 : decode cX8_parent 2 = .ok (.iload_n 1, 1) := by decide +kernel
theorem dX8_parent_3 : decode cX8_parent 3 = .ok (.invokevirtual 74, 3) := by decide +kernel
theorem dX8_parent_6 : decode cX8_parent 6 = .ok (.iconst 1, 1) := by decide +kernel
theorem dX8_parent_7 : decode cX8_parent 7 = .ok (.invokevirtual 64, 3) := by decide +kernel
theorem dX8_parent_10 : decode cX8_parent 10 = .ok (.ifCond .ne 20, 3) := by decide +kernel
theorem dX8_parent_13 : decode cX8_parent 13 = .ok (.aload_n 0, 1) := by decide +kernel
theorem dX8_parent_14 : decode cX8_parent 14 = .ok (.iload_n 1, 1) := by decide +kernel
theorem dX8_parent_15 : decode cX8_parent 15 = .ok (.ifCond .le 7, 3) := by decide +kernel
theorem dX8_parent_18 : decode cX8_parent 18 = .ok (.iconst 1, 1) := by decide +kernel
theorem dX8_parent_19 : decode cX8_parent 19 = .ok (.goto 4, 3) := by decide +kernel
theorem dX8_parent_22 : decode cX8_parent 22 = .ok (.iconst 0, 1) := by decide +kernel
theorem dX8_parent_23 : decode cX8_parent 23 = .ok (.iconst 2, 1) := by decide +kernel
theorem dX8_parent_24 : decode cX8_parent 24 = .ok (.invokevirtual 64, 3) := by decide +kernel
theorem dX8_parent_27 : decode cX8_parent 27 = .ok (.ifCond .eq 5, 3) := by decide +kernel
theorem dX8_parent_30 : decode cX8_parent 30 = .ok (.iconst 0, 1) := by decide +kernel
theorem dX8_parent_31 : decode cX8_parent 31 = .ok (.ireturn, 1) := by decide +kernel
theorem dX8_parent_32 : decode cX8_parent 32 = .ok (.iconst 0, 1) := by decide +kernel
theorem dX8_parent_33 : decode cX8_parent 33 = .ok (.istore_n 2, 1) := by decide +kernel
theorem dX8_parent_34 : decode cX8_parent 34 = .ok (.iconst 1, 1) := by decide +kernel
theorem dX8_parent_35 : decode cX8_parent 35 = .ok (.istore_n 3, 1) := by decide +kernel
theorem dX8_parent_36 : decode cX8_parent 36 = .ok (.iload_n 3, 1) := by decide +kernel
theorem dX8_parent_37 : decode cX8_parent 37 = .ok (.iload_n 1, 1) := by decide +kernel
theorem dX8_parent_38 : decode cX8_parent 38 = .ok (.if_icmp .ge 30, 3) := by decide +kernel
theorem dX8_parent_41 : decode cX8_parent 41 = .ok (.aload_n 0, 1) := by decide +kernel
theorem dX8_parent_42 : decode cX8_parent 42 = .ok (.iload_n 1, 1) := by decide +kernel
theorem dX8_parent_43 : decode cX8_parent 43 = .ok (.iload_n 3, 1) := by decide +kernel
theorem dX8_parent_44 : decode cX8_parent 44 = .ok (.invokevirtual 98, 3) := by decide +kernel
theorem dX8_parent_47 : decode cX8_parent 47 = .ok (.aload_n 0, 1) := by decide +kernel
theorem dX8_parent_48 : decode cX8_parent 48 = .ok (.iload_n 1, 1) := by decide +kernel
theorem dX8_parent_49 : decode cX8_parent 49 = .ok (.iload_n 2, 1) := by decide +kernel
theorem dX8_parent_50 : decode cX8_parent 50 = .ok (.invokevirtual 98, 3) := by decide +kernel
theorem dX8_parent_53 : decode cX8_parent 53 = .ok (.if_icmp .ge 7, 3) := by decide +kernel
theorem dX8_parent_56 : decode cX8_parent 56 = .ok (.iload_n 3, 1) := by decide +kernel
theorem dX8_parent_57 : decode cX8_parent 57 = .ok (.goto 4, 3) := by decide +kernel
theorem dX8_parent_60 : decode cX8_parent 60 = .ok (.iload_n 2, 1) := by decide +kernel
theorem dX8_parent_61 : decode cX8_parent 61 = .ok (.istore_n 2, 1) := by decide +kernel
theorem dX8_parent_62 : decode cX8_parent 62 = .ok (.iinc 3 1, 3) := by decide +kernel
theorem dX8_parent_65 : decode cX8_parent 65 = .ok (.goto (-29), 3) := by decide +kernel
theorem dX8_parent_68 : decode cX8_parent 68 = .ok (.iload_n 2, 1) := by decide +kernel
theorem dX8_parent_69 : decode cX8_parent 69 = .ok (.ireturn, 1) := by decide +kernel
theorem dX8_note_0 : decode cX8_note 0 = .ok (.aload_n 0, 1) := by decide +kernel
theorem dX8_note_1 : decode cX8_note 1 = .ok (.iload_n 1, 1) := by decide +kernel
theorem dX8_note_2 : decode cX8_note 2 = .ok (.iconst 0, 1) := by decide +kernel
theorem dX8_note_3 : decode cX8_note 3 = .ok (.sipush 199, 3) := by decide +kernel
theorem dX8_note_6 : decode cX8_note 6 = .ok (.invokestatic 60, 3) := by decide +kernel
theorem dX8_note_9 : decode cX8_note 9 = .ok (.ifCond .eq 33, 3) := by decide +kernel
theorem dX8_note_12 : decode cX8_note 12 = .ok (.iload_n 2, 1) := by decide +kernel
theorem dX8_note_13 : decode cX8_note 13 = .ok (.iconst 1, 1) := by decide +kernel
theorem dX8_note_14 : decode cX8_note 14 = .ok (.bipush 60, 2) := by decide +kernel
theorem dX8_note_16 : decode cX8_note 16 = .ok (.invokestatic 60, 3) := by decide +kernel
theorem dX8_note_19 : decode cX8_note 19 = .ok (.ifCond .eq 23, 3) := by decide +kernel
theorem dX8_note_22 : decode cX8_note 22 = .ok (.iload_n 3, 1) := by decide +kernel
theorem dX8_note_23 : decode cX8_note 23 = .ok (.invokestatic 101, 3) := by decide +kernel
theorem dX8_note_26 : decode cX8_note 26 = .ok (.ifCond .eq 16, 3) := by decide +kernel
theorem dX8_note_29 : decode cX8_note 29 = .ok (.iload_n 1, 1) := by decide +kernel
theorem dX8_note_30 : decode cX8_note 30 = .ok (.iload_n 2, 1) := by decide +kernel
theorem dX8_note_31 : decode cX8_note 31 = .ok (.iadd, 1) := by decide +kernel
theorem dX8_note_32 : decode cX8_note 32 = .ok (.sipush 200, 3) := by decide +kernel
theorem dX8_note_35 : decode cX8_note 35 = .ok (.if_icmp .gt 7, 3) := by decide +kernel
theorem dX8_note_38 : decode cX8_note 38 = .ok (.iconst 1, 1) := by decide +kernel
theorem dX8_note_39 : decode cX8_note 39 = .ok (.goto 4, 3) := by decide +kernel
theorem dX8_note_42 : decode cX8_note 42 = .ok (.iconst 0, 1) := by decide +kernel
theorem dX8_note_43 : decode cX8_note 43 = .ok (.iconst 1, 1) := by decide +kernel
theorem dX8_note_44 : decode cX8_note 44 = .ok (.invokevirtual 64, 3) := by decide +kernel
theorem dX8_note_47 : decode cX8_note 47 = .ok (.ifCond .eq 5, 3) := by decide +kernel
theorem dX8_note_50 : decode cX8_note 50 = .ok (.iconst 0, 1) := by decide +kernel
theorem dX8_note_51 : decode cX8_note 51 = .ok (.ireturn, 1) := by decide +kernel
theorem dX8_note_52 : decode cX8_note 52 = .ok (.iconst 1, 1) := by decide +kernel
theorem dX8_note_53 : decode cX8_note 53 = .ok (.istore 4, 2) := by decide +kernel
theorem dX8_note_55 : decode cX8_note 55 = .ok (.aload_n 0, 1) := by decide +kernel
theorem dX8_note_56 : decode cX8_note 56 = .ok (.getfield 16, 3) := by decide +kernel
theorem dX8_note_59 : decode cX8_note 59 = .ok (.invokeinterface 104 1, 5) := by decide +kernel
theorem dX8_note_64 : decode cX8_note 64 = .ok (.astore 5, 2) := by decide +kernel
theorem dX8_note_66 : decode cX8_note 66 = .ok (.aload 5, 2) := by decide +kernel
theorem dX8_note_68 : decode cX8_note 68 = .ok (.invokeinterface 108 1, 5) := by decide +kernel
theorem dX8_note_73 : decode cX8_note 73 = .ok (.ifCond .eq 63, 3) := by decide +kernel
theorem dX8_note_76 : decode cX8_note 76 = .ok (.aload 5, 2) := by decide +kernel
theorem dX8_note_78 : decode cX8_note 78 = .ok (.invokeinterface 114 1, 5) := by decide +kernel
theorem dX8_note_83 : decode cX8_note 83 = .ok (.checkcast 117, 3) := by decide +kernel
theorem dX8_note_86 : decode cX8_note 86 = .ok (.astore 6, 2) := by decide +kernel
theorem dX8_note_88 : decode cX8_note 88 = .ok (.iload 4, 2) := by decide +kernel
theorem dX8_note_90 : decode cX8_note 90 = .ok (.aload 6, 2) := by decide +kernel
theorem dX8_note_92 : decode cX8_note 92 = .ok (.iconst 2, 1) := by decide +kernel
theorem dX8_note_93 : decode cX8_note 93 = .ok (.iaload, 1) := by decide +kernel
theorem dX8_note_94 : decode cX8_note 94 = .ok (.iload_n 3, 1) := by decide +kernel
theorem dX8_note_95 : decode cX8_note 95 = .ok (.if_icmp .ne 30, 3) := by decide +kernel
theorem dX8_note_98 : decode cX8_note 98 = .ok (.iload_n 1, 1) := by decide +kernel
theorem dX8_note_99 : decode cX8_note 99 = .ok (.aload 6, 2) := by decide +kernel
theorem dX8_note_101 : decode cX8_note 101 = .ok (.iconst 0, 1) := by decide +kernel
theorem dX8_note_102 : decode cX8_note 102 = .ok (.iaload, 1) := by decide +kernel
theorem dX8_note_103 : decode cX8_note 103 = .ok (.aload 6, 2) := by decide +kernel
theorem dX8_note_105 : decode cX8_note 105 = .ok (.iconst 1, 1) := by decide +kernel
theorem dX8_note_106 : decode cX8_note 106 = .ok (.iaload, 1) := by decide +kernel
theorem dX8_note_107 : decode cX8_note 107 = .ok (.iadd, 1) := by decide +kernel
theorem dX8_note_108 : decode cX8_note 108 = .ok (.iconst 2, 1) := by decide +kernel
theorem dX8_note_109 : decode cX8_note 109 = .ok (.iadd, 1) := by decide +kernel
theorem dX8_note_110 : decode cX8_note 110 = .ok (.if_icmp .ge 15, 3) := by decide +kernel
theorem dX8_note_113 : decode cX8_note 113 = .ok (.aload 6, 2) := by decide +kernel
theorem dX8_note_115 : decode cX8_note 115 = .ok (.iconst 0, 1) := by decide +kernel
theorem dX8_note_116 : decode cX8_note 116 = .ok (.iaload, 1) := by decide +kernel
theorem dX8_note_117 : decode cX8_note 117 = .ok (.iload_n 1, 1) := by decide +kernel
theorem dX8_note_118 : decode cX8_note 118 = .ok (.iload_n 2, 1) := by decide +kernel
theorem dX8_note_119 : decode cX8_note 119 = .ok (.iadd, 1) := by decide +kernel
theorem dX8_note_120 : decode cX8_note 120 = .ok (.iconst 2, 1) := by decide +kernel
theorem dX8_note_121 : decode cX8_note 121 = .ok (.iadd, 1) := by decide +kernel
theorem dX8_note_122 : decode cX8_note 122 = .ok (.if_icmp .lt 7, 3) := by decide +kernel
theorem dX8_note_125 : decode cX8_note 125 = .ok (.iconst 1, 1) := by decide +kernel
theorem dX8_note_126 : decode cX8_note 126 = .ok (.goto 4, 3) := by decide +kernel
theorem dX8_note_129 : decode cX8_note 129 = .ok (.iconst 0, 1) := by decide +kernel
theorem dX8_note_130 : decode cX8_note 130 = .ok (.iand, 1) := by decide +kernel
theorem dX8_note_131 : decode cX8_note 131 = .ok (.istore 4, 2) := by decide +kernel
theorem dX8_note_133 : decode cX8_note 133 = .ok (.goto (-67), 3) := by decide +kernel
theorem dX8_note_136 : decode cX8_note 136 = .ok (.aload_n 0, 1) := by decide +kernel
theorem dX8_note_137 : decode cX8_note 137 = .ok (.iload 4, 2) := by decide +kernel
theorem dX8_note_139 : decode cX8_note 139 = .ok (.iconst 2, 1) := by decide +kernel
theorem dX8_note_140 : decode cX8_note 140 = .ok (.invokevirtual 64, 3) := by decide +kernel
theorem dX8_note_143 : decode cX8_note 143 = .ok (.ifCond .ne 30, 3) := by decide +kernel
theorem dX8_note_146 : decode cX8_note 146 = .ok (.aload_n 0, 1) := by decide +kernel
theorem dX8_note_147 : decode cX8_note 147 = .ok (.aload_n 0, 1) := by decide +kernel
theorem dX8_note_148 : decode cX8_note 148 = .ok (.getfield 16, 3) := by decide +kernel
theorem dX8_note_151 : decode cX8_note 151 = .ok (.invokeinterface 54 1, 5) := by decide +kernel
theorem dX8_note_156 : decode cX8_note 156 = .ok (.bipush 40, 2) := by decide +kernel
theorem dX8_note_158 : decode cX8_note 158 = .ok (.if_icmp .ge 7, 3) := by decide +kernel
theorem dX8_note_161 : decode cX8_note 161 = .ok (.iconst 1, 1) := by decide +kernel
theorem dX8_note_162 : decode cX8_note 162 = .ok (.goto 4, 3) := by decide +kernel
theorem dX8_note_165 : decode cX8_note 165 = .ok (.iconst 0, 1) := by decide +kernel
theorem dX8_note_166 : decode cX8_note 166 = .ok (.iconst 3, 1) := by decide +kernel
theorem dX8_note_167 : decode cX8_note 167 = .ok (.invokevirtual 64, 3) := by decide +kernel
theorem dX8_note_170 : decode cX8_note 170 = .ok (.ifCond .eq 5, 3) := by decide +kernel
theorem dX8_note_173 : decode cX8_note 173 = .ok (.iconst 0, 1) := by decide +kernel
theorem dX8_note_174 : decode cX8_note 174 = .ok (.ireturn, 1) := by decide +kernel
theorem dX8_note_175 : decode cX8_note 175 = .ok (.aload_n 0, 1) := by decide +kernel
theorem dX8_note_176 : decode cX8_note 176 = .ok (.getfield 16, 3) := by decide +kernel
theorem dX8_note_179 : decode cX8_note 179 = .ok (.iconst 3, 1) := by decide +kernel
theorem dX8_note_180 : decode cX8_note 180 = .ok (.newarray .int, 2) := by decide +kernel
theorem dX8_note_182 : decode cX8_note 182 = .ok (.dup, 1) := by decide +kernel
theorem dX8_note_183 : decode cX8_note 183 = .ok (.iconst 0, 1) := by decide +kernel
theorem dX8_note_184 : decode cX8_note 184 = .ok (.iload_n 1, 1) := by decide +kernel
theorem dX8_note_185 : decode cX8_note 185 = .ok (.iastore, 1) := by decide +kernel
theorem dX8_note_186 : decode cX8_note 186 = .ok (.dup, 1) := by decide +kernel
theorem dX8_note_187 : decode cX8_note 187 = .ok (.iconst 1, 1) := by decide +kernel
theorem dX8_note_188 : decode cX8_note 188 = .ok (.iload_n 2, 1) := by decide +kernel
theorem dX8_note_189 : decode cX8_note 189 = .ok (.iastore, 1) := by decide +kernel
theorem dX8_note_190 : decode cX8_note 190 = .ok (.dup, 1) := by decide +kernel
theorem dX8_note_191 : decode cX8_note 191 = .ok (.iconst 2, 1) := by decide +kernel
theorem dX8_note_192 : decode cX8_note 192 = .ok (.iload_n 3, 1) := by decide +kernel
theorem dX8_note_193 : decode cX8_note 193 = .ok (.iastore, 1) := by decide +kernel
theorem dX8_note_194 : decode cX8_note 194 = .ok (.invokeinterface 70 2, 5) := by decide +kernel
theorem dX8_note_199 : decode cX8_note 199 = .ok (.pop, 1) := by decide +kernel
theorem dX8_note_200 : decode cX8_note 200 = .ok (.aload_n 0, 1) := by decide +kernel
theorem dX8_note_201 : decode cX8_note 201 = .ok (.getfield 16, 3) := by decide +kernel
theorem dX8_note_204 : decode cX8_note 204 = .ok (.invokeinterface 54 1, 5) := by decide +kernel
theorem dX8_note_209 : decode cX8_note 209 = .ok (.ireturn, 1) := by decide +kernel
theorem dX8_wipe_0 : decode cX8_wipe 0 = .ok (.aload_n 0, 1) := by decide +kernel
theorem dX8_wipe_1 : decode cX8_wipe 1 = .ok (.getfield 16, 3) := by decide +kernel
theorem dX8_wipe_4 : decode cX8_wipe 4 = .ok (.invokeinterface 54 1, 5) := by decide +kernel
theorem dX8_wipe_9 : decode cX8_wipe 9 = .ok (.istore_n 1, 1) := by decide +kernel
theorem dX8_wipe_10 : decode cX8_wipe 10 = .ok (.aload_n 0, 1) := by decide +kernel
theorem dX8_wipe_11 : decode cX8_wipe 11 = .ok (.getfield 16, 3) := by decide +kernel
theorem dX8_wipe_14 : decode cX8_wipe 14 = .ok (.invokeinterface 118 1, 5) := by decide +kernel
theorem dX8_wipe_19 : decode cX8_wipe 19 = .ok (.iload_n 1, 1) := by decide +kernel
theorem dX8_wipe_20 : decode cX8_wipe 20 = .ok (.ireturn, 1) := by decide +kernel
theorem dX8_arrange_0 : decode cX8_arrange 0 = .ok (.aload_n 0, 1) := by decide +kernel
theorem dX8_arrange_1 : decode cX8_arrange 1 = .ok (.aload_n 0, 1) := by decide +kernel
theorem dX8_arrange_2 : decode cX8_arrange 2 = .ok (.iload_n 1, 1) := by decide +kernel
theorem dX8_arrange_3 : decode cX8_arrange 3 = .ok (.invokevirtual 74, 3) := by decide +kernel
theorem dX8_arrange_6 : decode cX8_arrange 6 = .ok (.iconst 1, 1) := by decide +kernel
theorem dX8_arrange_7 : decode cX8_arrange 7 = .ok (.invokevirtual 64, 3) := by decide +kernel
theorem dX8_arrange_10 : decode cX8_arrange 10 = .ok (.ifCond .eq 5, 3) := by decide +kernel
theorem dX8_arrange_13 : decode cX8_arrange 13 = .ok (.iconst 0, 1) := by decide +kernel
theorem dX8_arrange_14 : decode cX8_arrange 14 = .ok (.ireturn, 1) := by decide +kernel
theorem dX8_arrange_15 : decode cX8_arrange 15 = .ok (.aload_n 0, 1) := by decide +kernel
theorem dX8_arrange_16 : decode cX8_arrange 16 = .ok (.getfield 10, 3) := by decide +kernel
theorem dX8_arrange_19 : decode cX8_arrange 19 = .ok (.iload_n 1, 1) := by decide +kernel
theorem dX8_arrange_20 : decode cX8_arrange 20 = .ok (.invokeinterface 81 2, 5) := by decide +kernel
theorem dX8_arrange_25 : decode cX8_arrange 25 = .ok (.checkcast 68, 3) := by decide +kernel
theorem dX8_arrange_28 : decode cX8_arrange 28 = .ok (.astore_n 3, 1) := by decide +kernel
theorem dX8_arrange_29 : decode cX8_arrange 29 = .ok (.aload_n 3, 1) := by decide +kernel
theorem dX8_arrange_30 : decode cX8_arrange 30 = .ok (.astore 4, 2) := by decide +kernel
theorem dX8_arrange_32 : decode cX8_arrange 32 = .ok (.aload 4, 2) := by decide +kernel
theorem dX8_arrange_34 : decode cX8_arrange 34 = .ok (.arraylength, 1) := by decide +kernel
theorem dX8_arrange_35 : decode cX8_arrange 35 = .ok (.istore 5, 2) := by decide +kernel
theorem dX8_arrange_37 : decode cX8_arrange 37 = .ok (.iconst 0, 1) := by decide +kernel
theorem dX8_arrange_38 : decode cX8_arrange 38 = .ok (.istore 6, 2) := by decide +kernel
theorem dX8_arrange_40 : decode cX8_arrange 40 = .ok (.iload 6, 2) := by decide +kernel
theorem dX8_arrange_42 : decode cX8_arrange 42 = .ok (.iload 5, 2) := by decide +kernel
theorem dX8_arrange_44 : decode cX8_arrange 44 = .ok (.if_icmp .ge 38, 3) := by decide +kernel
theorem dX8_arrange_47 : decode cX8_arrange 47 = .ok (.aload 4, 2) := by decide +kernel
theorem dX8_arrange_49 : decode cX8_arrange 49 = .ok (.iload 6, 2) := by decide +kernel
theorem dX8_arrange_51 : decode cX8_arrange 51 = .ok (.aaload, 1) := by decide +kernel
theorem dX8_arrange_52 : decode cX8_arrange 52 = .ok (.astore 7, 2) := by decide +kernel
theorem dX8_arrange_54 : decode cX8_arrange 54 = .ok (.iconst 0, 1) := by decide +kernel
theorem dX8_arrange_55 : decode cX8_arrange 55 = .ok (.istore 8, 2) := by decide +kernel
theorem dX8_arrange_57 : decode cX8_arrange 57 = .ok (.iload 8, 2) := by decide +kernel
theorem dX8_arrange_59 : decode cX8_arrange 59 = .ok (.bipush 12, 2) := by decide +kernel
theorem dX8_arrange_61 : decode cX8_arrange 61 = .ok (.if_icmp .ge 15, 3) := by decide +kernel
theorem dX8_arrange_64 : decode cX8_arrange 64 = .ok (.aload 7, 2) := by decide +kernel
theorem dX8_arrange_66 : decode cX8_arrange 66 = .ok (.iload 8, 2) := by decide +kernel
theorem dX8_arrange_68 : decode cX8_arrange 68 = .ok (.iconst 0, 1) := by decide +kernel
theorem dX8_arrange_69 : decode cX8_arrange 69 = .ok (.bastore, 1) := by decide +kernel
theorem dX8_arrange_70 : decode cX8_arrange 70 = .ok (.iinc 8 1, 3) := by decide +kernel
theorem dX8_arrange_73 : decode cX8_arrange 73 = .ok (.goto (-16), 3) := by decide +kernel
theorem dX8_arrange_76 : decode cX8_arrange 76 = .ok (.iinc 6 1, 3) := by decide +kernel
theorem dX8_arrange_79 : decode cX8_arrange 79 = .ok (.goto (-39), 3) := by decide +kernel
theorem dX8_arrange_82 : decode cX8_arrange 82 = .ok (.aload_n 0, 1) := by decide +kernel
theorem dX8_arrange_83 : decode cX8_arrange 83 = .ok (.getfield 16, 3) := by decide +kernel
theorem dX8_arrange_86 : decode cX8_arrange 86 = .ok (.invokeinterface 104 1, 5) := by decide +kernel
theorem dX8_arrange_91 : decode cX8_arrange 91 = .ok (.astore 4, 2) := by decide +kernel
theorem dX8_arrange_93 : decode cX8_arrange 93 = .ok (.aload 4, 2) := by decide +kernel
theorem dX8_arrange_95 : decode cX8_arrange 95 = .ok (.invokeinterface 108 1, 5) := by decide +kernel
theorem dX8_arrange_100 : decode cX8_arrange 100 = .ok (.ifCond .eq 78, 3) := by decide +kernel
theorem dX8_arrange_103 : decode cX8_arrange 103 = .ok (.aload 4, 2) := by decide +kernel
theorem dX8_arrange_105 : decode cX8_arrange 105 = .ok (.invokeinterface 114 1, 5) := by decide +kernel
theorem dX8_arrange_110 : decode cX8_arrange 110 = .ok (.checkcast 117, 3) := by decide +kernel
theorem dX8_arrange_113 : decode cX8_arrange 113 = .ok (.astore 5, 2) := by decide +kernel
theorem dX8_arrange_115 : decode cX8_arrange 115 = .ok (.iconst 0, 1) := by decide +kernel
theorem dX8_arrange_116 : decode cX8_arrange 116 = .ok (.istore 6, 2) := by decide +kernel
theorem dX8_arrange_118 : decode cX8_arrange 118 = .ok (.iload 6, 2) := by decide +kernel
theorem dX8_arrange_120 : decode cX8_arrange 120 = .ok (.aload 5, 2) := by decide +kernel
theorem dX8_arrange_122 : decode cX8_arrange 122 = .ok (.iconst 1, 1) := by decide +kernel
theorem dX8_arrange_123 : decode cX8_arrange 123 = .ok (.iaload, 1) := by decide +kernel
theorem dX8_arrange_124 : decode cX8_arrange 124 = .ok (.if_icmp .ge 51, 3) := by decide +kernel
theorem dX8_arrange_127 : decode cX8_arrange 127 = .ok (.aload_n 3, 1) := by decide +kernel
theorem dX8_arrange_128 : decode cX8_arrange 128 = .ok (.aload 5, 2) := by decide +kernel
theorem dX8_arrange_130 : decode cX8_arrange 130 = .ok (.iconst 0, 1) := by decide +kernel
theorem dX8_arrange_131 : decode cX8_arrange 131 = .ok (.iaload, 1) := by decide +kernel
theorem dX8_arrange_132 : decode cX8_arrange 132 = .ok (.iload 6, 2) := by decide +kernel
theorem dX8_arrange_134 : decode cX8_arrange 134 = .ok (.iadd, 1) := by decide +kernel
theorem dX8_arrange_135 : decode cX8_arrange 135 = .ok (.aaload, 1) := by decide +kernel
theorem dX8_arrange_136 : decode cX8_arrange 136 = .ok (.aload 5, 2) := by decide +kernel
theorem dX8_arrange_138 : decode cX8_arrange 138 = .ok (.iconst 2, 1) := by decide +kernel
theorem dX8_arrange_139 : decode cX8_arrange 139 = .ok (.iaload, 1) := by decide +kernel
theorem dX8_arrange_140 : decode cX8_arrange 140 = .ok (.iload_n 2, 1) := by decide +kernel
theorem dX8_arrange_141 : decode cX8_arrange 141 = .ok (.ifCond .eq 22, 3) := by decide +kernel
theorem dX8_arrange_144 : decode cX8_arrange 144 = .ok (.iload 6, 2) := by decide +kernel
theorem dX8_arrange_146 : decode cX8_arrange 146 = .ok (.iconst 4, 1) := by decide +kernel
theorem dX8_arrange_147 : decode cX8_arrange 147 = .ok (.irem, 1) := by decide +kernel
theorem dX8_arrange_148 : decode cX8_arrange 148 = .ok (.iconst 3, 1) := by decide +kernel
theorem dX8_arrange_149 : decode cX8_arrange 149 = .ok (.if_icmp .ne 14, 3) := by decide +kernel
theorem dX8_arrange_152 : decode cX8_arrange 152 = .ok (.iload 6, 2) := by decide +kernel
theorem dX8_arrange_154 : decode cX8_arrange 154 = .ok (.aload 5, 2) := by decide +kernel
theorem dX8_arrange_156 : decode cX8_arrange 156 = .ok (.iconst 1, 1) := by decide +kernel
theorem dX8_arrange_157 : decode cX8_arrange 157 = .ok (.iaload, 1) := by decide +kernel
theorem dX8_arrange_158 : decode cX8_arrange 158 = .ok (.iconst 1, 1) := by decide +kernel
theorem dX8_arrange_159 : decode cX8_arrange 159 = .ok (.isub, 1) := by decide +kernel
theorem dX8_arrange_160 : decode cX8_arrange 160 = .ok (.if_icmp .ne 7, 3) := by decide +kernel
theorem dX8_arrange_163 : decode cX8_arrange 163 = .ok (.iconst 1, 1) := by decide +kernel
theorem dX8_arrange_164 : decode cX8_arrange 164 = .ok (.goto 4, 3) := by decide +kernel
theorem dX8_arrange_167 : decode cX8_arrange 167 = .ok (.iconst 0, 1) := by decide +kernel
theorem dX8_arrange_168 : decode cX8_arrange 168 = .ok (.bastore, 1) := by decide +kernel
theorem dX8_arrange_169 : decode cX8_arrange 169 = .ok (.iinc 6 1, 3) := by decide +kernel
theorem dX8_arrange_172 : decode cX8_arrange 172 = .ok (.goto (-54), 3) := by decide +kernel
theorem dX8_arrange_175 : decode cX8_arrange 175 = .ok (.goto (-82), 3) := by decide +kernel
theorem dX8_arrange_178 : decode cX8_arrange 178 = .ok (.iconst 0, 1) := by decide +kernel
theorem dX8_arrange_179 : decode cX8_arrange 179 = .ok (.istore 4, 2) := by decide +kernel
theorem dX8_arrange_181 : decode cX8_arrange 181 = .ok (.iconst 0, 1) := by decide +kernel
theorem dX8_arrange_182 : decode cX8_arrange 182 = .ok (.istore 5, 2) := by decide +kernel
theorem dX8_arrange_184 : decode cX8_arrange 184 = .ok (.iload 5, 2) := by decide +kernel
theorem dX8_arrange_186 : decode cX8_arrange 186 = .ok (.bipush 12, 2) := by decide +kernel
theorem dX8_arrange_188 : decode cX8_arrange 188 = .ok (.if_icmp .ge 21, 3) := by decide +kernel
theorem dX8_arrange_191 : decode cX8_arrange 191 = .ok (.iload 4, 2) := by decide +kernel
theorem dX8_arrange_193 : decode cX8_arrange 193 = .ok (.aload_n 0, 1) := by decide +kernel
theorem dX8_arrange_194 : decode cX8_arrange 194 = .ok (.iload_n 1, 1) := by decide +kernel
theorem dX8_arrange_195 : decode cX8_arrange 195 = .ok (.iload 5, 2) := by decide +kernel
theorem dX8_arrange_197 : decode cX8_arrange 197 = .ok (.invokevirtual 89, 3) := by decide +kernel
theorem dX8_arrange_200 : decode cX8_arrange 200 = .ok (.iadd, 1) := by decide +kernel
theorem dX8_arrange_201 : decode cX8_arrange 201 = .ok (.istore 4, 2) := by decide +kernel
theorem dX8_arrange_203 : decode cX8_arrange 203 = .ok (.iinc 5 1, 3) := by decide +kernel
theorem dX8_arrange_206 : decode cX8_arrange 206 = .ok (.goto (-22), 3) := by decide +kernel
theorem dX8_arrange_209 : decode cX8_arrange 209 = .ok (.iload 4, 2) := by decide +kernel
theorem dX8_arrange_211 : decode cX8_arrange 211 = .ok (.ireturn, 1) := by decide +kernel
theorem dX8_scan_0 : decode cX8_scan 0 = .ok (.new 7, 3) := by decide +kernel
theorem dX8_scan_3 : decode cX8_scan 3 = .ok (.dup, 1) := by decide +kernel
theorem dX8_scan_4 : decode cX8_scan 4 = .ok (.invokespecial 9, 3) := by decide +kernel
theorem dX8_scan_7 : decode cX8_scan 7 = .ok (.astore_n 2, 1) := by decide +kernel
theorem dX8_scan_8 : decode cX8_scan 8 = .ok (.aload_n 0, 1) := by decide +kernel
theorem dX8_scan_9 : decode cX8_scan 9 = .ok (.getfield 10, 3) := by decide +kernel
theorem dX8_scan_12 : decode cX8_scan 12 = .ok (.iload_n 1, 1) := by decide +kernel
theorem dX8_scan_13 : decode cX8_scan 13 = .ok (.invokeinterface 81 2, 5) := by decide +kernel
theorem dX8_scan_18 : decode cX8_scan 18 = .ok (.checkcast 68, 3) := by decide +kernel
theorem dX8_scan_21 : decode cX8_scan 21 = .ok (.astore_n 3, 1) := by decide +kernel
theorem dX8_scan_22 : decode cX8_scan 22 = .ok (.iconst 0, 1) := by decide +kernel
theorem dX8_scan_23 : decode cX8_scan 23 = .ok (.istore 4, 2) := by decide +kernel
theorem dX8_scan_25 : decode cX8_scan 25 = .ok (.iload 4, 2) := by decide +kernel
theorem dX8_scan_27 : decode cX8_scan 27 = .ok (.sipush 200, 3) := by decide +kernel
theorem dX8_scan_30 : decode cX8_scan 30 = .ok (.if_icmp .ge 165, 3) := by decide +kernel
theorem dX8_scan_33 : decode cX8_scan 33 = .ok (.iconst 0, 1) := by decide +kernel
theorem dX8_scan_34 : decode cX8_scan 34 = .ok (.istore 5, 2) := by decide +kernel
theorem dX8_scan_36 : decode cX8_scan 36 = .ok (.iload 5, 2) := by decide +kernel
theorem dX8_scan_38 : decode cX8_scan 38 = .ok (.bipush 12, 2) := by decide +kernel
theorem dX8_scan_40 : decode cX8_scan 40 = .ok (.if_icmp .ge 149, 3) := by decide +kernel
theorem dX8_scan_43 : decode cX8_scan 43 = .ok (.iload 4, 2) := by decide +kernel
theorem dX8_scan_45 : decode cX8_scan 45 = .ok (.ifCond .le 15, 3) := by decide +kernel
theorem dX8_scan_48 : decode cX8_scan 48 = .ok (.aload_n 3, 1) := by decide +kernel
theorem dX8_scan_49 : decode cX8_scan 49 = .ok (.iload 4, 2) := by decide +kernel
theorem dX8_scan_51 : decode cX8_scan 51 = .ok (.iconst 1, 1) := by decide +kernel
theorem dX8_scan_52 : decode cX8_scan 52 = .ok (.isub, 1) := by decide +kernel
theorem dX8_scan_53 : decode cX8_scan 53 = .ok (.aaload, 1) := by decide +kernel
theorem dX8_scan_54 : decode cX8_scan 54 = .ok (.iload 5, 2) := by decide +kernel
theorem dX8_scan_56 : decode cX8_scan 56 = .ok (.baload, 1) := by decide +kernel
theorem dX8_scan_57 : decode cX8_scan 57 = .ok (.ifCond .ne 21, 3) := by decide +kernel
theorem dX8_scan_60 : decode cX8_scan 60 = .ok (.iload 4, 2) := by decide +kernel
theorem dX8_scan_62 : decode cX8_scan 62 = .ok (.iconst 1, 1) := by decide +kernel
theorem dX8_scan_63 : decode cX8_scan 63 = .ok (.if_icmp .le 19, 3) := by decide +kernel
theorem dX8_scan_66 : decode cX8_scan 66 = .ok (.aload_n 3, 1) := by decide +kernel
theorem dX8_scan_67 : decode cX8_scan 67 = .ok (.iload 4, 2) := by decide +kernel
theorem dX8_scan_69 : decode cX8_scan 69 = .ok (.iconst 2, 1) := by decide +kernel
theorem dX8_scan_70 : decode cX8_scan 70 = .ok (.isub, 1) := by decide +kernel
theorem dX8_scan_71 : decode cX8_scan 71 = .ok (.aaload, 1) := by decide +kernel
theorem dX8_scan_72 : decode cX8_scan 72 = .ok (.iload 5, 2) := by decide +kernel
theorem dX8_scan_74 : decode cX8_scan 74 = .ok (.baload, 1) := by decide +kernel
theorem dX8_scan_75 : decode cX8_scan 75 = .ok (.ifCond .eq 7, 3) := by decide +kernel
theorem dX8_scan_78 : decode cX8_scan 78 = .ok (.iconst 1, 1) := by decide +kernel
theorem dX8_scan_79 : decode cX8_scan 79 = .ok (.goto 4, 3) := by decide +kernel
theorem dX8_scan_82 : decode cX8_scan 82 = .ok (.iconst 0, 1) := by decide +kernel
theorem dX8_scan_83 : decode cX8_scan 83 = .ok (.istore 6, 2) := by decide +kernel
theorem dX8_scan_85 : decode cX8_scan 85 = .ok (.aload_n 3, 1) := by decide +kernel
theorem dX8_scan_86 : decode cX8_scan 86 = .ok (.iload 4, 2) := by decide +kernel
theorem dX8_scan_88 : decode cX8_scan 88 = .ok (.aaload, 1) := by decide +kernel
theorem dX8_scan_89 : decode cX8_scan 89 = .ok (.iload 5, 2) := by decide +kernel
theorem dX8_scan_91 : decode cX8_scan 91 = .ok (.baload, 1) := by decide +kernel
theorem dX8_scan_92 : decode cX8_scan 92 = .ok (.ifCond .eq 91, 3) := by decide +kernel
theorem dX8_scan_95 : decode cX8_scan 95 = .ok (.iload 6, 2) := by decide +kernel
theorem dX8_scan_97 : decode cX8_scan 97 = .ok (.ifCond .eq 6, 3) := by decide +kernel
theorem dX8_scan_100 : decode cX8_scan 100 = .ok (.goto 83, 3) := by decide +kernel
theorem dX8_scan_103 : decode cX8_scan 103 = .ok (.iload 4, 2) := by decide +kernel
theorem dX8_scan_105 : decode cX8_scan 105 = .ok (.istore 7, 2) := by decide +kernel
theorem dX8_scan_107 : decode cX8_scan 107 = .ok (.iload 4, 2) := by decide +kernel
theorem dX8_scan_109 : decode cX8_scan 109 = .ok (.istore 8, 2) := by decide +kernel
theorem dX8_scan_111 : decode cX8_scan 111 = .ok (.iload 8, 2) := by decide +kernel
theorem dX8_scan_113 : decode cX8_scan 113 = .ok (.sipush 200, 3) := by decide +kernel
theorem dX8_scan_116 : decode cX8_scan 116 = .ok (.if_icmp .ge 37, 3) := by decide +kernel
theorem dX8_scan_119 : decode cX8_scan 119 = .ok (.iload 8, 2) := by decide +kernel
theorem dX8_scan_121 : decode cX8_scan 121 = .ok (.iload 7, 2) := by decide +kernel
theorem dX8_scan_123 : decode cX8_scan 123 = .ok (.iconst 2, 1) := by decide +kernel
theorem dX8_scan_124 : decode cX8_scan 124 = .ok (.iadd, 1) := by decide +kernel
theorem dX8_scan_125 : decode cX8_scan 125 = .ok (.if_icmp .gt 28, 3) := by decide +kernel
theorem dX8_scan_128 : decode cX8_scan 128 = .ok (.aload_n 3, 1) := by decide +kernel
theorem dX8_scan_129 : decode cX8_scan 129 = .ok (.iload 8, 2) := by decide +kernel
theorem dX8_scan_131 : decode cX8_scan 131 = .ok (.aaload, 1) := by decide +kernel
theorem dX8_scan_132 : decode cX8_scan 132 = .ok (.iload 5, 2) := by decide +kernel
theorem dX8_scan_134 : decode cX8_scan 134 = .ok (.baload, 1) := by decide +kernel
theorem dX8_scan_135 : decode cX8_scan 135 = .ok (.ifCond .eq 8, 3) := by decide +kernel
theorem dX8_scan_138 : decode cX8_scan 138 = .ok (.iload 8, 2) := by decide +kernel
theorem dX8_scan_140 : decode cX8_scan 140 = .ok (.goto 5, 3) := by decide +kernel
theorem dX8_scan_143 : decode cX8_scan 143 = .ok (.iload 7, 2) := by decide +kernel
theorem dX8_scan_145 : decode cX8_scan 145 = .ok (.istore 7, 2) := by decide +kernel
theorem dX8_scan_147 : decode cX8_scan 147 = .ok (.iinc 8 1, 3) := by decide +kernel
theorem dX8_scan_150 : decode cX8_scan 150 = .ok (.goto (-39), 3) := by decide +kernel
theorem dX8_scan_153 : decode cX8_scan 153 = .ok (.aload_n 2, 1) := by decide +kernel
theorem dX8_scan_154 : decode cX8_scan 154 = .ok (.iconst 3, 1) := by decide +kernel
theorem dX8_scan_155 : decode cX8_scan 155 = .ok (.newarray .int, 2) := by decide +kernel
theorem dX8_scan_157 : decode cX8_scan 157 = .ok (.dup, 1) := by decide +kernel
theorem dX8_scan_158 : decode cX8_scan 158 = .ok (.iconst 0, 1) := by decide +kernel
theorem dX8_scan_159 : decode cX8_scan 159 = .ok (.iload 4, 2) := by decide +kernel
theorem dX8_scan_161 : decode cX8_scan 161 = .ok (.iastore, 1) := by decide +kernel
theorem dX8_scan_162 : decode cX8_scan 162 = .ok (.dup, 1) := by decide +kernel
theorem dX8_scan_163 : decode cX8_scan 163 = .ok (.iconst 1, 1) := by decide +kernel
theorem dX8_scan_164 : decode cX8_scan 164 = .ok (.iload 7, 2) := by decide +kernel
theorem dX8_scan_166 : decode cX8_scan 166 = .ok (.iload 4, 2) := by decide +kernel
theorem dX8_scan_168 : decode cX8_scan 168 = .ok (.isub, 1) := by decide +kernel
theorem dX8_scan_169 : decode cX8_scan 169 = .ok (.iconst 1, 1) := by decide +kernel
theorem dX8_scan_170 : decode cX8_scan 170 = .ok (.iadd, 1) := by decide +kernel
theorem dX8_scan_171 : decode cX8_scan 171 = .ok (.iastore, 1) := by decide +kernel
theorem dX8_scan_172 : decode cX8_scan 172 = .ok (.dup, 1) := by decide +kernel
theorem dX8_scan_173 : decode cX8_scan 173 = .ok (.iconst 2, 1) := by decide +kernel
theorem dX8_scan_174 : decode cX8_scan 174 = .ok (.iload 5, 2) := by decide +kernel
theorem dX8_scan_176 : decode cX8_scan 176 = .ok (.iastore, 1) := by decide +kernel
theorem dX8_scan_177 : decode cX8_scan 177 = .ok (.invokeinterface 70 2, 5) := by decide +kernel
theorem dX8_scan_182 : decode cX8_scan 182 = .ok (.pop, 1) := by decide +kernel
theorem dX8_scan_183 : decode cX8_scan 183 = .ok (.iinc 5 1, 3) := by decide +kernel
theorem dX8_scan_186 : decode cX8_scan 186 = .ok (.goto (-150), 3) := by decide +kernel
theorem dX8_scan_189 : decode cX8_scan 189 = .ok (.iinc 4 1, 3) := by decide +kernel
theorem dX8_scan_192 : decode cX8_scan 192 = .ok (.goto (-167), 3) := by decide +kernel
theorem dX8_scan_195 : decode cX8_scan 195 = .ok (.aload_n 2, 1) := by decide +kernel
theorem dX8_scan_196 : decode cX8_scan 196 = .ok (.areturn, 1) := by decide +kernel
theorem dX8_scanned_0 : decode cX8_scanned 0 = .ok (.aload_n 0, 1) := by decide +kernel
theorem dX8_scanned_1 : decode cX8_scanned 1 = .ok (.aload_n 0, 1) := by decide +kernel
theorem dX8_scanned_2 : decode cX8_scanned 2 = .ok (.iload_n 1, 1) := by decide +kernel
theorem dX8_scanned_3 : decode cX8_scanned 3 = .ok (.invokevirtual 74, 3) := by decide +kernel
theorem dX8_scanned_6 : decode cX8_scanned 6 = .ok (.iconst 1, 1) := by decide +kernel
theorem dX8_scanned_7 : decode cX8_scanned 7 = .ok (.invokevirtual 64, 3) := by decide +kernel
theorem dX8_scanned_10 : decode cX8_scanned 10 = .ok (.ifCond .eq 7, 3) := by decide +kernel
theorem dX8_scanned_13 : decode cX8_scanned 13 = .ok (.iconst 0, 1) := by decide +kernel
theorem dX8_scanned_14 : decode cX8_scanned 14 = .ok (.goto 13, 3) := by decide +kernel
theorem dX8_scanned_17 : decode cX8_scanned 17 = .ok (.aload_n 0, 1) := by decide +kernel
theorem dX8_scanned_18 : decode cX8_scanned 18 = .ok (.iload_n 1, 1) := by decide +kernel
theorem dX8_scanned_19 : decode cX8_scanned 19 = .ok (.invokevirtual 121, 3) := by decide +kernel
theorem dX8_scanned_22 : decode cX8_scanned 22 = .ok (.invokeinterface 54 1, 5) := by decide +kernel
theorem dX8_scanned_27 : decode cX8_scanned 27 = .ok (.ireturn, 1) := by decide +kernel
theorem dX8_scan__0 : decode cX8_scan_ 0 = .ok (.aload_n 0, 1) := by decide +kernel
theorem dX8_scan__1 : decode cX8_scan_ 1 = .ok (.aload_n 0, 1) := by decide +kernel
theorem dX8_scan__2 : decode cX8_scan_ 2 = .ok (.iload_n 1, 1) := by decide +kernel
theorem dX8_scan__3 : decode cX8_scan_ 3 = .ok (.invokevirtual 74, 3) := by decide +kernel
theorem dX8_scan__6 : decode cX8_scan_ 6 = .ok (.iconst 1, 1) := by decide +kernel
theorem dX8_scan__7 : decode cX8_scan_ 7 = .ok (.invokevirtual 64, 3) := by decide +kernel
theorem dX8_scan__10 : decode cX8_scan_ 10 = .ok (.ifCond .ne 25, 3) := by decide +kernel
theorem dX8_scan__13 : decode cX8_scan_ 13 = .ok (.aload_n 0, 1) := by decide +kernel
theorem dX8_scan__14 : decode cX8_scan_ 14 = .ok (.ldc 125, 2) := by decide +kernel
theorem dX8_scan__16 : decode cX8_scan_ 16 = .ok (.iload_n 3, 1) := by decide +kernel
theorem dX8_scan__17 : decode cX8_scan_ 17 = .ok (.invokevirtual 127, 3) := by decide +kernel
theorem dX8_scan__20 : decode cX8_scan_ 20 = .ok (.ifCond .lt 7, 3) := by decide +kernel
theorem dX8_scan__23 : decode cX8_scan_ 23 = .ok (.iconst 1, 1) := by decide +kernel
theorem dX8_scan__24 : decode cX8_scan_ 24 = .ok (.goto 4, 3) := by decide +kernel
theorem dX8_scan__27 : decode cX8_scan_ 27 = .ok (.iconst 0, 1) := by decide +kernel
theorem dX8_scan__28 : decode cX8_scan_ 28 = .ok (.iconst 2, 1) := by decide +kernel
theorem dX8_scan__29 : decode cX8_scan_ 29 = .ok (.invokevirtual 64, 3) := by decide +kernel
theorem dX8_scan__32 : decode cX8_scan_ 32 = .ok (.ifCond .eq 5, 3) := by decide +kernel
theorem dX8_scan__35 : decode cX8_scan_ 35 = .ok (.iconst 0, 1) := by decide +kernel
theorem dX8_scan__36 : decode cX8_scan_ 36 = .ok (.ireturn, 1) := by decide +kernel
theorem dX8_scan__37 : decode cX8_scan_ 37 = .ok (.aload_n 0, 1) := by decide +kernel
theorem dX8_scan__38 : decode cX8_scan_ 38 = .ok (.iload_n 1, 1) := by decide +kernel
theorem dX8_scan__39 : decode cX8_scan_ 39 = .ok (.invokevirtual 121, 3) := by decide +kernel
theorem dX8_scan__42 : decode cX8_scan_ 42 = .ok (.astore 4, 2) := by decide +kernel
theorem dX8_scan__44 : decode cX8_scan_ 44 = .ok (.aload_n 0, 1) := by decide +kernel
theorem dX8_scan__45 : decode cX8_scan_ 45 = .ok (.iload_n 2, 1) := by decide +kernel
theorem dX8_scan__46 : decode cX8_scan_ 46 = .ok (.iconst 0, 1) := by decide +kernel
theorem dX8_scan__47 : decode cX8_scan_ 47 = .ok (.aload 4, 2) := by decide +kernel
theorem dX8_scan__49 : decode cX8_scan_ 49 = .ok (.invokeinterface 54 1, 5) := by decide +kernel
theorem dX8_scan__54 : decode cX8_scan_ 54 = .ok (.iconst 1, 1) := by decide +kernel
theorem dX8_scan__55 : decode cX8_scan_ 55 = .ok (.isub, 1) := by decide +kernel
theorem dX8_scan__56 : decode cX8_scan_ 56 = .ok (.invokestatic 60, 3) := by decide +kernel
theorem dX8_scan__59 : decode cX8_scan_ 59 = .ok (.iconst 3, 1) := by decide +kernel
theorem dX8_scan__60 : decode cX8_scan_ 60 = .ok (.invokevirtual 64, 3) := by decide +kernel
theorem dX8_scan__63 : decode cX8_scan_ 63 = .ok (.ifCond .eq 7, 3) := by decide +kernel
theorem dX8_scan__66 : decode cX8_scan_ 66 = .ok (.iconst 0, 1) := by decide +kernel
theorem dX8_scan__67 : decode cX8_scan_ 67 = .ok (.goto 21, 3) := by decide +kernel
theorem dX8_scan__70 : decode cX8_scan_ 70 = .ok (.aload 4, 2) := by decide +kernel
theorem dX8_scan__72 : decode cX8_scan_ 72 = .ok (.iload_n 2, 1) := by decide +kernel
theorem dX8_scan__73 : decode cX8_scan_ 73 = .ok (.invokeinterface 81 2, 5) := by decide +kernel
theorem dX8_scan__78 : decode cX8_scan_ 78 = .ok (.checkcast 117, 3) := by decide +kernel
theorem dX8_scan__81 : decode cX8_scan_ 81 = .ok (.ldc 125, 2) := by decide +kernel
theorem dX8_scan__83 : decode cX8_scan_ 83 = .ok (.iload_n 3, 1) := by decide +kernel
theorem dX8_scan__84 : decode cX8_scan_ 84 = .ok (.invokevirtual 127, 3) := by decide +kernel
theorem dX8_scan__87 : decode cX8_scan_ 87 = .ok (.iaload, 1) := by decide +kernel
theorem dX8_scan__88 : decode cX8_scan_ 88 = .ok (.ireturn, 1) := by decide +kernel
theorem dX8_isMusic_0 : decode cX8_isMusic 0 = .ok (.aload_n 0, 1) := by decide +kernel
theorem dX8_isMusic_1 : decode cX8_isMusic 1 = .ok (.aload_n 0, 1) := by decide +kernel
theorem dX8_isMusic_2 : decode cX8_isMusic 2 = .ok (.iload_n 1, 1) := by decide +kernel
theorem dX8_isMusic_3 : decode cX8_isMusic 3 = .ok (.invokevirtual 74, 3) := by decide +kernel
theorem dX8_isMusic_6 : decode cX8_isMusic 6 = .ok (.iconst 1, 1) := by decide +kernel
theorem dX8_isMusic_7 : decode cX8_isMusic 7 = .ok (.invokevirtual 64, 3) := by decide +kernel
theorem dX8_isMusic_10 : decode cX8_isMusic 10 = .ok (.ifCond .eq 5, 3) := by decide +kernel
theorem dX8_isMusic_13 : decode cX8_isMusic 13 = .ok (.iconst 0, 1) := by decide +kernel
theorem dX8_isMusic_14 : decode cX8_isMusic 14 = .ok (.ireturn, 1) := by decide +kernel
theorem dX8_isMusic_15 : decode cX8_isMusic 15 = .ok (.aload_n 0, 1) := by decide +kernel
theorem dX8_isMusic_16 : decode cX8_isMusic 16 = .ok (.iload_n 1, 1) := by decide +kernel
theorem dX8_isMusic_17 : decode cX8_isMusic 17 = .ok (.invokevirtual 121, 3) := by decide +kernel
theorem dX8_isMusic_20 : decode cX8_isMusic 20 = .ok (.astore_n 2, 1) := by decide +kernel
theorem dX8_isMusic_21 : decode cX8_isMusic 21 = .ok (.aload_n 2, 1) := by decide +kernel
theorem dX8_isMusic_22 : decode cX8_isMusic 22 = .ok (.invokeinterface 54 1, 5) := by decide +kernel
theorem dX8_isMusic_27 : decode cX8_isMusic 27 = .ok (.aload_n 0, 1) := by decide +kernel
theorem dX8_isMusic_28 : decode cX8_isMusic 28 = .ok (.getfield 16, 3) := by decide +kernel
theorem dX8_isMusic_31 : decode cX8_isMusic 31 = .ok (.invokeinterface 54 1, 5) := by decide +kernel
theorem dX8_isMusic_36 : decode cX8_isMusic 36 = .ok (.if_icmp .ne 7, 3) := by decide +kernel
theorem dX8_isMusic_39 : decode cX8_isMusic 39 = .ok (.iconst 1, 1) := by decide +kernel
theorem dX8_isMusic_40 : decode cX8_isMusic 40 = .ok (.goto 4, 3) := by decide +kernel
theorem dX8_isMusic_43 : decode cX8_isMusic 43 = .ok (.iconst 0, 1) := by decide +kernel
theorem dX8_isMusic_44 : decode cX8_isMusic 44 = .ok (.istore_n 3, 1) := by decide +kernel
theorem dX8_isMusic_45 : decode cX8_isMusic 45 = .ok (.aload_n 0, 1) := by decide +kernel
theorem dX8_isMusic_46 : decode cX8_isMusic 46 = .ok (.getfield 16, 3) := by decide +kernel
theorem dX8_isMusic_49 : decode cX8_isMusic 49 = .ok (.invokeinterface 104 1, 5) := by decide +kernel
theorem dX8_isMusic_54 : decode cX8_isMusic 54 = .ok (.astore 4, 2) := by decide +kernel
theorem dX8_isMusic_56 : decode cX8_isMusic 56 = .ok (.aload 4, 2) := by decide +kernel
theorem dX8_isMusic_58 : decode cX8_isMusic 58 = .ok (.invokeinterface 108 1, 5) := by decide +kernel
theorem dX8_isMusic_63 : decode cX8_isMusic 63 = .ok (.ifCond .eq 71, 3) := by decide +kernel
theorem dX8_isMusic_66 : decode cX8_isMusic 66 = .ok (.aload 4, 2) := by decide +kernel
theorem dX8_isMusic_68 : decode cX8_isMusic 68 = .ok (.invokeinterface 114 1, 5) := by decide +kernel
theorem dX8_isMusic_73 : decode cX8_isMusic 73 = .ok (.checkcast 117, 3) := by decide +kernel
theorem dX8_isMusic_76 : decode cX8_isMusic 76 = .ok (.astore 5, 2) := by decide +kernel
theorem dX8_isMusic_78 : decode cX8_isMusic 78 = .ok (.iconst 0, 1) := by decide +kernel
theorem dX8_isMusic_79 : decode cX8_isMusic 79 = .ok (.istore 6, 2) := by decide +kernel
theorem dX8_isMusic_81 : decode cX8_isMusic 81 = .ok (.aload_n 2, 1) := by decide +kernel
theorem dX8_isMusic_82 : decode cX8_isMusic 82 = .ok (.invokeinterface 104 1, 5) := by decide +kernel
theorem dX8_isMusic_87 : decode cX8_isMusic 87 = .ok (.astore 7, 2) := by decide +kernel
theorem dX8_isMusic_89 : decode cX8_isMusic 89 = .ok (.aload 7, 2) := by decide +kernel
theorem dX8_isMusic_91 : decode cX8_isMusic 91 = .ok (.invokeinterface 108 1, 5) := by decide +kernel
theorem dX8_isMusic_96 : decode cX8_isMusic 96 = .ok (.ifCond .eq 30, 3) := by decide +kernel
theorem dX8_isMusic_99 : decode cX8_isMusic 99 = .ok (.aload 7, 2) := by decide +kernel
theorem dX8_isMusic_101 : decode cX8_isMusic 101 = .ok (.invokeinterface 114 1, 5) := by decide +kernel
theorem dX8_isMusic_106 : decode cX8_isMusic 106 = .ok (.checkcast 117, 3) := by decide +kernel
theorem dX8_isMusic_109 : decode cX8_isMusic 109 = .ok (.astore 8, 2) := by decide +kernel
theorem dX8_isMusic_111 : decode cX8_isMusic 111 = .ok (.iload 6, 2) := by decide +kernel
theorem dX8_isMusic_113 : decode cX8_isMusic 113 = .ok (.aload 5, 2) := by decide +kernel
theorem dX8_isMusic_115 : decode cX8_isMusic 115 = .ok (.aload 8, 2) := by decide +kernel
theorem dX8_isMusic_117 : decode cX8_isMusic 117 = .ok (.invokestatic 132, 3) := by decide +kernel
theorem dX8_isMusic_120 : decode cX8_isMusic 120 = .ok (.ior, 1) := by decide +kernel
theorem dX8_isMusic_121 : decode cX8_isMusic 121 = .ok (.istore 6, 2) := by decide +kernel
theorem dX8_isMusic_123 : decode cX8_isMusic 123 = .ok (.goto (-34), 3) := by decide +kernel
theorem dX8_isMusic_126 : decode cX8_isMusic 126 = .ok (.iload_n 3, 1) := by decide +kernel
theorem dX8_isMusic_127 : decode cX8_isMusic 127 = .ok (.iload 6, 2) := by decide +kernel
theorem dX8_isMusic_129 : decode cX8_isMusic 129 = .ok (.iand, 1) := by decide +kernel
theorem dX8_isMusic_130 : decode cX8_isMusic 130 = .ok (.istore_n 3, 1) := by decide +kernel
theorem dX8_isMusic_131 : decode cX8_isMusic 131 = .ok (.goto (-75), 3) := by decide +kernel
theorem dX8_isMusic_134 : decode cX8_isMusic 134 = .ok (.iload_n 3, 1) := by decide +kernel
theorem dX8_isMusic_135 : decode cX8_isMusic 135 = .ok (.ireturn, 1) := by decide +kernel
theorem dX8_valve_0 : decode cX8_valve 0 = .ok (.aload_n 0, 1) := by decide +kernel
theorem dX8_valve_1 : decode cX8_valve 1 = .ok (.iload_n 1, 1) := by decide +kernel
theorem dX8_valve_2 : decode cX8_valve 2 = .ok (.invokestatic 101, 3) := by decide +kernel
theorem dX8_valve_5 : decode cX8_valve 5 = .ok (.iconst 1, 1) := by decide +kernel
theorem dX8_valve_6 : decode cX8_valve 6 = .ok (.invokevirtual 64, 3) := by decide +kernel
theorem dX8_valve_9 : decode cX8_valve 9 = .ok (.ifCond .ne 35, 3) := by decide +kernel
theorem dX8_valve_12 : decode cX8_valve 12 = .ok (.aload_n 0, 1) := by decide +kernel
theorem dX8_valve_13 : decode cX8_valve 13 = .ok (.iload_n 2, 1) := by decide +kernel
theorem dX8_valve_14 : decode cX8_valve 14 = .ok (.iconst 0, 1) := by decide +kernel
theorem dX8_valve_15 : decode cX8_valve 15 = .ok (.iconst 5, 1) := by decide +kernel
theorem dX8_valve_16 : decode cX8_valve 16 = .ok (.invokestatic 60, 3) := by decide +kernel
theorem dX8_valve_19 : decode cX8_valve 19 = .ok (.ifCond .eq 17, 3) := by decide +kernel
theorem dX8_valve_22 : decode cX8_valve 22 = .ok (.iload_n 3, 1) := by decide +kernel
theorem dX8_valve_23 : decode cX8_valve 23 = .ok (.iconst 0, 1) := by decide +kernel
theorem dX8_valve_24 : decode cX8_valve 24 = .ok (.bipush 9, 2) := by decide +kernel
theorem dX8_valve_26 : decode cX8_valve 26 = .ok (.invokestatic 60, 3) := by decide +kernel
theorem dX8_valve_29 : decode cX8_valve 29 = .ok (.ifCond .eq 7, 3) := by decide +kernel
theorem dX8_valve_32 : decode cX8_valve 32 = .ok (.iconst 1, 1) := by decide +kernel
theorem dX8_valve_33 : decode cX8_valve 33 = .ok (.goto 4, 3) := by decide +kernel
theorem dX8_valve_36 : decode cX8_valve 36 = .ok (.iconst 0, 1) := by decide +kernel
theorem dX8_valve_37 : decode cX8_valve 37 = .ok (.iconst 2, 1) := by decide +kernel
theorem dX8_valve_38 : decode cX8_valve 38 = .ok (.invokevirtual 64, 3) := by decide +kernel
theorem dX8_valve_41 : decode cX8_valve 41 = .ok (.ifCond .eq 5, 3) := by decide +kernel
theorem dX8_valve_44 : decode cX8_valve 44 = .ok (.iconst 0, 1) := by decide +kernel
theorem dX8_valve_45 : decode cX8_valve 45 = .ok (.ireturn, 1) := by decide +kernel
theorem dX8_valve_46 : decode cX8_valve 46 = .ok (.aload_n 0, 1) := by decide +kernel
theorem dX8_valve_47 : decode cX8_valve 47 = .ok (.getfield 24, 3) := by decide +kernel
theorem dX8_valve_50 : decode cX8_valve 50 = .ok (.iload_n 1, 1) := by decide +kernel
theorem dX8_valve_51 : decode cX8_valve 51 = .ok (.aaload, 1) := by decide +kernel
theorem dX8_valve_52 : decode cX8_valve 52 = .ok (.getfield 136, 3) := by decide +kernel
theorem dX8_valve_55 : decode cX8_valve 55 = .ok (.istore 4, 2) := by decide +kernel
theorem dX8_valve_57 : decode cX8_valve 57 = .ok (.aload_n 0, 1) := by decide +kernel
theorem dX8_valve_58 : decode cX8_valve 58 = .ok (.getfield 24, 3) := by decide +kernel
theorem dX8_valve_61 : decode cX8_valve 61 = .ok (.iload_n 1, 1) := by decide +kernel
theorem dX8_valve_62 : decode cX8_valve 62 = .ok (.aaload, 1) := by decide +kernel
theorem dX8_valve_63 : decode cX8_valve 63 = .ok (.iload_n 2, 1) := by decide +kernel
theorem dX8_valve_64 : decode cX8_valve 64 = .ok (.putfield 136, 3) := by decide +kernel
theorem dX8_valve_67 : decode cX8_valve 67 = .ok (.aload_n 0, 1) := by decide +kernel
theorem dX8_valve_68 : decode cX8_valve 68 = .ok (.getfield 24, 3) := by decide +kernel
theorem dX8_valve_71 : decode cX8_valve 71 = .ok (.iload_n 1, 1) := by decide +kernel
theorem dX8_valve_72 : decode cX8_valve 72 = .ok (.aaload, 1) := by decide +kernel
theorem dX8_valve_73 : decode cX8_valve 73 = .ok (.iload_n 3, 1) := by decide +kernel
theorem dX8_valve_74 : decode cX8_valve 74 = .ok (.putfield 139, 3) := by decide +kernel
theorem dX8_valve_77 : decode cX8_valve 77 = .ok (.iload 4, 2) := by decide +kernel
theorem dX8_valve_79 : decode cX8_valve 79 = .ok (.ireturn, 1) := by decide +kernel
theorem dX8_use_0 : decode cX8_use 0 = .ok (.aload_n 0, 1) := by decide +kernel
theorem dX8_use_1 : decode cX8_use 1 = .ok (.iload_n 1, 1) := by decide +kernel
theorem dX8_use_2 : decode cX8_use 2 = .ok (.invokestatic 101, 3) := by decide +kernel
theorem dX8_use_5 : decode cX8_use 5 = .ok (.iconst 1, 1) := by decide +kernel
theorem dX8_use_6 : decode cX8_use 6 = .ok (.invokevirtual 64, 3) := by decide +kernel
theorem dX8_use_9 : decode cX8_use 9 = .ok (.ifCond .ne 18, 3) := by decide +kernel
theorem dX8_use_12 : decode cX8_use 12 = .ok (.aload_n 0, 1) := by decide +kernel
theorem dX8_use_13 : decode cX8_use 13 = .ok (.iload_n 2, 1) := by decide +kernel
theorem dX8_use_14 : decode cX8_use 14 = .ok (.iconst 0, 1) := by decide +kernel
theorem dX8_use_15 : decode cX8_use 15 = .ok (.bipush 99, 2) := by decide +kernel
theorem dX8_use_17 : decode cX8_use 17 = .ok (.invokestatic 60, 3) := by decide +kernel
theorem dX8_use_20 : decode cX8_use 20 = .ok (.iconst 2, 1) := by decide +kernel
theorem dX8_use_21 : decode cX8_use 21 = .ok (.invokevirtual 64, 3) := by decide +kernel
theorem dX8_use_24 : decode cX8_use 24 = .ok (.ifCond .eq 5, 3) := by decide +kernel
theorem dX8_use_27 : decode cX8_use 27 = .ok (.iconst 0, 1) := by decide +kernel
theorem dX8_use_28 : decode cX8_use 28 = .ok (.ireturn, 1) := by decide +kernel
theorem dX8_use_29 : decode cX8_use 29 = .ok (.aload_n 0, 1) := by decide +kernel
theorem dX8_use_30 : decode cX8_use 30 = .ok (.getfield 24, 3) := by decide +kernel
theorem dX8_use_33 : decode cX8_use 33 = .ok (.iload_n 1, 1) := by decide +kernel
theorem dX8_use_34 : decode cX8_use 34 = .ok (.aaload, 1) := by decide +kernel
theorem dX8_use_35 : decode cX8_use 35 = .ok (.getfield 142, 3) := by decide +kernel
theorem dX8_use_38 : decode cX8_use 38 = .ok (.istore_n 3, 1) := by decide +kernel
theorem dX8_use_39 : decode cX8_use 39 = .ok (.aload_n 0, 1) := by decide +kernel
theorem dX8_use_40 : decode cX8_use 40 = .ok (.getfield 24, 3) := by decide +kernel
theorem dX8_use_43 : decode cX8_use 43 = .ok (.iload_n 1, 1) := by decide +kernel
theorem dX8_use_44 : decode cX8_use 44 = .ok (.aaload, 1) := by decide +kernel
theorem dX8_use_45 : decode cX8_use 45 = .ok (.iload_n 2, 1) := by decide +kernel
theorem dX8_use_46 : decode cX8_use 46 = .ok (.putfield 142, 3) := by decide +kernel
theorem dX8_use_49 : decode cX8_use 49 = .ok (.iload_n 3, 1) := by decide +kernel
theorem dX8_use_50 : decode cX8_use 50 = .ok (.ireturn, 1) := by decide +kernel
theorem dX8_borrow_0 : decode cX8_borrow 0 = .ok (.aload_n 0, 1) := by decide +kernel
theorem dX8_borrow_1 : decode cX8_borrow 1 = .ok (.iload_n 1, 1) := by decide +kernel
theorem dX8_borrow_2 : decode cX8_borrow 2 = .ok (.invokestatic 101, 3) := by decide +kernel
theorem dX8_borrow_5 : decode cX8_borrow 5 = .ok (.ifCond .eq 14, 3) := by decide +kernel
theorem dX8_borrow_8 : decode cX8_borrow 8 = .ok (.iload_n 2, 1) := by decide +kernel
theorem dX8_borrow_9 : decode cX8_borrow 9 = .ok (.invokestatic 101, 3) := by decide +kernel
theorem dX8_borrow_12 : decode cX8_borrow 12 = .ok (.ifCond .eq 7, 3) := by decide +kernel
theorem dX8_borrow_15 : decode cX8_borrow 15 = .ok (.iconst 1, 1) := by decide +kernel
theorem dX8_borrow_16 : decode cX8_borrow 16 = .ok (.goto 4, 3) := by decide +kernel
theorem dX8_borrow_19 : decode cX8_borrow 19 = .ok (.iconst 0, 1) := by decide +kernel
theorem dX8_borrow_20 : decode cX8_borrow 20 = .ok (.iconst 1, 1) := by decide +kernel
theorem dX8_borrow_21 : decode cX8_borrow 21 = .ok (.invokevirtual 64, 3) := by decide +kernel
theorem dX8_borrow_24 : decode cX8_borrow 24 = .ok (.ifCond .eq 5, 3) := by decide +kernel
theorem dX8_borrow_27 : decode cX8_borrow 27 = .ok (.iconst 0, 1) := by decide +kernel
theorem dX8_borrow_28 : decode cX8_borrow 28 = .ok (.ireturn, 1) := by decide +kernel
theorem dX8_borrow_29 : decode cX8_borrow 29 = .ok (.iconst 0, 1) := by decide +kernel
theorem dX8_borrow_30 : decode cX8_borrow 30 = .ok (.istore_n 3, 1) := by decide +kernel
theorem dX8_borrow_31 : decode cX8_borrow 31 = .ok (.iconst 0, 1) := by decide +kernel
theorem dX8_borrow_32 : decode cX8_borrow 32 = .ok (.istore 4, 2) := by decide +kernel
theorem dX8_borrow_34 : decode cX8_borrow 34 = .ok (.iload 4, 2) := by decide +kernel
theorem dX8_borrow_36 : decode cX8_borrow 36 = .ok (.bipush 12, 2) := by decide +kernel
theorem dX8_borrow_38 : decode cX8_borrow 38 = .ok (.if_icmp .ge 37, 3) := by decide +kernel
theorem dX8_borrow_41 : decode cX8_borrow 41 = .ok (.iload_n 3, 1) := by decide +kernel
theorem dX8_borrow_42 : decode cX8_borrow 42 = .ok (.iload 4, 2) := by decide +kernel
theorem dX8_borrow_44 : decode cX8_borrow 44 = .ok (.iload_n 1, 1) := by decide +kernel
theorem dX8_borrow_45 : decode cX8_borrow 45 = .ok (.if_icmp .eq 21, 3) := by decide +kernel
theorem dX8_borrow_48 : decode cX8_borrow 48 = .ok (.aload_n 0, 1) := by decide +kernel
theorem dX8_borrow_49 : decode cX8_borrow 49 = .ok (.getfield 24, 3) := by decide +kernel
theorem dX8_borrow_52 : decode cX8_borrow 52 = .ok (.iload 4, 2) := by decide +kernel
theorem dX8_borrow_54 : decode cX8_borrow 54 = .ok (.aaload, 1) := by decide +kernel
theorem dX8_borrow_55 : decode cX8_borrow 55 = .ok (.getfield 48, 3) := by decide +kernel
theorem dX8_borrow_58 : decode cX8_borrow 58 = .ok (.iload_n 1, 1) := by decide +kernel
theorem dX8_borrow_59 : decode cX8_borrow 59 = .ok (.if_icmp .ne 7, 3) := by decide +kernel
theorem dX8_borrow_62 : decode cX8_borrow 62 = .ok (.iconst 1, 1) := by decide +kernel
theorem dX8_borrow_63 : decode cX8_borrow 63 = .ok (.goto 4, 3) := by decide +kernel
theorem dX8_borrow_66 : decode cX8_borrow 66 = .ok (.iconst 0, 1) := by decide +kernel
theorem dX8_borrow_67 : decode cX8_borrow 67 = .ok (.ior, 1) := by decide +kernel
theorem dX8_borrow_68 : decode cX8_borrow 68 = .ok (.istore_n 3, 1) := by decide +kernel
theorem dX8_borrow_69 : decode cX8_borrow 69 = .ok (.iinc 4 1, 3) := by decide +kernel
theorem dX8_borrow_72 : decode cX8_borrow 72 = .ok (.goto (-38), 3) := by decide +kernel
theorem dX8_borrow_75 : decode cX8_borrow 75 = .ok (.aload_n 0, 1) := by decide +kernel
theorem dX8_borrow_76 : decode cX8_borrow 76 = .ok (.iload_n 2, 1) := by decide +kernel
theorem dX8_borrow_77 : decode cX8_borrow 77 = .ok (.iload_n 1, 1) := by decide +kernel
theorem dX8_borrow_78 : decode cX8_borrow 78 = .ok (.if_icmp .eq 20, 3) := by decide +kernel
theorem dX8_borrow_81 : decode cX8_borrow 81 = .ok (.aload_n 0, 1) := by decide +kernel
theorem dX8_borrow_82 : decode cX8_borrow 82 = .ok (.getfield 24, 3) := by decide +kernel
theorem dX8_borrow_85 : decode cX8_borrow 85 = .ok (.iload_n 2, 1) := by decide +kernel
theorem dX8_borrow_86 : decode cX8_borrow 86 = .ok (.aaload, 1) := by decide +kernel
theorem dX8_borrow_87 : decode cX8_borrow 87 = .ok (.getfield 48, 3) := by decide +kernel
theorem dX8_borrow_90 : decode cX8_borrow 90 = .ok (.iload_n 2, 1) := by decide +kernel
theorem dX8_borrow_91 : decode cX8_borrow 91 = .ok (.if_icmp .ne 11, 3) := by decide +kernel
theorem dX8_borrow_94 : decode cX8_borrow 94 = .ok (.iload_n 3, 1) := by decide +kernel
theorem dX8_borrow_95 : decode cX8_borrow 95 = .ok (.ifCond .ne 7, 3) := by decide +kernel
theorem dX8_borrow_98 : decode cX8_borrow 98 = .ok (.iconst 1, 1) := by decide +kernel
theorem dX8_borrow_99 : decode cX8_borrow 99 = .ok (.goto 4, 3) := by decide +kernel
theorem dX8_borrow_102 : decode cX8_borrow 102 = .ok (.iconst 0, 1) := by decide +kernel
theorem dX8_borrow_103 : decode cX8_borrow 103 = .ok (.iconst 2, 1) := by decide +kernel
theorem dX8_borrow_104 : decode cX8_borrow 104 = .ok (.invokevirtual 64, 3) := by decide +kernel
theorem dX8_borrow_107 : decode cX8_borrow 107 = .ok (.ifCond .eq 5, 3) := by decide +kernel
theorem dX8_borrow_110 : decode cX8_borrow 110 = .ok (.iconst 0, 1) := by decide +kernel
theorem dX8_borrow_111 : decode cX8_borrow 111 = .ok (.ireturn, 1) := by decide +kernel
theorem dX8_borrow_112 : decode cX8_borrow 112 = .ok (.aload_n 0, 1) := by decide +kernel
theorem dX8_borrow_113 : decode cX8_borrow 113 = .ok (.getfield 24, 3) := by decide +kernel
theorem dX8_borrow_116 : decode cX8_borrow 116 = .ok (.iload_n 1, 1) := by decide +kernel
theorem dX8_borrow_117 : decode cX8_borrow 117 = .ok (.aaload, 1) := by decide +kernel
theorem dX8_borrow_118 : decode cX8_borrow 118 = .ok (.getfield 48, 3) := by decide +kernel
theorem dX8_borrow_121 : decode cX8_borrow 121 = .ok (.istore 4, 2) := by decide +kernel
theorem dX8_borrow_123 : decode cX8_borrow 123 = .ok (.aload_n 0, 1) := by decide +kernel
theorem dX8_borrow_124 : decode cX8_borrow 124 = .ok (.getfield 24, 3) := by decide +kernel
theorem dX8_borrow_127 : decode cX8_borrow 127 = .ok (.iload_n 1, 1) := by decide +kernel
theorem dX8_borrow_128 : decode cX8_borrow 128 = .ok (.aaload, 1) := by decide +kernel
theorem dX8_borrow_129 : decode cX8_borrow 129 = .ok (.iload_n 2, 1) := by decide +kernel
theorem dX8_borrow_130 : decode cX8_borrow 130 = .ok (.putfield 48, 3) := by decide +kernel
theorem dX8_borrow_133 : decode cX8_borrow 133 = .ok (.iload 4, 2) := by decide +kernel
theorem dX8_borrow_135 : decode cX8_borrow 135 = .ok (.ireturn, 1) := by decide +kernel
theorem dX8_set_0 : decode cX8_set 0 = .ok (.ldc 145, 2) := by decide +kernel
theorem dX8_set_2 : decode cX8_set 2 = .ok (.iload_n 1, 1) := by decide +kernel
theorem dX8_set_3 : decode cX8_set 3 = .ok (.invokevirtual 127, 3) := by decide +kernel
theorem dX8_set_6 : decode cX8_set 6 = .ok (.istore_n 3, 1) := by decide +kernel
theorem dX8_set_7 : decode cX8_set 7 = .ok (.aload_n 0, 1) := by decide +kernel
theorem dX8_set_8 : decode cX8_set 8 = .ok (.iload_n 3, 1) := by decide +kernel
theorem dX8_set_9 : decode cX8_set 9 = .ok (.ifCond .lt 45, 3) := by decide +kernel
theorem dX8_set_12 : decode cX8_set 12 = .ok (.iload_n 2, 1) := by decide +kernel
theorem dX8_set_13 : decode cX8_set 13 = .ok (.iconst 0, 1) := by decide +kernel
theorem dX8_set_14 : decode cX8_set 14 = .ok (.iconst 4, 1) := by decide +kernel
theorem dX8_set_15 : decode cX8_set 15 = .ok (.newarray .int, 2) := by decide +kernel
theorem dX8_set_17 : decode cX8_set 17 = .ok (.dup, 1) := by decide +kernel
theorem dX8_set_18 : decode cX8_set 18 = .ok (.iconst 0, 1) := by decide +kernel
theorem dX8_set_19 : decode cX8_set 19 = .ok (.iconst 3, 1) := by decide +kernel
theorem dX8_set_20 : decode cX8_set 20 = .ok (.iastore, 1) := by decide +kernel
theorem dX8_set_21 : decode cX8_set 21 = .ok (.dup, 1) := by decide +kernel
theorem dX8_set_22 : decode cX8_set 22 = .ok (.iconst 1, 1) := by decide +kernel
theorem dX8_set_23 : decode cX8_set 23 = .ok (.sipush 999, 3) := by decide +kernel
theorem dX8_set_26 : decode cX8_set 26 = .ok (.iastore, 1) := by decide +kernel
theorem dX8_set_27 : decode cX8_set 27 = .ok (.dup, 1) := by decide +kernel
theorem dX8_set_28 : decode cX8_set 28 = .ok (.iconst 2, 1) := by decide +kernel
theorem dX8_set_29 : decode cX8_set 29 = .ok (.sipush 300, 3) := by decide +kernel
theorem dX8_set_32 : decode cX8_set 32 = .ok (.iastore, 1) := by decide +kernel
theorem dX8_set_33 : decode cX8_set 33 = .ok (.dup, 1) := by decide +kernel
theorem dX8_set_34 : decode cX8_set 34 = .ok (.iconst 3, 1) := by decide +kernel
theorem dX8_set_35 : decode cX8_set 35 = .ok (.bipush 99, 2) := by decide +kernel
theorem dX8_set_37 : decode cX8_set 37 = .ok (.iastore, 1) := by decide +kernel
theorem dX8_set_38 : decode cX8_set 38 = .ok (.iconst 0, 1) := by decide +kernel
theorem dX8_set_39 : decode cX8_set 39 = .ok (.iload_n 3, 1) := by decide +kernel
theorem dX8_set_40 : decode cX8_set 40 = .ok (.invokestatic 147, 3) := by decide +kernel
theorem dX8_set_43 : decode cX8_set 43 = .ok (.iaload, 1) := by decide +kernel
theorem dX8_set_44 : decode cX8_set 44 = .ok (.invokestatic 60, 3) := by decide +kernel
theorem dX8_set_47 : decode cX8_set 47 = .ok (.ifCond .eq 7, 3) := by decide +kernel
theorem dX8_set_50 : decode cX8_set 50 = .ok (.iconst 1, 1) := by decide +kernel
theorem dX8_set_51 : decode cX8_set 51 = .ok (.goto 4, 3) := by decide +kernel
theorem dX8_set_54 : decode cX8_set 54 = .ok (.iconst 0, 1) := by decide +kernel
theorem dX8_set_55 : decode cX8_set 55 = .ok (.iconst 1, 1) := by decide +kernel
theorem dX8_set_56 : decode cX8_set 56 = .ok (.invokevirtual 64, 3) := by decide +kernel
theorem dX8_set_59 : decode cX8_set 59 = .ok (.ifCond .eq 5, 3) := by decide +kernel
theorem dX8_set_62 : decode cX8_set 62 = .ok (.iconst 0, 1) := by decide +kernel
theorem dX8_set_63 : decode cX8_set 63 = .ok (.ireturn, 1) := by decide +kernel
theorem dX8_set_64 : decode cX8_set 64 = .ok (.aload_n 0, 1) := by decide +kernel
theorem dX8_set_65 : decode cX8_set 65 = .ok (.getfield 28, 3) := by decide +kernel
theorem dX8_set_68 : decode cX8_set 68 = .ok (.iload_n 3, 1) := by decide +kernel
theorem dX8_set_69 : decode cX8_set 69 = .ok (.iaload, 1) := by decide +kernel
theorem dX8_set_70 : decode cX8_set 70 = .ok (.istore 4, 2) := by decide +kernel
theorem dX8_set_72 : decode cX8_set 72 = .ok (.aload_n 0, 1) := by decide +kernel
theorem dX8_set_73 : decode cX8_set 73 = .ok (.getfield 28, 3) := by decide +kernel
theorem dX8_set_76 : decode cX8_set 76 = .ok (.iload_n 3, 1) := by decide +kernel
theorem dX8_set_77 : decode cX8_set 77 = .ok (.iload_n 2, 1) := by decide +kernel
theorem dX8_set_78 : decode cX8_set 78 = .ok (.iastore, 1) := by decide +kernel
theorem dX8_set_79 : decode cX8_set 79 = .ok (.iload 4, 2) := by decide +kernel
theorem dX8_set_81 : decode cX8_set 81 = .ok (.ireturn, 1) := by decide +kernel
theorem dX8_maker_0 : decode cX8_maker 0 = .ok (.aload_n 0, 1) := by decide +kernel
theorem dX8_maker_1 : decode cX8_maker 1 = .ok (.iload_n 1, 1) := by decide +kernel
theorem dX8_maker_2 : decode cX8_maker 2 = .ok (.bipush 97, 2) := by decide +kernel
theorem dX8_maker_4 : decode cX8_maker 4 = .ok (.bipush 99, 2) := by decide +kernel
theorem dX8_maker_6 : decode cX8_maker 6 = .ok (.invokestatic 60, 3) := by decide +kernel
theorem dX8_maker_9 : decode cX8_maker 9 = .ok (.iconst 1, 1) := by decide +kernel
theorem dX8_maker_10 : decode cX8_maker 10 = .ok (.invokevirtual 64, 3) := by decide +kernel
theorem dX8_maker_13 : decode cX8_maker 13 = .ok (.ifCond .eq 6, 3) := by decide +kernel
theorem dX8_maker_16 : decode cX8_maker 16 = .ok (.bipush 45, 2) := by decide +kernel
theorem dX8_maker_18 : decode cX8_maker 18 = .ok (.ireturn, 1) := by decide +kernel
theorem dX8_maker_19 : decode cX8_maker 19 = .ok (.aload_n 0, 1) := by decide +kernel
theorem dX8_maker_20 : decode cX8_maker 20 = .ok (.getfield 43, 3) := by decide +kernel
theorem dX8_maker_23 : decode cX8_maker 23 = .ok (.istore_n 2, 1) := by decide +kernel
theorem dX8_maker_24 : decode cX8_maker 24 = .ok (.aload_n 0, 1) := by decide +kernel
theorem dX8_maker_25 : decode cX8_maker 25 = .ok (.iload_n 1, 1) := by decide +kernel
theorem dX8_maker_26 : decode cX8_maker 26 = .ok (.putfield 43, 3) := by decide +kernel
theorem dX8_maker_29 : decode cX8_maker 29 = .ok (.iload_n 2, 1) := by decide +kernel
theorem dX8_maker_30 : decode cX8_maker 30 = .ok (.ireturn, 1) := by decide +kernel
theorem dX8_load_0 : decode cX8_load 0 = .ok (.aload_n 0, 1) := by decide +kernel
theorem dX8_load_1 : decode cX8_load 1 = .ok (.aload_n 0, 1) := by decide +kernel
theorem dX8_load_2 : decode cX8_load 2 = .ok (.iload_n 1, 1) := by decide +kernel
theorem dX8_load_3 : decode cX8_load 3 = .ok (.invokevirtual 74, 3) := by decide +kernel
theorem dX8_load_6 : decode cX8_load 6 = .ok (.iconst 1, 1) := by decide +kernel
theorem dX8_load_7 : decode cX8_load 7 = .ok (.invokevirtual 64, 3) := by decide +kernel
theorem dX8_load_10 : decode cX8_load 10 = .ok (.ifCond .eq 5, 3) := by decide +kernel
theorem dX8_load_13 : decode cX8_load 13 = .ok (.iconst 0, 1) := by decide +kernel
theorem dX8_load_14 : decode cX8_load 14 = .ok (.ireturn, 1) := by decide +kernel
theorem dX8_load_15 : decode cX8_load 15 = .ok (.aload_n 0, 1) := by decide +kernel
theorem dX8_load_16 : decode cX8_load 16 = .ok (.getfield 19, 3) := by decide +kernel
theorem dX8_load_19 : decode cX8_load 19 = .ok (.invokeinterface 118 1, 5) := by decide +kernel
theorem dX8_load_24 : decode cX8_load 24 = .ok (.aload_n 0, 1) := by decide +kernel
theorem dX8_load_25 : decode cX8_load 25 = .ok (.iconst 0, 1) := by decide +kernel
theorem dX8_load_26 : decode cX8_load 26 = .ok (.putfield 152, 3) := by decide +kernel
theorem dX8_load_29 : decode cX8_load 29 = .ok (.aload_n 0, 1) := by decide +kernel
theorem dX8_load_30 : decode cX8_load 30 = .ok (.iconst 0, 1) := by decide +kernel
theorem dX8_load_31 : decode cX8_load 31 = .ok (.putfield 155, 3) := by decide +kernel
theorem dX8_load_34 : decode cX8_load 34 = .ok (.aload_n 0, 1) := by decide +kernel
theorem dX8_load_35 : decode cX8_load 35 = .ok (.iconst 0, 1) := by decide +kernel
theorem dX8_load_36 : decode cX8_load 36 = .ok (.putfield 158, 3) := by decide +kernel
theorem dX8_load_39 : decode cX8_load 39 = .ok (.aload_n 0, 1) := by decide +kernel
theorem dX8_load_40 : decode cX8_load 40 = .ok (.sipush 1000, 3) := by decide +kernel
theorem dX8_load_43 : decode cX8_load 43 = .ok (.putfield 161, 3) := by decide +kernel
theorem dX8_load_46 : decode cX8_load 46 = .ok (.aload_n 0, 1) := by decide +kernel
theorem dX8_load_47 : decode cX8_load 47 = .ok (.iconst 3, 1) := by decide +kernel
theorem dX8_load_48 : decode cX8_load 48 = .ok (.putfield 164, 3) := by decide +kernel
theorem dX8_load_51 : decode cX8_load 51 = .ok (.aload_n 0, 1) := by decide +kernel
theorem dX8_load_52 : decode cX8_load 52 = .ok (.iconst 0, 1) := by decide +kernel
theorem dX8_load_53 : decode cX8_load 53 = .ok (.putfield 167, 3) := by decide +kernel
theorem dX8_load_56 : decode cX8_load 56 = .ok (.aload_n 0, 1) := by decide +kernel
theorem dX8_load_57 : decode cX8_load 57 = .ok (.iconst 0, 1) := by decide +kernel
theorem dX8_load_58 : decode cX8_load 58 = .ok (.putfield 170, 3) := by decide +kernel
theorem dX8_load_61 : decode cX8_load 61 = .ok (.aload_n 0, 1) := by decide +kernel
theorem dX8_load_62 : decode cX8_load 62 = .ok (.bipush 16, 2) := by decide +kernel
theorem dX8_load_64 : decode cX8_load 64 = .ok (.newarray .boolean, 2) := by decide +kernel
theorem dX8_load_66 : decode cX8_load 66 = .ok (.putfield 32, 3) := by decide +kernel
theorem dX8_load_69 : decode cX8_load 69 = .ok (.aload_n 0, 1) := by decide +kernel
theorem dX8_load_70 : decode cX8_load 70 = .ok (.getfield 24, 3) := by decide +kernel
theorem dX8_load_73 : decode cX8_load 73 = .ok (.astore_n 2, 1) := by decide +kernel
theorem dX8_load_74 : decode cX8_load 74 = .ok (.aload_n 2, 1) := by decide +kernel
theorem dX8_load_75 : decode cX8_load 75 = .ok (.arraylength, 1) := by decide +kernel
theorem dX8_load_76 : decode cX8_load 76 = .ok (.istore_n 3, 1) := by decide +kernel
theorem dX8_load_77 : decode cX8_load 77 = .ok (.iconst 0, 1) := by decide +kernel
theorem dX8_load_78 : decode cX8_load 78 = .ok (.istore 4, 2) := by decide +kernel
theorem dX8_load_80 : decode cX8_load 80 = .ok (.iload 4, 2) := by decide +kernel
theorem dX8_load_82 : decode cX8_load 82 = .ok (.iload_n 3, 1) := by decide +kernel
theorem dX8_load_83 : decode cX8_load 83 = .ok (.if_icmp .ge 33, 3) := by decide +kernel
theorem dX8_load_86 : decode cX8_load 86 = .ok (.aload_n 2, 1) := by decide +kernel
theorem dX8_load_87 : decode cX8_load 87 = .ok (.iload 4, 2) := by decide +kernel
theorem dX8_load_89 : decode cX8_load 89 = .ok (.aaload, 1) := by decide +kernel
theorem dX8_load_90 : decode cX8_load 90 = .ok (.astore 5, 2) := by decide +kernel
theorem dX8_load_92 : decode cX8_load 92 = .ok (.aload 5, 2) := by decide +kernel
theorem dX8_load_94 : decode cX8_load 94 = .ok (.iconst 0, 1) := by decide +kernel
theorem dX8_load_95 : decode cX8_load 95 = .ok (.putfield 174, 3) := by decide +kernel
theorem dX8_load_98 : decode cX8_load 98 = .ok (.aload 5, 2) := by decide +kernel
theorem dX8_load_100 : decode cX8_load 100 = .ok (.iconst (-1), 1) := by decide +kernel
theorem dX8_load_101 : decode cX8_load 101 = .ok (.putfield 177, 3) := by decide +kernel
theorem dX8_load_104 : decode cX8_load 104 = .ok (.aload 5, 2) := by decide +kernel
theorem dX8_load_106 : decode cX8_load 106 = .ok (.iconst 0, 1) := by decide +kernel
theorem dX8_load_107 : decode cX8_load 107 = .ok (.putfield 180, 3) := by decide +kernel
theorem dX8_load_110 : decode cX8_load 110 = .ok (.iinc 4 1, 3) := by decide +kernel
theorem dX8_load_113 : decode cX8_load 113 = .ok (.goto (-33), 3) := by decide +kernel
theorem dX8_load_116 : decode cX8_load 116 = .ok (.aload_n 0, 1) := by decide +kernel
theorem dX8_load_117 : decode cX8_load 117 = .ok (.aload_n 0, 1) := by decide +kernel
theorem dX8_load_118 : decode cX8_load 118 = .ok (.iload_n 1, 1) := by decide +kernel
theorem dX8_load_119 : decode cX8_load 119 = .ok (.invokevirtual 85, 3) := by decide +kernel
theorem dX8_load_122 : decode cX8_load 122 = .ok (.ifCond .le 7, 3) := by decide +kernel
theorem dX8_load_125 : decode cX8_load 125 = .ok (.iload_n 1, 1) := by decide +kernel
theorem dX8_load_126 : decode cX8_load 126 = .ok (.goto 4, 3) := by decide +kernel
theorem dX8_load_129 : decode cX8_load 129 = .ok (.iconst (-1), 1) := by decide +kernel
theorem dX8_load_130 : decode cX8_load 130 = .ok (.putfield 36, 3) := by decide +kernel
theorem dX8_load_133 : decode cX8_load 133 = .ok (.aload_n 0, 1) := by decide +kernel
theorem dX8_load_134 : decode cX8_load 134 = .ok (.iload_n 1, 1) := by decide +kernel
theorem dX8_load_135 : decode cX8_load 135 = .ok (.invokevirtual 85, 3) := by decide +kernel
theorem dX8_load_138 : decode cX8_load 138 = .ok (.ireturn, 1) := by decide +kernel
theorem dX8_noPlay_0 : decode cX8_noPlay 0 = .ok (.aload_n 0, 1) := by decide +kernel
theorem dX8_noPlay_1 : decode cX8_noPlay 1 = .ok (.aload_n 0, 1) := by decide +kernel
theorem dX8_noPlay_2 : decode cX8_noPlay 2 = .ok (.getfield 36, 3) := by decide +kernel
theorem dX8_noPlay_5 : decode cX8_noPlay 5 = .ok (.ifCond .lt 7, 3) := by decide +kernel
theorem dX8_noPlay_8 : decode cX8_noPlay 8 = .ok (.iconst 1, 1) := by decide +kernel
theorem dX8_noPlay_9 : decode cX8_noPlay 9 = .ok (.goto 4, 3) := by decide +kernel
theorem dX8_noPlay_12 : decode cX8_noPlay 12 = .ok (.iconst 0, 1) := by decide +kernel
theorem dX8_noPlay_13 : decode cX8_noPlay 13 = .ok (.iconst 1, 1) := by decide +kernel
theorem dX8_noPlay_14 : decode cX8_noPlay 14 = .ok (.invokevirtual 64, 3) := by decide +kernel
theorem dX8_noPlay_17 : decode cX8_noPlay 17 = .ok (.ireturn, 1) := by decide +kernel
theorem dX8_aside_0 : decode cX8_aside 0 = .ok (.aload_n 0, 1) := by decide +kernel
theorem dX8_aside_1 : decode cX8_aside 1 = .ok (.invokevirtual 183, 3) := by decide +kernel
theorem dX8_aside_4 : decode cX8_aside 4 = .ok (.ifCond .ne 18, 3) := by decide +kernel
theorem dX8_aside_7 : decode cX8_aside 7 = .ok (.aload_n 0, 1) := by decide +kernel
theorem dX8_aside_8 : decode cX8_aside 8 = .ok (.iload_n 1, 1) := by decide +kernel
theorem dX8_aside_9 : decode cX8_aside 9 = .ok (.bipush (-2), 2) := by decide +kernel
theorem dX8_aside_11 : decode cX8_aside 11 = .ok (.iconst 2, 1) := by decide +kernel
theorem dX8_aside_12 : decode cX8_aside 12 = .ok (.invokestatic 60, 3) := by decide +kernel
theorem dX8_aside_15 : decode cX8_aside 15 = .ok (.iconst 2, 1) := by decide +kernel
theorem dX8_aside_16 : decode cX8_aside 16 = .ok (.invokevirtual 64, 3) := by decide +kernel
theorem dX8_aside_19 : decode cX8_aside 19 = .ok (.ifCond .eq 5, 3) := by decide +kernel
theorem dX8_aside_22 : decode cX8_aside 22 = .ok (.iconst 0, 1) := by decide +kernel
theorem dX8_aside_23 : decode cX8_aside 23 = .ok (.ireturn, 1) := by decide +kernel
theorem dX8_aside_24 : decode cX8_aside 24 = .ok (.aload_n 0, 1) := by decide +kernel
theorem dX8_aside_25 : decode cX8_aside 25 = .ok (.getfield 167, 3) := by decide +kernel
theorem dX8_aside_28 : decode cX8_aside 28 = .ok (.istore_n 2, 1) := by decide +kernel
theorem dX8_aside_29 : decode cX8_aside 29 = .ok (.aload_n 0, 1) := by decide +kernel
theorem dX8_aside_30 : decode cX8_aside 30 = .ok (.iload_n 1, 1) := by decide +kernel
theorem dX8_aside_31 : decode cX8_aside 31 = .ok (.putfield 167, 3) := by decide +kernel
theorem dX8_aside_34 : decode cX8_aside 34 = .ok (.iload_n 2, 1) := by decide +kernel
theorem dX8_aside_35 : decode cX8_aside 35 = .ok (.ireturn, 1) := by decide +kernel
theorem dX8_codes_0 : decode cX8_codes 0 = .ok (.iconst 0, 1) := by decide +kernel
theorem dX8_codes_1 : decode cX8_codes 1 = .ok (.istore_n 2, 1) := by decide +kernel
theorem dX8_codes_2 : decode cX8_codes 2 = .ok (.aload_n 0, 1) := by decide +kernel
theorem dX8_codes_3 : decode cX8_codes 3 = .ok (.getfield 43, 3) := by decide +kernel
theorem dX8_codes_6 : decode cX8_codes 6 = .ok (.bipush 97, 2) := by decide +kernel
theorem dX8_codes_8 : decode cX8_codes 8 = .ok (.if_icmp .ne 49, 3) := by decide +kernel
theorem dX8_codes_11 : decode cX8_codes 11 = .ok (.aload_n 0, 1) := by decide +kernel
theorem dX8_codes_12 : decode cX8_codes 12 = .ok (.aload_n 1, 1) := by decide +kernel
theorem dX8_codes_13 : decode cX8_codes 13 = .ok (.bipush 14, 2) := by decide +kernel
theorem dX8_codes_15 : decode cX8_codes 15 = .ok (.baload, 1) := by decide +kernel
theorem dX8_codes_16 : decode cX8_codes 16 = .ok (.ifCond .ne 21, 3) := by decide +kernel
theorem dX8_codes_19 : decode cX8_codes 19 = .ok (.aload_n 1, 1) := by decide +kernel
theorem dX8_codes_20 : decode cX8_codes 20 = .ok (.bipush 13, 2) := by decide +kernel
theorem dX8_codes_22 : decode cX8_codes 22 = .ok (.baload, 1) := by decide +kernel
theorem dX8_codes_23 : decode cX8_codes 23 = .ok (.ifCond .ne 10, 3) := by decide +kernel
theorem dX8_codes_26 : decode cX8_codes 26 = .ok (.aload_n 0, 1) := by decide +kernel
theorem dX8_codes_27 : decode cX8_codes 27 = .ok (.getfield 170, 3) := by decide +kernel
theorem dX8_codes_30 : decode cX8_codes 30 = .ok (.ifCond .eq 7, 3) := by decide +kernel
theorem dX8_codes_33 : decode cX8_codes 33 = .ok (.iconst 1, 1) := by decide +kernel
theorem dX8_codes_34 : decode cX8_codes 34 = .ok (.goto 4, 3) := by decide +kernel
theorem dX8_codes_37 : decode cX8_codes 37 = .ok (.iconst 0, 1) := by decide +kernel
theorem dX8_codes_38 : decode cX8_codes 38 = .ok (.putfield 170, 3) := by decide +kernel
theorem dX8_codes_41 : decode cX8_codes 41 = .ok (.aload_n 0, 1) := by decide +kernel
theorem dX8_codes_42 : decode cX8_codes 42 = .ok (.getfield 170, 3) := by decide +kernel
theorem dX8_codes_45 : decode cX8_codes 45 = .ok (.ifCond .eq 7, 3) := by decide +kernel
theorem dX8_codes_48 : decode cX8_codes 48 = .ok (.iconst 1, 1) := by decide +kernel
theorem dX8_codes_49 : decode cX8_codes 49 = .ok (.goto 4, 3) := by decide +kernel
theorem dX8_codes_52 : decode cX8_codes 52 = .ok (.iconst (-1), 1) := by decide +kernel
theorem dX8_codes_53 : decode cX8_codes 53 = .ok (.istore_n 2, 1) := by decide +kernel
theorem dX8_codes_54 : decode cX8_codes 54 = .ok (.goto 123, 3) := by decide +kernel
theorem dX8_codes_57 : decode cX8_codes 57 = .ok (.aload_n 0, 1) := by decide +kernel
theorem dX8_codes_58 : decode cX8_codes 58 = .ok (.getfield 43, 3) := by decide +kernel
theorem dX8_codes_61 : decode cX8_codes 61 = .ok (.bipush 98, 2) := by decide +kernel
theorem dX8_codes_63 : decode cX8_codes 63 = .ok (.if_icmp .ne 56, 3) := by decide +kernel
theorem dX8_codes_66 : decode cX8_codes 66 = .ok (.iload_n 2, 1) := by decide +kernel
theorem dX8_codes_67 : decode cX8_codes 67 = .ok (.aload_n 1, 1) := by decide +kernel
theorem dX8_codes_68 : decode cX8_codes 68 = .ok (.bipush 13, 2) := by decide +kernel
theorem dX8_codes_70 : decode cX8_codes 70 = .ok (.baload, 1) := by decide +kernel
theorem dX8_codes_71 : decode cX8_codes 71 = .ok (.ifCond .eq 17, 3) := by decide +kernel
theorem dX8_codes_74 : decode cX8_codes 74 = .ok (.aload_n 0, 1) := by decide +kernel
theorem dX8_codes_75 : decode cX8_codes 75 = .ok (.getfield 32, 3) := by decide +kernel
theorem dX8_codes_78 : decode cX8_codes 78 = .ok (.bipush 13, 2) := by decide +kernel
theorem dX8_codes_80 : decode cX8_codes 80 = .ok (.baload, 1) := by decide +kernel
theorem dX8_codes_81 : decode cX8_codes 81 = .ok (.ifCond .ne 7, 3) := by decide +kernel
theorem dX8_codes_84 : decode cX8_codes 84 = .ok (.iconst 1, 1) := by decide +kernel
theorem dX8_codes_85 : decode cX8_codes 85 = .ok (.goto 4, 3) := by decide +kernel
theorem dX8_codes_88 : decode cX8_codes 88 = .ok (.iconst 0, 1) := by decide +kernel
theorem dX8_codes_89 : decode cX8_codes 89 = .ok (.iadd, 1) := by decide +kernel
theorem dX8_codes_90 : decode cX8_codes 90 = .ok (.istore_n 2, 1) := by decide +kernel
theorem dX8_codes_91 : decode cX8_codes 91 = .ok (.iload_n 2, 1) := by decide +kernel
theorem dX8_codes_92 : decode cX8_codes 92 = .ok (.aload_n 1, 1) := by decide +kernel
theorem dX8_codes_93 : decode cX8_codes 93 = .ok (.bipush 14, 2) := by decide +kernel
theorem dX8_codes_95 : decode cX8_codes 95 = .ok (.baload, 1) := by decide +kernel
theorem dX8_codes_96 : decode cX8_codes 96 = .ok (.ifCond .eq 17, 3) := by decide +kernel
theorem dX8_codes_99 : decode cX8_codes 99 = .ok (.aload_n 0, 1) := by decide +kernel
theorem dX8_codes_100 : decode cX8_codes 100 = .ok (.getfield 32, 3) := by decide +kernel
theorem dX8_codes_103 : decode cX8_codes 103 = .ok (.bipush 14, 2) := by decide +kernel
theorem dX8_codes_105 : decode cX8_codes 105 = .ok (.baload, 1) := by decide +kernel
theorem dX8_codes_106 : decode cX8_codes 106 = .ok (.ifCond .ne 7, 3) := by decide +kernel
theorem dX8_codes_109 : decode cX8_codes 109 = .ok (.iconst 1, 1) := by decide +kernel
theorem dX8_codes_110 : decode cX8_codes 110 = .ok (.goto 4, 3) := by decide +kernel
theorem dX8_codes_113 : decode cX8_codes 113 = .ok (.iconst 0, 1) := by decide +kernel
theorem dX8_codes_114 : decode cX8_codes 114 = .ok (.isub, 1) := by decide +kernel
theorem dX8_codes_115 : decode cX8_codes 115 = .ok (.istore_n 2, 1) := by decide +kernel
theorem dX8_codes_116 : decode cX8_codes 116 = .ok (.goto 61, 3) := by decide +kernel
theorem dX8_codes_119 : decode cX8_codes 119 = .ok (.aload_n 1, 1) := by decide +kernel
theorem dX8_codes_120 : decode cX8_codes 120 = .ok (.bipush 13, 2) := by decide +kernel
theorem dX8_codes_122 : decode cX8_codes 122 = .ok (.baload, 1) := by decide +kernel
theorem dX8_codes_123 : decode cX8_codes 123 = .ok (.ifCond .ne 10, 3) := by decide +kernel
theorem dX8_codes_126 : decode cX8_codes 126 = .ok (.aload_n 1, 1) := by decide +kernel
theorem dX8_codes_127 : decode cX8_codes 127 = .ok (.bipush 14, 2) := by decide +kernel
theorem dX8_codes_129 : decode cX8_codes 129 = .ok (.baload, 1) := by decide +kernel
theorem dX8_codes_130 : decode cX8_codes 130 = .ok (.ifCond .eq 38, 3) := by decide +kernel
theorem dX8_codes_133 : decode cX8_codes 133 = .ok (.aload_n 1, 1) := by decide +kernel
theorem dX8_codes_134 : decode cX8_codes 134 = .ok (.bipush 13, 2) := by decide +kernel
theorem dX8_codes_136 : decode cX8_codes 136 = .ok (.baload, 1) := by decide +kernel
theorem dX8_codes_137 : decode cX8_codes 137 = .ok (.ifCond .eq 14, 3) := by decide +kernel
theorem dX8_codes_140 : decode cX8_codes 140 = .ok (.aload_n 1, 1) := by decide +kernel
theorem dX8_codes_141 : decode cX8_codes 141 = .ok (.bipush 14, 2) := by decide +kernel
theorem dX8_codes_143 : decode cX8_codes 143 = .ok (.baload, 1) := by decide +kernel
theorem dX8_codes_144 : decode cX8_codes 144 = .ok (.ifCond .eq 7, 3) := by decide +kernel
theorem dX8_codes_147 : decode cX8_codes 147 = .ok (.iconst 0, 1) := by decide +kernel
theorem dX8_codes_148 : decode cX8_codes 148 = .ok (.goto 16, 3) := by decide +kernel
theorem dX8_codes_151 : decode cX8_codes 151 = .ok (.aload_n 1, 1) := by decide +kernel
theorem dX8_codes_152 : decode cX8_codes 152 = .ok (.bipush 13, 2) := by decide +kernel
theorem dX8_codes_154 : decode cX8_codes 154 = .ok (.baload, 1) := by decide +kernel
theorem dX8_codes_155 : decode cX8_codes 155 = .ok (.ifCond .eq 7, 3) := by decide +kernel
theorem dX8_codes_158 : decode cX8_codes 158 = .ok (.iconst 2, 1) := by decide +kernel
theorem dX8_codes_159 : decode cX8_codes 159 = .ok (.goto 5, 3) := by decide +kernel
theorem dX8_codes_162 : decode cX8_codes 162 = .ok (.bipush (-2), 2) := by decide +kernel
theorem dX8_codes_164 : decode cX8_codes 164 = .ok (.istore_n 2, 1) := by decide +kernel
theorem dX8_codes_165 : decode cX8_codes 165 = .ok (.goto 12, 3) := by decide +kernel
theorem dX8_codes_168 : decode cX8_codes 168 = .ok (.iconst 3, 1) := by decide +kernel
theorem dX8_codes_169 : decode cX8_codes 169 = .ok (.aload_n 0, 1) := by decide +kernel
theorem dX8_codes_170 : decode cX8_codes 170 = .ok (.getfield 164, 3) := by decide +kernel
theorem dX8_codes_173 : decode cX8_codes 173 = .ok (.invokestatic 186, 3) := by decide +kernel
theorem dX8_codes_176 : decode cX8_codes 176 = .ok (.istore_n 2, 1) := by decide +kernel
theorem dX8_codes_177 : decode cX8_codes 177 = .ok (.aload_n 0, 1) := by decide +kernel
theorem dX8_codes_178 : decode cX8_codes 178 = .ok (.iconst 0, 1) := by decide +kernel
theorem dX8_codes_179 : decode cX8_codes 179 = .ok (.bipush 6, 2) := by decide +kernel
theorem dX8_codes_181 : decode cX8_codes 181 = .ok (.aload_n 0, 1) := by decide +kernel
theorem dX8_codes_182 : decode cX8_codes 182 = .ok (.getfield 164, 3) := by decide +kernel
theorem dX8_codes_185 : decode cX8_codes 185 = .ok (.iload_n 2, 1) := by decide +kernel
theorem dX8_codes_186 : decode cX8_codes 186 = .ok (.iadd, 1) := by decide +kernel
theorem dX8_codes_187 : decode cX8_codes 187 = .ok (.invokestatic 191, 3) := by decide +kernel
theorem dX8_codes_190 : decode cX8_codes 190 = .ok (.invokestatic 147, 3) := by decide +kernel
theorem dX8_codes_193 : decode cX8_codes 193 = .ok (.putfield 164, 3) := by decide +kernel
theorem dX8_codes_196 : decode cX8_codes 196 = .ok (.return_, 1) := by decide +kernel
theorem dX8_ends_0 : decode cX8_ends 0 = .ok (.aload_n 1, 1) := by decide +kernel
theorem dX8_ends_1 : decode cX8_ends 1 = .ok (.getfield 194, 3) := by decide +kernel
theorem dX8_ends_4 : decode cX8_ends 4 = .ok (.ifCond .lt 27, 3) := by decide +kernel
theorem dX8_ends_7 : decode cX8_ends 7 = .ok (.aload_n 0, 1) := by decide +kernel
theorem dX8_ends_8 : decode cX8_ends 8 = .ok (.getfield 19, 3) := by decide +kernel
theorem dX8_ends_11 : decode cX8_ends 11 = .ok (.aload_n 1, 1) := by decide +kernel
theorem dX8_ends_12 : decode cX8_ends 12 = .ok (.getfield 194, 3) := by decide +kernel
theorem dX8_ends_15 : decode cX8_ends 15 = .ok (.invokeinterface 81 2, 5) := by decide +kernel
theorem dX8_ends_20 : decode cX8_ends 20 = .ok (.checkcast 117, 3) := by decide +kernel
theorem dX8_ends_23 : decode cX8_ends 23 = .ok (.iconst 3, 1) := by decide +kernel
theorem dX8_ends_24 : decode cX8_ends 24 = .ok (.aload_n 0, 1) := by decide +kernel
theorem dX8_ends_25 : decode cX8_ends 25 = .ok (.getfield 158, 3) := by decide +kernel
theorem dX8_ends_28 : decode cX8_ends 28 = .ok (.iconst 1, 1) := by decide +kernel
theorem dX8_ends_29 : decode cX8_ends 29 = .ok (.isub, 1) := by decide +kernel
theorem dX8_ends_30 : decode cX8_ends 30 = .ok (.iastore, 1) := by decide +kernel
theorem dX8_ends_31 : decode cX8_ends 31 = .ok (.aload_n 1, 1) := by decide +kernel
theorem dX8_ends_32 : decode cX8_ends 32 = .ok (.iconst 0, 1) := by decide +kernel
theorem dX8_ends_33 : decode cX8_ends 33 = .ok (.putfield 180, 3) := by decide +kernel
theorem dX8_ends_36 : decode cX8_ends 36 = .ok (.return_, 1) := by decide +kernel
theorem dX8_begins_0 : decode cX8_begins 0 = .ok (.aload_n 0, 1) := by decide +kernel
theorem dX8_begins_1 : decode cX8_begins 1 = .ok (.getfield 24, 3) := by decide +kernel
theorem dX8_begins_4 : decode cX8_begins 4 = .ok (.iload_n 1, 1) := by decide +kernel
theorem dX8_begins_5 : decode cX8_begins 5 = .ok (.aaload, 1) := by decide +kernel
theorem dX8_begins_6 : decode cX8_begins 6 = .ok (.astore_n 2, 1) := by decide +kernel
theorem dX8_begins_7 : decode cX8_begins 7 = .ok (.aload_n 2, 1) := by decide +kernel
theorem dX8_begins_8 : decode cX8_begins 8 = .ok (.getfield 180, 3) := by decide +kernel
theorem dX8_begins_11 : decode cX8_begins 11 = .ok (.iconst 2, 1) := by decide +kernel
theorem dX8_begins_12 : decode cX8_begins 12 = .ok (.if_icmp .ne 8, 3) := by decide +kernel
theorem dX8_begins_15 : decode cX8_begins 15 = .ok (.aload_n 0, 1) := by decide +kernel
theorem dX8_begins_16 : decode cX8_begins 16 = .ok (.aload_n 2, 1) := by decide +kernel
theorem dX8_begins_17 : decode cX8_begins 17 = .ok (.invokevirtual 197, 3) := by decide +kernel
theorem dX8_begins_20 : decode cX8_begins 20 = .ok (.aload_n 2, 1) := by decide +kernel
theorem dX8_begins_21 : decode cX8_begins 21 = .ok (.iconst 1, 1) := by decide +kernel
theorem dX8_begins_22 : decode cX8_begins 22 = .ok (.putfield 180, 3) := by decide +kernel
theorem dX8_begins_25 : decode cX8_begins 25 = .ok (.aload_n 0, 1) := by decide +kernel
theorem dX8_begins_26 : decode cX8_begins 26 = .ok (.dup, 1) := by decide +kernel
theorem dX8_begins_27 : decode cX8_begins 27 = .ok (.getfield 155, 3) := by decide +kernel
theorem dX8_begins_30 : decode cX8_begins 30 = .ok (.iconst 1, 1) := by decide +kernel
theorem dX8_begins_31 : decode cX8_begins 31 = .ok (.iadd, 1) := by decide +kernel
theorem dX8_begins_32 : decode cX8_begins 32 = .ok (.putfield 155, 3) := by decide +kernel
theorem dX8_begins_35 : decode cX8_begins 35 = .ok (.aload_n 2, 1) := by decide +kernel
theorem dX8_begins_36 : decode cX8_begins 36 = .ok (.aload_n 0, 1) := by decide +kernel
theorem dX8_begins_37 : decode cX8_begins 37 = .ok (.getfield 19, 3) := by decide +kernel
theorem dX8_begins_40 : decode cX8_begins 40 = .ok (.invokeinterface 54 1, 5) := by decide +kernel
theorem dX8_begins_45 : decode cX8_begins 45 = .ok (.sipush 300, 3) := by decide +kernel
theorem dX8_begins_48 : decode cX8_begins 48 = .ok (.if_icmp .ge 15, 3) := by decide +kernel
theorem dX8_begins_51 : decode cX8_begins 51 = .ok (.aload_n 0, 1) := by decide +kernel
theorem dX8_begins_52 : decode cX8_begins 52 = .ok (.getfield 19, 3) := by decide +kernel
theorem dX8_begins_55 : decode cX8_begins 55 = .ok (.invokeinterface 54 1, 5) := by decide +kernel
theorem dX8_begins_60 : decode cX8_begins 60 = .ok (.goto 4, 3) := by decide +kernel
theorem dX8_begins_63 : decode cX8_begins 63 = .ok (.iconst (-1), 1) := by decide +kernel
theorem dX8_begins_64 : decode cX8_begins 64 = .ok (.putfield 194, 3) := by decide +kernel
theorem dX8_begins_67 : decode cX8_begins 67 = .ok (.aload_n 2, 1) := by decide +kernel
theorem dX8_begins_68 : decode cX8_begins 68 = .ok (.getfield 194, 3) := by decide +kernel
theorem dX8_begins_71 : decode cX8_begins 71 = .ok (.ifCond .lt 55, 3) := by decide +kernel
theorem dX8_begins_74 : decode cX8_begins 74 = .ok (.aload_n 0, 1) := by decide +kernel
theorem dX8_begins_75 : decode cX8_begins 75 = .ok (.getfield 19, 3) := by decide +kernel
theorem dX8_begins_78 : decode cX8_begins 78 = .ok (.iconst 5, 1) := by decide +kernel
theorem dX8_begins_79 : decode cX8_begins 79 = .ok (.newarray .int, 2) := by decide +kernel
theorem dX8_begins_81 : decode cX8_begins 81 = .ok (.dup, 1) := by decide +kernel
theorem dX8_begins_82 : decode cX8_begins 82 = .ok (.iconst 0, 1) := by decide +kernel
theorem dX8_begins_83 : decode cX8_begins 83 = .ok (.iload_n 1, 1) := by decide +kernel
theorem dX8_begins_84 : decode cX8_begins 84 = .ok (.iastore, 1) := by decide +kernel
theorem dX8_begins_85 : decode cX8_begins 85 = .ok (.dup, 1) := by decide +kernel
theorem dX8_begins_86 : decode cX8_begins 86 = .ok (.iconst 1, 1) := by decide +kernel
theorem dX8_begins_87 : decode cX8_begins 87 = .ok (.aload_n 2, 1) := by decide +kernel
theorem dX8_begins_88 : decode cX8_begins 88 = .ok (.getfield 201, 3) := by decide +kernel
theorem dX8_begins_91 : decode cX8_begins 91 = .ok (.iastore, 1) := by decide +kernel
theorem dX8_begins_92 : decode cX8_begins 92 = .ok (.dup, 1) := by decide +kernel
theorem dX8_begins_93 : decode cX8_begins 93 = .ok (.iconst 2, 1) := by decide +kernel
theorem dX8_begins_94 : decode cX8_begins 94 = .ok (.aload_n 0, 1) := by decide +kernel
theorem dX8_begins_95 : decode cX8_begins 95 = .ok (.getfield 158, 3) := by decide +kernel
theorem dX8_begins_98 : decode cX8_begins 98 = .ok (.iastore, 1) := by decide +kernel
theorem dX8_begins_99 : decode cX8_begins 99 = .ok (.dup, 1) := by decide +kernel
theorem dX8_begins_100 : decode cX8_begins 100 = .ok (.iconst 3, 1) := by decide +kernel
theorem dX8_begins_101 : decode cX8_begins 101 = .ok (.iconst (-1), 1) := by decide +kernel
theorem dX8_begins_102 : decode cX8_begins 102 = .ok (.iastore, 1) := by decide +kernel
theorem dX8_begins_103 : decode cX8_begins 103 = .ok (.dup, 1) := by decide +kernel
theorem dX8_begins_104 : decode cX8_begins 104 = .ok (.iconst 4, 1) := by decide +kernel
theorem dX8_begins_105 : decode cX8_begins 105 = .ok (.aload_n 0, 1) := by decide +kernel
theorem dX8_begins_106 : decode cX8_begins 106 = .ok (.getfield 161, 3) := by decide +kernel
theorem dX8_begins_109 : decode cX8_begins 109 = .ok (.aload_n 0, 1) := by decide +kernel
theorem dX8_begins_110 : decode cX8_begins 110 = .ok (.getfield 164, 3) := by decide +kernel
theorem dX8_begins_113 : decode cX8_begins 113 = .ok (.iconst 1, 1) := by decide +kernel
theorem dX8_begins_114 : decode cX8_begins 114 = .ok (.iadd, 1) := by decide +kernel
theorem dX8_begins_115 : decode cX8_begins 115 = .ok (.imul, 1) := by decide +kernel
theorem dX8_begins_116 : decode cX8_begins 116 = .ok (.bipush 70, 2) := by decide +kernel
theorem dX8_begins_118 : decode cX8_begins 118 = .ok (.idiv, 1) := by decide +kernel
theorem dX8_begins_119 : decode cX8_begins 119 = .ok (.iastore, 1) := by decide +kernel
theorem dX8_begins_120 : decode cX8_begins 120 = .ok (.invokeinterface 70 2, 5) := by decide +kernel
theorem dX8_begins_125 : decode cX8_begins 125 = .ok (.pop, 1) := by decide +kernel
theorem dX8_begins_126 : decode cX8_begins 126 = .ok (.return_, 1) := by decide +kernel
theorem dX8_moves_0 : decode cX8_moves 0 = .ok (.aload_n 0, 1) := by decide +kernel
theorem dX8_moves_1 : decode cX8_moves 1 = .ok (.getfield 24, 3) := by decide +kernel
theorem dX8_moves_4 : decode cX8_moves 4 = .ok (.iload_n 1, 1) := by decide +kernel
theorem dX8_moves_5 : decode cX8_moves 5 = .ok (.aaload, 1) := by decide +kernel
theorem dX8_moves_6 : decode cX8_moves 6 = .ok (.astore 4, 2) := by decide +kernel
theorem dX8_moves_8 : decode cX8_moves 8 = .ok (.aload 4, 2) := by decide +kernel
theorem dX8_moves_10 : decode cX8_moves 10 = .ok (.iload_n 2, 1) := by decide +kernel
theorem dX8_moves_11 : decode cX8_moves 11 = .ok (.ifCond .eq 7, 3) := by decide +kernel
theorem dX8_moves_14 : decode cX8_moves 14 = .ok (.iconst 0, 1) := by decide +kernel
theorem dX8_moves_15 : decode cX8_moves 15 = .ok (.goto 10, 3) := by decide +kernel
theorem dX8_moves_18 : decode cX8_moves 18 = .ok (.aload 4, 2) := by decide +kernel
theorem dX8_moves_20 : decode cX8_moves 20 = .ok (.getfield 204, 3) := by decide +kernel
theorem dX8_moves_23 : decode cX8_moves 23 = .ok (.iconst 1, 1) := by decide +kernel
theorem dX8_moves_24 : decode cX8_moves 24 = .ok (.iadd, 1) := by decide +kernel
theorem dX8_moves_25 : decode cX8_moves 25 = .ok (.putfield 204, 3) := by decide +kernel
theorem dX8_moves_28 : decode cX8_moves 28 = .ok (.iload_n 2, 1) := by decide +kernel
theorem dX8_moves_29 : decode cX8_moves 29 = .ok (.ifCond .eq 36, 3) := by decide +kernel
theorem dX8_moves_32 : decode cX8_moves 32 = .ok (.aload 4, 2) := by decide +kernel
theorem dX8_moves_34 : decode cX8_moves 34 = .ok (.getfield 174, 3) := by decide +kernel
theorem dX8_moves_37 : decode cX8_moves 37 = .ok (.ifCond .ne 28, 3) := by decide +kernel
theorem dX8_moves_40 : decode cX8_moves 40 = .ok (.aload 4, 2) := by decide +kernel
theorem dX8_moves_42 : decode cX8_moves 42 = .ok (.iconst 1, 1) := by decide +kernel
theorem dX8_moves_43 : decode cX8_moves 43 = .ok (.putfield 174, 3) := by decide +kernel
theorem dX8_moves_46 : decode cX8_moves 46 = .ok (.aload 4, 2) := by decide +kernel
theorem dX8_moves_48 : decode cX8_moves 48 = .ok (.aload_n 0, 1) := by decide +kernel
theorem dX8_moves_49 : decode cX8_moves 49 = .ok (.getfield 158, 3) := by decide +kernel
theorem dX8_moves_52 : decode cX8_moves 52 = .ok (.putfield 201, 3) := by decide +kernel
theorem dX8_moves_55 : decode cX8_moves 55 = .ok (.aload_n 0, 1) := by decide +kernel
theorem dX8_moves_56 : decode cX8_moves 56 = .ok (.dup, 1) := by decide +kernel
theorem dX8_moves_57 : decode cX8_moves 57 = .ok (.getfield 152, 3) := by decide +kernel
theorem dX8_moves_60 : decode cX8_moves 60 = .ok (.iconst 1, 1) := by decide +kernel
theorem dX8_moves_61 : decode cX8_moves 61 = .ok (.iadd, 1) := by decide +kernel
theorem dX8_moves_62 : decode cX8_moves 62 = .ok (.putfield 152, 3) := by decide +kernel
theorem dX8_moves_65 : decode cX8_moves 65 = .ok (.aload 4, 2) := by decide +kernel
theorem dX8_moves_67 : decode cX8_moves 67 = .ok (.getfield 174, 3) := by decide +kernel
theorem dX8_moves_70 : decode cX8_moves 70 = .ok (.ifCond .eq 55, 3) := by decide +kernel
theorem dX8_moves_73 : decode cX8_moves 73 = .ok (.aload 4, 2) := by decide +kernel
theorem dX8_moves_75 : decode cX8_moves 75 = .ok (.getfield 204, 3) := by decide +kernel
theorem dX8_moves_78 : decode cX8_moves 78 = .ok (.aload_n 0, 1) := by decide +kernel
theorem dX8_moves_79 : decode cX8_moves 79 = .ok (.getfield 28, 3) := by decide +kernel
theorem dX8_moves_82 : decode cX8_moves 82 = .ok (.iconst 0, 1) := by decide +kernel
theorem dX8_moves_83 : decode cX8_moves 83 = .ok (.iaload, 1) := by decide +kernel
theorem dX8_moves_84 : decode cX8_moves 84 = .ok (.if_icmp .le 41, 3) := by decide +kernel
theorem dX8_moves_87 : decode cX8_moves 87 = .ok (.aload 4, 2) := by decide +kernel
theorem dX8_moves_89 : decode cX8_moves 89 = .ok (.iconst 0, 1) := by decide +kernel
theorem dX8_moves_90 : decode cX8_moves 90 = .ok (.putfield 174, 3) := by decide +kernel
theorem dX8_moves_93 : decode cX8_moves 93 = .ok (.aload 4, 2) := by decide +kernel
theorem dX8_moves_95 : decode cX8_moves 95 = .ok (.aload_n 0, 1) := by decide +kernel
theorem dX8_moves_96 : decode cX8_moves 96 = .ok (.getfield 158, 3) := by decide +kernel
theorem dX8_moves_99 : decode cX8_moves 99 = .ok (.putfield 177, 3) := by decide +kernel
theorem dX8_moves_102 : decode cX8_moves 102 = .ok (.aload 4, 2) := by decide +kernel
theorem dX8_moves_104 : decode cX8_moves 104 = .ok (.aload 4, 2) := by decide +kernel
theorem dX8_moves_106 : decode cX8_moves 106 = .ok (.getfield 180, 3) := by decide +kernel
theorem dX8_moves_109 : decode cX8_moves 109 = .ok (.iconst 1, 1) := by decide +kernel
theorem dX8_moves_110 : decode cX8_moves 110 = .ok (.if_icmp .ne 7, 3) := by decide +kernel
theorem dX8_moves_113 : decode cX8_moves 113 = .ok (.iconst 2, 1) := by decide +kernel
theorem dX8_moves_114 : decode cX8_moves 114 = .ok (.goto 8, 3) := by decide +kernel
theorem dX8_moves_117 : decode cX8_moves 117 = .ok (.aload 4, 2) := by decide +kernel
theorem dX8_moves_119 : decode cX8_moves 119 = .ok (.getfield 180, 3) := by decide +kernel
theorem dX8_moves_122 : decode cX8_moves 122 = .ok (.putfield 180, 3) := by decide +kernel
theorem dX8_moves_125 : decode cX8_moves 125 = .ok (.aload 4, 2) := by decide +kernel
theorem dX8_moves_127 : decode cX8_moves 127 = .ok (.getfield 180, 3) := by decide +kernel
theorem dX8_moves_130 : decode cX8_moves 130 = .ok (.iconst 2, 1) := by decide +kernel
theorem dX8_moves_131 : decode cX8_moves 131 = .ok (.if_icmp .ne 13, 3) := by decide +kernel
theorem dX8_moves_134 : decode cX8_moves 134 = .ok (.iload_n 3, 1) := by decide +kernel
theorem dX8_moves_135 : decode cX8_moves 135 = .ok (.ifCond .ne 9, 3) := by decide +kernel
theorem dX8_moves_138 : decode cX8_moves 138 = .ok (.aload_n 0, 1) := by decide +kernel
theorem dX8_moves_139 : decode cX8_moves 139 = .ok (.aload 4, 2) := by decide +kernel
theorem dX8_moves_141 : decode cX8_moves 141 = .ok (.invokevirtual 197, 3) := by decide +kernel
theorem dX8_moves_144 : decode cX8_moves 144 = .ok (.aload_n 0, 1) := by decide +kernel
theorem dX8_moves_145 : decode cX8_moves 145 = .ok (.getfield 158, 3) := by decide +kernel
theorem dX8_moves_148 : decode cX8_moves 148 = .ok (.aload 4, 2) := by decide +kernel
theorem dX8_moves_150 : decode cX8_moves 150 = .ok (.getfield 201, 3) := by decide +kernel
theorem dX8_moves_153 : decode cX8_moves 153 = .ok (.aload 4, 2) := by decide +kernel
theorem dX8_moves_155 : decode cX8_moves 155 = .ok (.getfield 136, 3) := by decide +kernel
theorem dX8_moves_158 : decode cX8_moves 158 = .ok (.iadd, 1) := by decide +kernel
theorem dX8_moves_159 : decode cX8_moves 159 = .ok (.if_icmp .lt 33, 3) := by decide +kernel
theorem dX8_moves_162 : decode cX8_moves 162 = .ok (.aload 4, 2) := by decide +kernel
theorem dX8_moves_164 : decode cX8_moves 164 = .ok (.getfield 177, 3) := by decide +kernel
theorem dX8_moves_167 : decode cX8_moves 167 = .ok (.ifCond .lt 21, 3) := by decide +kernel
theorem dX8_moves_170 : decode cX8_moves 170 = .ok (.aload_n 0, 1) := by decide +kernel
theorem dX8_moves_171 : decode cX8_moves 171 = .ok (.getfield 158, 3) := by decide +kernel
theorem dX8_moves_174 : decode cX8_moves 174 = .ok (.aload 4, 2) := by decide +kernel
theorem dX8_moves_176 : decode cX8_moves 176 = .ok (.getfield 177, 3) := by decide +kernel
theorem dX8_moves_179 : decode cX8_moves 179 = .ok (.aload 4, 2) := by decide +kernel
theorem dX8_moves_181 : decode cX8_moves 181 = .ok (.getfield 139, 3) := by decide +kernel
theorem dX8_moves_184 : decode cX8_moves 184 = .ok (.iadd, 1) := by decide +kernel
theorem dX8_moves_185 : decode cX8_moves 185 = .ok (.if_icmp .lt 7, 3) := by decide +kernel
theorem dX8_moves_188 : decode cX8_moves 188 = .ok (.iconst 1, 1) := by decide +kernel
theorem dX8_moves_189 : decode cX8_moves 189 = .ok (.goto 4, 3) := by decide +kernel
theorem dX8_moves_192 : decode cX8_moves 192 = .ok (.iconst 0, 1) := by decide +kernel
theorem dX8_moves_193 : decode cX8_moves 193 = .ok (.istore 5, 2) := by decide +kernel
theorem dX8_moves_195 : decode cX8_moves 195 = .ok (.aload 4, 2) := by decide +kernel
theorem dX8_moves_197 : decode cX8_moves 197 = .ok (.getfield 174, 3) := by decide +kernel
theorem dX8_moves_200 : decode cX8_moves 200 = .ok (.ifCond .eq 35, 3) := by decide +kernel
theorem dX8_moves_203 : decode cX8_moves 203 = .ok (.aload 4, 2) := by decide +kernel
theorem dX8_moves_205 : decode cX8_moves 205 = .ok (.getfield 180, 3) := by decide +kernel
theorem dX8_moves_208 : decode cX8_moves 208 = .ok (.iconst 1, 1) := by decide +kernel
theorem dX8_moves_209 : decode cX8_moves 209 = .ok (.if_icmp .eq 26, 3) := by decide +kernel
theorem dX8_moves_212 : decode cX8_moves 212 = .ok (.iload 5, 2) := by decide +kernel
theorem dX8_moves_214 : decode cX8_moves 214 = .ok (.ifCond .eq 21, 3) := by decide +kernel
theorem dX8_moves_217 : decode cX8_moves 217 = .ok (.aload_n 0, 1) := by decide +kernel
theorem dX8_moves_218 : decode cX8_moves 218 = .ok (.getfield 161, 3) := by decide +kernel
theorem dX8_moves_221 : decode cX8_moves 221 = .ok (.aload_n 0, 1) := by decide +kernel
theorem dX8_moves_222 : decode cX8_moves 222 = .ok (.getfield 28, 3) := by decide +kernel
theorem dX8_moves_225 : decode cX8_moves 225 = .ok (.iconst 1, 1) := by decide +kernel
theorem dX8_moves_226 : decode cX8_moves 226 = .ok (.iaload, 1) := by decide +kernel
theorem dX8_moves_227 : decode cX8_moves 227 = .ok (.if_icmp .lt 8, 3) := by decide +kernel
theorem dX8_moves_230 : decode cX8_moves 230 = .ok (.aload_n 0, 1) := by decide +kernel
theorem dX8_moves_231 : decode cX8_moves 231 = .ok (.iload_n 1, 1) := by decide +kernel
theorem dX8_moves_232 : decode cX8_moves 232 = .ok (.invokevirtual 207, 3) := by decide +kernel
theorem dX8_moves_235 : decode cX8_moves 235 = .ok (.return_, 1) := by decide +kernel
theorem dX8_plays_0 : decode cX8_plays 0 = .ok (.bipush 16, 2) := by decide +kernel
theorem dX8_plays_2 : decode cX8_plays 2 = .ok (.newarray .boolean, 2) := by decide +kernel
theorem dX8_plays_4 : decode cX8_plays 4 = .ok (.astore_n 1, 1) := by decide +kernel
theorem dX8_plays_5 : decode cX8_plays 5 = .ok (.iconst 0, 1) := by decide +kernel
theorem dX8_plays_6 : decode cX8_plays 6 = .ok (.istore_n 2, 1) := by decide +kernel
theorem dX8_plays_7 : decode cX8_plays 7 = .ok (.iload_n 2, 1) := by decide +kernel
theorem dX8_plays_8 : decode cX8_plays 8 = .ok (.bipush 16, 2) := by decide +kernel
theorem dX8_plays_10 : decode cX8_plays 10 = .ok (.if_icmp .ge 63, 3) := by decide +kernel
theorem dX8_plays_13 : decode cX8_plays 13 = .ok (.aload_n 1, 1) := by decide +kernel
theorem dX8_plays_14 : decode cX8_plays 14 = .ok (.iload_n 2, 1) := by decide +kernel
theorem dX8_plays_15 : decode cX8_plays 15 = .ok (.iload_n 2, 1) := by decide +kernel
theorem dX8_plays_16 : decode cX8_plays 16 = .ok (.aload_n 0, 1) := by decide +kernel
theorem dX8_plays_17 : decode cX8_plays 17 = .ok (.getfield 167, 3) := by decide +kernel
theorem dX8_plays_20 : decode cX8_plays 20 = .ok (.iadd, 1) := by decide +kernel
theorem dX8_plays_21 : decode cX8_plays 21 = .ok (.iconst 0, 1) := by decide +kernel
theorem dX8_plays_22 : decode cX8_plays 22 = .ok (.bipush 15, 2) := by decide +kernel
theorem dX8_plays_24 : decode cX8_plays 24 = .ok (.invokestatic 60, 3) := by decide +kernel
theorem dX8_plays_27 : decode cX8_plays 27 = .ok (.ifCond .eq 38, 3) := by decide +kernel
theorem dX8_plays_30 : decode cX8_plays 30 = .ok (.aload_n 0, 1) := by decide +kernel
theorem dX8_plays_31 : decode cX8_plays 31 = .ok (.getfield 10, 3) := by decide +kernel
theorem dX8_plays_34 : decode cX8_plays 34 = .ok (.aload_n 0, 1) := by decide +kernel
theorem dX8_plays_35 : decode cX8_plays 35 = .ok (.getfield 36, 3) := by decide +kernel
theorem dX8_plays_38 : decode cX8_plays 38 = .ok (.invokeinterface 81 2, 5) := by decide +kernel
theorem dX8_plays_43 : decode cX8_plays 43 = .ok (.checkcast 68, 3) := by decide +kernel
theorem dX8_plays_46 : decode cX8_plays 46 = .ok (.aload_n 0, 1) := by decide +kernel
theorem dX8_plays_47 : decode cX8_plays 47 = .ok (.getfield 158, 3) := by decide +kernel
theorem dX8_plays_50 : decode cX8_plays 50 = .ok (.aaload, 1) := by decide +kernel
theorem dX8_plays_51 : decode cX8_plays 51 = .ok (.iload_n 2, 1) := by decide +kernel
theorem dX8_plays_52 : decode cX8_plays 52 = .ok (.aload_n 0, 1) := by decide +kernel
theorem dX8_plays_53 : decode cX8_plays 53 = .ok (.getfield 167, 3) := by decide +kernel
theorem dX8_plays_56 : decode cX8_plays 56 = .ok (.iadd, 1) := by decide +kernel
theorem dX8_plays_57 : decode cX8_plays 57 = .ok (.baload, 1) := by decide +kernel
theorem dX8_plays_58 : decode cX8_plays 58 = .ok (.ifCond .eq 7, 3) := by decide +kernel
theorem dX8_plays_61 : decode cX8_plays 61 = .ok (.iconst 1, 1) := by decide +kernel
theorem dX8_plays_62 : decode cX8_plays 62 = .ok (.goto 4, 3) := by decide +kernel
theorem dX8_plays_65 : decode cX8_plays 65 = .ok (.iconst 0, 1) := by decide +kernel
theorem dX8_plays_66 : decode cX8_plays 66 = .ok (.bastore, 1) := by decide +kernel
theorem dX8_plays_67 : decode cX8_plays 67 = .ok (.iinc 2 1, 3) := by decide +kernel
theorem dX8_plays_70 : decode cX8_plays 70 = .ok (.goto (-63), 3) := by decide +kernel
theorem dX8_plays_73 : decode cX8_plays 73 = .ok (.aload_n 0, 1) := by decide +kernel
theorem dX8_plays_74 : decode cX8_plays 74 = .ok (.aload_n 1, 1) := by decide +kernel
theorem dX8_plays_75 : decode cX8_plays 75 = .ok (.invokevirtual 211, 3) := by decide +kernel
theorem dX8_plays_78 : decode cX8_plays 78 = .ok (.iconst 0, 1) := by decide +kernel
theorem dX8_plays_79 : decode cX8_plays 79 = .ok (.istore_n 2, 1) := by decide +kernel
theorem dX8_plays_80 : decode cX8_plays 80 = .ok (.iconst 0, 1) := by decide +kernel
theorem dX8_plays_81 : decode cX8_plays 81 = .ok (.istore_n 3, 1) := by decide +kernel
theorem dX8_plays_82 : decode cX8_plays 82 = .ok (.iload_n 3, 1) := by decide +kernel
theorem dX8_plays_83 : decode cX8_plays 83 = .ok (.bipush 12, 2) := by decide +kernel
theorem dX8_plays_85 : decode cX8_plays 85 = .ok (.if_icmp .ge 98, 3) := by decide +kernel
theorem dX8_plays_88 : decode cX8_plays 88 = .ok (.iconst 0, 1) := by decide +kernel
theorem dX8_plays_89 : decode cX8_plays 89 = .ok (.istore 4, 2) := by decide +kernel
theorem dX8_plays_91 : decode cX8_plays 91 = .ok (.iconst 0, 1) := by decide +kernel
theorem dX8_plays_92 : decode cX8_plays 92 = .ok (.istore 5, 2) := by decide +kernel
theorem dX8_plays_94 : decode cX8_plays 94 = .ok (.iload 5, 2) := by decide +kernel
theorem dX8_plays_96 : decode cX8_plays 96 = .ok (.bipush 12, 2) := by decide +kernel
theorem dX8_plays_98 : decode cX8_plays 98 = .ok (.if_icmp .ge 40, 3) := by decide +kernel
theorem dX8_plays_101 : decode cX8_plays 101 = .ok (.iload 4, 2) := by decide +kernel
theorem dX8_plays_103 : decode cX8_plays 103 = .ok (.aload_n 0, 1) := by decide +kernel
theorem dX8_plays_104 : decode cX8_plays 104 = .ok (.getfield 24, 3) := by decide +kernel
theorem dX8_plays_107 : decode cX8_plays 107 = .ok (.iload 5, 2) := by decide +kernel
theorem dX8_plays_109 : decode cX8_plays 109 = .ok (.aaload, 1) := by decide +kernel
theorem dX8_plays_110 : decode cX8_plays 110 = .ok (.getfield 48, 3) := by decide +kernel
theorem dX8_plays_113 : decode cX8_plays 113 = .ok (.iload_n 3, 1) := by decide +kernel
theorem dX8_plays_114 : decode cX8_plays 114 = .ok (.if_icmp .ne 14, 3) := by decide +kernel
theorem dX8_plays_117 : decode cX8_plays 117 = .ok (.aload_n 1, 1) := by decide +kernel
theorem dX8_plays_118 : decode cX8_plays 118 = .ok (.iload 5, 2) := by decide +kernel
theorem dX8_plays_120 : decode cX8_plays 120 = .ok (.baload, 1) := by decide +kernel
theorem dX8_plays_121 : decode cX8_plays 121 = .ok (.ifCond .eq 7, 3) := by decide +kernel
theorem dX8_plays_124 : decode cX8_plays 124 = .ok (.iconst 1, 1) := by decide +kernel
theorem dX8_plays_125 : decode cX8_plays 125 = .ok (.goto 4, 3) := by decide +kernel
theorem dX8_plays_128 : decode cX8_plays 128 = .ok (.iconst 0, 1) := by decide +kernel
theorem dX8_plays_129 : decode cX8_plays 129 = .ok (.ior, 1) := by decide +kernel
theorem dX8_plays_130 : decode cX8_plays 130 = .ok (.istore 4, 2) := by decide +kernel
theorem dX8_plays_132 : decode cX8_plays 132 = .ok (.iinc 5 1, 3) := by decide +kernel
theorem dX8_plays_135 : decode cX8_plays 135 = .ok (.goto (-41), 3) := by decide +kernel
theorem dX8_plays_138 : decode cX8_plays 138 = .ok (.aload_n 0, 1) := by decide +kernel
theorem dX8_plays_139 : decode cX8_plays 139 = .ok (.iload_n 3, 1) := by decide +kernel
theorem dX8_plays_140 : decode cX8_plays 140 = .ok (.iload 4, 2) := by decide +kernel
theorem dX8_plays_142 : decode cX8_plays 142 = .ok (.aload_n 1, 1) := by decide +kernel
theorem dX8_plays_143 : decode cX8_plays 143 = .ok (.bipush 12, 2) := by decide +kernel
theorem dX8_plays_145 : decode cX8_plays 145 = .ok (.baload, 1) := by decide +kernel
theorem dX8_plays_146 : decode cX8_plays 146 = .ok (.invokevirtual 215, 3) := by decide +kernel
theorem dX8_plays_149 : decode cX8_plays 149 = .ok (.iload_n 2, 1) := by decide +kernel
theorem dX8_plays_150 : decode cX8_plays 150 = .ok (.aload_n 0, 1) := by decide +kernel
theorem dX8_plays_151 : decode cX8_plays 151 = .ok (.getfield 24, 3) := by decide +kernel
theorem dX8_plays_154 : decode cX8_plays 154 = .ok (.iload_n 3, 1) := by decide +kernel
theorem dX8_plays_155 : decode cX8_plays 155 = .ok (.aaload, 1) := by decide +kernel
theorem dX8_plays_156 : decode cX8_plays 156 = .ok (.getfield 174, 3) := by decide +kernel
theorem dX8_plays_159 : decode cX8_plays 159 = .ok (.ifCond .eq 15, 3) := by decide +kernel
theorem dX8_plays_162 : decode cX8_plays 162 = .ok (.aload_n 0, 1) := by decide +kernel
theorem dX8_plays_163 : decode cX8_plays 163 = .ok (.getfield 24, 3) := by decide +kernel
theorem dX8_plays_166 : decode cX8_plays 166 = .ok (.iload_n 3, 1) := by decide +kernel
theorem dX8_plays_167 : decode cX8_plays 167 = .ok (.aaload, 1) := by decide +kernel
theorem dX8_plays_168 : decode cX8_plays 168 = .ok (.getfield 142, 3) := by decide +kernel
theorem dX8_plays_171 : decode cX8_plays 171 = .ok (.goto 4, 3) := by decide +kernel
theorem dX8_plays_174 : decode cX8_plays 174 = .ok (.iconst 0, 1) := by decide +kernel
theorem dX8_plays_175 : decode cX8_plays 175 = .ok (.iadd, 1) := by decide +kernel
theorem dX8_plays_176 : decode cX8_plays 176 = .ok (.istore_n 2, 1) := by decide +kernel
theorem dX8_plays_177 : decode cX8_plays 177 = .ok (.iinc 3 1, 3) := by decide +kernel
theorem dX8_plays_180 : decode cX8_plays 180 = .ok (.goto (-98), 3) := by decide +kernel
theorem dX8_plays_183 : decode cX8_plays 183 = .ok (.aload_n 0, 1) := by decide +kernel
theorem dX8_plays_184 : decode cX8_plays 184 = .ok (.iconst 0, 1) := by decide +kernel
theorem dX8_plays_185 : decode cX8_plays 185 = .ok (.sipush 1000, 3) := by decide +kernel
theorem dX8_plays_188 : decode cX8_plays 188 = .ok (.aload_n 0, 1) := by decide +kernel
theorem dX8_plays_189 : decode cX8_plays 189 = .ok (.getfield 161, 3) := by decide +kernel
theorem dX8_plays_192 : decode cX8_plays 192 = .ok (.aload_n 0, 1) := by decide +kernel
theorem dX8_plays_193 : decode cX8_plays 193 = .ok (.getfield 28, 3) := by decide +kernel
theorem dX8_plays_196 : decode cX8_plays 196 = .ok (.iconst 2, 1) := by decide +kernel
theorem dX8_plays_197 : decode cX8_plays 197 = .ok (.iaload, 1) := by decide +kernel
theorem dX8_plays_198 : decode cX8_plays 198 = .ok (.iadd, 1) := by decide +kernel
theorem dX8_plays_199 : decode cX8_plays 199 = .ok (.invokestatic 191, 3) := by decide +kernel
theorem dX8_plays_202 : decode cX8_plays 202 = .ok (.aload_n 0, 1) := by decide +kernel
theorem dX8_plays_203 : decode cX8_plays 203 = .ok (.getfield 28, 3) := by decide +kernel
theorem dX8_plays_206 : decode cX8_plays 206 = .ok (.iconst 3, 1) := by decide +kernel
theorem dX8_plays_207 : decode cX8_plays 207 = .ok (.iaload, 1) := by decide +kernel
theorem dX8_plays_208 : decode cX8_plays 208 = .ok (.isub, 1) := by decide +kernel
theorem dX8_plays_209 : decode cX8_plays 209 = .ok (.iload_n 2, 1) := by decide +kernel
theorem dX8_plays_210 : decode cX8_plays 210 = .ok (.isub, 1) := by decide +kernel
theorem dX8_plays_211 : decode cX8_plays 211 = .ok (.invokestatic 147, 3) := by decide +kernel
theorem dX8_plays_214 : decode cX8_plays 214 = .ok (.putfield 161, 3) := by decide +kernel
theorem dX8_plays_217 : decode cX8_plays 217 = .ok (.aload_n 0, 1) := by decide +kernel
theorem dX8_plays_218 : decode cX8_plays 218 = .ok (.aload_n 1, 1) := by decide +kernel
theorem dX8_plays_219 : decode cX8_plays 219 = .ok (.putfield 32, 3) := by decide +kernel
theorem dX8_plays_222 : decode cX8_plays 222 = .ok (.aload_n 0, 1) := by decide +kernel
theorem dX8_plays_223 : decode cX8_plays 223 = .ok (.dup, 1) := by decide +kernel
theorem dX8_plays_224 : decode cX8_plays 224 = .ok (.getfield 158, 3) := by decide +kernel
theorem dX8_plays_227 : decode cX8_plays 227 = .ok (.iconst 1, 1) := by decide +kernel
theorem dX8_plays_228 : decode cX8_plays 228 = .ok (.iadd, 1) := by decide +kernel
theorem dX8_plays_229 : decode cX8_plays 229 = .ok (.putfield 158, 3) := by decide +kernel
theorem dX8_plays_232 : decode cX8_plays 232 = .ok (.return_, 1) := by decide +kernel
theorem dX8_tick_0 : decode cX8_tick 0 = .ok (.aload_n 0, 1) := by decide +kernel
theorem dX8_tick_1 : decode cX8_tick 1 = .ok (.invokevirtual 183, 3) := by decide +kernel
theorem dX8_tick_4 : decode cX8_tick 4 = .ok (.ifCond .ne 18, 3) := by decide +kernel
theorem dX8_tick_7 : decode cX8_tick 7 = .ok (.aload_n 0, 1) := by decide +kernel
theorem dX8_tick_8 : decode cX8_tick 8 = .ok (.iload_n 1, 1) := by decide +kernel
theorem dX8_tick_9 : decode cX8_tick 9 = .ok (.iconst 1, 1) := by decide +kernel
theorem dX8_tick_10 : decode cX8_tick 10 = .ok (.bipush 100, 2) := by decide +kernel
theorem dX8_tick_12 : decode cX8_tick 12 = .ok (.invokestatic 60, 3) := by decide +kernel
theorem dX8_tick_15 : decode cX8_tick 15 = .ok (.iconst 2, 1) := by decide +kernel
theorem dX8_tick_16 : decode cX8_tick 16 = .ok (.invokevirtual 64, 3) := by decide +kernel
theorem dX8_tick_19 : decode cX8_tick 19 = .ok (.ifCond .eq 5, 3) := by decide +kernel
theorem dX8_tick_22 : decode cX8_tick 22 = .ok (.iconst 0, 1) := by decide +kernel
theorem dX8_tick_23 : decode cX8_tick 23 = .ok (.ireturn, 1) := by decide +kernel
theorem dX8_tick_24 : decode cX8_tick 24 = .ok (.iconst 0, 1) := by decide +kernel
theorem dX8_tick_25 : decode cX8_tick 25 = .ok (.istore_n 2, 1) := by decide +kernel
theorem dX8_tick_26 : decode cX8_tick 26 = .ok (.iload_n 2, 1) := by decide +kernel
theorem dX8_tick_27 : decode cX8_tick 27 = .ok (.iload_n 1, 1) := by decide +kernel
theorem dX8_tick_28 : decode cX8_tick 28 = .ok (.if_icmp .ge 28, 3) := by decide +kernel
theorem dX8_tick_31 : decode cX8_tick 31 = .ok (.aload_n 0, 1) := by decide +kernel
theorem dX8_tick_32 : decode cX8_tick 32 = .ok (.getfield 158, 3) := by decide +kernel
theorem dX8_tick_35 : decode cX8_tick 35 = .ok (.aload_n 0, 1) := by decide +kernel
theorem dX8_tick_36 : decode cX8_tick 36 = .ok (.aload_n 0, 1) := by decide +kernel
theorem dX8_tick_37 : decode cX8_tick 37 = .ok (.getfield 36, 3) := by decide +kernel
theorem dX8_tick_40 : decode cX8_tick 40 = .ok (.invokevirtual 85, 3) := by decide +kernel
theorem dX8_tick_43 : decode cX8_tick 43 = .ok (.if_icmp .ge 13, 3) := by decide +kernel
theorem dX8_tick_46 : decode cX8_tick 46 = .ok (.aload_n 0, 1) := by decide +kernel
theorem dX8_tick_47 : decode cX8_tick 47 = .ok (.invokevirtual 219, 3) := by decide +kernel
theorem dX8_tick_50 : decode cX8_tick 50 = .ok (.iinc 2 1, 3) := by decide +kernel
theorem dX8_tick_53 : decode cX8_tick 53 = .ok (.goto (-27), 3) := by decide +kernel
theorem dX8_tick_56 : decode cX8_tick 56 = .ok (.aload_n 0, 1) := by decide +kernel
theorem dX8_tick_57 : decode cX8_tick 57 = .ok (.getfield 158, 3) := by decide +kernel
theorem dX8_tick_60 : decode cX8_tick 60 = .ok (.aload_n 0, 1) := by decide +kernel
theorem dX8_tick_61 : decode cX8_tick 61 = .ok (.aload_n 0, 1) := by decide +kernel
theorem dX8_tick_62 : decode cX8_tick 62 = .ok (.getfield 36, 3) := by decide +kernel
theorem dX8_tick_65 : decode cX8_tick 65 = .ok (.invokevirtual 85, 3) := by decide +kernel
theorem dX8_tick_68 : decode cX8_tick 68 = .ok (.if_icmp .ge 5, 3) := by decide +kernel
theorem dX8_tick_71 : decode cX8_tick 71 = .ok (.iload_n 2, 1) := by decide +kernel
theorem dX8_tick_72 : decode cX8_tick 72 = .ok (.ireturn, 1) := by decide +kernel
theorem dX8_tick_73 : decode cX8_tick 73 = .ok (.aload_n 0, 1) := by decide +kernel
theorem dX8_tick_74 : decode cX8_tick 74 = .ok (.getfield 24, 3) := by decide +kernel
theorem dX8_tick_77 : decode cX8_tick 77 = .ok (.astore_n 3, 1) := by decide +kernel
theorem dX8_tick_78 : decode cX8_tick 78 = .ok (.aload_n 3, 1) := by decide +kernel
theorem dX8_tick_79 : decode cX8_tick 79 = .ok (.arraylength, 1) := by decide +kernel
theorem dX8_tick_80 : decode cX8_tick 80 = .ok (.istore 4, 2) := by decide +kernel
theorem dX8_tick_82 : decode cX8_tick 82 = .ok (.iconst 0, 1) := by decide +kernel
theorem dX8_tick_83 : decode cX8_tick 83 = .ok (.istore 5, 2) := by decide +kernel
theorem dX8_tick_85 : decode cX8_tick 85 = .ok (.iload 5, 2) := by decide +kernel
theorem dX8_tick_87 : decode cX8_tick 87 = .ok (.iload 4, 2) := by decide +kernel
theorem dX8_tick_89 : decode cX8_tick 89 = .ok (.if_icmp .ge 35, 3) := by decide +kernel
theorem dX8_tick_92 : decode cX8_tick 92 = .ok (.aload_n 3, 1) := by decide +kernel
theorem dX8_tick_93 : decode cX8_tick 93 = .ok (.iload 5, 2) := by decide +kernel
theorem dX8_tick_95 : decode cX8_tick 95 = .ok (.aaload, 1) := by decide +kernel
theorem dX8_tick_96 : decode cX8_tick 96 = .ok (.astore 6, 2) := by decide +kernel
theorem dX8_tick_98 : decode cX8_tick 98 = .ok (.aload 6, 2) := by decide +kernel
theorem dX8_tick_100 : decode cX8_tick 100 = .ok (.iconst 0, 1) := by decide +kernel
theorem dX8_tick_101 : decode cX8_tick 101 = .ok (.putfield 174, 3) := by decide +kernel
theorem dX8_tick_104 : decode cX8_tick 104 = .ok (.aload 6, 2) := by decide +kernel
theorem dX8_tick_106 : decode cX8_tick 106 = .ok (.getfield 180, 3) := by decide +kernel
theorem dX8_tick_109 : decode cX8_tick 109 = .ok (.ifCond .eq 9, 3) := by decide +kernel
theorem dX8_tick_112 : decode cX8_tick 112 = .ok (.aload_n 0, 1) := by decide +kernel
theorem dX8_tick_113 : decode cX8_tick 113 = .ok (.aload 6, 2) := by decide +kernel
theorem dX8_tick_115 : decode cX8_tick 115 = .ok (.invokevirtual 197, 3) := by decide +kernel
theorem dX8_tick_118 : decode cX8_tick 118 = .ok (.iinc 5 1, 3) := by decide +kernel
theorem dX8_tick_121 : decode cX8_tick 121 = .ok (.goto (-36), 3) := by decide +kernel
theorem dX8_tick_124 : decode cX8_tick 124 = .ok (.aload_n 0, 1) := by decide +kernel
theorem dX8_tick_125 : decode cX8_tick 125 = .ok (.iconst (-1), 1) := by decide +kernel
theorem dX8_tick_126 : decode cX8_tick 126 = .ok (.putfield 36, 3) := by decide +kernel
theorem dX8_tick_129 : decode cX8_tick 129 = .ok (.iload_n 2, 1) := by decide +kernel
theorem dX8_tick_130 : decode cX8_tick 130 = .ok (.ireturn, 1) := by decide +kernel
theorem dX8_isPlaying_0 : decode cX8_isPlaying 0 = .ok (.aload_n 0, 1) := by decide +kernel
theorem dX8_isPlaying_1 : decode cX8_isPlaying 1 = .ok (.getfield 36, 3) := by decide +kernel
theorem dX8_isPlaying_4 : decode cX8_isPlaying 4 = .ok (.ifCond .lt 7, 3) := by decide +kernel
theorem dX8_isPlaying_7 : decode cX8_isPlaying 7 = .ok (.iconst 1, 1) := by decide +kernel
theorem dX8_isPlaying_8 : decode cX8_isPlaying 8 = .ok (.goto 4, 3) := by decide +kernel
theorem dX8_isPlaying_11 : decode cX8_isPlaying 11 = .ok (.iconst 0, 1) := by decide +kernel
theorem dX8_isPlaying_12 : decode cX8_isPlaying 12 = .ok (.ireturn, 1) := by decide +kernel
theorem dX8_row_0 : decode cX8_row 0 = .ok (.aload_n 0, 1) := by decide +kernel
theorem dX8_row_1 : decode cX8_row 1 = .ok (.invokevirtual 183, 3) := by decide +kernel
theorem dX8_row_4 : decode cX8_row 4 = .ok (.ifCond .eq 7, 3) := by decide +kernel
theorem dX8_row_7 : decode cX8_row 7 = .ok (.iconst 0, 1) := by decide +kernel
theorem dX8_row_8 : decode cX8_row 8 = .ok (.goto 7, 3) := by decide +kernel
theorem dX8_row_11 : decode cX8_row 11 = .ok (.aload_n 0, 1) := by decide +kernel
theorem dX8_row_12 : decode cX8_row 12 = .ok (.getfield 158, 3) := by decide +kernel
theorem dX8_row_15 : decode cX8_row 15 = .ok (.ireturn, 1) := by decide +kernel
theorem dX8_suction_0 : decode cX8_suction 0 = .ok (.aload_n 0, 1) := by decide +kernel
theorem dX8_suction_1 : decode cX8_suction 1 = .ok (.invokevirtual 183, 3) := by decide +kernel
theorem dX8_suction_4 : decode cX8_suction 4 = .ok (.ifCond .eq 7, 3) := by decide +kernel
theorem dX8_suction_7 : decode cX8_suction 7 = .ok (.iconst 0, 1) := by decide +kernel
theorem dX8_suction_8 : decode cX8_suction 8 = .ok (.goto 7, 3) := by decide +kernel
theorem dX8_suction_11 : decode cX8_suction 11 = .ok (.aload_n 0, 1) := by decide +kernel
theorem dX8_suction_12 : decode cX8_suction 12 = .ok (.getfield 161, 3) := by decide +kernel
theorem dX8_suction_15 : decode cX8_suction 15 = .ok (.ireturn, 1) := by decide +kernel
theorem dX8_level_0 : decode cX8_level 0 = .ok (.aload_n 0, 1) := by decide +kernel
theorem dX8_level_1 : decode cX8_level 1 = .ok (.invokevirtual 183, 3) := by decide +kernel
theorem dX8_level_4 : decode cX8_level 4 = .ok (.ifCond .eq 7, 3) := by decide +kernel
theorem dX8_level_7 : decode cX8_level 7 = .ok (.iconst 0, 1) := by decide +kernel
theorem dX8_level_8 : decode cX8_level 8 = .ok (.goto 7, 3) := by decide +kernel
theorem dX8_level_11 : decode cX8_level 11 = .ok (.aload_n 0, 1) := by decide +kernel
theorem dX8_level_12 : decode cX8_level 12 = .ok (.getfield 164, 3) := by decide +kernel
theorem dX8_level_15 : decode cX8_level 15 = .ok (.ireturn, 1) := by decide +kernel
theorem dX8_isOpen_0 : decode cX8_isOpen 0 = .ok (.aload_n 0, 1) := by decide +kernel
theorem dX8_isOpen_1 : decode cX8_isOpen 1 = .ok (.invokevirtual 183, 3) := by decide +kernel
theorem dX8_isOpen_4 : decode cX8_isOpen 4 = .ok (.ifCond .ne 31, 3) := by decide +kernel
theorem dX8_isOpen_7 : decode cX8_isOpen 7 = .ok (.aload_n 0, 1) := by decide +kernel
theorem dX8_isOpen_8 : decode cX8_isOpen 8 = .ok (.iload_n 1, 1) := by decide +kernel
theorem dX8_isOpen_9 : decode cX8_isOpen 9 = .ok (.invokestatic 101, 3) := by decide +kernel
theorem dX8_isOpen_12 : decode cX8_isOpen 12 = .ok (.iconst 2, 1) := by decide +kernel
theorem dX8_isOpen_13 : decode cX8_isOpen 13 = .ok (.invokevirtual 64, 3) := by decide +kernel
theorem dX8_isOpen_16 : decode cX8_isOpen 16 = .ok (.ifCond .ne 19, 3) := by decide +kernel
theorem dX8_isOpen_19 : decode cX8_isOpen 19 = .ok (.aload_n 0, 1) := by decide +kernel
theorem dX8_isOpen_20 : decode cX8_isOpen 20 = .ok (.getfield 24, 3) := by decide +kernel
theorem dX8_isOpen_23 : decode cX8_isOpen 23 = .ok (.iload_n 1, 1) := by decide +kernel
theorem dX8_isOpen_24 : decode cX8_isOpen 24 = .ok (.aaload, 1) := by decide +kernel
theorem dX8_isOpen_25 : decode cX8_isOpen 25 = .ok (.getfield 174, 3) := by decide +kernel
theorem dX8_isOpen_28 : decode cX8_isOpen 28 = .ok (.ifCond .eq 7, 3) := by decide +kernel
theorem dX8_isOpen_31 : decode cX8_isOpen 31 = .ok (.iconst 1, 1) := by decide +kernel
theorem dX8_isOpen_32 : decode cX8_isOpen 32 = .ok (.goto 4, 3) := by decide +kernel
theorem dX8_isOpen_35 : decode cX8_isOpen 35 = .ok (.iconst 0, 1) := by decide +kernel
theorem dX8_isOpen_36 : decode cX8_isOpen 36 = .ok (.ireturn, 1) := by decide +kernel
theorem dX8_isHeard_0 : decode cX8_isHeard 0 = .ok (.aload_n 0, 1) := by decide +kernel
theorem dX8_isHeard_1 : decode cX8_isHeard 1 = .ok (.invokevirtual 183, 3) := by decide +kernel
theorem dX8_isHeard_4 : decode cX8_isHeard 4 = .ok (.ifCond .ne 31, 3) := by decide +kernel
theorem dX8_isHeard_7 : decode cX8_isHeard 7 = .ok (.aload_n 0, 1) := by decide +kernel
theorem dX8_isHeard_8 : decode cX8_isHeard 8 = .ok (.iload_n 1, 1) := by decide +kernel
theorem dX8_isHeard_9 : decode cX8_isHeard 9 = .ok (.invokestatic 101, 3) := by decide +kernel
theorem dX8_isHeard_12 : decode cX8_isHeard 12 = .ok (.iconst 2, 1) := by decide +kernel
theorem dX8_isHeard_13 : decode cX8_isHeard 13 = .ok (.invokevirtual 64, 3) := by decide +kernel
theorem dX8_isHeard_16 : decode cX8_isHeard 16 = .ok (.ifCond .ne 19, 3) := by decide +kernel
theorem dX8_isHeard_19 : decode cX8_isHeard 19 = .ok (.aload_n 0, 1) := by decide +kernel
theorem dX8_isHeard_20 : decode cX8_isHeard 20 = .ok (.getfield 24, 3) := by decide +kernel
theorem dX8_isHeard_23 : decode cX8_isHeard 23 = .ok (.iload_n 1, 1) := by decide +kernel
theorem dX8_isHeard_24 : decode cX8_isHeard 24 = .ok (.aaload, 1) := by decide +kernel
theorem dX8_isHeard_25 : decode cX8_isHeard 25 = .ok (.getfield 180, 3) := by decide +kernel
theorem dX8_isHeard_28 : decode cX8_isHeard 28 = .ok (.ifCond .eq 7, 3) := by decide +kernel
theorem dX8_isHeard_31 : decode cX8_isHeard 31 = .ok (.iconst 1, 1) := by decide +kernel
theorem dX8_isHeard_32 : decode cX8_isHeard 32 = .ok (.goto 4, 3) := by decide +kernel
theorem dX8_isHeard_35 : decode cX8_isHeard 35 = .ok (.iconst 0, 1) := by decide +kernel
theorem dX8_isHeard_36 : decode cX8_isHeard 36 = .ok (.ireturn, 1) := by decide +kernel
theorem dX8_soundings_0 : decode cX8_soundings 0 = .ok (.aload_n 0, 1) := by decide +kernel
theorem dX8_soundings_1 : decode cX8_soundings 1 = .ok (.getfield 19, 3) := by decide +kernel
theorem dX8_soundings_4 : decode cX8_soundings 4 = .ok (.invokeinterface 54 1, 5) := by decide +kernel
theorem dX8_soundings_9 : decode cX8_soundings 9 = .ok (.ireturn, 1) := by decide +kernel
theorem dX8_sounding_0 : decode cX8_sounding 0 = .ok (.ldc 222, 2) := by decide +kernel
theorem dX8_sounding_2 : decode cX8_sounding 2 = .ok (.iload_n 2, 1) := by decide +kernel
theorem dX8_sounding_3 : decode cX8_sounding 3 = .ok (.invokevirtual 127, 3) := by decide +kernel
theorem dX8_sounding_6 : decode cX8_sounding 6 = .ok (.istore_n 3, 1) := by decide +kernel
theorem dX8_sounding_7 : decode cX8_sounding 7 = .ok (.aload_n 0, 1) := by decide +kernel
theorem dX8_sounding_8 : decode cX8_sounding 8 = .ok (.iload_n 3, 1) := by decide +kernel
theorem dX8_sounding_9 : decode cX8_sounding 9 = .ok (.ifCond .lt 7, 3) := by decide +kernel
theorem dX8_sounding_12 : decode cX8_sounding 12 = .ok (.iconst 1, 1) := by decide +kernel
theorem dX8_sounding_13 : decode cX8_sounding 13 = .ok (.goto 4, 3) := by decide +kernel
theorem dX8_sounding_16 : decode cX8_sounding 16 = .ok (.iconst 0, 1) := by decide +kernel
theorem dX8_sounding_17 : decode cX8_sounding 17 = .ok (.iconst 1, 1) := by decide +kernel
theorem dX8_sounding_18 : decode cX8_sounding 18 = .ok (.invokevirtual 64, 3) := by decide +kernel
theorem dX8_sounding_21 : decode cX8_sounding 21 = .ok (.ifCond .ne 27, 3) := by decide +kernel
theorem dX8_sounding_24 : decode cX8_sounding 24 = .ok (.aload_n 0, 1) := by decide +kernel
theorem dX8_sounding_25 : decode cX8_sounding 25 = .ok (.iload_n 1, 1) := by decide +kernel
theorem dX8_sounding_26 : decode cX8_sounding 26 = .ok (.iconst 0, 1) := by decide +kernel
theorem dX8_sounding_27 : decode cX8_sounding 27 = .ok (.aload_n 0, 1) := by decide +kernel
theorem dX8_sounding_28 : decode cX8_sounding 28 = .ok (.getfield 19, 3) := by decide +kernel
theorem dX8_sounding_31 : decode cX8_sounding 31 = .ok (.invokeinterface 54 1, 5) := by decide +kernel
theorem dX8_sounding_36 : decode cX8_sounding 36 = .ok (.iconst 1, 1) := by decide +kernel
theorem dX8_sounding_37 : decode cX8_sounding 37 = .ok (.isub, 1) := by decide +kernel
theorem dX8_sounding_38 : decode cX8_sounding 38 = .ok (.invokestatic 60, 3) := by decide +kernel
theorem dX8_sounding_41 : decode cX8_sounding 41 = .ok (.iconst 2, 1) := by decide +kernel
theorem dX8_sounding_42 : decode cX8_sounding 42 = .ok (.invokevirtual 64, 3) := by decide +kernel
theorem dX8_sounding_45 : decode cX8_sounding 45 = .ok (.ifCond .eq 7, 3) := by decide +kernel
theorem dX8_sounding_48 : decode cX8_sounding 48 = .ok (.iconst 0, 1) := by decide +kernel
theorem dX8_sounding_49 : decode cX8_sounding 49 = .ok (.goto 18, 3) := by decide +kernel
theorem dX8_sounding_52 : decode cX8_sounding 52 = .ok (.aload_n 0, 1) := by decide +kernel
theorem dX8_sounding_53 : decode cX8_sounding 53 = .ok (.getfield 19, 3) := by decide +kernel
theorem dX8_sounding_56 : decode cX8_sounding 56 = .ok (.iload_n 1, 1) := by decide +kernel
theorem dX8_sounding_57 : decode cX8_sounding 57 = .ok (.invokeinterface 81 2, 5) := by decide +kernel
theorem dX8_sounding_62 : decode cX8_sounding 62 = .ok (.checkcast 117, 3) := by decide +kernel
theorem dX8_sounding_65 : decode cX8_sounding 65 = .ok (.iload_n 3, 1) := by decide +kernel
theorem dX8_sounding_66 : decode cX8_sounding 66 = .ok (.iaload, 1) := by decide +kernel
theorem dX8_sounding_67 : decode cX8_sounding 67 = .ok (.ireturn, 1) := by decide +kernel
theorem dX8_loudest_0 : decode cX8_loudest 0 = .ok (.iconst 0, 1) := by decide +kernel
theorem dX8_loudest_1 : decode cX8_loudest 1 = .ok (.istore_n 1, 1) := by decide +kernel
theorem dX8_loudest_2 : decode cX8_loudest 2 = .ok (.iconst 1, 1) := by decide +kernel
theorem dX8_loudest_3 : decode cX8_loudest 3 = .ok (.istore_n 2, 1) := by decide +kernel
theorem dX8_loudest_4 : decode cX8_loudest 4 = .ok (.iload_n 2, 1) := by decide +kernel
theorem dX8_loudest_5 : decode cX8_loudest 5 = .ok (.aload_n 0, 1) := by decide +kernel
theorem dX8_loudest_6 : decode cX8_loudest 6 = .ok (.getfield 19, 3) := by decide +kernel
theorem dX8_loudest_9 : decode cX8_loudest 9 = .ok (.invokeinterface 54 1, 5) := by decide +kernel
theorem dX8_loudest_14 : decode cX8_loudest 14 = .ok (.if_icmp .ge 48, 3) := by decide +kernel
theorem dX8_loudest_17 : decode cX8_loudest 17 = .ok (.aload_n 0, 1) := by decide +kernel
theorem dX8_loudest_18 : decode cX8_loudest 18 = .ok (.getfield 19, 3) := by decide +kernel
theorem dX8_loudest_21 : decode cX8_loudest 21 = .ok (.iload_n 2, 1) := by decide +kernel
theorem dX8_loudest_22 : decode cX8_loudest 22 = .ok (.invokeinterface 81 2, 5) := by decide +kernel
theorem dX8_loudest_27 : decode cX8_loudest 27 = .ok (.checkcast 117, 3) := by decide +kernel
theorem dX8_loudest_30 : decode cX8_loudest 30 = .ok (.iconst 4, 1) := by decide +kernel
theorem dX8_loudest_31 : decode cX8_loudest 31 = .ok (.iaload, 1) := by decide +kernel
theorem dX8_loudest_32 : decode cX8_loudest 32 = .ok (.aload_n 0, 1) := by decide +kernel
theorem dX8_loudest_33 : decode cX8_loudest 33 = .ok (.getfield 19, 3) := by decide +kernel
theorem dX8_loudest_36 : decode cX8_loudest 36 = .ok (.iload_n 1, 1) := by decide +kernel
theorem dX8_loudest_37 : decode cX8_loudest 37 = .ok (.invokeinterface 81 2, 5) := by decide +kernel
theorem dX8_loudest_42 : decode cX8_loudest 42 = .ok (.checkcast 117, 3) := by decide +kernel
theorem dX8_loudest_45 : decode cX8_loudest 45 = .ok (.iconst 4, 1) := by decide +kernel
theorem dX8_loudest_46 : decode cX8_loudest 46 = .ok (.iaload, 1) := by decide +kernel
theorem dX8_loudest_47 : decode cX8_loudest 47 = .ok (.if_icmp .le 7, 3) := by decide +kernel
theorem dX8_loudest_50 : decode cX8_loudest 50 = .ok (.iload_n 2, 1) := by decide +kernel
theorem dX8_loudest_51 : decode cX8_loudest 51 = .ok (.goto 4, 3) := by decide +kernel
theorem dX8_loudest_54 : decode cX8_loudest 54 = .ok (.iload_n 1, 1) := by decide +kernel
theorem dX8_loudest_55 : decode cX8_loudest 55 = .ok (.istore_n 1, 1) := by decide +kernel
theorem dX8_loudest_56 : decode cX8_loudest 56 = .ok (.iinc 2 1, 3) := by decide +kernel
theorem dX8_loudest_59 : decode cX8_loudest 59 = .ok (.goto (-55), 3) := by decide +kernel
theorem dX8_loudest_62 : decode cX8_loudest 62 = .ok (.aload_n 0, 1) := by decide +kernel
theorem dX8_loudest_63 : decode cX8_loudest 63 = .ok (.aload_n 0, 1) := by decide +kernel
theorem dX8_loudest_64 : decode cX8_loudest 64 = .ok (.getfield 19, 3) := by decide +kernel
theorem dX8_loudest_67 : decode cX8_loudest 67 = .ok (.invokeinterface 224 1, 5) := by decide +kernel
theorem dX8_loudest_72 : decode cX8_loudest 72 = .ok (.ifCond .ne 7, 3) := by decide +kernel
theorem dX8_loudest_75 : decode cX8_loudest 75 = .ok (.iconst 1, 1) := by decide +kernel
theorem dX8_loudest_76 : decode cX8_loudest 76 = .ok (.goto 4, 3) := by decide +kernel
theorem dX8_loudest_79 : decode cX8_loudest 79 = .ok (.iconst 0, 1) := by decide +kernel
theorem dX8_loudest_80 : decode cX8_loudest 80 = .ok (.iconst 1, 1) := by decide +kernel
theorem dX8_loudest_81 : decode cX8_loudest 81 = .ok (.invokevirtual 64, 3) := by decide +kernel
theorem dX8_loudest_84 : decode cX8_loudest 84 = .ok (.ifCond .eq 7, 3) := by decide +kernel
theorem dX8_loudest_87 : decode cX8_loudest 87 = .ok (.iconst 0, 1) := by decide +kernel
theorem dX8_loudest_88 : decode cX8_loudest 88 = .ok (.goto 4, 3) := by decide +kernel
theorem dX8_loudest_91 : decode cX8_loudest 91 = .ok (.iload_n 1, 1) := by decide +kernel
theorem dX8_loudest_92 : decode cX8_loudest 92 = .ok (.ireturn, 1) := by decide +kernel
theorem dX8_speed_0 : decode cX8_speed 0 = .ok (.aload_n 0, 1) := by decide +kernel
theorem dX8_speed_1 : decode cX8_speed 1 = .ok (.iload_n 1, 1) := by decide +kernel
theorem dX8_speed_2 : decode cX8_speed 2 = .ok (.bipush 100, 2) := by decide +kernel
theorem dX8_speed_4 : decode cX8_speed 4 = .ok (.sipush 900, 3) := by decide +kernel
theorem dX8_speed_7 : decode cX8_speed 7 = .ok (.invokestatic 60, 3) := by decide +kernel
theorem dX8_speed_10 : decode cX8_speed 10 = .ok (.ifCond .eq 17, 3) := by decide +kernel
theorem dX8_speed_13 : decode cX8_speed 13 = .ok (.iload_n 2, 1) := by decide +kernel
theorem dX8_speed_14 : decode cX8_speed 14 = .ok (.iconst 0, 1) := by decide +kernel
theorem dX8_speed_15 : decode cX8_speed 15 = .ok (.bipush 50, 2) := by decide +kernel
theorem dX8_speed_17 : decode cX8_speed 17 = .ok (.invokestatic 60, 3) := by decide +kernel
theorem dX8_speed_20 : decode cX8_speed 20 = .ok (.ifCond .eq 7, 3) := by decide +kernel
theorem dX8_speed_23 : decode cX8_speed 23 = .ok (.iconst 1, 1) := by decide +kernel
theorem dX8_speed_24 : decode cX8_speed 24 = .ok (.goto 4, 3) := by decide +kernel
theorem dX8_speed_27 : decode cX8_speed 27 = .ok (.iconst 0, 1) := by decide +kernel
theorem dX8_speed_28 : decode cX8_speed 28 = .ok (.iconst 1, 1) := by decide +kernel
theorem dX8_speed_29 : decode cX8_speed 29 = .ok (.invokevirtual 64, 3) := by decide +kernel
theorem dX8_speed_32 : decode cX8_speed 32 = .ok (.ifCond .eq 5, 3) := by decide +kernel
theorem dX8_speed_35 : decode cX8_speed 35 = .ok (.iconst 0, 1) := by decide +kernel
theorem dX8_speed_36 : decode cX8_speed 36 = .ok (.ireturn, 1) := by decide +kernel
theorem dX8_speed_37 : decode cX8_speed 37 = .ok (.aload_n 0, 1) := by decide +kernel
theorem dX8_speed_38 : decode cX8_speed 38 = .ok (.getfield 40, 3) := by decide +kernel
theorem dX8_speed_41 : decode cX8_speed 41 = .ok (.istore_n 3, 1) := by decide +kernel
theorem dX8_speed_42 : decode cX8_speed 42 = .ok (.aload_n 0, 1) := by decide +kernel
theorem dX8_speed_43 : decode cX8_speed 43 = .ok (.iload_n 1, 1) := by decide +kernel
theorem dX8_speed_44 : decode cX8_speed 44 = .ok (.putfield 40, 3) := by decide +kernel
theorem dX8_speed_47 : decode cX8_speed 47 = .ok (.aload_n 0, 1) := by decide +kernel
theorem dX8_speed_48 : decode cX8_speed 48 = .ok (.iload_n 2, 1) := by decide +kernel
theorem dX8_speed_49 : decode cX8_speed 49 = .ok (.putfield 227, 3) := by decide +kernel
theorem dX8_speed_52 : decode cX8_speed 52 = .ok (.iload_n 3, 1) := by decide +kernel
theorem dX8_speed_53 : decode cX8_speed 53 = .ok (.ireturn, 1) := by decide +kernel
theorem dX8_time_0 : decode cX8_time 0 = .ok (.lconst 0, 1) := by decide +kernel
theorem dX8_time_1 : decode cX8_time 1 = .ok (.lstore_n 2, 1) := by decide +kernel
theorem dX8_time_2 : decode cX8_time 2 = .ok (.iconst 0, 1) := by decide +kernel
theorem dX8_time_3 : decode cX8_time 3 = .ok (.istore 4, 2) := by decide +kernel
theorem dX8_time_5 : decode cX8_time 5 = .ok (.iload 4, 2) := by decide +kernel
theorem dX8_time_7 : decode cX8_time 7 = .ok (.sipush 200, 3) := by decide +kernel
theorem dX8_time_10 : decode cX8_time 10 = .ok (.iload_n 1, 1) := by decide +kernel
theorem dX8_time_11 : decode cX8_time 11 = .ok (.invokestatic 191, 3) := by decide +kernel
theorem dX8_time_14 : decode cX8_time 14 = .ok (.if_icmp .ge 32, 3) := by decide +kernel
theorem dX8_time_17 : decode cX8_time 17 = .ok (.lload_n 2, 1) := by decide +kernel
theorem dX8_time_18 : decode cX8_time 18 = .ok (.ldc2_w 230, 3) := by decide +kernel
theorem dX8_time_21 : decode cX8_time 21 = .ok (.aload_n 0, 1) := by decide +kernel
theorem dX8_time_22 : decode cX8_time 22 = .ok (.getfield 40, 3) := by decide +kernel
theorem dX8_time_25 : decode cX8_time 25 = .ok (.iload 4, 2) := by decide +kernel
theorem dX8_time_27 : decode cX8_time 27 = .ok (.aload_n 0, 1) := by decide +kernel
theorem dX8_time_28 : decode cX8_time 28 = .ok (.getfield 227, 3) := by decide +kernel
theorem dX8_time_31 : decode cX8_time 31 = .ok (.imul, 1) := by decide +kernel
theorem dX8_time_32 : decode cX8_time 32 = .ok (.bipush 10, 2) := by decide +kernel
theorem dX8_time_34 : decode cX8_time 34 = .ok (.idiv, 1) := by decide +kernel
theorem dX8_time_35 : decode cX8_time 35 = .ok (.iadd, 1) := by decide +kernel
theorem dX8_time_36 : decode cX8_time 36 = .ok (.i2l, 1) := by decide +kernel
theorem dX8_time_37 : decode cX8_time 37 = .ok (.ldiv, 1) := by decide +kernel
theorem dX8_time_38 : decode cX8_time 38 = .ok (.ladd, 1) := by decide +kernel
theorem dX8_time_39 : decode cX8_time 39 = .ok (.lstore_n 2, 1) := by decide +kernel
theorem dX8_time_40 : decode cX8_time 40 = .ok (.iinc 4 1, 3) := by decide +kernel
theorem dX8_time_43 : decode cX8_time 43 = .ok (.goto (-38), 3) := by decide +kernel
theorem dX8_time_46 : decode cX8_time 46 = .ok (.aload_n 0, 1) := by decide +kernel
theorem dX8_time_47 : decode cX8_time 47 = .ok (.iload_n 1, 1) := by decide +kernel
theorem dX8_time_48 : decode cX8_time 48 = .ok (.iconst 0, 1) := by decide +kernel
theorem dX8_time_49 : decode cX8_time 49 = .ok (.sipush 200, 3) := by decide +kernel
theorem dX8_time_52 : decode cX8_time 52 = .ok (.invokestatic 60, 3) := by decide +kernel
theorem dX8_time_55 : decode cX8_time 55 = .ok (.iconst 1, 1) := by decide +kernel
theorem dX8_time_56 : decode cX8_time 56 = .ok (.invokevirtual 64, 3) := by decide +kernel
theorem dX8_time_59 : decode cX8_time 59 = .ok (.ifCond .eq 7, 3) := by decide +kernel
theorem dX8_time_62 : decode cX8_time 62 = .ok (.lconst 0, 1) := by decide +kernel
theorem dX8_time_63 : decode cX8_time 63 = .ok (.goto 4, 3) := by decide +kernel
theorem dX8_time_66 : decode cX8_time 66 = .ok (.lload_n 2, 1) := by decide +kernel
theorem dX8_time_67 : decode cX8_time 67 = .ok (.lreturn, 1) := by decide +kernel
theorem dX8_checksum_0 : decode cX8_checksum 0 = .ok (.ldc2_w 232, 3) := by decide +kernel
theorem dX8_checksum_3 : decode cX8_checksum 3 = .ok (.lstore_n 1, 1) := by decide +kernel
theorem dX8_checksum_4 : decode cX8_checksum 4 = .ok (.aload_n 0, 1) := by decide +kernel
theorem dX8_checksum_5 : decode cX8_checksum 5 = .ok (.getfield 10, 3) := by decide +kernel
theorem dX8_checksum_8 : decode cX8_checksum 8 = .ok (.invokeinterface 104 1, 5) := by decide +kernel
theorem dX8_checksum_13 : decode cX8_checksum 13 = .ok (.astore_n 3, 1) := by decide +kernel
theorem dX8_checksum_14 : decode cX8_checksum 14 = .ok (.aload_n 3, 1) := by decide +kernel
theorem dX8_checksum_15 : decode cX8_checksum 15 = .ok (.invokeinterface 108 1, 5) := by decide +kernel
theorem dX8_checksum_20 : decode cX8_checksum 20 = .ok (.ifCond .eq 82, 3) := by decide +kernel
theorem dX8_checksum_23 : decode cX8_checksum 23 = .ok (.aload_n 3, 1) := by decide +kernel
theorem dX8_checksum_24 : decode cX8_checksum 24 = .ok (.invokeinterface 114 1, 5) := by decide +kernel
theorem dX8_checksum_29 : decode cX8_checksum 29 = .ok (.checkcast 68, 3) := by decide +kernel
theorem dX8_checksum_32 : decode cX8_checksum 32 = .ok (.astore 4, 2) := by decide +kernel
theorem dX8_checksum_34 : decode cX8_checksum 34 = .ok (.iconst 0, 1) := by decide +kernel
theorem dX8_checksum_35 : decode cX8_checksum 35 = .ok (.istore 5, 2) := by decide +kernel
theorem dX8_checksum_37 : decode cX8_checksum 37 = .ok (.iload 5, 2) := by decide +kernel
theorem dX8_checksum_39 : decode cX8_checksum 39 = .ok (.sipush 200, 3) := by decide +kernel
theorem dX8_checksum_42 : decode cX8_checksum 42 = .ok (.if_icmp .ge 57, 3) := by decide +kernel
theorem dX8_checksum_45 : decode cX8_checksum 45 = .ok (.iconst 0, 1) := by decide +kernel
theorem dX8_checksum_46 : decode cX8_checksum 46 = .ok (.istore 6, 2) := by decide +kernel
theorem dX8_checksum_48 : decode cX8_checksum 48 = .ok (.iload 6, 2) := by decide +kernel
theorem dX8_checksum_50 : decode cX8_checksum 50 = .ok (.bipush 16, 2) := by decide +kernel
theorem dX8_checksum_52 : decode cX8_checksum 52 = .ok (.if_icmp .ge 41, 3) := by decide +kernel
theorem dX8_checksum_55 : decode cX8_checksum 55 = .ok (.aload 4, 2) := by decide +kernel
theorem dX8_checksum_57 : decode cX8_checksum 57 = .ok (.iload 5, 2) := by decide +kernel
theorem dX8_checksum_59 : decode cX8_checksum 59 = .ok (.aaload, 1) := by decide +kernel
theorem dX8_checksum_60 : decode cX8_checksum 60 = .ok (.iload 6, 2) := by decide +kernel
theorem dX8_checksum_62 : decode cX8_checksum 62 = .ok (.baload, 1) := by decide +kernel
theorem dX8_checksum_63 : decode cX8_checksum 63 = .ok (.ifCond .eq 22, 3) := by decide +kernel
theorem dX8_checksum_66 : decode cX8_checksum 66 = .ok (.ldc2_w 234, 3) := by decide +kernel
theorem dX8_checksum_69 : decode cX8_checksum 69 = .ok (.lload_n 1, 1) := by decide +kernel
theorem dX8_checksum_70 : decode cX8_checksum 70 = .ok (.lmul, 1) := by decide +kernel
theorem dX8_checksum_71 : decode cX8_checksum 71 = .ok (.bipush 16, 2) := by decide +kernel
theorem dX8_checksum_73 : decode cX8_checksum 73 = .ok (.iload 5, 2) := by decide +kernel
theorem dX8_checksum_75 : decode cX8_checksum 75 = .ok (.imul, 1) := by decide +kernel
theorem dX8_checksum_76 : decode cX8_checksum 76 = .ok (.i2l, 1) := by decide +kernel
theorem dX8_checksum_77 : decode cX8_checksum 77 = .ok (.ladd, 1) := by decide +kernel
theorem dX8_checksum_78 : decode cX8_checksum 78 = .ok (.iload 6, 2) := by decide +kernel
theorem dX8_checksum_80 : decode cX8_checksum 80 = .ok (.i2l, 1) := by decide +kernel
theorem dX8_checksum_81 : decode cX8_checksum 81 = .ok (.ladd, 1) := by decide +kernel
theorem dX8_checksum_82 : decode cX8_checksum 82 = .ok (.goto 4, 3) := by decide +kernel
theorem dX8_checksum_85 : decode cX8_checksum 85 = .ok (.lload_n 1, 1) := by decide +kernel
theorem dX8_checksum_86 : decode cX8_checksum 86 = .ok (.lstore_n 1, 1) := by decide +kernel
theorem dX8_checksum_87 : decode cX8_checksum 87 = .ok (.iinc 6 1, 3) := by decide +kernel
theorem dX8_checksum_90 : decode cX8_checksum 90 = .ok (.goto (-42), 3) := by decide +kernel
theorem dX8_checksum_93 : decode cX8_checksum 93 = .ok (.iinc 5 1, 3) := by decide +kernel
theorem dX8_checksum_96 : decode cX8_checksum 96 = .ok (.goto (-59), 3) := by decide +kernel
theorem dX8_checksum_99 : decode cX8_checksum 99 = .ok (.goto (-85), 3) := by decide +kernel
theorem dX8_checksum_102 : decode cX8_checksum 102 = .ok (.aload_n 0, 1) := by decide +kernel
theorem dX8_checksum_103 : decode cX8_checksum 103 = .ok (.getfield 19, 3) := by decide +kernel
theorem dX8_checksum_106 : decode cX8_checksum 106 = .ok (.invokeinterface 104 1, 5) := by decide +kernel
theorem dX8_checksum_111 : decode cX8_checksum 111 = .ok (.astore_n 3, 1) := by decide +kernel
theorem dX8_checksum_112 : decode cX8_checksum 112 = .ok (.aload_n 3, 1) := by decide +kernel
theorem dX8_checksum_113 : decode cX8_checksum 113 = .ok (.invokeinterface 108 1, 5) := by decide +kernel
theorem dX8_checksum_118 : decode cX8_checksum 118 = .ok (.ifCond .eq 53, 3) := by decide +kernel
theorem dX8_checksum_121 : decode cX8_checksum 121 = .ok (.aload_n 3, 1) := by decide +kernel
theorem dX8_checksum_122 : decode cX8_checksum 122 = .ok (.invokeinterface 114 1, 5) := by decide +kernel
theorem dX8_checksum_127 : decode cX8_checksum 127 = .ok (.checkcast 117, 3) := by decide +kernel
theorem dX8_checksum_130 : decode cX8_checksum 130 = .ok (.astore 4, 2) := by decide +kernel
theorem dX8_checksum_132 : decode cX8_checksum 132 = .ok (.ldc2_w 234, 3) := by decide +kernel
theorem dX8_checksum_135 : decode cX8_checksum 135 = .ok (.lload_n 1, 1) := by decide +kernel
theorem dX8_checksum_136 : decode cX8_checksum 136 = .ok (.lmul, 1) := by decide +kernel
theorem dX8_checksum_137 : decode cX8_checksum 137 = .ok (.aload 4, 2) := by decide +kernel
theorem dX8_checksum_139 : decode cX8_checksum 139 = .ok (.iconst 0, 1) := by decide +kernel
theorem dX8_checksum_140 : decode cX8_checksum 140 = .ok (.iaload, 1) := by decide +kernel
theorem dX8_checksum_141 : decode cX8_checksum 141 = .ok (.i2l, 1) := by decide +kernel
theorem dX8_checksum_142 : decode cX8_checksum 142 = .ok (.ladd, 1) := by decide +kernel
theorem dX8_checksum_143 : decode cX8_checksum 143 = .ok (.lstore_n 1, 1) := by decide +kernel
theorem dX8_checksum_144 : decode cX8_checksum 144 = .ok (.ldc2_w 234, 3) := by decide +kernel
theorem dX8_checksum_147 : decode cX8_checksum 147 = .ok (.lload_n 1, 1) := by decide +kernel
theorem dX8_checksum_148 : decode cX8_checksum 148 = .ok (.lmul, 1) := by decide +kernel
theorem dX8_checksum_149 : decode cX8_checksum 149 = .ok (.aload 4, 2) := by decide +kernel
theorem dX8_checksum_151 : decode cX8_checksum 151 = .ok (.iconst 2, 1) := by decide +kernel
theorem dX8_checksum_152 : decode cX8_checksum 152 = .ok (.iaload, 1) := by decide +kernel
theorem dX8_checksum_153 : decode cX8_checksum 153 = .ok (.i2l, 1) := by decide +kernel
theorem dX8_checksum_154 : decode cX8_checksum 154 = .ok (.ladd, 1) := by decide +kernel
theorem dX8_checksum_155 : decode cX8_checksum 155 = .ok (.lstore_n 1, 1) := by decide +kernel
theorem dX8_checksum_156 : decode cX8_checksum 156 = .ok (.ldc2_w 234, 3) := by decide +kernel
theorem dX8_checksum_159 : decode cX8_checksum 159 = .ok (.lload_n 1, 1) := by decide +kernel
theorem dX8_checksum_160 : decode cX8_checksum 160 = .ok (.lmul, 1) := by decide +kernel
theorem dX8_checksum_161 : decode cX8_checksum 161 = .ok (.aload 4, 2) := by decide +kernel
theorem dX8_checksum_163 : decode cX8_checksum 163 = .ok (.iconst 4, 1) := by decide +kernel
theorem dX8_checksum_164 : decode cX8_checksum 164 = .ok (.iaload, 1) := by decide +kernel
theorem dX8_checksum_165 : decode cX8_checksum 165 = .ok (.i2l, 1) := by decide +kernel
theorem dX8_checksum_166 : decode cX8_checksum 166 = .ok (.ladd, 1) := by decide +kernel
theorem dX8_checksum_167 : decode cX8_checksum 167 = .ok (.lstore_n 1, 1) := by decide +kernel
theorem dX8_checksum_168 : decode cX8_checksum 168 = .ok (.goto (-56), 3) := by decide +kernel
theorem dX8_checksum_171 : decode cX8_checksum 171 = .ok (.lload_n 1, 1) := by decide +kernel
theorem dX8_checksum_172 : decode cX8_checksum 172 = .ok (.lreturn, 1) := by decide +kernel
theorem dX8_heardShare_0 : decode cX8_heardShare 0 = .ok (.aload_n 0, 1) := by decide +kernel
theorem dX8_heardShare_1 : decode cX8_heardShare 1 = .ok (.aload_n 0, 1) := by decide +kernel
theorem dX8_heardShare_2 : decode cX8_heardShare 2 = .ok (.getfield 152, 3) := by decide +kernel
theorem dX8_heardShare_5 : decode cX8_heardShare 5 = .ok (.ifCond .le 7, 3) := by decide +kernel
theorem dX8_heardShare_8 : decode cX8_heardShare 8 = .ok (.iconst 1, 1) := by decide +kernel
theorem dX8_heardShare_9 : decode cX8_heardShare 9 = .ok (.goto 4, 3) := by decide +kernel
theorem dX8_heardShare_12 : decode cX8_heardShare 12 = .ok (.iconst 0, 1) := by decide +kernel
theorem dX8_heardShare_13 : decode cX8_heardShare 13 = .ok (.iconst 1, 1) := by decide +kernel
theorem dX8_heardShare_14 : decode cX8_heardShare 14 = .ok (.invokevirtual 64, 3) := by decide +kernel
theorem dX8_heardShare_17 : decode cX8_heardShare 17 = .ok (.ifCond .eq 7, 3) := by decide +kernel
theorem dX8_heardShare_20 : decode cX8_heardShare 20 = .ok (.fconst 0, 1) := by decide +kernel
theorem dX8_heardShare_21 : decode cX8_heardShare 21 = .ok (.goto 14, 3) := by decide +kernel
theorem dX8_heardShare_24 : decode cX8_heardShare 24 = .ok (.aload_n 0, 1) := by decide +kernel
theorem dX8_heardShare_25 : decode cX8_heardShare 25 = .ok (.getfield 155, 3) := by decide +kernel
theorem dX8_heardShare_28 : decode cX8_heardShare 28 = .ok (.i2f, 1) := by decide +kernel
theorem dX8_heardShare_29 : decode cX8_heardShare 29 = .ok (.aload_n 0, 1) := by decide +kernel
theorem dX8_heardShare_30 : decode cX8_heardShare 30 = .ok (.getfield 152, 3) := by decide +kernel
theorem dX8_heardShare_33 : decode cX8_heardShare 33 = .ok (.i2f, 1) := by decide +kernel
theorem dX8_heardShare_34 : decode cX8_heardShare 34 = .ok (.fdiv, 1) := by decide +kernel
theorem dX8_heardShare_35 : decode cX8_heardShare 35 = .ok (.freturn, 1) := by decide +kernel
theorem dX8_meanLoud_0 : decode cX8_meanLoud 0 = .ok (.iconst 0, 1) := by decide +kernel
theorem dX8_meanLoud_1 : decode cX8_meanLoud 1 = .ok (.istore_n 1, 1) := by decide +kernel
theorem dX8_meanLoud_2 : decode cX8_meanLoud 2 = .ok (.aload_n 0, 1) := by decide +kernel
theorem dX8_meanLoud_3 : decode cX8_meanLoud 3 = .ok (.getfield 19, 3) := by decide +kernel
theorem dX8_meanLoud_6 : decode cX8_meanLoud 6 = .ok (.invokeinterface 104 1, 5) := by decide +kernel
theorem dX8_meanLoud_11 : decode cX8_meanLoud 11 = .ok (.astore_n 2, 1) := by decide +kernel
theorem dX8_meanLoud_12 : decode cX8_meanLoud 12 = .ok (.aload_n 2, 1) := by decide +kernel
theorem dX8_meanLoud_13 : decode cX8_meanLoud 13 = .ok (.invokeinterface 108 1, 5) := by decide +kernel
theorem dX8_meanLoud_18 : decode cX8_meanLoud 18 = .ok (.ifCond .eq 22, 3) := by decide +kernel
theorem dX8_meanLoud_21 : decode cX8_meanLoud 21 = .ok (.aload_n 2, 1) := by decide +kernel
theorem dX8_meanLoud_22 : decode cX8_meanLoud 22 = .ok (.invokeinterface 114 1, 5) := by decide +kernel
theorem dX8_meanLoud_27 : decode cX8_meanLoud 27 = .ok (.checkcast 117, 3) := by decide +kernel
theorem dX8_meanLoud_30 : decode cX8_meanLoud 30 = .ok (.astore_n 3, 1) := by decide +kernel
theorem dX8_meanLoud_31 : decode cX8_meanLoud 31 = .ok (.iload_n 1, 1) := by decide +kernel
theorem dX8_meanLoud_32 : decode cX8_meanLoud 32 = .ok (.aload_n 3, 1) := by decide +kernel
theorem dX8_meanLoud_33 : decode cX8_meanLoud 33 = .ok (.iconst 4, 1) := by decide +kernel
theorem dX8_meanLoud_34 : decode cX8_meanLoud 34 = .ok (.iaload, 1) := by decide +kernel
theorem dX8_meanLoud_35 : decode cX8_meanLoud 35 = .ok (.iadd, 1) := by decide +kernel
theorem dX8_meanLoud_36 : decode cX8_meanLoud 36 = .ok (.istore_n 1, 1) := by decide +kernel
theorem dX8_meanLoud_37 : decode cX8_meanLoud 37 = .ok (.goto (-25), 3) := by decide +kernel
theorem dX8_meanLoud_40 : decode cX8_meanLoud 40 = .ok (.aload_n 0, 1) := by decide +kernel
theorem dX8_meanLoud_41 : decode cX8_meanLoud 41 = .ok (.aload_n 0, 1) := by decide +kernel
theorem dX8_meanLoud_42 : decode cX8_meanLoud 42 = .ok (.getfield 19, 3) := by decide +kernel
theorem dX8_meanLoud_45 : decode cX8_meanLoud 45 = .ok (.invokeinterface 224 1, 5) := by decide +kernel
theorem dX8_meanLoud_50 : decode cX8_meanLoud 50 = .ok (.ifCond .ne 7, 3) := by decide +kernel
theorem dX8_meanLoud_53 : decode cX8_meanLoud 53 = .ok (.iconst 1, 1) := by decide +kernel
theorem dX8_meanLoud_54 : decode cX8_meanLoud 54 = .ok (.goto 4, 3) := by decide +kernel
theorem dX8_meanLoud_57 : decode cX8_meanLoud 57 = .ok (.iconst 0, 1) := by decide +kernel
theorem dX8_meanLoud_58 : decode cX8_meanLoud 58 = .ok (.iconst 1, 1) := by decide +kernel
theorem dX8_meanLoud_59 : decode cX8_meanLoud 59 = .ok (.invokevirtual 64, 3) := by decide +kernel
theorem dX8_meanLoud_62 : decode cX8_meanLoud 62 = .ok (.ifCond .eq 7, 3) := by decide +kernel
theorem dX8_meanLoud_65 : decode cX8_meanLoud 65 = .ok (.dconst 0, 1) := by decide +kernel
theorem dX8_meanLoud_66 : decode cX8_meanLoud 66 = .ok (.goto 16, 3) := by decide +kernel
theorem dX8_meanLoud_69 : decode cX8_meanLoud 69 = .ok (.iload_n 1, 1) := by decide +kernel
theorem dX8_meanLoud_70 : decode cX8_meanLoud 70 = .ok (.i2d, 1) := by decide +kernel
theorem dX8_meanLoud_71 : decode cX8_meanLoud 71 = .ok (.aload_n 0, 1) := by decide +kernel
theorem dX8_meanLoud_72 : decode cX8_meanLoud 72 = .ok (.getfield 19, 3) := by decide +kernel
theorem dX8_meanLoud_75 : decode cX8_meanLoud 75 = .ok (.invokeinterface 54 1, 5) := by decide +kernel
theorem dX8_meanLoud_80 : decode cX8_meanLoud 80 = .ok (.i2d, 1) := by decide +kernel
theorem dX8_meanLoud_81 : decode cX8_meanLoud 81 = .ok (.ddiv, 1) := by decide +kernel
theorem dX8_meanLoud_82 : decode cX8_meanLoud 82 = .ok (.dreturn, 1) := by decide +kernel
theorem dX8_isSound_0 : decode cX8_isSound 0 = .ok (.iconst 1, 1) := by decide +kernel
theorem dX8_isSound_1 : decode cX8_isSound 1 = .ok (.ireturn, 1) := by decide +kernel
theorem dX8_areSame_0 : decode cX8_areSame 0 = .ok (.aload_n 0, 1) := by decide +kernel
theorem dX8_areSame_1 : decode cX8_areSame 1 = .ok (.arraylength, 1) := by decide +kernel
theorem dX8_areSame_2 : decode cX8_areSame 2 = .ok (.aload_n 1, 1) := by decide +kernel
theorem dX8_areSame_3 : decode cX8_areSame 3 = .ok (.arraylength, 1) := by decide +kernel
theorem dX8_areSame_4 : decode cX8_areSame 4 = .ok (.if_icmp .ne 7, 3) := by decide +kernel
theorem dX8_areSame_7 : decode cX8_areSame 7 = .ok (.iconst 1, 1) := by decide +kernel
theorem dX8_areSame_8 : decode cX8_areSame 8 = .ok (.goto 4, 3) := by decide +kernel
theorem dX8_areSame_11 : decode cX8_areSame 11 = .ok (.iconst 0, 1) := by decide +kernel
theorem dX8_areSame_12 : decode cX8_areSame 12 = .ok (.istore_n 2, 1) := by decide +kernel
theorem dX8_areSame_13 : decode cX8_areSame 13 = .ok (.iconst 0, 1) := by decide +kernel
theorem dX8_areSame_14 : decode cX8_areSame 14 = .ok (.istore_n 3, 1) := by decide +kernel
theorem dX8_areSame_15 : decode cX8_areSame 15 = .ok (.iload_n 2, 1) := by decide +kernel
theorem dX8_areSame_16 : decode cX8_areSame 16 = .ok (.ifCond .eq 30, 3) := by decide +kernel
theorem dX8_areSame_19 : decode cX8_areSame 19 = .ok (.iload_n 3, 1) := by decide +kernel
theorem dX8_areSame_20 : decode cX8_areSame 20 = .ok (.aload_n 0, 1) := by decide +kernel
theorem dX8_areSame_21 : decode cX8_areSame 21 = .ok (.arraylength, 1) := by decide +kernel
theorem dX8_areSame_22 : decode cX8_areSame 22 = .ok (.if_icmp .ge 24, 3) := by decide +kernel
theorem dX8_areSame_25 : decode cX8_areSame 25 = .ok (.aload_n 0, 1) := by decide +kernel
theorem dX8_areSame_26 : decode cX8_areSame 26 = .ok (.iload_n 3, 1) := by decide +kernel
theorem dX8_areSame_27 : decode cX8_areSame 27 = .ok (.iaload, 1) := by decide +kernel
theorem dX8_areSame_28 : decode cX8_areSame 28 = .ok (.aload_n 1, 1) := by decide +kernel
theorem dX8_areSame_29 : decode cX8_areSame 29 = .ok (.iload_n 3, 1) := by decide +kernel
theorem dX8_areSame_30 : decode cX8_areSame 30 = .ok (.iaload, 1) := by decide +kernel
theorem dX8_areSame_31 : decode cX8_areSame 31 = .ok (.if_icmp .ne 7, 3) := by decide +kernel
theorem dX8_areSame_34 : decode cX8_areSame 34 = .ok (.iconst 1, 1) := by decide +kernel
theorem dX8_areSame_35 : decode cX8_areSame 35 = .ok (.goto 4, 3) := by decide +kernel
theorem dX8_areSame_38 : decode cX8_areSame 38 = .ok (.iconst 0, 1) := by decide +kernel
theorem dX8_areSame_39 : decode cX8_areSame 39 = .ok (.istore_n 2, 1) := by decide +kernel
theorem dX8_areSame_40 : decode cX8_areSame 40 = .ok (.iinc 3 1, 3) := by decide +kernel
theorem dX8_areSame_43 : decode cX8_areSame 43 = .ok (.goto (-28), 3) := by decide +kernel
theorem dX8_areSame_46 : decode cX8_areSame 46 = .ok (.iload_n 2, 1) := by decide +kernel
theorem dX8_areSame_47 : decode cX8_areSame 47 = .ok (.ireturn, 1) := by decide +kernel
