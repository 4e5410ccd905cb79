theorem dX0_init_0 : decode cX0_init 0 = .ok (.aload_n 0, 1) := by decide +kernel
theorem dX0_init_1 : decode cX0_init 1 = .ok (.invokespecial 3, 3) := by decide +kernel
theorem dX0_init_4 : decode cX0_init 4 = .ok (.aload_n 0, 1) := by decide +kernel
theorem dX0_init_5 : decode cX0_init 5 = .ok (.bipush 40, 2) := by decide +kernel
theorem dX0_init_7 : decode cX0_init 7 = .ok (.newarray .int, 2) := by decide +kernel
theorem dX0_init_9 : decode cX0_init 9 = .ok (.putfield 9, 3) := by decide +kernel
theorem dX0_init_12 : decode cX0_init 12 = .ok (.aload_n 0, 1) := by decide +kernel
theorem dX0_init_13 : decode cX0_init 13 = .ok (.bipush 40, 2) := by decide +kernel
theorem dX0_init_15 : decode cX0_init 15 = .ok (.newarray .int, 2) := by decide +kernel
theorem dX0_init_17 : decode cX0_init 17 = .ok (.putfield 15, 3) := by decide +kernel
theorem dX0_init_20 : decode cX0_init 20 = .ok (.aload_n 0, 1) := by decide +kernel
theorem dX0_init_21 : decode cX0_init 21 = .ok (.bipush 40, 2) := by decide +kernel
theorem dX0_init_23 : decode cX0_init 23 = .ok (.newarray .int, 2) := by decide +kernel
theorem dX0_init_25 : decode cX0_init 25 = .ok (.putfield 18, 3) := by decide +kernel
theorem dX0_init_28 : decode cX0_init 28 = .ok (.aload_n 0, 1) := by decide +kernel
theorem dX0_init_29 : decode cX0_init 29 = .ok (.iconst 0, 1) := by decide +kernel
theorem dX0_init_30 : decode cX0_init 30 = .ok (.putfield 21, 3) := by decide +kernel
theorem dX0_init_33 : decode cX0_init 33 = .ok (.return_, 1) := by decide +kernel
theorem dX0_isFull_0 : decode cX0_isFull 0 = .ok (.aload_n 0, 1) := by decide +kernel
theorem dX0_isFull_1 : decode cX0_isFull 1 = .ok (.getfield 21, 3) := by decide +kernel
theorem dX0_isFull_4 : decode cX0_isFull 4 = .ok (.bipush 40, 2) := by decide +kernel
theorem dX0_isFull_6 : decode cX0_isFull 6 = .ok (.if_icmp .lt 7, 3) := by decide +kernel
theorem dX0_isFull_9 : decode cX0_isFull 9 = .ok (.iconst 1, 1) := by decide +kernel
theorem dX0_isFull_10 : decode cX0_isFull 10 = .ok (.goto 4, 3) := by decide +kernel
theorem dX0_isFull_13 : decode cX0_isFull 13 = .ok (.iconst 0, 1) := by decide +kernel
theorem dX0_isFull_14 : decode cX0_isFull 14 = .ok (.ireturn, 1) := by decide +kernel
theorem dX0_isTooNear_0 : decode cX0_isTooNear 0 = .ok (.iconst 0, 1) := by decide +kernel
theorem dX0_isTooNear_1 : decode cX0_isTooNear 1 = .ok (.istore 4, 2) := by decide +kernel
theorem dX0_isTooNear_3 : decode cX0_isTooNear 3 = .ok (.iload 4, 2) := by decide +kernel
theorem dX0_isTooNear_5 : decode cX0_isTooNear 5 = .ok (.aload_n 0, 1) := by decide +kernel
theorem dX0_isTooNear_6 : decode cX0_isTooNear 6 = .ok (.getfield 21, 3) := by decide +kernel
theorem dX0_isTooNear_9 : decode cX0_isTooNear 9 = .ok (.if_icmp .ge 82, 3) := by decide +kernel
theorem dX0_isTooNear_12 : decode cX0_isTooNear 12 = .ok (.aload_n 0, 1) := by decide +kernel
theorem dX0_isTooNear_13 : decode cX0_isTooNear 13 = .ok (.getfield 18, 3) := by decide +kernel
theorem dX0_isTooNear_16 : decode cX0_isTooNear 16 = .ok (.iload 4, 2) := by decide +kernel
theorem dX0_isTooNear_18 : decode cX0_isTooNear 18 = .ok (.iaload, 1) := by decide +kernel
theorem dX0_isTooNear_19 : decode cX0_isTooNear 19 = .ok (.iload_n 3, 1) := by decide +kernel
theorem dX0_isTooNear_20 : decode cX0_isTooNear 20 = .ok (.if_icmp .ne 65, 3) := by decide +kernel
theorem dX0_isTooNear_23 : decode cX0_isTooNear 23 = .ok (.iload_n 1, 1) := by decide +kernel
theorem dX0_isTooNear_24 : decode cX0_isTooNear 24 = .ok (.iload_n 2, 1) := by decide +kernel
theorem dX0_isTooNear_25 : decode cX0_isTooNear 25 = .ok (.iadd, 1) := by decide +kernel
theorem dX0_isTooNear_26 : decode cX0_isTooNear 26 = .ok (.iconst 2, 1) := by decide +kernel
theorem dX0_isTooNear_27 : decode cX0_isTooNear 27 = .ok (.iadd, 1) := by decide +kernel
theorem dX0_isTooNear_28 : decode cX0_isTooNear 28 = .ok (.aload_n 0, 1) := by decide +kernel
theorem dX0_isTooNear_29 : decode cX0_isTooNear 29 = .ok (.getfield 9, 3) := by decide +kernel
theorem dX0_isTooNear_32 : decode cX0_isTooNear 32 = .ok (.iload 4, 2) := by decide +kernel
theorem dX0_isTooNear_34 : decode cX0_isTooNear 34 = .ok (.iaload, 1) := by decide +kernel
theorem dX0_isTooNear_35 : decode cX0_isTooNear 35 = .ok (.if_icmp .gt 7, 3) := by decide +kernel
theorem dX0_isTooNear_38 : decode cX0_isTooNear 38 = .ok (.iconst 1, 1) := by decide +kernel
theorem dX0_isTooNear_39 : decode cX0_isTooNear 39 = .ok (.goto 4, 3) := by decide +kernel
theorem dX0_isTooNear_42 : decode cX0_isTooNear 42 = .ok (.iconst 0, 1) := by decide +kernel
theorem dX0_isTooNear_43 : decode cX0_isTooNear 43 = .ok (.istore 5, 2) := by decide +kernel
theorem dX0_isTooNear_45 : decode cX0_isTooNear 45 = .ok (.aload_n 0, 1) := by decide +kernel
theorem dX0_isTooNear_46 : decode cX0_isTooNear 46 = .ok (.getfield 9, 3) := by decide +kernel
theorem dX0_isTooNear_49 : decode cX0_isTooNear 49 = .ok (.iload 4, 2) := by decide +kernel
theorem dX0_isTooNear_51 : decode cX0_isTooNear 51 = .ok (.iaload, 1) := by decide +kernel
theorem dX0_isTooNear_52 : decode cX0_isTooNear 52 = .ok (.aload_n 0, 1) := by decide +kernel
theorem dX0_isTooNear_53 : decode cX0_isTooNear 53 = .ok (.getfield 15, 3) := by decide +kernel
theorem dX0_isTooNear_56 : decode cX0_isTooNear 56 = .ok (.iload 4, 2) := by decide +kernel
theorem dX0_isTooNear_58 : decode cX0_isTooNear 58 = .ok (.iaload, 1) := by decide +kernel
theorem dX0_isTooNear_59 : decode cX0_isTooNear 59 = .ok (.iadd, 1) := by decide +kernel
theorem dX0_isTooNear_60 : decode cX0_isTooNear 60 = .ok (.iconst 2, 1) := by decide +kernel
theorem dX0_isTooNear_61 : decode cX0_isTooNear 61 = .ok (.iadd, 1) := by decide +kernel
theorem dX0_isTooNear_62 : decode cX0_isTooNear 62 = .ok (.iload_n 1, 1) := by decide +kernel
theorem dX0_isTooNear_63 : decode cX0_isTooNear 63 = .ok (.if_icmp .gt 7, 3) := by decide +kernel
theorem dX0_isTooNear_66 : decode cX0_isTooNear 66 = .ok (.iconst 1, 1) := by decide +kernel
theorem dX0_isTooNear_67 : decode cX0_isTooNear 67 = .ok (.goto 4, 3) := by decide +kernel
theorem dX0_isTooNear_70 : decode cX0_isTooNear 70 = .ok (.iconst 0, 1) := by decide +kernel
theorem dX0_isTooNear_71 : decode cX0_isTooNear 71 = .ok (.istore 6, 2) := by decide +kernel
theorem dX0_isTooNear_73 : decode cX0_isTooNear 73 = .ok (.iload 5, 2) := by decide +kernel
theorem dX0_isTooNear_75 : decode cX0_isTooNear 75 = .ok (.ifCond .ne 10, 3) := by decide +kernel
theorem dX0_isTooNear_78 : decode cX0_isTooNear 78 = .ok (.iload 6, 2) := by decide +kernel
theorem dX0_isTooNear_80 : decode cX0_isTooNear 80 = .ok (.ifCond .ne 5, 3) := by decide +kernel
theorem dX0_isTooNear_83 : decode cX0_isTooNear 83 = .ok (.iconst 1, 1) := by decide +kernel
theorem dX0_isTooNear_84 : decode cX0_isTooNear 84 = .ok (.ireturn, 1) := by decide +kernel
theorem dX0_isTooNear_85 : decode cX0_isTooNear 85 = .ok (.iinc 4 1, 3) := by decide +kernel
theorem dX0_isTooNear_88 : decode cX0_isTooNear 88 = .ok (.goto (-85), 3) := by decide +kernel
theorem dX0_isTooNear_91 : decode cX0_isTooNear 91 = .ok (.iconst 0, 1) := by decide +kernel
theorem dX0_isTooNear_92 : decode cX0_isTooNear 92 = .ok (.ireturn, 1) := by decide +kernel
theorem dX0_type_0 : decode cX0_type 0 = .ok (.aload_n 0, 1) := by decide +kernel
theorem dX0_type_1 : decode cX0_type 1 = .ok (.getfield 21, 3) := by decide +kernel
theorem dX0_type_4 : decode cX0_type 4 = .ok (.bipush 40, 2) := by decide +kernel
theorem dX0_type_6 : decode cX0_type 6 = .ok (.if_icmp .ge 43, 3) := by decide +kernel
theorem dX0_type_9 : decode cX0_type 9 = .ok (.aload_n 0, 1) := by decide +kernel
theorem dX0_type_10 : decode cX0_type 10 = .ok (.getfield 9, 3) := by decide +kernel
theorem dX0_type_13 : decode cX0_type 13 = .ok (.aload_n 0, 1) := by decide +kernel
theorem dX0_type_14 : decode cX0_type 14 = .ok (.getfield 21, 3) := by decide +kernel
theorem dX0_type_17 : decode cX0_type 17 = .ok (.iload_n 1, 1) := by decide +kernel
theorem dX0_type_18 : decode cX0_type 18 = .ok (.iastore, 1) := by decide +kernel
theorem dX0_type_19 : decode cX0_type 19 = .ok (.aload_n 0, 1) := by decide +kernel
theorem dX0_type_20 : decode cX0_type 20 = .ok (.getfield 15, 3) := by decide +kernel
theorem dX0_type_23 : decode cX0_type 23 = .ok (.aload_n 0, 1) := by decide +kernel
theorem dX0_type_24 : decode cX0_type 24 = .ok (.getfield 21, 3) := by decide +kernel
theorem dX0_type_27 : decode cX0_type 27 = .ok (.iload_n 2, 1) := by decide +kernel
theorem dX0_type_28 : decode cX0_type 28 = .ok (.iastore, 1) := by decide +kernel
theorem dX0_type_29 : decode cX0_type 29 = .ok (.aload_n 0, 1) := by decide +kernel
theorem dX0_type_30 : decode cX0_type 30 = .ok (.getfield 18, 3) := by decide +kernel
theorem dX0_type_33 : decode cX0_type 33 = .ok (.aload_n 0, 1) := by decide +kernel
theorem dX0_type_34 : decode cX0_type 34 = .ok (.getfield 21, 3) := by decide +kernel
theorem dX0_type_37 : decode cX0_type 37 = .ok (.iload_n 3, 1) := by decide +kernel
theorem dX0_type_38 : decode cX0_type 38 = .ok (.iastore, 1) := by decide +kernel
theorem dX0_type_39 : decode cX0_type 39 = .ok (.aload_n 0, 1) := by decide +kernel
theorem dX0_type_40 : decode cX0_type 40 = .ok (.dup, 1) := by decide +kernel
theorem dX0_type_41 : decode cX0_type 41 = .ok (.getfield 21, 3) := by decide +kernel
theorem dX0_type_44 : decode cX0_type 44 = .ok (.iconst 1, 1) := by decide +kernel
theorem dX0_type_45 : decode cX0_type 45 = .ok (.iadd, 1) := by decide +kernel
theorem dX0_type_46 : decode cX0_type 46 = .ok (.putfield 21, 3) := by decide +kernel
theorem dX0_type_49 : decode cX0_type 49 = .ok (.aload_n 0, 1) := by decide +kernel
theorem dX0_type_50 : decode cX0_type 50 = .ok (.getfield 21, 3) := by decide +kernel
theorem dX0_type_53 : decode cX0_type 53 = .ok (.ireturn, 1) := by decide +kernel
theorem dX0_forgetAll_0 : decode cX0_forgetAll 0 = .ok (.aload_n 0, 1) := by decide +kernel
theorem dX0_forgetAll_1 : decode cX0_forgetAll 1 = .ok (.getfield 21, 3) := by decide +kernel
theorem dX0_forgetAll_4 : decode cX0_forgetAll 4 = .ok (.istore_n 1, 1) := by decide +kernel
theorem dX0_forgetAll_5 : decode cX0_forgetAll 5 = .ok (.aload_n 0, 1) := by decide +kernel
theorem dX0_forgetAll_6 : decode cX0_forgetAll 6 = .ok (.iconst 0, 1) := by decide +kernel
theorem dX0_forgetAll_7 : decode cX0_forgetAll 7 = .ok (.putfield 21, 3) := by decide +kernel
theorem dX0_forgetAll_10 : decode cX0_forgetAll 10 = .ok (.iload_n 1, 1) := by decide +kernel
theorem dX0_forgetAll_11 : decode cX0_forgetAll 11 = .ok (.ireturn, 1) := by decide +kernel
theorem dX0_punchInto_0 : decode cX0_punchInto 0 = .ok (.iconst 0, 1) := by decide +kernel
theorem dX0_punchInto_1 : decode cX0_punchInto 1 = .ok (.istore_n 3, 1) := by decide +kernel
theorem dX0_punchInto_2 : decode cX0_punchInto 2 = .ok (.iload_n 3, 1) := by decide +kernel
theorem dX0_punchInto_3 : decode cX0_punchInto 3 = .ok (.aload_n 0, 1) := by decide +kernel
theorem dX0_punchInto_4 : decode cX0_punchInto 4 = .ok (.getfield 21, 3) := by decide +kernel
theorem dX0_punchInto_7 : decode cX0_punchInto 7 = .ok (.if_icmp .ge 16, 3) := by decide +kernel
theorem dX0_punchInto_10 : decode cX0_punchInto 10 = .ok (.aload_n 0, 1) := by decide +kernel
theorem dX0_punchInto_11 : decode cX0_punchInto 11 = .ok (.aload_n 1, 1) := by decide +kernel
theorem dX0_punchInto_12 : decode cX0_punchInto 12 = .ok (.iload_n 3, 1) := by decide +kernel
theorem dX0_punchInto_13 : decode cX0_punchInto 13 = .ok (.iload_n 2, 1) := by decide +kernel
theorem dX0_punchInto_14 : decode cX0_punchInto 14 = .ok (.invokevirtual 25, 3) := by decide +kernel
theorem dX0_punchInto_17 : decode cX0_punchInto 17 = .ok (.iinc 3 1, 3) := by decide +kernel
theorem dX0_punchInto_20 : decode cX0_punchInto 20 = .ok (.goto (-18), 3) := by decide +kernel
theorem dX0_punchInto_23 : decode cX0_punchInto 23 = .ok (.return_, 1) := by decide +kernel
theorem dX0_punchNote_0 : decode cX0_punchNote 0 = .ok (.aload_n 0, 1) := by decide +kernel
theorem dX0_punchNote_1 : decode cX0_punchNote 1 = .ok (.getfield 15, 3) := by decide +kernel
theorem dX0_punchNote_4 : decode cX0_punchNote 4 = .ok (.iload_n 2, 1) := by decide +kernel
theorem dX0_punchNote_5 : decode cX0_punchNote 5 = .ok (.iaload, 1) := by decide +kernel
theorem dX0_punchNote_6 : decode cX0_punchNote 6 = .ok (.istore 4, 2) := by decide +kernel
theorem dX0_punchNote_8 : decode cX0_punchNote 8 = .ok (.iconst 0, 1) := by decide +kernel
theorem dX0_punchNote_9 : decode cX0_punchNote 9 = .ok (.istore 5, 2) := by decide +kernel
theorem dX0_punchNote_11 : decode cX0_punchNote 11 = .ok (.iload 5, 2) := by decide +kernel
theorem dX0_punchNote_13 : decode cX0_punchNote 13 = .ok (.iload 4, 2) := by decide +kernel
theorem dX0_punchNote_15 : decode cX0_punchNote 15 = .ok (.if_icmp .ge 62, 3) := by decide +kernel
theorem dX0_punchNote_18 : decode cX0_punchNote 18 = .ok (.iload_n 3, 1) := by decide +kernel
theorem dX0_punchNote_19 : decode cX0_punchNote 19 = .ok (.ifCond .eq 24, 3) := by decide +kernel
theorem dX0_punchNote_22 : decode cX0_punchNote 22 = .ok (.iload 5, 2) := by decide +kernel
theorem dX0_punchNote_24 : decode cX0_punchNote 24 = .ok (.iconst 4, 1) := by decide +kernel
theorem dX0_punchNote_25 : decode cX0_punchNote 25 = .ok (.irem, 1) := by decide +kernel
theorem dX0_punchNote_26 : decode cX0_punchNote 26 = .ok (.iconst 3, 1) := by decide +kernel
theorem dX0_punchNote_27 : decode cX0_punchNote 27 = .ok (.if_icmp .ne 16, 3) := by decide +kernel
theorem dX0_punchNote_30 : decode cX0_punchNote 30 = .ok (.iload 5, 2) := by decide +kernel
theorem dX0_punchNote_32 : decode cX0_punchNote 32 = .ok (.iload 4, 2) := by decide +kernel
theorem dX0_punchNote_34 : decode cX0_punchNote 34 = .ok (.iconst 1, 1) := by decide +kernel
theorem dX0_punchNote_35 : decode cX0_punchNote 35 = .ok (.isub, 1) := by decide +kernel
theorem dX0_punchNote_36 : decode cX0_punchNote 36 = .ok (.if_icmp .ge 7, 3) := by decide +kernel
theorem dX0_punchNote_39 : decode cX0_punchNote 39 = .ok (.iconst 1, 1) := by decide +kernel
theorem dX0_punchNote_40 : decode cX0_punchNote 40 = .ok (.goto 4, 3) := by decide +kernel
theorem dX0_punchNote_43 : decode cX0_punchNote 43 = .ok (.iconst 0, 1) := by decide +kernel
theorem dX0_punchNote_44 : decode cX0_punchNote 44 = .ok (.istore 6, 2) := by decide +kernel
theorem dX0_punchNote_46 : decode cX0_punchNote 46 = .ok (.iload 6, 2) := by decide +kernel
theorem dX0_punchNote_48 : decode cX0_punchNote 48 = .ok (.ifCond .ne 23, 3) := by decide +kernel
theorem dX0_punchNote_51 : decode cX0_punchNote 51 = .ok (.aload_n 1, 1) := by decide +kernel
theorem dX0_punchNote_52 : decode cX0_punchNote 52 = .ok (.aload_n 0, 1) := by decide +kernel
theorem dX0_punchNote_53 : decode cX0_punchNote 53 = .ok (.getfield 9, 3) := by decide +kernel
theorem dX0_punchNote_56 : decode cX0_punchNote 56 = .ok (.iload_n 2, 1) := by decide +kernel
theorem dX0_punchNote_57 : decode cX0_punchNote 57 = .ok (.iaload, 1) := by decide +kernel
theorem dX0_punchNote_58 : decode cX0_punchNote 58 = .ok (.iload 5, 2) := by decide +kernel
theorem dX0_punchNote_60 : decode cX0_punchNote 60 = .ok (.iadd, 1) := by decide +kernel
theorem dX0_punchNote_61 : decode cX0_punchNote 61 = .ok (.aload_n 0, 1) := by decide +kernel
theorem dX0_punchNote_62 : decode cX0_punchNote 62 = .ok (.getfield 18, 3) := by decide +kernel
theorem dX0_punchNote_65 : decode cX0_punchNote 65 = .ok (.iload_n 2, 1) := by decide +kernel
theorem dX0_punchNote_66 : decode cX0_punchNote 66 = .ok (.iaload, 1) := by decide +kernel
theorem dX0_punchNote_67 : decode cX0_punchNote 67 = .ok (.iconst 1, 1) := by decide +kernel
theorem dX0_punchNote_68 : decode cX0_punchNote 68 = .ok (.invokevirtual 29, 3) := by decide +kernel
theorem dX0_punchNote_71 : decode cX0_punchNote 71 = .ok (.iinc 5 1, 3) := by decide +kernel
theorem dX0_punchNote_74 : decode cX0_punchNote 74 = .ok (.goto (-63), 3) := by decide +kernel
theorem dX0_punchNote_77 : decode cX0_punchNote 77 = .ok (.return_, 1) := by decide +kernel
theorem dX0_isScannedFrom_0 : decode cX0_isScannedFrom 0 = .ok (.aload_n 1, 1) := by decide +kernel
theorem dX0_isScannedFrom_1 : decode cX0_isScannedFrom 1 = .ok (.invokevirtual 35, 3) := by decide +kernel
theorem dX0_isScannedFrom_4 : decode cX0_isScannedFrom 4 = .ok (.aload_n 0, 1) := by decide +kernel
theorem dX0_isScannedFrom_5 : decode cX0_isScannedFrom 5 = .ok (.getfield 21, 3) := by decide +kernel
theorem dX0_isScannedFrom_8 : decode cX0_isScannedFrom 8 = .ok (.if_icmp .eq 5, 3) := by decide +kernel
theorem dX0_isScannedFrom_11 : decode cX0_isScannedFrom 11 = .ok (.iconst 0, 1) := by decide +kernel
theorem dX0_isScannedFrom_12 : decode cX0_isScannedFrom 12 = .ok (.ireturn, 1) := by decide +kernel
theorem dX0_isScannedFrom_13 : decode cX0_isScannedFrom 13 = .ok (.iconst 0, 1) := by decide +kernel
theorem dX0_isScannedFrom_14 : decode cX0_isScannedFrom 14 = .ok (.istore_n 2, 1) := by decide +kernel
theorem dX0_isScannedFrom_15 : decode cX0_isScannedFrom 15 = .ok (.iload_n 2, 1) := by decide +kernel
theorem dX0_isScannedFrom_16 : decode cX0_isScannedFrom 16 = .ok (.aload_n 0, 1) := by decide +kernel
theorem dX0_isScannedFrom_17 : decode cX0_isScannedFrom 17 = .ok (.getfield 21, 3) := by decide +kernel
theorem dX0_isScannedFrom_20 : decode cX0_isScannedFrom 20 = .ok (.if_icmp .ge 55, 3) := by decide +kernel
theorem dX0_isScannedFrom_23 : decode cX0_isScannedFrom 23 = .ok (.aload_n 1, 1) := by decide +kernel
theorem dX0_isScannedFrom_24 : decode cX0_isScannedFrom 24 = .ok (.aload_n 0, 1) := by decide +kernel
theorem dX0_isScannedFrom_25 : decode cX0_isScannedFrom 25 = .ok (.getfield 9, 3) := by decide +kernel
theorem dX0_isScannedFrom_28 : decode cX0_isScannedFrom 28 = .ok (.iload_n 2, 1) := by decide +kernel
theorem dX0_isScannedFrom_29 : decode cX0_isScannedFrom 29 = .ok (.iaload, 1) := by decide +kernel
theorem dX0_isScannedFrom_30 : decode cX0_isScannedFrom 30 = .ok (.aload_n 0, 1) := by decide +kernel
theorem dX0_isScannedFrom_31 : decode cX0_isScannedFrom 31 = .ok (.getfield 18, 3) := by decide +kernel
theorem dX0_isScannedFrom_34 : decode cX0_isScannedFrom 34 = .ok (.iload_n 2, 1) := by decide +kernel
theorem dX0_isScannedFrom_35 : decode cX0_isScannedFrom 35 = .ok (.iaload, 1) := by decide +kernel
theorem dX0_isScannedFrom_36 : decode cX0_isScannedFrom 36 = .ok (.invokevirtual 39, 3) := by decide +kernel
theorem dX0_isScannedFrom_39 : decode cX0_isScannedFrom 39 = .ok (.ifCond .eq 28, 3) := by decide +kernel
theorem dX0_isScannedFrom_42 : decode cX0_isScannedFrom 42 = .ok (.aload_n 1, 1) := by decide +kernel
theorem dX0_isScannedFrom_43 : decode cX0_isScannedFrom 43 = .ok (.aload_n 0, 1) := by decide +kernel
theorem dX0_isScannedFrom_44 : decode cX0_isScannedFrom 44 = .ok (.getfield 9, 3) := by decide +kernel
theorem dX0_isScannedFrom_47 : decode cX0_isScannedFrom 47 = .ok (.iload_n 2, 1) := by decide +kernel
theorem dX0_isScannedFrom_48 : decode cX0_isScannedFrom 48 = .ok (.iaload, 1) := by decide +kernel
theorem dX0_isScannedFrom_49 : decode cX0_isScannedFrom 49 = .ok (.aload_n 0, 1) := by decide +kernel
theorem dX0_isScannedFrom_50 : decode cX0_isScannedFrom 50 = .ok (.getfield 18, 3) := by decide +kernel
theorem dX0_isScannedFrom_53 : decode cX0_isScannedFrom 53 = .ok (.iload_n 2, 1) := by decide +kernel
theorem dX0_isScannedFrom_54 : decode cX0_isScannedFrom 54 = .ok (.iaload, 1) := by decide +kernel
theorem dX0_isScannedFrom_55 : decode cX0_isScannedFrom 55 = .ok (.invokevirtual 43, 3) := by decide +kernel
theorem dX0_isScannedFrom_58 : decode cX0_isScannedFrom 58 = .ok (.aload_n 0, 1) := by decide +kernel
theorem dX0_isScannedFrom_59 : decode cX0_isScannedFrom 59 = .ok (.getfield 15, 3) := by decide +kernel
theorem dX0_isScannedFrom_62 : decode cX0_isScannedFrom 62 = .ok (.iload_n 2, 1) := by decide +kernel
theorem dX0_isScannedFrom_63 : decode cX0_isScannedFrom 63 = .ok (.iaload, 1) := by decide +kernel
theorem dX0_isScannedFrom_64 : decode cX0_isScannedFrom 64 = .ok (.if_icmp .eq 5, 3) := by decide +kernel
theorem dX0_isScannedFrom_67 : decode cX0_isScannedFrom 67 = .ok (.iconst 0, 1) := by decide +kernel
theorem dX0_isScannedFrom_68 : decode cX0_isScannedFrom 68 = .ok (.ireturn, 1) := by decide +kernel
theorem dX0_isScannedFrom_69 : decode cX0_isScannedFrom 69 = .ok (.iinc 2 1, 3) := by decide +kernel
theorem dX0_isScannedFrom_72 : decode cX0_isScannedFrom 72 = .ok (.goto (-57), 3) := by decide +kernel
theorem dX0_isScannedFrom_75 : decode cX0_isScannedFrom 75 = .ok (.iconst 1, 1) := by decide +kernel
theorem dX0_isScannedFrom_76 : decode cX0_isScannedFrom 76 = .ok (.ireturn, 1) := by decide +kernel
set_option maxRecDepth 20000 in
theorem ggX0_punchInto_X0_punchNote : GoodIn wsX0_punchInto wsX0_punchNote := goodIn_ca (goodIn_r _ [6, 7, 8, 9, 10, 11, 12, 13, 14, 15, 16, 17, 18, 19, 20] (by decide +kernel) (by decide +kernel)) (goodIn_sub (fun _ h => List.mem_cons_of_mem _ (List.mem_append_right _ h)) (by decide +kernel))
set_option maxRecDepth 20000 in
theorem gX0_punchInto_X0_punchNote : GoodIn wsX0_punchInto (wsV RX0 25 RX0 yX0_punchNote wsX0_punchNote) := goodIn_app (goodIn_of _ (by decide +kernel)) ggX0_punchInto_X0_punchNote
set_option maxRecDepth 20000 in
theorem ggX0_punchNote_X1_putHole : GoodIn wsX0_punchNote wsX1_putHole := goodIn_ca (goodIn_r _ [8, 9, 14] (by decide +kernel) (by decide +kernel)) (goodIn_sub (fun _ h => List.mem_cons_of_mem _ (List.mem_append_right _ h)) (by decide +kernel))
set_option maxRecDepth 20000 in
theorem gX0_punchNote_X1_putHole : GoodIn wsX0_punchNote (wsV RX0 29 RX1 yX1_putHole wsX1_putHole) := goodIn_app (goodIn_of _ (by decide +kernel)) ggX0_punchNote_X1_putHole
set_option maxRecDepth 20000 in
theorem ggX0_isScannedFrom_X1_countNotes : GoodIn wsX0_isScannedFrom wsX1_countNotes := goodIn_ca (goodIn_r _ [9, 10, 11, 12, 8, 13, 14, 15, 16, 17, 18, 19, 20, 21, 22, 23, 24, 25, 42] (by decide +kernel) (by decide +kernel)) (goodIn_sub (fun _ h => List.mem_cons_of_mem _ (List.mem_append_right _ h)) (by decide +kernel))
set_option maxRecDepth 20000 in
theorem gX0_isScannedFrom_X1_countNotes : GoodIn wsX0_isScannedFrom (wsV RX0 35 RX1 yX1_countNotes wsX1_countNotes) := goodIn_app (goodIn_of _ (by decide +kernel)) ggX0_isScannedFrom_X1_countNotes
set_option maxRecDepth 20000 in
theorem ggX0_isScannedFrom_X1_isBeginning : GoodIn wsX0_isScannedFrom wsX1_isBeginning := goodIn_ca (goodIn_r _ [29, 10, 11, 12, 8, 13, 14, 15, 16, 17, 18, 42] (by decide +kernel) (by decide +kernel)) (goodIn_sub (fun _ h => List.mem_cons_of_mem _ (List.mem_append_right _ h)) (by decide +kernel))
set_option maxRecDepth 20000 in
theorem gX0_isScannedFrom_X1_isBeginning : GoodIn wsX0_isScannedFrom (wsV RX0 39 RX1 yX1_isBeginning wsX1_isBeginning) := goodIn_app (goodIn_of _ (by decide +kernel)) ggX0_isScannedFrom_X1_isBeginning
set_option maxRecDepth 20000 in
theorem ggX0_isScannedFrom_X1_measureNote : GoodIn wsX0_isScannedFrom wsX1_measureNote := goodIn_ca (goodIn_r _ [33, 34, 35, 36, 8, 37, 14, 15, 16, 17, 18, 42] (by decide +kernel) (by decide +kernel)) (goodIn_sub (fun _ h => List.mem_cons_of_mem _ (List.mem_append_right _ h)) (by decide +kernel))
set_option maxRecDepth 20000 in
theorem gX0_isScannedFrom_X1_measureNote : GoodIn wsX0_isScannedFrom (wsV RX0 43 RX1 yX1_measureNote wsX1_measureNote) := goodIn_app (goodIn_of _ (by decide +kernel)) ggX0_isScannedFrom_X1_measureNote
theorem dX3_init_0 : decode cX3_init 0 = .ok (.aload_n 0, 1) := by decide +kernel
theorem dX3_init_1 : decode cX3_init 1 = .ok (.invokespecial 3, 3) := by decide +kernel
theorem dX3_init_4 : decode cX3_init 4 = .ok (.aload_n 0, 1) := by decide +kernel
theorem dX3_init_5 : decode cX3_init 5 = .ok (.iconst 1, 1) := by decide +kernel
theorem dX3_init_6 : decode cX3_init 6 = .ok (.putfield 9, 3) := by decide +kernel
theorem dX3_init_9 : decode cX3_init 9 = .ok (.aload_n 0, 1) := by decide +kernel
theorem dX3_init_10 : decode cX3_init 10 = .ok (.iconst 0, 1) := by decide +kernel
theorem dX3_init_11 : decode cX3_init 11 = .ok (.putfield 15, 3) := by decide +kernel
theorem dX3_init_14 : decode cX3_init 14 = .ok (.aload_n 0, 1) := by decide +kernel
theorem dX3_init_15 : decode cX3_init 15 = .ok (.bipush 100, 2) := by decide +kernel
theorem dX3_init_17 : decode cX3_init 17 = .ok (.putfield 18, 3) := by decide +kernel
theorem dX3_init_20 : decode cX3_init 20 = .ok (.aload_n 0, 1) := by decide +kernel
theorem dX3_init_21 : decode cX3_init 21 = .ok (.iconst 0, 1) := by decide +kernel
theorem dX3_init_22 : decode cX3_init 22 = .ok (.putfield 21, 3) := by decide +kernel
theorem dX3_init_25 : decode cX3_init 25 = .ok (.aload_n 0, 1) := by decide +kernel
theorem dX3_init_26 : decode cX3_init 26 = .ok (.bipush 97, 2) := by decide +kernel
theorem dX3_init_28 : decode cX3_init 28 = .ok (.putfield 24, 3) := by decide +kernel
theorem dX3_init_31 : decode cX3_init 31 = .ok (.return_, 1) := by decide +kernel
theorem dX3_findMost_0 : decode cX3_findMost 0 = .ok (.iload_n 1, 1) := by decide +kernel
theorem dX3_findMost_1 : decode cX3_findMost 1 = .ok (.bipush 103, 2) := by decide +kernel
theorem dX3_findMost_3 : decode cX3_findMost 3 = .ok (.if_icmp .ne 5, 3) := by decide +kernel
theorem dX3_findMost_6 : decode cX3_findMost 6 = .ok (.iconst 3, 1) := by decide +kernel
theorem dX3_findMost_7 : decode cX3_findMost 7 = .ok (.ireturn, 1) := by decide +kernel
theorem dX3_findMost_8 : decode cX3_findMost 8 = .ok (.iload_n 1, 1) := by decide +kernel
theorem dX3_findMost_9 : decode cX3_findMost 9 = .ok (.bipush 108, 2) := by decide +kernel
theorem dX3_findMost_11 : decode cX3_findMost 11 = .ok (.if_icmp .ne 7, 3) := by decide +kernel
theorem dX3_findMost_14 : decode cX3_findMost 14 = .ok (.sipush 999, 3) := by decide +kernel
theorem dX3_findMost_17 : decode cX3_findMost 17 = .ok (.ireturn, 1) := by decide +kernel
theorem dX3_findMost_18 : decode cX3_findMost 18 = .ok (.iload_n 1, 1) := by decide +kernel
theorem dX3_findMost_19 : decode cX3_findMost 19 = .ok (.bipush 112, 2) := by decide +kernel
theorem dX3_findMost_21 : decode cX3_findMost 21 = .ok (.if_icmp .ne 7, 3) := by decide +kernel
theorem dX3_findMost_24 : decode cX3_findMost 24 = .ok (.sipush 300, 3) := by decide +kernel
theorem dX3_findMost_27 : decode cX3_findMost 27 = .ok (.ireturn, 1) := by decide +kernel
theorem dX3_findMost_28 : decode cX3_findMost 28 = .ok (.iload_n 1, 1) := by decide +kernel
theorem dX3_findMost_29 : decode cX3_findMost 29 = .ok (.bipush 107, 2) := by decide +kernel
theorem dX3_findMost_31 : decode cX3_findMost 31 = .ok (.if_icmp .ne 8, 3) := by decide +kernel
theorem dX3_findMost_34 : decode cX3_findMost 34 = .ok (.bipush 99, 2) := by decide +kernel
theorem dX3_findMost_36 : decode cX3_findMost 36 = .ok (.goto 4, 3) := by decide +kernel
theorem dX3_findMost_39 : decode cX3_findMost 39 = .ok (.iconst (-1), 1) := by decide +kernel
theorem dX3_findMost_40 : decode cX3_findMost 40 = .ok (.ireturn, 1) := by decide +kernel
theorem dX3_exchange_0 : decode cX3_exchange 0 = .ok (.iload_n 1, 1) := by decide +kernel
theorem dX3_exchange_1 : decode cX3_exchange 1 = .ok (.bipush 103, 2) := by decide +kernel
theorem dX3_exchange_3 : decode cX3_exchange 3 = .ok (.if_icmp .ne 16, 3) := by decide +kernel
theorem dX3_exchange_6 : decode cX3_exchange 6 = .ok (.aload_n 0, 1) := by decide +kernel
theorem dX3_exchange_7 : decode cX3_exchange 7 = .ok (.getfield 9, 3) := by decide +kernel
theorem dX3_exchange_10 : decode cX3_exchange 10 = .ok (.istore_n 3, 1) := by decide +kernel
theorem dX3_exchange_11 : decode cX3_exchange 11 = .ok (.aload_n 0, 1) := by decide +kernel
theorem dX3_exchange_12 : decode cX3_exchange 12 = .ok (.iload_n 2, 1) := by decide +kernel
theorem dX3_exchange_13 : decode cX3_exchange 13 = .ok (.putfield 9, 3) := by decide +kernel
theorem dX3_exchange_16 : decode cX3_exchange 16 = .ok (.goto 51, 3) := by decide +kernel
theorem dX3_exchange_19 : decode cX3_exchange 19 = .ok (.iload_n 1, 1) := by decide +kernel
theorem dX3_exchange_20 : decode cX3_exchange 20 = .ok (.bipush 108, 2) := by decide +kernel
theorem dX3_exchange_22 : decode cX3_exchange 22 = .ok (.if_icmp .ne 16, 3) := by decide +kernel
theorem dX3_exchange_25 : decode cX3_exchange 25 = .ok (.aload_n 0, 1) := by decide +kernel
theorem dX3_exchange_26 : decode cX3_exchange 26 = .ok (.getfield 15, 3) := by decide +kernel
theorem dX3_exchange_29 : decode cX3_exchange 29 = .ok (.istore_n 3, 1) := by decide +kernel
theorem dX3_exchange_30 : decode cX3_exchange 30 = .ok (.aload_n 0, 1) := by decide +kernel
theorem dX3_exchange_31 : decode cX3_exchange 31 = .ok (.iload_n 2, 1) := by decide +kernel
theorem dX3_exchange_32 : decode cX3_exchange 32 = .ok (.putfield 15, 3) := by decide +kernel
theorem dX3_exchange_35 : decode cX3_exchange 35 = .ok (.goto 32, 3) := by decide +kernel
theorem dX3_exchange_38 : decode cX3_exchange 38 = .ok (.iload_n 1, 1) := by decide +kernel
theorem dX3_exchange_39 : decode cX3_exchange 39 = .ok (.bipush 112, 2) := by decide +kernel
theorem dX3_exchange_41 : decode cX3_exchange 41 = .ok (.if_icmp .ne 16, 3) := by decide +kernel
theorem dX3_exchange_44 : decode cX3_exchange 44 = .ok (.aload_n 0, 1) := by decide +kernel
theorem dX3_exchange_45 : decode cX3_exchange 45 = .ok (.getfield 18, 3) := by decide +kernel
theorem dX3_exchange_48 : decode cX3_exchange 48 = .ok (.istore_n 3, 1) := by decide +kernel
theorem dX3_exchange_49 : decode cX3_exchange 49 = .ok (.aload_n 0, 1) := by decide +kernel
theorem dX3_exchange_50 : decode cX3_exchange 50 = .ok (.iload_n 2, 1) := by decide +kernel
theorem dX3_exchange_51 : decode cX3_exchange 51 = .ok (.putfield 18, 3) := by decide +kernel
theorem dX3_exchange_54 : decode cX3_exchange 54 = .ok (.goto 13, 3) := by decide +kernel
theorem dX3_exchange_57 : decode cX3_exchange 57 = .ok (.aload_n 0, 1) := by decide +kernel
theorem dX3_exchange_58 : decode cX3_exchange 58 = .ok (.getfield 21, 3) := by decide +kernel
theorem dX3_exchange_61 : decode cX3_exchange 61 = .ok (.istore_n 3, 1) := by decide +kernel
theorem dX3_exchange_62 : decode cX3_exchange 62 = .ok (.aload_n 0, 1) := by decide +kernel
theorem dX3_exchange_63 : decode cX3_exchange 63 = .ok (.iload_n 2, 1) := by decide +kernel
theorem dX3_exchange_64 : decode cX3_exchange 64 = .ok (.putfield 21, 3) := by decide +kernel
theorem dX3_exchange_67 : decode cX3_exchange 67 = .ok (.iload_n 3, 1) := by decide +kernel
theorem dX3_exchange_68 : decode cX3_exchange 68 = .ok (.ireturn, 1) := by decide +kernel
theorem dX4_init_0 : decode cX4_init 0 = .ok (.aload_n 0, 1) := by decide +kernel
theorem dX4_init_1 : decode cX4_init 1 = .ok (.invokespecial 3, 3) := by decide +kernel
theorem dX4_init_4 : decode cX4_init 4 = .ok (.aload_n 0, 1) := by decide +kernel
theorem dX4_init_5 : decode cX4_init 5 = .ok (.sipush 300, 3) := by decide +kernel
theorem dX4_init_8 : decode cX4_init 8 = .ok (.newarray .int, 2) := by decide +kernel
theorem dX4_init_10 : decode cX4_init 10 = .ok (.putfield 9, 3) := by decide +kernel
theorem dX4_init_13 : decode cX4_init 13 = .ok (.aload_n 0, 1) := by decide +kernel
theorem dX4_init_14 : decode cX4_init 14 = .ok (.sipush 300, 3) := by decide +kernel
theorem dX4_init_17 : decode cX4_init 17 = .ok (.newarray .int, 2) := by decide +kernel
theorem dX4_init_19 : decode cX4_init 19 = .ok (.putfield 15, 3) := by decide +kernel
theorem dX4_init_22 : decode cX4_init 22 = .ok (.aload_n 0, 1) := by decide +kernel
theorem dX4_init_23 : decode cX4_init 23 = .ok (.sipush 300, 3) := by decide +kernel
theorem dX4_init_26 : decode cX4_init 26 = .ok (.newarray .int, 2) := by decide +kernel
theorem dX4_init_28 : decode cX4_init 28 = .ok (.putfield 18, 3) := by decide +kernel
theorem dX4_init_31 : decode cX4_init 31 = .ok (.aload_n 0, 1) := by decide +kernel
theorem dX4_init_32 : decode cX4_init 32 = .ok (.sipush 300, 3) := by decide +kernel
theorem dX4_init_35 : decode cX4_init 35 = .ok (.newarray .int, 2) := by decide +kernel
theorem dX4_init_37 : decode cX4_init 37 = .ok (.putfield 21, 3) := by decide +kernel
theorem dX4_init_40 : decode cX4_init 40 = .ok (.aload_n 0, 1) := by decide +kernel
theorem dX4_init_41 : decode cX4_init 41 = .ok (.sipush 300, 3) := by decide +kernel
theorem dX4_init_44 : decode cX4_init 44 = .ok (.newarray .int, 2) := by decide +kernel
theorem dX4_init_46 : decode cX4_init 46 = .ok (.putfield 24, 3) := by decide +kernel
theorem dX4_init_49 : decode cX4_init 49 = .ok (.aload_n 0, 1) := by decide +kernel
theorem dX4_init_50 : decode cX4_init 50 = .ok (.bipush 12, 2) := by decide +kernel
theorem dX4_init_52 : decode cX4_init 52 = .ok (.newarray .int, 2) := by decide +kernel
theorem dX4_init_54 : decode cX4_init 54 = .ok (.putfield 27, 3) := by decide +kernel
theorem dX4_init_57 : decode cX4_init 57 = .ok (.aload_n 0, 1) := by decide +kernel
theorem dX4_init_58 : decode cX4_init 58 = .ok (.iconst 0, 1) := by decide +kernel
theorem dX4_init_59 : decode cX4_init 59 = .ok (.putfield 30, 3) := by decide +kernel
theorem dX4_init_62 : decode cX4_init 62 = .ok (.return_, 1) := by decide +kernel
theorem dX4_clear_0 : decode cX4_clear 0 = .ok (.aload_n 0, 1) := by decide +kernel
theorem dX4_clear_1 : decode cX4_clear 1 = .ok (.iconst 0, 1) := by decide +kernel
theorem dX4_clear_2 : decode cX4_clear 2 = .ok (.putfield 30, 3) := by decide +kernel
theorem dX4_clear_5 : decode cX4_clear 5 = .ok (.return_, 1) := by decide +kernel
theorem dX4_has_0 : decode cX4_has 0 = .ok (.iload_n 1, 1) := by decide +kernel
theorem dX4_has_1 : decode cX4_has 1 = .ok (.ifCond .lt 22, 3) := by decide +kernel
theorem dX4_has_4 : decode cX4_has 4 = .ok (.iload_n 1, 1) := by decide +kernel
theorem dX4_has_5 : decode cX4_has 5 = .ok (.aload_n 0, 1) := by decide +kernel
theorem dX4_has_6 : decode cX4_has 6 = .ok (.getfield 30, 3) := by decide +kernel
theorem dX4_has_9 : decode cX4_has 9 = .ok (.if_icmp .ge 14, 3) := by decide +kernel
theorem dX4_has_12 : decode cX4_has 12 = .ok (.iload_n 1, 1) := by decide +kernel
theorem dX4_has_13 : decode cX4_has 13 = .ok (.sipush 300, 3) := by decide +kernel
theorem dX4_has_16 : decode cX4_has 16 = .ok (.if_icmp .ge 7, 3) := by decide +kernel
theorem dX4_has_19 : decode cX4_has 19 = .ok (.iconst 1, 1) := by decide +kernel
theorem dX4_has_20 : decode cX4_has 20 = .ok (.goto 4, 3) := by decide +kernel
theorem dX4_has_23 : decode cX4_has 23 = .ok (.iconst 0, 1) := by decide +kernel
theorem dX4_has_24 : decode cX4_has 24 = .ok (.ireturn, 1) := by decide +kernel
theorem dX4_keep_0 : decode cX4_keep 0 = .ok (.aload_n 0, 1) := by decide +kernel
theorem dX4_keep_1 : decode cX4_keep 1 = .ok (.getfield 30, 3) := by decide +kernel
theorem dX4_keep_4 : decode cX4_keep 4 = .ok (.sipush 300, 3) := by decide +kernel
theorem dX4_keep_7 : decode cX4_keep 7 = .ok (.if_icmp .lt 5, 3) := by decide +kernel
theorem dX4_keep_10 : decode cX4_keep 10 = .ok (.iconst (-1), 1) := by decide +kernel
theorem dX4_keep_11 : decode cX4_keep 11 = .ok (.ireturn, 1) := by decide +kernel
theorem dX4_keep_12 : decode cX4_keep 12 = .ok (.aload_n 0, 1) := by decide +kernel
theorem dX4_keep_13 : decode cX4_keep 13 = .ok (.getfield 9, 3) := by decide +kernel
theorem dX4_keep_16 : decode cX4_keep 16 = .ok (.aload_n 0, 1) := by decide +kernel
theorem dX4_keep_17 : decode cX4_keep 17 = .ok (.getfield 30, 3) := by decide +kernel
theorem dX4_keep_20 : decode cX4_keep 20 = .ok (.iload_n 1, 1) := by decide +kernel
theorem dX4_keep_21 : decode cX4_keep 21 = .ok (.iastore, 1) := by decide +kernel
theorem dX4_keep_22 : decode cX4_keep 22 = .ok (.aload_n 0, 1) := by decide +kernel
theorem dX4_keep_23 : decode cX4_keep 23 = .ok (.getfield 15, 3) := by decide +kernel
theorem dX4_keep_26 : decode cX4_keep 26 = .ok (.aload_n 0, 1) := by decide +kernel
theorem dX4_keep_27 : decode cX4_keep 27 = .ok (.getfield 30, 3) := by decide +kernel
theorem dX4_keep_30 : decode cX4_keep 30 = .ok (.iload_n 2, 1) := by decide +kernel
theorem dX4_keep_31 : decode cX4_keep 31 = .ok (.iastore, 1) := by decide +kernel
theorem dX4_keep_32 : decode cX4_keep 32 = .ok (.aload_n 0, 1) := by decide +kernel
theorem dX4_keep_33 : decode cX4_keep 33 = .ok (.getfield 18, 3) := by decide +kernel
theorem dX4_keep_36 : decode cX4_keep 36 = .ok (.aload_n 0, 1) := by decide +kernel
theorem dX4_keep_37 : decode cX4_keep 37 = .ok (.getfield 30, 3) := by decide +kernel
theorem dX4_keep_40 : decode cX4_keep 40 = .ok (.iload_n 3, 1) := by decide +kernel
theorem dX4_keep_41 : decode cX4_keep 41 = .ok (.iastore, 1) := by decide +kernel
theorem dX4_keep_42 : decode cX4_keep 42 = .ok (.aload_n 0, 1) := by decide +kernel
theorem dX4_keep_43 : decode cX4_keep 43 = .ok (.getfield 21, 3) := by decide +kernel
theorem dX4_keep_46 : decode cX4_keep 46 = .ok (.aload_n 0, 1) := by decide +kernel
theorem dX4_keep_47 : decode cX4_keep 47 = .ok (.getfield 30, 3) := by decide +kernel
theorem dX4_keep_50 : decode cX4_keep 50 = .ok (.iconst (-1), 1) := by decide +kernel
theorem dX4_keep_51 : decode cX4_keep 51 = .ok (.iastore, 1) := by decide +kernel
theorem dX4_keep_52 : decode cX4_keep 52 = .ok (.aload_n 0, 1) := by decide +kernel
theorem dX4_keep_53 : decode cX4_keep 53 = .ok (.getfield 24, 3) := by decide +kernel
theorem dX4_keep_56 : decode cX4_keep 56 = .ok (.aload_n 0, 1) := by decide +kernel
theorem dX4_keep_57 : decode cX4_keep 57 = .ok (.getfield 30, 3) := by decide +kernel
theorem dX4_keep_60 : decode cX4_keep 60 = .ok (.iload 4, 2) := by decide +kernel
theorem dX4_keep_62 : decode cX4_keep 62 = .ok (.iastore, 1) := by decide +kernel
theorem dX4_keep_63 : decode cX4_keep 63 = .ok (.aload_n 0, 1) := by decide +kernel
theorem dX4_keep_64 : decode cX4_keep 64 = .ok (.dup, 1) := by decide +kernel
theorem dX4_keep_65 : decode cX4_keep 65 = .ok (.getfield 30, 3) := by decide +kernel
theorem dX4_keep_68 : decode cX4_keep 68 = .ok (.iconst 1, 1) := by decide +kernel
theorem dX4_keep_69 : decode cX4_keep 69 = .ok (.iadd, 1) := by decide +kernel
theorem dX4_keep_70 : decode cX4_keep 70 = .ok (.putfield 30, 3) := by decide +kernel
theorem dX4_keep_73 : decode cX4_keep 73 = .ok (.aload_n 0, 1) := by decide +kernel
theorem dX4_keep_74 : decode cX4_keep 74 = .ok (.getfield 30, 3) := by decide +kernel
theorem dX4_keep_77 : decode cX4_keep 77 = .ok (.iconst 1, 1) := by decide +kernel
theorem dX4_keep_78 : decode cX4_keep 78 = .ok (.isub, 1) := by decide +kernel
theorem dX4_keep_79 : decode cX4_keep 79 = .ok (.ireturn, 1) := by decide +kernel
theorem dX4_finish_0 : decode cX4_finish 0 = .ok (.aload_n 0, 1) := by decide +kernel
theorem dX4_finish_1 : decode cX4_finish 1 = .ok (.iload_n 1, 1) := by decide +kernel
theorem dX4_finish_2 : decode cX4_finish 2 = .ok (.invokevirtual 34, 3) := by decide +kernel
theorem dX4_finish_5 : decode cX4_finish 5 = .ok (.ifCond .eq 10, 3) := by decide +kernel
theorem dX4_finish_8 : decode cX4_finish 8 = .ok (.aload_n 0, 1) := by decide +kernel
theorem dX4_finish_9 : decode cX4_finish 9 = .ok (.getfield 21, 3) := by decide +kernel
theorem dX4_finish_12 : decode cX4_finish 12 = .ok (.iload_n 1, 1) := by decide +kernel
theorem dX4_finish_13 : decode cX4_finish 13 = .ok (.iload_n 2, 1) := by decide +kernel
theorem dX4_finish_14 : decode cX4_finish 14 = .ok (.iastore, 1) := by decide +kernel
theorem dX4_finish_15 : decode cX4_finish 15 = .ok (.return_, 1) := by decide +kernel
theorem dX4_tell_0 : decode cX4_tell 0 = .ok (.aload_n 0, 1) := by decide +kernel
theorem dX4_tell_1 : decode cX4_tell 1 = .ok (.iload_n 1, 1) := by decide +kernel
theorem dX4_tell_2 : decode cX4_tell 2 = .ok (.invokevirtual 34, 3) := by decide +kernel
theorem dX4_tell_5 : decode cX4_tell 5 = .ok (.ifCond .ne 5, 3) := by decide +kernel
theorem dX4_tell_8 : decode cX4_tell 8 = .ok (.iconst 0, 1) := by decide +kernel
theorem dX4_tell_9 : decode cX4_tell 9 = .ok (.ireturn, 1) := by decide +kernel
theorem dX4_tell_10 : decode cX4_tell 10 = .ok (.iload_n 2, 1) := by decide +kernel
theorem dX4_tell_11 : decode cX4_tell 11 = .ok (.bipush 110, 2) := by decide +kernel
theorem dX4_tell_13 : decode cX4_tell 13 = .ok (.if_icmp .ne 10, 3) := by decide +kernel
theorem dX4_tell_16 : decode cX4_tell 16 = .ok (.aload_n 0, 1) := by decide +kernel
theorem dX4_tell_17 : decode cX4_tell 17 = .ok (.getfield 9, 3) := by decide +kernel
theorem dX4_tell_20 : decode cX4_tell 20 = .ok (.iload_n 1, 1) := by decide +kernel
theorem dX4_tell_21 : decode cX4_tell 21 = .ok (.iaload, 1) := by decide +kernel
theorem dX4_tell_22 : decode cX4_tell 22 = .ok (.ireturn, 1) := by decide +kernel
theorem dX4_tell_23 : decode cX4_tell 23 = .ok (.iload_n 2, 1) := by decide +kernel
theorem dX4_tell_24 : decode cX4_tell 24 = .ok (.bipush 111, 2) := by decide +kernel
theorem dX4_tell_26 : decode cX4_tell 26 = .ok (.if_icmp .ne 10, 3) := by decide +kernel
theorem dX4_tell_29 : decode cX4_tell 29 = .ok (.aload_n 0, 1) := by decide +kernel
theorem dX4_tell_30 : decode cX4_tell 30 = .ok (.getfield 15, 3) := by decide +kernel
theorem dX4_tell_33 : decode cX4_tell 33 = .ok (.iload_n 1, 1) := by decide +kernel
theorem dX4_tell_34 : decode cX4_tell 34 = .ok (.iaload, 1) := by decide +kernel
theorem dX4_tell_35 : decode cX4_tell 35 = .ok (.ireturn, 1) := by decide +kernel
theorem dX4_tell_36 : decode cX4_tell 36 = .ok (.iload_n 2, 1) := by decide +kernel
theorem dX4_tell_37 : decode cX4_tell 37 = .ok (.bipush 102, 2) := by decide +kernel
theorem dX4_tell_39 : decode cX4_tell 39 = .ok (.if_icmp .ne 10, 3) := by decide +kernel
theorem dX4_tell_42 : decode cX4_tell 42 = .ok (.aload_n 0, 1) := by decide +kernel
theorem dX4_tell_43 : decode cX4_tell 43 = .ok (.getfield 18, 3) := by decide +kernel
theorem dX4_tell_46 : decode cX4_tell 46 = .ok (.iload_n 1, 1) := by decide +kernel
theorem dX4_tell_47 : decode cX4_tell 47 = .ok (.iaload, 1) := by decide +kernel
theorem dX4_tell_48 : decode cX4_tell 48 = .ok (.ireturn, 1) := by decide +kernel
theorem dX4_tell_49 : decode cX4_tell 49 = .ok (.iload_n 2, 1) := by decide +kernel
theorem dX4_tell_50 : decode cX4_tell 50 = .ok (.bipush 108, 2) := by decide +kernel
theorem dX4_tell_52 : decode cX4_tell 52 = .ok (.if_icmp .ne 12, 3) := by decide +kernel
theorem dX4_tell_55 : decode cX4_tell 55 = .ok (.aload_n 0, 1) := by decide +kernel
theorem dX4_tell_56 : decode cX4_tell 56 = .ok (.getfield 21, 3) := by decide +kernel
theorem dX4_tell_59 : decode cX4_tell 59 = .ok (.iload_n 1, 1) := by decide +kernel
theorem dX4_tell_60 : decode cX4_tell 60 = .ok (.iaload, 1) := by decide +kernel
theorem dX4_tell_61 : decode cX4_tell 61 = .ok (.goto 9, 3) := by decide +kernel
theorem dX4_tell_64 : decode cX4_tell 64 = .ok (.aload_n 0, 1) := by decide +kernel
theorem dX4_tell_65 : decode cX4_tell 65 = .ok (.getfield 24, 3) := by decide +kernel
theorem dX4_tell_68 : decode cX4_tell 68 = .ok (.iload_n 1, 1) := by decide +kernel
theorem dX4_tell_69 : decode cX4_tell 69 = .ok (.iaload, 1) := by decide +kernel
theorem dX4_tell_70 : decode cX4_tell 70 = .ok (.ireturn, 1) := by decide +kernel
theorem dX4_findLoudest_0 : decode cX4_findLoudest 0 = .ok (.iconst 0, 1) := by decide +kernel
theorem dX4_findLoudest_1 : decode cX4_findLoudest 1 = .ok (.istore_n 1, 1) := by decide +kernel
theorem dX4_findLoudest_2 : decode cX4_findLoudest 2 = .ok (.iconst 1, 1) := by decide +kernel
theorem dX4_findLoudest_3 : decode cX4_findLoudest 3 = .ok (.istore_n 2, 1) := by decide +kernel
theorem dX4_findLoudest_4 : decode cX4_findLoudest 4 = .ok (.iload_n 2, 1) := by decide +kernel
theorem dX4_findLoudest_5 : decode cX4_findLoudest 5 = .ok (.aload_n 0, 1) := by decide +kernel
theorem dX4_findLoudest_6 : decode cX4_findLoudest 6 = .ok (.getfield 30, 3) := by decide +kernel
theorem dX4_findLoudest_9 : decode cX4_findLoudest 9 = .ok (.if_icmp .ge 26, 3) := by decide +kernel
theorem dX4_findLoudest_12 : decode cX4_findLoudest 12 = .ok (.aload_n 0, 1) := by decide +kernel
theorem dX4_findLoudest_13 : decode cX4_findLoudest 13 = .ok (.getfield 24, 3) := by decide +kernel
theorem dX4_findLoudest_16 : decode cX4_findLoudest 16 = .ok (.iload_n 2, 1) := by decide +kernel
theorem dX4_findLoudest_17 : decode cX4_findLoudest 17 = .ok (.iaload, 1) := by decide +kernel
theorem dX4_findLoudest_18 : decode cX4_findLoudest 18 = .ok (.aload_n 0, 1) := by decide +kernel
theorem dX4_findLoudest_19 : decode cX4_findLoudest 19 = .ok (.getfield 24, 3) := by decide +kernel
theorem dX4_findLoudest_22 : decode cX4_findLoudest 22 = .ok (.iload_n 1, 1) := by decide +kernel
theorem dX4_findLoudest_23 : decode cX4_findLoudest 23 = .ok (.iaload, 1) := by decide +kernel
theorem dX4_findLoudest_24 : decode cX4_findLoudest 24 = .ok (.if_icmp .le 5, 3) := by decide +kernel
theorem dX4_findLoudest_27 : decode cX4_findLoudest 27 = .ok (.iload_n 2, 1) := by decide +kernel
theorem dX4_findLoudest_28 : decode cX4_findLoudest 28 = .ok (.istore_n 1, 1) := by decide +kernel
theorem dX4_findLoudest_29 : decode cX4_findLoudest 29 = .ok (.iinc 2 1, 3) := by decide +kernel
theorem dX4_findLoudest_32 : decode cX4_findLoudest 32 = .ok (.goto (-28), 3) := by decide +kernel
theorem dX4_findLoudest_35 : decode cX4_findLoudest 35 = .ok (.iload_n 1, 1) := by decide +kernel
theorem dX4_findLoudest_36 : decode cX4_findLoudest 36 = .ok (.ireturn, 1) := by decide +kernel
theorem dX4_addLoudness_0 : decode cX4_addLoudness 0 = .ok (.iconst 0, 1) := by decide +kernel
theorem dX4_addLoudness_1 : decode cX4_addLoudness 1 = .ok (.istore_n 1, 1) := by decide +kernel
theorem dX4_addLoudness_2 : decode cX4_addLoudness 2 = .ok (.iconst 0, 1) := by decide +kernel
theorem dX4_addLoudness_3 : decode cX4_addLoudness 3 = .ok (.istore_n 2, 1) := by decide +kernel
theorem dX4_addLoudness_4 : decode cX4_addLoudness 4 = .ok (.iload_n 2, 1) := by decide +kernel
theorem dX4_addLoudness_5 : decode cX4_addLoudness 5 = .ok (.aload_n 0, 1) := by decide +kernel
theorem dX4_addLoudness_6 : decode cX4_addLoudness 6 = .ok (.getfield 30, 3) := by decide +kernel
theorem dX4_addLoudness_9 : decode cX4_addLoudness 9 = .ok (.if_icmp .ge 18, 3) := by decide +kernel
theorem dX4_addLoudness_12 : decode cX4_addLoudness 12 = .ok (.iload_n 1, 1) := by decide +kernel
theorem dX4_addLoudness_13 : decode cX4_addLoudness 13 = .ok (.aload_n 0, 1) := by decide +kernel
theorem dX4_addLoudness_14 : decode cX4_addLoudness 14 = .ok (.getfield 24, 3) := by decide +kernel
theorem dX4_addLoudness_17 : decode cX4_addLoudness 17 = .ok (.iload_n 2, 1) := by decide +kernel
theorem dX4_addLoudness_18 : decode cX4_addLoudness 18 = .ok (.iaload, 1) := by decide +kernel
theorem dX4_addLoudness_19 : decode cX4_addLoudness 19 = .ok (.iadd, 1) := by decide +kernel
theorem dX4_addLoudness_20 : decode cX4_addLoudness 20 = .ok (.istore_n 1, 1) := by decide +kernel
theorem dX4_addLoudness_21 : decode cX4_addLoudness 21 = .ok (.iinc 2 1, 3) := by decide +kernel
theorem dX4_addLoudness_24 : decode cX4_addLoudness 24 = .ok (.goto (-20), 3) := by decide +kernel
theorem dX4_addLoudness_27 : decode cX4_addLoudness 27 = .ok (.iload_n 1, 1) := by decide +kernel
theorem dX4_addLoudness_28 : decode cX4_addLoudness 28 = .ok (.ireturn, 1) := by decide +kernel
theorem dX4_addToSum_0 : decode cX4_addToSum 0 = .ok (.lload_n 1, 1) := by decide +kernel
theorem dX4_addToSum_1 : decode cX4_addToSum 1 = .ok (.lstore_n 3, 1) := by decide +kernel
theorem dX4_addToSum_2 : decode cX4_addToSum 2 = .ok (.iconst 0, 1) := by decide +kernel
theorem dX4_addToSum_3 : decode cX4_addToSum 3 = .ok (.istore 5, 2) := by decide +kernel
theorem dX4_addToSum_5 : decode cX4_addToSum 5 = .ok (.iload 5, 2) := by decide +kernel
theorem dX4_addToSum_7 : decode cX4_addToSum 7 = .ok (.aload_n 0, 1) := by decide +kernel
theorem dX4_addToSum_8 : decode cX4_addToSum 8 = .ok (.getfield 30, 3) := by decide +kernel
theorem dX4_addToSum_11 : decode cX4_addToSum 11 = .ok (.if_icmp .ge 54, 3) := by decide +kernel
theorem dX4_addToSum_14 : decode cX4_addToSum 14 = .ok (.ldc2_w 38, 3) := by decide +kernel
theorem dX4_addToSum_17 : decode cX4_addToSum 17 = .ok (.lload_n 3, 1) := by decide +kernel
theorem dX4_addToSum_18 : decode cX4_addToSum 18 = .ok (.lmul, 1) := by decide +kernel
theorem dX4_addToSum_19 : decode cX4_addToSum 19 = .ok (.aload_n 0, 1) := by decide +kernel
theorem dX4_addToSum_20 : decode cX4_addToSum 20 = .ok (.getfield 9, 3) := by decide +kernel
theorem dX4_addToSum_23 : decode cX4_addToSum 23 = .ok (.iload 5, 2) := by decide +kernel
theorem dX4_addToSum_25 : decode cX4_addToSum 25 = .ok (.iaload, 1) := by decide +kernel
theorem dX4_addToSum_26 : decode cX4_addToSum 26 = .ok (.i2l, 1) := by decide +kernel
theorem dX4_addToSum_27 : decode cX4_addToSum 27 = .ok (.ladd, 1) := by decide +kernel
theorem dX4_addToSum_28 : decode cX4_addToSum 28 = .ok (.lstore_n 3, 1) := by decide +kernel
theorem dX4_addToSum_29 : decode cX4_addToSum 29 = .ok (.ldc2_w 38, 3) := by decide +kernel
theorem dX4_addToSum_32 : decode cX4_addToSum 32 = .ok (.lload_n 3, 1) := by decide +kernel
theorem dX4_addToSum_33 : decode cX4_addToSum 33 = .ok (.lmul, 1) := by decide +kernel
theorem dX4_addToSum_34 : decode cX4_addToSum 34 = .ok (.aload_n 0, 1) := by decide +kernel
theorem dX4_addToSum_35 : decode cX4_addToSum 35 = .ok (.getfield 18, 3) := by decide +kernel
theorem dX4_addToSum_38 : decode cX4_addToSum 38 = .ok (.iload 5, 2) := by decide +kernel
theorem dX4_addToSum_40 : decode cX4_addToSum 40 = .ok (.iaload, 1) := by decide +kernel
theorem dX4_addToSum_41 : decode cX4_addToSum 41 = .ok (.i2l, 1) := by decide +kernel
theorem dX4_addToSum_42 : decode cX4_addToSum 42 = .ok (.ladd, 1) := by decide +kernel
theorem dX4_addToSum_43 : decode cX4_addToSum 43 = .ok (.lstore_n 3, 1) := by decide +kernel
theorem dX4_addToSum_44 : decode cX4_addToSum 44 = .ok (.ldc2_w 38, 3) := by decide +kernel
theorem dX4_addToSum_47 : decode cX4_addToSum 47 = .ok (.lload_n 3, 1) := by decide +kernel
theorem dX4_addToSum_48 : decode cX4_addToSum 48 = .ok (.lmul, 1) := by decide +kernel
theorem dX4_addToSum_49 : decode cX4_addToSum 49 = .ok (.aload_n 0, 1) := by decide +kernel
theorem dX4_addToSum_50 : decode cX4_addToSum 50 = .ok (.getfield 24, 3) := by decide +kernel
theorem dX4_addToSum_53 : decode cX4_addToSum 53 = .ok (.iload 5, 2) := by decide +kernel
theorem dX4_addToSum_55 : decode cX4_addToSum 55 = .ok (.iaload, 1) := by decide +kernel
theorem dX4_addToSum_56 : decode cX4_addToSum 56 = .ok (.i2l, 1) := by decide +kernel
theorem dX4_addToSum_57 : decode cX4_addToSum 57 = .ok (.ladd, 1) := by decide +kernel
theorem dX4_addToSum_58 : decode cX4_addToSum 58 = .ok (.lstore_n 3, 1) := by decide +kernel
theorem dX4_addToSum_59 : decode cX4_addToSum 59 = .ok (.iinc 5 1, 3) := by decide +kernel
theorem dX4_addToSum_62 : decode cX4_addToSum 62 = .ok (.goto (-57), 3) := by decide +kernel
theorem dX4_addToSum_65 : decode cX4_addToSum 65 = .ok (.lload_n 3, 1) := by decide +kernel
theorem dX4_addToSum_66 : decode cX4_addToSum 66 = .ok (.lreturn, 1) := by decide +kernel
theorem dX4_isInOrder_0 : decode cX4_isInOrder 0 = .ok (.iconst 0, 1) := by decide +kernel
theorem dX4_isInOrder_1 : decode cX4_isInOrder 1 = .ok (.istore_n 1, 1) := by decide +kernel
theorem dX4_isInOrder_2 : decode cX4_isInOrder 2 = .ok (.iload_n 1, 1) := by decide +kernel
theorem dX4_isInOrder_3 : decode cX4_isInOrder 3 = .ok (.bipush 12, 2) := by decide +kernel
theorem dX4_isInOrder_5 : decode cX4_isInOrder 5 = .ok (.if_icmp .ge 16, 3) := by decide +kernel
theorem dX4_isInOrder_8 : decode cX4_isInOrder 8 = .ok (.aload_n 0, 1) := by decide +kernel
theorem dX4_isInOrder_9 : decode cX4_isInOrder 9 = .ok (.getfield 27, 3) := by decide +kernel
theorem dX4_isInOrder_12 : decode cX4_isInOrder 12 = .ok (.iload_n 1, 1) := by decide +kernel
theorem dX4_isInOrder_13 : decode cX4_isInOrder 13 = .ok (.iconst (-1), 1) := by decide +kernel
theorem dX4_isInOrder_14 : decode cX4_isInOrder 14 = .ok (.iastore, 1) := by decide +kernel
theorem dX4_isInOrder_15 : decode cX4_isInOrder 15 = .ok (.iinc 1 1, 3) := by decide +kernel
theorem dX4_isInOrder_18 : decode cX4_isInOrder 18 = .ok (.goto (-16), 3) := by decide +kernel
theorem dX4_isInOrder_21 : decode cX4_isInOrder 21 = .ok (.iconst 0, 1) := by decide +kernel
theorem dX4_isInOrder_22 : decode cX4_isInOrder 22 = .ok (.istore_n 1, 1) := by decide +kernel
theorem dX4_isInOrder_23 : decode cX4_isInOrder 23 = .ok (.iload_n 1, 1) := by decide +kernel
theorem dX4_isInOrder_24 : decode cX4_isInOrder 24 = .ok (.aload_n 0, 1) := by decide +kernel
theorem dX4_isInOrder_25 : decode cX4_isInOrder 25 = .ok (.getfield 30, 3) := by decide +kernel
theorem dX4_isInOrder_28 : decode cX4_isInOrder 28 = .ok (.if_icmp .ge 79, 3) := by decide +kernel
theorem dX4_isInOrder_31 : decode cX4_isInOrder 31 = .ok (.aload_n 0, 1) := by decide +kernel
theorem dX4_isInOrder_32 : decode cX4_isInOrder 32 = .ok (.getfield 9, 3) := by decide +kernel
theorem dX4_isInOrder_35 : decode cX4_isInOrder 35 = .ok (.iload_n 1, 1) := by decide +kernel
theorem dX4_isInOrder_36 : decode cX4_isInOrder 36 = .ok (.iaload, 1) := by decide +kernel
theorem dX4_isInOrder_37 : decode cX4_isInOrder 37 = .ok (.istore_n 2, 1) := by decide +kernel
theorem dX4_isInOrder_38 : decode cX4_isInOrder 38 = .ok (.iload_n 2, 1) := by decide +kernel
theorem dX4_isInOrder_39 : decode cX4_isInOrder 39 = .ok (.ifCond .lt 32, 3) := by decide +kernel
theorem dX4_isInOrder_42 : decode cX4_isInOrder 42 = .ok (.iload_n 2, 1) := by decide +kernel
theorem dX4_isInOrder_43 : decode cX4_isInOrder 43 = .ok (.bipush 12, 2) := by decide +kernel
theorem dX4_isInOrder_45 : decode cX4_isInOrder 45 = .ok (.if_icmp .ge 26, 3) := by decide +kernel
theorem dX4_isInOrder_48 : decode cX4_isInOrder 48 = .ok (.aload_n 0, 1) := by decide +kernel
theorem dX4_isInOrder_49 : decode cX4_isInOrder 49 = .ok (.iload_n 1, 1) := by decide +kernel
theorem dX4_isInOrder_50 : decode cX4_isInOrder 50 = .ok (.invokevirtual 40, 3) := by decide +kernel
theorem dX4_isInOrder_53 : decode cX4_isInOrder 53 = .ok (.ifCond .eq 18, 3) := by decide +kernel
theorem dX4_isInOrder_56 : decode cX4_isInOrder 56 = .ok (.aload_n 0, 1) := by decide +kernel
theorem dX4_isInOrder_57 : decode cX4_isInOrder 57 = .ok (.getfield 18, 3) := by decide +kernel
theorem dX4_isInOrder_60 : decode cX4_isInOrder 60 = .ok (.iload_n 1, 1) := by decide +kernel
theorem dX4_isInOrder_61 : decode cX4_isInOrder 61 = .ok (.iaload, 1) := by decide +kernel
theorem dX4_isInOrder_62 : decode cX4_isInOrder 62 = .ok (.aload_n 0, 1) := by decide +kernel
theorem dX4_isInOrder_63 : decode cX4_isInOrder 63 = .ok (.getfield 27, 3) := by decide +kernel
theorem dX4_isInOrder_66 : decode cX4_isInOrder 66 = .ok (.iload_n 2, 1) := by decide +kernel
theorem dX4_isInOrder_67 : decode cX4_isInOrder 67 = .ok (.iaload, 1) := by decide +kernel
theorem dX4_isInOrder_68 : decode cX4_isInOrder 68 = .ok (.if_icmp .gt 5, 3) := by decide +kernel
theorem dX4_isInOrder_71 : decode cX4_isInOrder 71 = .ok (.iconst 0, 1) := by decide +kernel
theorem dX4_isInOrder_72 : decode cX4_isInOrder 72 = .ok (.ireturn, 1) := by decide +kernel
theorem dX4_isInOrder_73 : decode cX4_isInOrder 73 = .ok (.aload_n 0, 1) := by decide +kernel
theorem dX4_isInOrder_74 : decode cX4_isInOrder 74 = .ok (.getfield 27, 3) := by decide +kernel
theorem dX4_isInOrder_77 : decode cX4_isInOrder 77 = .ok (.iload_n 2, 1) := by decide +kernel
theorem dX4_isInOrder_78 : decode cX4_isInOrder 78 = .ok (.aload_n 0, 1) := by decide +kernel
theorem dX4_isInOrder_79 : decode cX4_isInOrder 79 = .ok (.getfield 21, 3) := by decide +kernel
theorem dX4_isInOrder_82 : decode cX4_isInOrder 82 = .ok (.iload_n 1, 1) := by decide +kernel
theorem dX4_isInOrder_83 : decode cX4_isInOrder 83 = .ok (.iaload, 1) := by decide +kernel
theorem dX4_isInOrder_84 : decode cX4_isInOrder 84 = .ok (.iconst (-1), 1) := by decide +kernel
theorem dX4_isInOrder_85 : decode cX4_isInOrder 85 = .ok (.if_icmp .ne 9, 3) := by decide +kernel
theorem dX4_isInOrder_88 : decode cX4_isInOrder 88 = .ok (.sipush 200, 3) := by decide +kernel
theorem dX4_isInOrder_91 : decode cX4_isInOrder 91 = .ok (.goto 9, 3) := by decide +kernel
theorem dX4_isInOrder_94 : decode cX4_isInOrder 94 = .ok (.aload_n 0, 1) := by decide +kernel
theorem dX4_isInOrder_95 : decode cX4_isInOrder 95 = .ok (.getfield 21, 3) := by decide +kernel
theorem dX4_isInOrder_98 : decode cX4_isInOrder 98 = .ok (.iload_n 1, 1) := by decide +kernel
theorem dX4_isInOrder_99 : decode cX4_isInOrder 99 = .ok (.iaload, 1) := by decide +kernel
theorem dX4_isInOrder_100 : decode cX4_isInOrder 100 = .ok (.iastore, 1) := by decide +kernel
theorem dX4_isInOrder_101 : decode cX4_isInOrder 101 = .ok (.iinc 1 1, 3) := by decide +kernel
theorem dX4_isInOrder_104 : decode cX4_isInOrder 104 = .ok (.goto (-81), 3) := by decide +kernel
theorem dX4_isInOrder_107 : decode cX4_isInOrder 107 = .ok (.iconst 1, 1) := by decide +kernel
theorem dX4_isInOrder_108 : decode cX4_isInOrder 108 = .ok (.ireturn, 1) := by decide +kernel
theorem dX4_isWellTimed_0 : decode cX4_isWellTimed 0 = .ok (.aload_n 0, 1) := by decide +kernel
theorem dX4_isWellTimed_1 : decode cX4_isWellTimed 1 = .ok (.getfield 18, 3) := by decide +kernel
theorem dX4_isWellTimed_4 : decode cX4_isWellTimed 4 = .ok (.iload_n 1, 1) := by decide +kernel
theorem dX4_isWellTimed_5 : decode cX4_isWellTimed 5 = .ok (.iaload, 1) := by decide +kernel
theorem dX4_isWellTimed_6 : decode cX4_isWellTimed 6 = .ok (.aload_n 0, 1) := by decide +kernel
theorem dX4_isWellTimed_7 : decode cX4_isWellTimed 7 = .ok (.getfield 15, 3) := by decide +kernel
theorem dX4_isWellTimed_10 : decode cX4_isWellTimed 10 = .ok (.iload_n 1, 1) := by decide +kernel
theorem dX4_isWellTimed_11 : decode cX4_isWellTimed 11 = .ok (.iaload, 1) := by decide +kernel
theorem dX4_isWellTimed_12 : decode cX4_isWellTimed 12 = .ok (.if_icmp .lt 32, 3) := by decide +kernel
theorem dX4_isWellTimed_15 : decode cX4_isWellTimed 15 = .ok (.aload_n 0, 1) := by decide +kernel
theorem dX4_isWellTimed_16 : decode cX4_isWellTimed 16 = .ok (.getfield 21, 3) := by decide +kernel
theorem dX4_isWellTimed_19 : decode cX4_isWellTimed 19 = .ok (.iload_n 1, 1) := by decide +kernel
theorem dX4_isWellTimed_20 : decode cX4_isWellTimed 20 = .ok (.iaload, 1) := by decide +kernel
theorem dX4_isWellTimed_21 : decode cX4_isWellTimed 21 = .ok (.iconst (-1), 1) := by decide +kernel
theorem dX4_isWellTimed_22 : decode cX4_isWellTimed 22 = .ok (.if_icmp .eq 18, 3) := by decide +kernel
theorem dX4_isWellTimed_25 : decode cX4_isWellTimed 25 = .ok (.aload_n 0, 1) := by decide +kernel
theorem dX4_isWellTimed_26 : decode cX4_isWellTimed 26 = .ok (.getfield 21, 3) := by decide +kernel
theorem dX4_isWellTimed_29 : decode cX4_isWellTimed 29 = .ok (.iload_n 1, 1) := by decide +kernel
theorem dX4_isWellTimed_30 : decode cX4_isWellTimed 30 = .ok (.iaload, 1) := by decide +kernel
theorem dX4_isWellTimed_31 : decode cX4_isWellTimed 31 = .ok (.aload_n 0, 1) := by decide +kernel
theorem dX4_isWellTimed_32 : decode cX4_isWellTimed 32 = .ok (.getfield 18, 3) := by decide +kernel
theorem dX4_isWellTimed_35 : decode cX4_isWellTimed 35 = .ok (.iload_n 1, 1) := by decide +kernel
theorem dX4_isWellTimed_36 : decode cX4_isWellTimed 36 = .ok (.iaload, 1) := by decide +kernel
theorem dX4_isWellTimed_37 : decode cX4_isWellTimed 37 = .ok (.if_icmp .lt 7, 3) := by decide +kernel
theorem dX4_isWellTimed_40 : decode cX4_isWellTimed 40 = .ok (.iconst 1, 1) := by decide +kernel
theorem dX4_isWellTimed_41 : decode cX4_isWellTimed 41 = .ok (.goto 4, 3) := by decide +kernel
theorem dX4_isWellTimed_44 : decode cX4_isWellTimed 44 = .ok (.iconst 0, 1) := by decide +kernel
theorem dX4_isWellTimed_45 : decode cX4_isWellTimed 45 = .ok (.ireturn, 1) := by decide +kernel
set_option maxRecDepth 20000 in
theorem ggX4_finish_X4_has : GoodIn wsX4_finish wsX4_has := goodIn_r _ [6, 7, 8, 9, 10, 11, 12, 13, 14] (by decide +kernel) (by decide +kernel)
set_option maxRecDepth 20000 in
theorem gX4_finish_X4_has : GoodIn wsX4_finish (wsV RX4 34 RX4 yX4_has wsX4_has) := goodIn_app (goodIn_of _ (by decide +kernel)) ggX4_finish_X4_has
set_option maxRecDepth 20000 in
theorem ggX4_tell_X4_has : GoodIn wsX4_tell wsX4_has := goodIn_r _ [10, 11, 12, 13, 14, 15, 16, 17, 18] (by decide +kernel) (by decide +kernel)
set_option maxRecDepth 20000 in
theorem gX4_tell_X4_has : GoodIn wsX4_tell (wsV RX4 34 RX4 yX4_has wsX4_has) := goodIn_app (goodIn_of _ (by decide +kernel)) ggX4_tell_X4_has
set_option maxRecDepth 20000 in
theorem ggX4_isInOrder_X4_isWellTimed : GoodIn wsX4_isInOrder wsX4_isWellTimed := goodIn_ca (goodIn_r _ [10, 4, 11, 5, 12, 13, 14, 15, 16, 17, 18] (by decide +kernel) (by decide +kernel)) (goodIn_sub (fun _ h => List.mem_cons_of_mem _ (List.mem_append_right _ h)) (by decide +kernel))
set_option maxRecDepth 20000 in
theorem gX4_isInOrder_X4_isWellTimed : GoodIn wsX4_isInOrder (wsV RX4 40 RX4 yX4_isWellTimed wsX4_isWellTimed) := goodIn_app (goodIn_of _ (by decide +kernel)) ggX4_isInOrder_X4_isWellTimed
theorem dX5_init_0 : decode cX5_init 0 = .ok (.aload_n 0, 1) := by decide +kernel
theorem dX5_init_1 : decode cX5_init 1 = .ok (.invokespecial 3, 3) := by decide +kernel
theorem dX5_init_4 : decode cX5_init 4 = .ok (.aload_n 0, 1) := by decide +kernel
theorem dX5_init_5 : decode cX5_init 5 = .ok (.iconst 0, 1) := by decide +kernel
theorem dX5_init_6 : decode cX5_init 6 = .ok (.putfield 9, 3) := by decide +kernel
theorem dX5_init_9 : decode cX5_init 9 = .ok (.aload_n 0, 1) := by decide +kernel
theorem dX5_init_10 : decode cX5_init 10 = .ok (.iconst 0, 1) := by decide +kernel
theorem dX5_init_11 : decode cX5_init 11 = .ok (.putfield 15, 3) := by decide +kernel
theorem dX5_init_14 : decode cX5_init 14 = .ok (.aload_n 0, 1) := by decide +kernel
theorem dX5_init_15 : decode cX5_init 15 = .ok (.bipush 10, 2) := by decide +kernel
theorem dX5_init_17 : decode cX5_init 17 = .ok (.putfield 18, 3) := by decide +kernel
theorem dX5_init_20 : decode cX5_init 20 = .ok (.aload_n 0, 1) := by decide +kernel
theorem dX5_init_21 : decode cX5_init 21 = .ok (.iconst 0, 1) := by decide +kernel
theorem dX5_init_22 : decode cX5_init 22 = .ok (.putfield 21, 3) := by decide +kernel
theorem dX5_init_25 : decode cX5_init 25 = .ok (.aload_n 0, 1) := by decide +kernel
theorem dX5_init_26 : decode cX5_init 26 = .ok (.iconst 0, 1) := by decide +kernel
theorem dX5_init_27 : decode cX5_init 27 = .ok (.putfield 25, 3) := by decide +kernel
theorem dX5_init_30 : decode cX5_init 30 = .ok (.aload_n 0, 1) := by decide +kernel
theorem dX5_init_31 : decode cX5_init 31 = .ok (.iconst 0, 1) := by decide +kernel
theorem dX5_init_32 : decode cX5_init 32 = .ok (.putfield 28, 3) := by decide +kernel
theorem dX5_init_35 : decode cX5_init 35 = .ok (.aload_n 0, 1) := by decide +kernel
theorem dX5_init_36 : decode cX5_init 36 = .ok (.sipush (-1000), 3) := by decide +kernel
theorem dX5_init_39 : decode cX5_init 39 = .ok (.putfield 31, 3) := by decide +kernel
theorem dX5_init_42 : decode cX5_init 42 = .ok (.aload_n 0, 1) := by decide +kernel
theorem dX5_init_43 : decode cX5_init 43 = .ok (.iconst 0, 1) := by decide +kernel
theorem dX5_init_44 : decode cX5_init 44 = .ok (.putfield 34, 3) := by decide +kernel
theorem dX5_init_47 : decode cX5_init 47 = .ok (.aload_n 0, 1) := by decide +kernel
theorem dX5_init_48 : decode cX5_init 48 = .ok (.iconst 0, 1) := by decide +kernel
theorem dX5_init_49 : decode cX5_init 49 = .ok (.putfield 37, 3) := by decide +kernel
theorem dX5_init_52 : decode cX5_init 52 = .ok (.aload_n 0, 1) := by decide +kernel
theorem dX5_init_53 : decode cX5_init 53 = .ok (.iconst (-1), 1) := by decide +kernel
theorem dX5_init_54 : decode cX5_init 54 = .ok (.putfield 40, 3) := by decide +kernel
theorem dX5_init_57 : decode cX5_init 57 = .ok (.aload_n 0, 1) := by decide +kernel
theorem dX5_init_58 : decode cX5_init 58 = .ok (.iload_n 1, 1) := by decide +kernel
theorem dX5_init_59 : decode cX5_init 59 = .ok (.putfield 43, 3) := by decide +kernel
theorem dX5_init_62 : decode cX5_init 62 = .ok (.return_, 1) := by decide +kernel
theorem dX5_reset_0 : decode cX5_reset 0 = .ok (.aload_n 0, 1) := by decide +kernel
theorem dX5_reset_1 : decode cX5_reset 1 = .ok (.iconst 0, 1) := by decide +kernel
theorem dX5_reset_2 : decode cX5_reset 2 = .ok (.putfield 21, 3) := by decide +kernel
theorem dX5_reset_5 : decode cX5_reset 5 = .ok (.aload_n 0, 1) := by decide +kernel
theorem dX5_reset_6 : decode cX5_reset 6 = .ok (.iconst 0, 1) := by decide +kernel
theorem dX5_reset_7 : decode cX5_reset 7 = .ok (.putfield 25, 3) := by decide +kernel
theorem dX5_reset_10 : decode cX5_reset 10 = .ok (.aload_n 0, 1) := by decide +kernel
theorem dX5_reset_11 : decode cX5_reset 11 = .ok (.iconst 0, 1) := by decide +kernel
theorem dX5_reset_12 : decode cX5_reset 12 = .ok (.putfield 28, 3) := by decide +kernel
theorem dX5_reset_15 : decode cX5_reset 15 = .ok (.aload_n 0, 1) := by decide +kernel
theorem dX5_reset_16 : decode cX5_reset 16 = .ok (.sipush (-1000), 3) := by decide +kernel
theorem dX5_reset_19 : decode cX5_reset 19 = .ok (.putfield 31, 3) := by decide +kernel
theorem dX5_reset_22 : decode cX5_reset 22 = .ok (.aload_n 0, 1) := by decide +kernel
theorem dX5_reset_23 : decode cX5_reset 23 = .ok (.iconst 0, 1) := by decide +kernel
theorem dX5_reset_24 : decode cX5_reset 24 = .ok (.putfield 34, 3) := by decide +kernel
theorem dX5_reset_27 : decode cX5_reset 27 = .ok (.aload_n 0, 1) := by decide +kernel
theorem dX5_reset_28 : decode cX5_reset 28 = .ok (.iconst 0, 1) := by decide +kernel
theorem dX5_reset_29 : decode cX5_reset 29 = .ok (.putfield 37, 3) := by decide +kernel
theorem dX5_reset_32 : decode cX5_reset 32 = .ok (.aload_n 0, 1) := by decide +kernel
theorem dX5_reset_33 : decode cX5_reset 33 = .ok (.iconst (-1), 1) := by decide +kernel
theorem dX5_reset_34 : decode cX5_reset 34 = .ok (.putfield 40, 3) := by decide +kernel
theorem dX5_reset_37 : decode cX5_reset 37 = .ok (.return_, 1) := by decide +kernel
theorem dX5_isAudible_0 : decode cX5_isAudible 0 = .ok (.aload_n 0, 1) := by decide +kernel
theorem dX5_isAudible_1 : decode cX5_isAudible 1 = .ok (.getfield 34, 3) := by decide +kernel
theorem dX5_isAudible_4 : decode cX5_isAudible 4 = .ok (.ifCond .ne 10, 3) := by decide +kernel
theorem dX5_isAudible_7 : decode cX5_isAudible 7 = .ok (.aload_n 0, 1) := by decide +kernel
theorem dX5_isAudible_8 : decode cX5_isAudible 8 = .ok (.getfield 37, 3) := by decide +kernel
theorem dX5_isAudible_11 : decode cX5_isAudible 11 = .ok (.ifCond .eq 7, 3) := by decide +kernel
theorem dX5_isAudible_14 : decode cX5_isAudible 14 = .ok (.iconst 1, 1) := by decide +kernel
theorem dX5_isAudible_15 : decode cX5_isAudible 15 = .ok (.goto 4, 3) := by decide +kernel
theorem dX5_isAudible_18 : decode cX5_isAudible 18 = .ok (.iconst 0, 1) := by decide +kernel
theorem dX5_isAudible_19 : decode cX5_isAudible 19 = .ok (.ireturn, 1) := by decide +kernel
theorem dX5_isReady_0 : decode cX5_isReady 0 = .ok (.aload_n 0, 1) := by decide +kernel
theorem dX5_isReady_1 : decode cX5_isReady 1 = .ok (.getfield 21, 3) := by decide +kernel
theorem dX5_isReady_4 : decode cX5_isReady 4 = .ok (.ifCond .eq 40, 3) := by decide +kernel
theorem dX5_isReady_7 : decode cX5_isReady 7 = .ok (.aload_n 0, 1) := by decide +kernel
theorem dX5_isReady_8 : decode cX5_isReady 8 = .ok (.getfield 34, 3) := by decide +kernel
theorem dX5_isReady_11 : decode cX5_isReady 11 = .ok (.ifCond .ne 33, 3) := by decide +kernel
theorem dX5_isReady_14 : decode cX5_isReady 14 = .ok (.iload_n 1, 1) := by decide +kernel
theorem dX5_isReady_15 : decode cX5_isReady 15 = .ok (.aload_n 0, 1) := by decide +kernel
theorem dX5_isReady_16 : decode cX5_isReady 16 = .ok (.getfield 25, 3) := by decide +kernel
theorem dX5_isReady_19 : decode cX5_isReady 19 = .ok (.aload_n 0, 1) := by decide +kernel
theorem dX5_isReady_20 : decode cX5_isReady 20 = .ok (.getfield 9, 3) := by decide +kernel
theorem dX5_isReady_23 : decode cX5_isReady 23 = .ok (.iadd, 1) := by decide +kernel
theorem dX5_isReady_24 : decode cX5_isReady 24 = .ok (.if_icmp .lt 20, 3) := by decide +kernel
theorem dX5_isReady_27 : decode cX5_isReady 27 = .ok (.iload_n 1, 1) := by decide +kernel
theorem dX5_isReady_28 : decode cX5_isReady 28 = .ok (.aload_n 0, 1) := by decide +kernel
theorem dX5_isReady_29 : decode cX5_isReady 29 = .ok (.getfield 31, 3) := by decide +kernel
theorem dX5_isReady_32 : decode cX5_isReady 32 = .ok (.aload_n 0, 1) := by decide +kernel
theorem dX5_isReady_33 : decode cX5_isReady 33 = .ok (.getfield 15, 3) := by decide +kernel
theorem dX5_isReady_36 : decode cX5_isReady 36 = .ok (.iadd, 1) := by decide +kernel
theorem dX5_isReady_37 : decode cX5_isReady 37 = .ok (.if_icmp .lt 7, 3) := by decide +kernel
theorem dX5_isReady_40 : decode cX5_isReady 40 = .ok (.iconst 1, 1) := by decide +kernel
theorem dX5_isReady_41 : decode cX5_isReady 41 = .ok (.goto 4, 3) := by decide +kernel
theorem dX5_isReady_44 : decode cX5_isReady 44 = .ok (.iconst 0, 1) := by decide +kernel
theorem dX5_isReady_45 : decode cX5_isReady 45 = .ok (.ireturn, 1) := by decide +kernel

