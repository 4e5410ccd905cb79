theorem dJ6_compare_7cf53_0 : decode cJ6_compare_7cf53 0 = .ok (.iload_n 0, 1) := by decide +kernel
theorem dJ6_compare_7cf53_1 : decode cJ6_compare_7cf53 1 = .ok (.iload_n 1, 1) := by decide +kernel
theorem dJ6_compare_7cf53_2 : decode cJ6_compare_7cf53 2 = .ok (.if_icmp .ge 7, 3) := by decide +kernel
theorem dJ6_compare_7cf53_5 : decode cJ6_compare_7cf53 5 = .ok (.iconst (-1), 1) := by decide +kernel
theorem dJ6_compare_7cf53_6 : decode cJ6_compare_7cf53 6 = .ok (.goto 13, 3) := by decide +kernel
theorem dJ6_compare_7cf53_9 : decode cJ6_compare_7cf53 9 = .ok (.iload_n 0, 1) := by decide +kernel
theorem dJ6_compare_7cf53_10 : decode cJ6_compare_7cf53 10 = .ok (.iload_n 1, 1) := by decide +kernel
theorem dJ6_compare_7cf53_11 : decode cJ6_compare_7cf53 11 = .ok (.if_icmp .ne 7, 3) := by decide +kernel
theorem dJ6_compare_7cf53_14 : decode cJ6_compare_7cf53 14 = .ok (.iconst 0, 1) := by decide +kernel
theorem dJ6_compare_7cf53_15 : decode cJ6_compare_7cf53 15 = .ok (.goto 4, 3) := by decide +kernel
theorem dJ6_compare_7cf53_18 : decode cJ6_compare_7cf53 18 = .ok (.iconst 1, 1) := by decide +kernel
theorem dJ6_compare_7cf53_19 : decode cJ6_compare_7cf53 19 = .ok (.ireturn, 1) := by decide +kernel
theorem dX2_init_0 : decode cX2_init 0 = .ok (.aload_n 0, 1) := by decide +kernel
theorem dX2_init_1 : decode cX2_init 1 = .ok (.invokespecial 3, 3) := by decide +kernel
theorem dX2_init_4 : decode cX2_init 4 = .ok (.aload_n 0, 1) := by decide +kernel
theorem dX2_init_5 : decode cX2_init 5 = .ok (.new 9, 3) := by decide +kernel
theorem dX2_init_8 : decode cX2_init 8 = .ok (.dup, 1) := by decide +kernel
theorem dX2_init_9 : decode cX2_init 9 = .ok (.invokespecial 11, 3) := by decide +kernel
theorem dX2_init_12 : decode cX2_init 12 = .ok (.putfield 12, 3) := by decide +kernel
theorem dX2_init_15 : decode cX2_init 15 = .ok (.aload_n 0, 1) := by decide +kernel
theorem dX2_init_16 : decode cX2_init 16 = .ok (.bipush 12, 2) := by decide +kernel
theorem dX2_init_18 : decode cX2_init 18 = .ok (.anewarray 18, 3) := by decide +kernel
theorem dX2_init_21 : decode cX2_init 21 = .ok (.putfield 20, 3) := by decide +kernel
theorem dX2_init_24 : decode cX2_init 24 = .ok (.aload_n 0, 1) := by decide +kernel
theorem dX2_init_25 : decode cX2_init 25 = .ok (.new 24, 3) := by decide +kernel
theorem dX2_init_28 : decode cX2_init 28 = .ok (.dup, 1) := by decide +kernel
theorem dX2_init_29 : decode cX2_init 29 = .ok (.invokespecial 26, 3) := by decide +kernel
theorem dX2_init_32 : decode cX2_init 32 = .ok (.putfield 27, 3) := by decide +kernel
theorem dX2_init_35 : decode cX2_init 35 = .ok (.aload_n 0, 1) := by decide +kernel
theorem dX2_init_36 : decode cX2_init 36 = .ok (.aconst_null, 1) := by decide +kernel
theorem dX2_init_37 : decode cX2_init 37 = .ok (.putfield 31, 3) := by decide +kernel
theorem dX2_init_40 : decode cX2_init 40 = .ok (.aload_n 0, 1) := by decide +kernel
theorem dX2_init_41 : decode cX2_init 41 = .ok (.iconst 0, 1) := by decide +kernel
theorem dX2_init_42 : decode cX2_init 42 = .ok (.putfield 35, 3) := by decide +kernel
theorem dX2_init_45 : decode cX2_init 45 = .ok (.aload_n 0, 1) := by decide +kernel
theorem dX2_init_46 : decode cX2_init 46 = .ok (.sipush 1000, 3) := by decide +kernel
theorem dX2_init_49 : decode cX2_init 49 = .ok (.putfield 39, 3) := by decide +kernel
theorem dX2_init_52 : decode cX2_init 52 = .ok (.aload_n 0, 1) := by decide +kernel
theorem dX2_init_53 : decode cX2_init 53 = .ok (.iconst 3, 1) := by decide +kernel
theorem dX2_init_54 : decode cX2_init 54 = .ok (.putfield 42, 3) := by decide +kernel
theorem dX2_init_57 : decode cX2_init 57 = .ok (.aload_n 0, 1) := by decide +kernel
theorem dX2_init_58 : decode cX2_init 58 = .ok (.iconst 0, 1) := by decide +kernel
theorem dX2_init_59 : decode cX2_init 59 = .ok (.putfield 45, 3) := by decide +kernel
theorem dX2_init_62 : decode cX2_init 62 = .ok (.aload_n 0, 1) := by decide +kernel
theorem dX2_init_63 : decode cX2_init 63 = .ok (.iconst 0, 1) := by decide +kernel
theorem dX2_init_64 : decode cX2_init 64 = .ok (.putfield 48, 3) := by decide +kernel
theorem dX2_init_67 : decode cX2_init 67 = .ok (.aload_n 0, 1) := by decide +kernel
theorem dX2_init_68 : decode cX2_init 68 = .ok (.iconst 0, 1) := by decide +kernel
theorem dX2_init_69 : decode cX2_init 69 = .ok (.putfield 51, 3) := by decide +kernel
theorem dX2_init_72 : decode cX2_init 72 = .ok (.aload_n 0, 1) := by decide +kernel
theorem dX2_init_73 : decode cX2_init 73 = .ok (.iconst 0, 1) := by decide +kernel
theorem dX2_init_74 : decode cX2_init 74 = .ok (.putfield 54, 3) := by decide +kernel
theorem dX2_init_77 : decode cX2_init 77 = .ok (.aload_n 0, 1) := by decide +kernel
theorem dX2_init_78 : decode cX2_init 78 = .ok (.iconst 0, 1) := by decide +kernel
theorem dX2_init_79 : decode cX2_init 79 = .ok (.putfield 58, 3) := by decide +kernel
theorem dX2_init_82 : decode cX2_init 82 = .ok (.aload_n 0, 1) := by decide +kernel
theorem dX2_init_83 : decode cX2_init 83 = .ok (.iconst 0, 1) := by decide +kernel
theorem dX2_init_84 : decode cX2_init 84 = .ok (.putfield 61, 3) := by decide +kernel
theorem dX2_init_87 : decode cX2_init 87 = .ok (.iconst 0, 1) := by decide +kernel
theorem dX2_init_88 : decode cX2_init 88 = .ok (.istore_n 1, 1) := by decide +kernel
theorem dX2_init_89 : decode cX2_init 89 = .ok (.iload_n 1, 1) := by decide +kernel
theorem dX2_init_90 : decode cX2_init 90 = .ok (.bipush 12, 2) := by decide +kernel
theorem dX2_init_92 : decode cX2_init 92 = .ok (.if_icmp .ge 23, 3) := by decide +kernel
theorem dX2_init_95 : decode cX2_init 95 = .ok (.aload_n 0, 1) := by decide +kernel
theorem dX2_init_96 : decode cX2_init 96 = .ok (.getfield 20, 3) := by decide +kernel
theorem dX2_init_99 : decode cX2_init 99 = .ok (.iload_n 1, 1) := by decide +kernel
theorem dX2_init_100 : decode cX2_init 100 = .ok (.new 18, 3) := by decide +kernel
theorem dX2_init_103 : decode cX2_init 103 = .ok (.dup, 1) := by decide +kernel
theorem dX2_init_104 : decode cX2_init 104 = .ok (.iload_n 1, 1) := by decide +kernel
theorem dX2_init_105 : decode cX2_init 105 = .ok (.invokespecial 64, 3) := by decide +kernel
theorem dX2_init_108 : decode cX2_init 108 = .ok (.aastore, 1) := by decide +kernel
theorem dX2_init_109 : decode cX2_init 109 = .ok (.iinc 1 1, 3) := by decide +kernel
theorem dX2_init_112 : decode cX2_init 112 = .ok (.goto (-23), 3) := by decide +kernel
theorem dX2_init_115 : decode cX2_init 115 = .ok (.return_, 1) := by decide +kernel
theorem dX2_isBusy_0 : decode cX2_isBusy 0 = .ok (.aload_n 0, 1) := by decide +kernel
theorem dX2_isBusy_1 : decode cX2_isBusy 1 = .ok (.getfield 31, 3) := by decide +kernel
theorem dX2_isBusy_4 : decode cX2_isBusy 4 = .ok (.ifnull 7, 3) := by decide +kernel
theorem dX2_isBusy_7 : decode cX2_isBusy 7 = .ok (.iconst 1, 1) := by decide +kernel
theorem dX2_isBusy_8 : decode cX2_isBusy 8 = .ok (.goto 4, 3) := by decide +kernel
theorem dX2_isBusy_11 : decode cX2_isBusy 11 = .ok (.iconst 0, 1) := by decide +kernel
theorem dX2_isBusy_12 : decode cX2_isBusy 12 = .ok (.ireturn, 1) := by decide +kernel
theorem dX2_begin_0 : decode cX2_begin 0 = .ok (.aload_n 0, 1) := by decide +kernel
theorem dX2_begin_1 : decode cX2_begin 1 = .ok (.aload_n 1, 1) := by decide +kernel
theorem dX2_begin_2 : decode cX2_begin 2 = .ok (.iconst 0, 1) := by decide +kernel
theorem dX2_begin_3 : decode cX2_begin 3 = .ok (.invokevirtual 67, 3) := by decide +kernel
theorem dX2_begin_6 : decode cX2_begin 6 = .ok (.ifCond .eq 7, 3) := by decide +kernel
theorem dX2_begin_9 : decode cX2_begin 9 = .ok (.aload_n 1, 1) := by decide +kernel
theorem dX2_begin_10 : decode cX2_begin 10 = .ok (.goto 4, 3) := by decide +kernel
theorem dX2_begin_13 : decode cX2_begin 13 = .ok (.aconst_null, 1) := by decide +kernel
theorem dX2_begin_14 : decode cX2_begin 14 = .ok (.putfield 31, 3) := by decide +kernel
theorem dX2_begin_17 : decode cX2_begin 17 = .ok (.aload_n 0, 1) := by decide +kernel
theorem dX2_begin_18 : decode cX2_begin 18 = .ok (.iconst 0, 1) := by decide +kernel
theorem dX2_begin_19 : decode cX2_begin 19 = .ok (.putfield 35, 3) := by decide +kernel
theorem dX2_begin_22 : decode cX2_begin 22 = .ok (.aload_n 0, 1) := by decide +kernel
theorem dX2_begin_23 : decode cX2_begin 23 = .ok (.sipush 1000, 3) := by decide +kernel
theorem dX2_begin_26 : decode cX2_begin 26 = .ok (.putfield 39, 3) := by decide +kernel
theorem dX2_begin_29 : decode cX2_begin 29 = .ok (.aload_n 0, 1) := by decide +kernel
theorem dX2_begin_30 : decode cX2_begin 30 = .ok (.iconst 3, 1) := by decide +kernel
theorem dX2_begin_31 : decode cX2_begin 31 = .ok (.putfield 42, 3) := by decide +kernel
theorem dX2_begin_34 : decode cX2_begin 34 = .ok (.aload_n 0, 1) := by decide +kernel
theorem dX2_begin_35 : decode cX2_begin 35 = .ok (.iconst 0, 1) := by decide +kernel
theorem dX2_begin_36 : decode cX2_begin 36 = .ok (.putfield 45, 3) := by decide +kernel
theorem dX2_begin_39 : decode cX2_begin 39 = .ok (.aload_n 0, 1) := by decide +kernel
theorem dX2_begin_40 : decode cX2_begin 40 = .ok (.iconst 0, 1) := by decide +kernel
theorem dX2_begin_41 : decode cX2_begin 41 = .ok (.putfield 48, 3) := by decide +kernel
theorem dX2_begin_44 : decode cX2_begin 44 = .ok (.aload_n 0, 1) := by decide +kernel
theorem dX2_begin_45 : decode cX2_begin 45 = .ok (.iconst 0, 1) := by decide +kernel
theorem dX2_begin_46 : decode cX2_begin 46 = .ok (.putfield 51, 3) := by decide +kernel
theorem dX2_begin_49 : decode cX2_begin 49 = .ok (.aload_n 0, 1) := by decide +kernel
theorem dX2_begin_50 : decode cX2_begin 50 = .ok (.iconst 0, 1) := by decide +kernel
theorem dX2_begin_51 : decode cX2_begin 51 = .ok (.putfield 54, 3) := by decide +kernel
theorem dX2_begin_54 : decode cX2_begin 54 = .ok (.aload_n 0, 1) := by decide +kernel
theorem dX2_begin_55 : decode cX2_begin 55 = .ok (.iconst 0, 1) := by decide +kernel
theorem dX2_begin_56 : decode cX2_begin 56 = .ok (.putfield 58, 3) := by decide +kernel
theorem dX2_begin_59 : decode cX2_begin 59 = .ok (.aload_n 0, 1) := by decide +kernel
theorem dX2_begin_60 : decode cX2_begin 60 = .ok (.iconst 0, 1) := by decide +kernel
theorem dX2_begin_61 : decode cX2_begin 61 = .ok (.putfield 61, 3) := by decide +kernel
theorem dX2_begin_64 : decode cX2_begin 64 = .ok (.aload_n 0, 1) := by decide +kernel
theorem dX2_begin_65 : decode cX2_begin 65 = .ok (.getfield 27, 3) := by decide +kernel
theorem dX2_begin_68 : decode cX2_begin 68 = .ok (.invokevirtual 73, 3) := by decide +kernel
theorem dX2_begin_71 : decode cX2_begin 71 = .ok (.iconst 0, 1) := by decide +kernel
theorem dX2_begin_72 : decode cX2_begin 72 = .ok (.istore_n 2, 1) := by decide +kernel
theorem dX2_begin_73 : decode cX2_begin 73 = .ok (.iload_n 2, 1) := by decide +kernel
theorem dX2_begin_74 : decode cX2_begin 74 = .ok (.bipush 12, 2) := by decide +kernel
theorem dX2_begin_76 : decode cX2_begin 76 = .ok (.if_icmp .ge 18, 3) := by decide +kernel
theorem dX2_begin_79 : decode cX2_begin 79 = .ok (.aload_n 0, 1) := by decide +kernel
theorem dX2_begin_80 : decode cX2_begin 80 = .ok (.getfield 20, 3) := by decide +kernel
theorem dX2_begin_83 : decode cX2_begin 83 = .ok (.iload_n 2, 1) := by decide +kernel
theorem dX2_begin_84 : decode cX2_begin 84 = .ok (.aaload, 1) := by decide +kernel
theorem dX2_begin_85 : decode cX2_begin 85 = .ok (.invokevirtual 76, 3) := by decide +kernel
theorem dX2_begin_88 : decode cX2_begin 88 = .ok (.iinc 2 1, 3) := by decide +kernel
theorem dX2_begin_91 : decode cX2_begin 91 = .ok (.goto (-18), 3) := by decide +kernel
theorem dX2_begin_94 : decode cX2_begin 94 = .ok (.return_, 1) := by decide +kernel
theorem dX2_playRows_0 : decode cX2_playRows 0 = .ok (.aload_n 0, 1) := by decide +kernel
theorem dX2_playRows_1 : decode cX2_playRows 1 = .ok (.getfield 31, 3) := by decide +kernel
theorem dX2_playRows_4 : decode cX2_playRows 4 = .ok (.astore_n 2, 1) := by decide +kernel
theorem dX2_playRows_5 : decode cX2_playRows 5 = .ok (.aload_n 2, 1) := by decide +kernel
theorem dX2_playRows_6 : decode cX2_playRows 6 = .ok (.ifnonnull 5, 3) := by decide +kernel
theorem dX2_playRows_9 : decode cX2_playRows 9 = .ok (.iconst 0, 1) := by decide +kernel
theorem dX2_playRows_10 : decode cX2_playRows 10 = .ok (.ireturn, 1) := by decide +kernel
theorem dX2_playRows_11 : decode cX2_playRows 11 = .ok (.iconst 0, 1) := by decide +kernel
theorem dX2_playRows_12 : decode cX2_playRows 12 = .ok (.istore_n 3, 1) := by decide +kernel
theorem dX2_playRows_13 : decode cX2_playRows 13 = .ok (.iload_n 3, 1) := by decide +kernel
theorem dX2_playRows_14 : decode cX2_playRows 14 = .ok (.iload_n 1, 1) := by decide +kernel
theorem dX2_playRows_15 : decode cX2_playRows 15 = .ok (.if_icmp .ge 25, 3) := by decide +kernel
theorem dX2_playRows_18 : decode cX2_playRows 18 = .ok (.aload_n 2, 1) := by decide +kernel
theorem dX2_playRows_19 : decode cX2_playRows 19 = .ok (.aload_n 0, 1) := by decide +kernel
theorem dX2_playRows_20 : decode cX2_playRows 20 = .ok (.getfield 35, 3) := by decide +kernel
theorem dX2_playRows_23 : decode cX2_playRows 23 = .ok (.invokevirtual 67, 3) := by decide +kernel
theorem dX2_playRows_26 : decode cX2_playRows 26 = .ok (.ifCond .eq 14, 3) := by decide +kernel
theorem dX2_playRows_29 : decode cX2_playRows 29 = .ok (.aload_n 0, 1) := by decide +kernel
theorem dX2_playRows_30 : decode cX2_playRows 30 = .ok (.aload_n 2, 1) := by decide +kernel
theorem dX2_playRows_31 : decode cX2_playRows 31 = .ok (.invokevirtual 79, 3) := by decide +kernel
theorem dX2_playRows_34 : decode cX2_playRows 34 = .ok (.iinc 3 1, 3) := by decide +kernel
theorem dX2_playRows_37 : decode cX2_playRows 37 = .ok (.goto (-24), 3) := by decide +kernel
theorem dX2_playRows_40 : decode cX2_playRows 40 = .ok (.aload_n 2, 1) := by decide +kernel
theorem dX2_playRows_41 : decode cX2_playRows 41 = .ok (.aload_n 0, 1) := by decide +kernel
theorem dX2_playRows_42 : decode cX2_playRows 42 = .ok (.getfield 35, 3) := by decide +kernel
theorem dX2_playRows_45 : decode cX2_playRows 45 = .ok (.invokevirtual 67, 3) := by decide +kernel
theorem dX2_playRows_48 : decode cX2_playRows 48 = .ok (.ifCond .ne 7, 3) := by decide +kernel
theorem dX2_playRows_51 : decode cX2_playRows 51 = .ok (.aload_n 0, 1) := by decide +kernel
theorem dX2_playRows_52 : decode cX2_playRows 52 = .ok (.invokevirtual 83, 3) := by decide +kernel
theorem dX2_playRows_55 : decode cX2_playRows 55 = .ok (.iload_n 3, 1) := by decide +kernel
theorem dX2_playRows_56 : decode cX2_playRows 56 = .ok (.ireturn, 1) := by decide +kernel
theorem dX2_playRow_0 : decode cX2_playRow 0 = .ok (.aload_n 0, 1) := by decide +kernel
theorem dX2_playRow_1 : decode cX2_playRow 1 = .ok (.aload_n 1, 1) := by decide +kernel
theorem dX2_playRow_2 : decode cX2_playRow 2 = .ok (.invokevirtual 86, 3) := by decide +kernel
theorem dX2_playRow_5 : decode cX2_playRow 5 = .ok (.istore_n 2, 1) := by decide +kernel
theorem dX2_playRow_6 : decode cX2_playRow 6 = .ok (.aload_n 0, 1) := by decide +kernel
theorem dX2_playRow_7 : decode cX2_playRow 7 = .ok (.iload_n 2, 1) := by decide +kernel
theorem dX2_playRow_8 : decode cX2_playRow 8 = .ok (.invokevirtual 90, 3) := by decide +kernel
theorem dX2_playRow_11 : decode cX2_playRow 11 = .ok (.aload_n 0, 1) := by decide +kernel
theorem dX2_playRow_12 : decode cX2_playRow 12 = .ok (.iload_n 2, 1) := by decide +kernel
theorem dX2_playRow_13 : decode cX2_playRow 13 = .ok (.bipush 12, 2) := by decide +kernel
theorem dX2_playRow_15 : decode cX2_playRow 15 = .ok (.invokestatic 93, 3) := by decide +kernel
theorem dX2_playRow_18 : decode cX2_playRow 18 = .ok (.putfield 58, 3) := by decide +kernel
theorem dX2_playRow_21 : decode cX2_playRow 21 = .ok (.aload_n 0, 1) := by decide +kernel
theorem dX2_playRow_22 : decode cX2_playRow 22 = .ok (.aload_n 0, 1) := by decide +kernel
theorem dX2_playRow_23 : decode cX2_playRow 23 = .ok (.iload_n 2, 1) := by decide +kernel
theorem dX2_playRow_24 : decode cX2_playRow 24 = .ok (.invokevirtual 97, 3) := by decide +kernel
theorem dX2_playRow_27 : decode cX2_playRow 27 = .ok (.invokevirtual 101, 3) := by decide +kernel
theorem dX2_playRow_30 : decode cX2_playRow 30 = .ok (.aload_n 0, 1) := by decide +kernel
theorem dX2_playRow_31 : decode cX2_playRow 31 = .ok (.invokevirtual 104, 3) := by decide +kernel
theorem dX2_playRow_34 : decode cX2_playRow 34 = .ok (.aload_n 0, 1) := by decide +kernel
theorem dX2_playRow_35 : decode cX2_playRow 35 = .ok (.iload_n 2, 1) := by decide +kernel
theorem dX2_playRow_36 : decode cX2_playRow 36 = .ok (.putfield 61, 3) := by decide +kernel
theorem dX2_playRow_39 : decode cX2_playRow 39 = .ok (.aload_n 0, 1) := by decide +kernel
theorem dX2_playRow_40 : decode cX2_playRow 40 = .ok (.dup, 1) := by decide +kernel
theorem dX2_playRow_41 : decode cX2_playRow 41 = .ok (.getfield 35, 3) := by decide +kernel
theorem dX2_playRow_44 : decode cX2_playRow 44 = .ok (.iconst 1, 1) := by decide +kernel
theorem dX2_playRow_45 : decode cX2_playRow 45 = .ok (.iadd, 1) := by decide +kernel
theorem dX2_playRow_46 : decode cX2_playRow 46 = .ok (.putfield 35, 3) := by decide +kernel
theorem dX2_playRow_49 : decode cX2_playRow 49 = .ok (.return_, 1) := by decide +kernel
theorem dX2_readHoles_0 : decode cX2_readHoles 0 = .ok (.aload_n 1, 1) := by decide +kernel
theorem dX2_readHoles_1 : decode cX2_readHoles 1 = .ok (.aload_n 0, 1) := by decide +kernel
theorem dX2_readHoles_2 : decode cX2_readHoles 2 = .ok (.getfield 35, 3) := by decide +kernel
theorem dX2_readHoles_5 : decode cX2_readHoles 5 = .ok (.invokevirtual 107, 3) := by decide +kernel
theorem dX2_readHoles_8 : decode cX2_readHoles 8 = .ok (.istore_n 2, 1) := by decide +kernel
theorem dX2_readHoles_9 : decode cX2_readHoles 9 = .ok (.aload_n 0, 1) := by decide +kernel
theorem dX2_readHoles_10 : decode cX2_readHoles 10 = .ok (.getfield 45, 3) := by decide +kernel
theorem dX2_readHoles_13 : decode cX2_readHoles 13 = .ok (.ifCond .lt 12, 3) := by decide +kernel
theorem dX2_readHoles_16 : decode cX2_readHoles 16 = .ok (.iload_n 2, 1) := by decide +kernel
theorem dX2_readHoles_17 : decode cX2_readHoles 17 = .ok (.aload_n 0, 1) := by decide +kernel
theorem dX2_readHoles_18 : decode cX2_readHoles 18 = .ok (.getfield 45, 3) := by decide +kernel
theorem dX2_readHoles_21 : decode cX2_readHoles 21 = .ok (.ishr, 1) := by decide +kernel
theorem dX2_readHoles_22 : decode cX2_readHoles 22 = .ok (.goto 13, 3) := by decide +kernel
theorem dX2_readHoles_25 : decode cX2_readHoles 25 = .ok (.iload_n 2, 1) := by decide +kernel
theorem dX2_readHoles_26 : decode cX2_readHoles 26 = .ok (.aload_n 0, 1) := by decide +kernel
theorem dX2_readHoles_27 : decode cX2_readHoles 27 = .ok (.getfield 45, 3) := by decide +kernel
theorem dX2_readHoles_30 : decode cX2_readHoles 30 = .ok (.ineg, 1) := by decide +kernel
theorem dX2_readHoles_31 : decode cX2_readHoles 31 = .ok (.ishl, 1) := by decide +kernel
theorem dX2_readHoles_32 : decode cX2_readHoles 32 = .ok (.ldc 110, 2) := by decide +kernel
theorem dX2_readHoles_34 : decode cX2_readHoles 34 = .ok (.iand, 1) := by decide +kernel
theorem dX2_readHoles_35 : decode cX2_readHoles 35 = .ok (.ireturn, 1) := by decide +kernel
theorem dX2_isRead_0 : decode cX2_isRead 0 = .ok (.iload_n 0, 1) := by decide +kernel
theorem dX2_isRead_1 : decode cX2_isRead 1 = .ok (.iload_n 1, 1) := by decide +kernel
theorem dX2_isRead_2 : decode cX2_isRead 2 = .ok (.ishr, 1) := by decide +kernel
theorem dX2_isRead_3 : decode cX2_isRead 3 = .ok (.iconst 1, 1) := by decide +kernel
theorem dX2_isRead_4 : decode cX2_isRead 4 = .ok (.iand, 1) := by decide +kernel
theorem dX2_isRead_5 : decode cX2_isRead 5 = .ok (.ifCond .eq 7, 3) := by decide +kernel
theorem dX2_isRead_8 : decode cX2_isRead 8 = .ok (.iconst 1, 1) := by decide +kernel
theorem dX2_isRead_9 : decode cX2_isRead 9 = .ok (.goto 4, 3) := by decide +kernel
theorem dX2_isRead_12 : decode cX2_isRead 12 = .ok (.iconst 0, 1) := by decide +kernel
theorem dX2_isRead_13 : decode cX2_isRead 13 = .ok (.ireturn, 1) := by decide +kernel
theorem dX2_makeLevel_0 : decode cX2_makeLevel 0 = .ok (.iload_n 1, 1) := by decide +kernel
theorem dX2_makeLevel_1 : decode cX2_makeLevel 1 = .ok (.bipush 13, 2) := by decide +kernel
theorem dX2_makeLevel_3 : decode cX2_makeLevel 3 = .ok (.invokestatic 93, 3) := by decide +kernel
theorem dX2_makeLevel_6 : decode cX2_makeLevel 6 = .ok (.istore_n 2, 1) := by decide +kernel
theorem dX2_makeLevel_7 : decode cX2_makeLevel 7 = .ok (.iload_n 1, 1) := by decide +kernel
theorem dX2_makeLevel_8 : decode cX2_makeLevel 8 = .ok (.bipush 14, 2) := by decide +kernel
theorem dX2_makeLevel_10 : decode cX2_makeLevel 10 = .ok (.invokestatic 93, 3) := by decide +kernel
theorem dX2_makeLevel_13 : decode cX2_makeLevel 13 = .ok (.istore_n 3, 1) := by decide +kernel
theorem dX2_makeLevel_14 : decode cX2_makeLevel 14 = .ok (.aload_n 0, 1) := by decide +kernel
theorem dX2_makeLevel_15 : decode cX2_makeLevel 15 = .ok (.getfield 12, 3) := by decide +kernel
theorem dX2_makeLevel_18 : decode cX2_makeLevel 18 = .ok (.getfield 111, 3) := by decide +kernel
theorem dX2_makeLevel_21 : decode cX2_makeLevel 21 = .ok (.bipush 97, 2) := by decide +kernel
theorem dX2_makeLevel_23 : decode cX2_makeLevel 23 = .ok (.if_icmp .ne 24, 3) := by decide +kernel
theorem dX2_makeLevel_26 : decode cX2_makeLevel 26 = .ok (.aload_n 0, 1) := by decide +kernel
theorem dX2_makeLevel_27 : decode cX2_makeLevel 27 = .ok (.aload_n 0, 1) := by decide +kernel
theorem dX2_makeLevel_28 : decode cX2_makeLevel 28 = .ok (.iload_n 2, 1) := by decide +kernel
theorem dX2_makeLevel_29 : decode cX2_makeLevel 29 = .ok (.iload_n 3, 1) := by decide +kernel
theorem dX2_makeLevel_30 : decode cX2_makeLevel 30 = .ok (.invokevirtual 115, 3) := by decide +kernel
theorem dX2_makeLevel_33 : decode cX2_makeLevel 33 = .ok (.ifCond .eq 7, 3) := by decide +kernel
theorem dX2_makeLevel_36 : decode cX2_makeLevel 36 = .ok (.iconst 1, 1) := by decide +kernel
theorem dX2_makeLevel_37 : decode cX2_makeLevel 37 = .ok (.goto 4, 3) := by decide +kernel
theorem dX2_makeLevel_40 : decode cX2_makeLevel 40 = .ok (.iconst (-1), 1) := by decide +kernel
theorem dX2_makeLevel_41 : decode cX2_makeLevel 41 = .ok (.invokevirtual 119, 3) := by decide +kernel
theorem dX2_makeLevel_44 : decode cX2_makeLevel 44 = .ok (.goto 135, 3) := by decide +kernel
theorem dX2_makeLevel_47 : decode cX2_makeLevel 47 = .ok (.aload_n 0, 1) := by decide +kernel
theorem dX2_makeLevel_48 : decode cX2_makeLevel 48 = .ok (.getfield 12, 3) := by decide +kernel
theorem dX2_makeLevel_51 : decode cX2_makeLevel 51 = .ok (.getfield 111, 3) := by decide +kernel
theorem dX2_makeLevel_54 : decode cX2_makeLevel 54 = .ok (.bipush 98, 2) := by decide +kernel
theorem dX2_makeLevel_56 : decode cX2_makeLevel 56 = .ok (.if_icmp .ne 77, 3) := by decide +kernel
theorem dX2_makeLevel_59 : decode cX2_makeLevel 59 = .ok (.iload_n 2, 1) := by decide +kernel
theorem dX2_makeLevel_60 : decode cX2_makeLevel 60 = .ok (.ifCond .eq 19, 3) := by decide +kernel
theorem dX2_makeLevel_63 : decode cX2_makeLevel 63 = .ok (.aload_n 0, 1) := by decide +kernel
theorem dX2_makeLevel_64 : decode cX2_makeLevel 64 = .ok (.getfield 61, 3) := by decide +kernel
theorem dX2_makeLevel_67 : decode cX2_makeLevel 67 = .ok (.bipush 13, 2) := by decide +kernel
theorem dX2_makeLevel_69 : decode cX2_makeLevel 69 = .ok (.invokestatic 93, 3) := by decide +kernel
theorem dX2_makeLevel_72 : decode cX2_makeLevel 72 = .ok (.ifCond .ne 7, 3) := by decide +kernel
theorem dX2_makeLevel_75 : decode cX2_makeLevel 75 = .ok (.iconst 1, 1) := by decide +kernel
theorem dX2_makeLevel_76 : decode cX2_makeLevel 76 = .ok (.goto 4, 3) := by decide +kernel
theorem dX2_makeLevel_79 : decode cX2_makeLevel 79 = .ok (.iconst 0, 1) := by decide +kernel
theorem dX2_makeLevel_80 : decode cX2_makeLevel 80 = .ok (.istore 4, 2) := by decide +kernel
theorem dX2_makeLevel_82 : decode cX2_makeLevel 82 = .ok (.iload_n 3, 1) := by decide +kernel
theorem dX2_makeLevel_83 : decode cX2_makeLevel 83 = .ok (.ifCond .eq 19, 3) := by decide +kernel
theorem dX2_makeLevel_86 : decode cX2_makeLevel 86 = .ok (.aload_n 0, 1) := by decide +kernel
theorem dX2_makeLevel_87 : decode cX2_makeLevel 87 = .ok (.getfield 61, 3) := by decide +kernel
theorem dX2_makeLevel_90 : decode cX2_makeLevel 90 = .ok (.bipush 14, 2) := by decide +kernel
theorem dX2_makeLevel_92 : decode cX2_makeLevel 92 = .ok (.invokestatic 93, 3) := by decide +kernel
theorem dX2_makeLevel_95 : decode cX2_makeLevel 95 = .ok (.ifCond .ne 7, 3) := by decide +kernel
theorem dX2_makeLevel_98 : decode cX2_makeLevel 98 = .ok (.iconst 1, 1) := by decide +kernel
theorem dX2_makeLevel_99 : decode cX2_makeLevel 99 = .ok (.goto 4, 3) := by decide +kernel
theorem dX2_makeLevel_102 : decode cX2_makeLevel 102 = .ok (.iconst 0, 1) := by decide +kernel
theorem dX2_makeLevel_103 : decode cX2_makeLevel 103 = .ok (.istore 5, 2) := by decide +kernel
theorem dX2_makeLevel_105 : decode cX2_makeLevel 105 = .ok (.aload_n 0, 1) := by decide +kernel
theorem dX2_makeLevel_106 : decode cX2_makeLevel 106 = .ok (.iload 4, 2) := by decide +kernel
theorem dX2_makeLevel_108 : decode cX2_makeLevel 108 = .ok (.ifCond .eq 7, 3) := by decide +kernel
theorem dX2_makeLevel_111 : decode cX2_makeLevel 111 = .ok (.iconst 1, 1) := by decide +kernel
theorem dX2_makeLevel_112 : decode cX2_makeLevel 112 = .ok (.goto 4, 3) := by decide +kernel
theorem dX2_makeLevel_115 : decode cX2_makeLevel 115 = .ok (.iconst 0, 1) := by decide +kernel
theorem dX2_makeLevel_116 : decode cX2_makeLevel 116 = .ok (.iload 5, 2) := by decide +kernel
theorem dX2_makeLevel_118 : decode cX2_makeLevel 118 = .ok (.ifCond .eq 7, 3) := by decide +kernel
theorem dX2_makeLevel_121 : decode cX2_makeLevel 121 = .ok (.iconst 1, 1) := by decide +kernel
theorem dX2_makeLevel_122 : decode cX2_makeLevel 122 = .ok (.goto 4, 3) := by decide +kernel
theorem dX2_makeLevel_125 : decode cX2_makeLevel 125 = .ok (.iconst 0, 1) := by decide +kernel
theorem dX2_makeLevel_126 : decode cX2_makeLevel 126 = .ok (.isub, 1) := by decide +kernel
theorem dX2_makeLevel_127 : decode cX2_makeLevel 127 = .ok (.invokevirtual 119, 3) := by decide +kernel
theorem dX2_makeLevel_130 : decode cX2_makeLevel 130 = .ok (.goto 49, 3) := by decide +kernel
theorem dX2_makeLevel_133 : decode cX2_makeLevel 133 = .ok (.iload_n 2, 1) := by decide +kernel
theorem dX2_makeLevel_134 : decode cX2_makeLevel 134 = .ok (.ifCond .ne 7, 3) := by decide +kernel
theorem dX2_makeLevel_137 : decode cX2_makeLevel 137 = .ok (.iload_n 3, 1) := by decide +kernel
theorem dX2_makeLevel_138 : decode cX2_makeLevel 138 = .ok (.ifCond .eq 29, 3) := by decide +kernel
theorem dX2_makeLevel_141 : decode cX2_makeLevel 141 = .ok (.aload_n 0, 1) := by decide +kernel
theorem dX2_makeLevel_142 : decode cX2_makeLevel 142 = .ok (.iload_n 2, 1) := by decide +kernel
theorem dX2_makeLevel_143 : decode cX2_makeLevel 143 = .ok (.ifCond .eq 7, 3) := by decide +kernel
theorem dX2_makeLevel_146 : decode cX2_makeLevel 146 = .ok (.iconst 2, 1) := by decide +kernel
theorem dX2_makeLevel_147 : decode cX2_makeLevel 147 = .ok (.goto 4, 3) := by decide +kernel
theorem dX2_makeLevel_150 : decode cX2_makeLevel 150 = .ok (.iconst 0, 1) := by decide +kernel
theorem dX2_makeLevel_151 : decode cX2_makeLevel 151 = .ok (.iload_n 3, 1) := by decide +kernel
theorem dX2_makeLevel_152 : decode cX2_makeLevel 152 = .ok (.ifCond .eq 7, 3) := by decide +kernel
theorem dX2_makeLevel_155 : decode cX2_makeLevel 155 = .ok (.iconst 2, 1) := by decide +kernel
theorem dX2_makeLevel_156 : decode cX2_makeLevel 156 = .ok (.goto 4, 3) := by decide +kernel
theorem dX2_makeLevel_159 : decode cX2_makeLevel 159 = .ok (.iconst 0, 1) := by decide +kernel
theorem dX2_makeLevel_160 : decode cX2_makeLevel 160 = .ok (.isub, 1) := by decide +kernel
theorem dX2_makeLevel_161 : decode cX2_makeLevel 161 = .ok (.invokevirtual 119, 3) := by decide +kernel
theorem dX2_makeLevel_164 : decode cX2_makeLevel 164 = .ok (.goto 15, 3) := by decide +kernel
theorem dX2_makeLevel_167 : decode cX2_makeLevel 167 = .ok (.aload_n 0, 1) := by decide +kernel
theorem dX2_makeLevel_168 : decode cX2_makeLevel 168 = .ok (.iconst 3, 1) := by decide +kernel
theorem dX2_makeLevel_169 : decode cX2_makeLevel 169 = .ok (.aload_n 0, 1) := by decide +kernel
theorem dX2_makeLevel_170 : decode cX2_makeLevel 170 = .ok (.getfield 42, 3) := by decide +kernel
theorem dX2_makeLevel_173 : decode cX2_makeLevel 173 = .ok (.invokestatic 122, 3) := by decide +kernel
theorem dX2_makeLevel_176 : decode cX2_makeLevel 176 = .ok (.invokevirtual 119, 3) := by decide +kernel
theorem dX2_makeLevel_179 : decode cX2_makeLevel 179 = .ok (.return_, 1) := by decide +kernel
theorem dX2_latch_0 : decode cX2_latch 0 = .ok (.iload_n 2, 1) := by decide +kernel
theorem dX2_latch_1 : decode cX2_latch 1 = .ok (.ifCond .eq 11, 3) := by decide +kernel
theorem dX2_latch_4 : decode cX2_latch 4 = .ok (.aload_n 0, 1) := by decide +kernel
theorem dX2_latch_5 : decode cX2_latch 5 = .ok (.iconst 0, 1) := by decide +kernel
theorem dX2_latch_6 : decode cX2_latch 6 = .ok (.putfield 54, 3) := by decide +kernel
theorem dX2_latch_9 : decode cX2_latch 9 = .ok (.goto 12, 3) := by decide +kernel
theorem dX2_latch_12 : decode cX2_latch 12 = .ok (.iload_n 1, 1) := by decide +kernel
theorem dX2_latch_13 : decode cX2_latch 13 = .ok (.ifCond .eq 8, 3) := by decide +kernel
theorem dX2_latch_16 : decode cX2_latch 16 = .ok (.aload_n 0, 1) := by decide +kernel
theorem dX2_latch_17 : decode cX2_latch 17 = .ok (.iconst 1, 1) := by decide +kernel
theorem dX2_latch_18 : decode cX2_latch 18 = .ok (.putfield 54, 3) := by decide +kernel
theorem dX2_latch_21 : decode cX2_latch 21 = .ok (.aload_n 0, 1) := by decide +kernel
theorem dX2_latch_22 : decode cX2_latch 22 = .ok (.getfield 54, 3) := by decide +kernel
theorem dX2_latch_25 : decode cX2_latch 25 = .ok (.ireturn, 1) := by decide +kernel
theorem dX2_moveLevel_0 : decode cX2_moveLevel 0 = .ok (.aload_n 0, 1) := by decide +kernel
theorem dX2_moveLevel_1 : decode cX2_moveLevel 1 = .ok (.iconst 0, 1) := by decide +kernel
theorem dX2_moveLevel_2 : decode cX2_moveLevel 2 = .ok (.bipush 6, 2) := by decide +kernel
theorem dX2_moveLevel_4 : decode cX2_moveLevel 4 = .ok (.aload_n 0, 1) := by decide +kernel
theorem dX2_moveLevel_5 : decode cX2_moveLevel 5 = .ok (.getfield 42, 3) := by decide +kernel
theorem dX2_moveLevel_8 : decode cX2_moveLevel 8 = .ok (.iload_n 1, 1) := by decide +kernel
theorem dX2_moveLevel_9 : decode cX2_moveLevel 9 = .ok (.iadd, 1) := by decide +kernel
theorem dX2_moveLevel_10 : decode cX2_moveLevel 10 = .ok (.invokestatic 128, 3) := by decide +kernel
theorem dX2_moveLevel_13 : decode cX2_moveLevel 13 = .ok (.invokestatic 133, 3) := by decide +kernel
theorem dX2_moveLevel_16 : decode cX2_moveLevel 16 = .ok (.putfield 42, 3) := by decide +kernel
theorem dX2_moveLevel_19 : decode cX2_moveLevel 19 = .ok (.return_, 1) := by decide +kernel
theorem dX2_findFed_0 : decode cX2_findFed 0 = .ok (.iconst 0, 1) := by decide +kernel
theorem dX2_findFed_1 : decode cX2_findFed 1 = .ok (.istore_n 2, 1) := by decide +kernel
theorem dX2_findFed_2 : decode cX2_findFed 2 = .ok (.iconst 0, 1) := by decide +kernel
theorem dX2_findFed_3 : decode cX2_findFed 3 = .ok (.istore_n 3, 1) := by decide +kernel
theorem dX2_findFed_4 : decode cX2_findFed 4 = .ok (.iload_n 3, 1) := by decide +kernel
theorem dX2_findFed_5 : decode cX2_findFed 5 = .ok (.bipush 12, 2) := by decide +kernel
theorem dX2_findFed_7 : decode cX2_findFed 7 = .ok (.if_icmp .ge 31, 3) := by decide +kernel
theorem dX2_findFed_10 : decode cX2_findFed 10 = .ok (.iload_n 1, 1) := by decide +kernel
theorem dX2_findFed_11 : decode cX2_findFed 11 = .ok (.iload_n 3, 1) := by decide +kernel
theorem dX2_findFed_12 : decode cX2_findFed 12 = .ok (.invokestatic 93, 3) := by decide +kernel
theorem dX2_findFed_15 : decode cX2_findFed 15 = .ok (.ifCond .eq 17, 3) := by decide +kernel
theorem dX2_findFed_18 : decode cX2_findFed 18 = .ok (.iload_n 2, 1) := by decide +kernel
theorem dX2_findFed_19 : decode cX2_findFed 19 = .ok (.iconst 1, 1) := by decide +kernel
theorem dX2_findFed_20 : decode cX2_findFed 20 = .ok (.aload_n 0, 1) := by decide +kernel
theorem dX2_findFed_21 : decode cX2_findFed 21 = .ok (.getfield 20, 3) := by decide +kernel
theorem dX2_findFed_24 : decode cX2_findFed 24 = .ok (.iload_n 3, 1) := by decide +kernel
theorem dX2_findFed_25 : decode cX2_findFed 25 = .ok (.aaload, 1) := by decide +kernel
theorem dX2_findFed_26 : decode cX2_findFed 26 = .ok (.getfield 136, 3) := by decide +kernel
theorem dX2_findFed_29 : decode cX2_findFed 29 = .ok (.ishl, 1) := by decide +kernel
theorem dX2_findFed_30 : decode cX2_findFed 30 = .ok (.ior, 1) := by decide +kernel
theorem dX2_findFed_31 : decode cX2_findFed 31 = .ok (.istore_n 2, 1) := by decide +kernel
theorem dX2_findFed_32 : decode cX2_findFed 32 = .ok (.iinc 3 1, 3) := by decide +kernel
theorem dX2_findFed_35 : decode cX2_findFed 35 = .ok (.goto (-31), 3) := by decide +kernel
theorem dX2_findFed_38 : decode cX2_findFed 38 = .ok (.iload_n 2, 1) := by decide +kernel
theorem dX2_findFed_39 : decode cX2_findFed 39 = .ok (.ireturn, 1) := by decide +kernel
theorem dX2_moveValves_0 : decode cX2_moveValves 0 = .ok (.iconst 0, 1) := by decide +kernel
theorem dX2_moveValves_1 : decode cX2_moveValves 1 = .ok (.istore_n 2, 1) := by decide +kernel
theorem dX2_moveValves_2 : decode cX2_moveValves 2 = .ok (.iload_n 2, 1) := by decide +kernel
theorem dX2_moveValves_3 : decode cX2_moveValves 3 = .ok (.bipush 12, 2) := by decide +kernel
theorem dX2_moveValves_5 : decode cX2_moveValves 5 = .ok (.if_icmp .ge 93, 3) := by decide +kernel
theorem dX2_moveValves_8 : decode cX2_moveValves 8 = .ok (.aload_n 0, 1) := by decide +kernel
theorem dX2_moveValves_9 : decode cX2_moveValves 9 = .ok (.getfield 20, 3) := by decide +kernel
theorem dX2_moveValves_12 : decode cX2_moveValves 12 = .ok (.iload_n 2, 1) := by decide +kernel
theorem dX2_moveValves_13 : decode cX2_moveValves 13 = .ok (.aaload, 1) := by decide +kernel
theorem dX2_moveValves_14 : decode cX2_moveValves 14 = .ok (.astore_n 3, 1) := by decide +kernel
theorem dX2_moveValves_15 : decode cX2_moveValves 15 = .ok (.aload_n 0, 1) := by decide +kernel
theorem dX2_moveValves_16 : decode cX2_moveValves 16 = .ok (.aload_n 3, 1) := by decide +kernel
theorem dX2_moveValves_17 : decode cX2_moveValves 17 = .ok (.iload_n 1, 1) := by decide +kernel
theorem dX2_moveValves_18 : decode cX2_moveValves 18 = .ok (.iload_n 2, 1) := by decide +kernel
theorem dX2_moveValves_19 : decode cX2_moveValves 19 = .ok (.invokestatic 93, 3) := by decide +kernel
theorem dX2_moveValves_22 : decode cX2_moveValves 22 = .ok (.invokevirtual 139, 3) := by decide +kernel
theorem dX2_moveValves_25 : decode cX2_moveValves 25 = .ok (.aload_n 3, 1) := by decide +kernel
theorem dX2_moveValves_26 : decode cX2_moveValves 26 = .ok (.aload_n 0, 1) := by decide +kernel
theorem dX2_moveValves_27 : decode cX2_moveValves 27 = .ok (.getfield 35, 3) := by decide +kernel
theorem dX2_moveValves_30 : decode cX2_moveValves 30 = .ok (.invokevirtual 143, 3) := by decide +kernel
theorem dX2_moveValves_33 : decode cX2_moveValves 33 = .ok (.ifCond .eq 21, 3) := by decide +kernel
theorem dX2_moveValves_36 : decode cX2_moveValves 36 = .ok (.aload_n 0, 1) := by decide +kernel
theorem dX2_moveValves_37 : decode cX2_moveValves 37 = .ok (.getfield 39, 3) := by decide +kernel
theorem dX2_moveValves_40 : decode cX2_moveValves 40 = .ok (.aload_n 0, 1) := by decide +kernel
theorem dX2_moveValves_41 : decode cX2_moveValves 41 = .ok (.getfield 12, 3) := by decide +kernel
theorem dX2_moveValves_44 : decode cX2_moveValves 44 = .ok (.getfield 146, 3) := by decide +kernel
theorem dX2_moveValves_47 : decode cX2_moveValves 47 = .ok (.if_icmp .lt 7, 3) := by decide +kernel
theorem dX2_moveValves_50 : decode cX2_moveValves 50 = .ok (.iconst 1, 1) := by decide +kernel
theorem dX2_moveValves_51 : decode cX2_moveValves 51 = .ok (.goto 4, 3) := by decide +kernel
theorem dX2_moveValves_54 : decode cX2_moveValves 54 = .ok (.iconst 0, 1) := by decide +kernel
theorem dX2_moveValves_55 : decode cX2_moveValves 55 = .ok (.istore 4, 2) := by decide +kernel
theorem dX2_moveValves_57 : decode cX2_moveValves 57 = .ok (.aload_n 3, 1) := by decide +kernel
theorem dX2_moveValves_58 : decode cX2_moveValves 58 = .ok (.getfield 149, 3) := by decide +kernel
theorem dX2_moveValves_61 : decode cX2_moveValves 61 = .ok (.ifCond .eq 20, 3) := by decide +kernel
theorem dX2_moveValves_64 : decode cX2_moveValves 64 = .ok (.iload 4, 2) := by decide +kernel
theorem dX2_moveValves_66 : decode cX2_moveValves 66 = .ok (.ifCond .ne 10, 3) := by decide +kernel
theorem dX2_moveValves_69 : decode cX2_moveValves 69 = .ok (.aload_n 0, 1) := by decide +kernel
theorem dX2_moveValves_70 : decode cX2_moveValves 70 = .ok (.getfield 58, 3) := by decide +kernel
theorem dX2_moveValves_73 : decode cX2_moveValves 73 = .ok (.ifCond .ne 8, 3) := by decide +kernel
theorem dX2_moveValves_76 : decode cX2_moveValves 76 = .ok (.aload_n 0, 1) := by decide +kernel
theorem dX2_moveValves_77 : decode cX2_moveValves 77 = .ok (.aload_n 3, 1) := by decide +kernel
theorem dX2_moveValves_78 : decode cX2_moveValves 78 = .ok (.invokevirtual 152, 3) := by decide +kernel
theorem dX2_moveValves_81 : decode cX2_moveValves 81 = .ok (.iload 4, 2) := by decide +kernel
theorem dX2_moveValves_83 : decode cX2_moveValves 83 = .ok (.ifCond .eq 9, 3) := by decide +kernel
theorem dX2_moveValves_86 : decode cX2_moveValves 86 = .ok (.aload_n 0, 1) := by decide +kernel
theorem dX2_moveValves_87 : decode cX2_moveValves 87 = .ok (.iload_n 2, 1) := by decide +kernel
theorem dX2_moveValves_88 : decode cX2_moveValves 88 = .ok (.aload_n 3, 1) := by decide +kernel
theorem dX2_moveValves_89 : decode cX2_moveValves 89 = .ok (.invokevirtual 156, 3) := by decide +kernel
theorem dX2_moveValves_92 : decode cX2_moveValves 92 = .ok (.iinc 2 1, 3) := by decide +kernel
theorem dX2_moveValves_95 : decode cX2_moveValves 95 = .ok (.goto (-93), 3) := by decide +kernel
theorem dX2_moveValves_98 : decode cX2_moveValves 98 = .ok (.return_, 1) := by decide +kernel
theorem dX2_moveValve_0 : decode cX2_moveValve 0 = .ok (.iload_n 2, 1) := by decide +kernel
theorem dX2_moveValve_1 : decode cX2_moveValve 1 = .ok (.ifCond .eq 23, 3) := by decide +kernel
theorem dX2_moveValve_4 : decode cX2_moveValve 4 = .ok (.aload_n 1, 1) := by decide +kernel
theorem dX2_moveValve_5 : decode cX2_moveValve 5 = .ok (.iconst 0, 1) := by decide +kernel
theorem dX2_moveValve_6 : decode cX2_moveValve 6 = .ok (.putfield 160, 3) := by decide +kernel
theorem dX2_moveValve_9 : decode cX2_moveValve 9 = .ok (.aload_n 1, 1) := by decide +kernel
theorem dX2_moveValve_10 : decode cX2_moveValve 10 = .ok (.getfield 163, 3) := by decide +kernel
theorem dX2_moveValve_13 : decode cX2_moveValve 13 = .ok (.ifCond .ne 47, 3) := by decide +kernel
theorem dX2_moveValve_16 : decode cX2_moveValve 16 = .ok (.aload_n 0, 1) := by decide +kernel
theorem dX2_moveValve_17 : decode cX2_moveValve 17 = .ok (.aload_n 1, 1) := by decide +kernel
theorem dX2_moveValve_18 : decode cX2_moveValve 18 = .ok (.invokevirtual 166, 3) := by decide +kernel
theorem dX2_moveValve_21 : decode cX2_moveValve 21 = .ok (.goto 39, 3) := by decide +kernel
theorem dX2_moveValve_24 : decode cX2_moveValve 24 = .ok (.aload_n 1, 1) := by decide +kernel
theorem dX2_moveValve_25 : decode cX2_moveValve 25 = .ok (.getfield 163, 3) := by decide +kernel
theorem dX2_moveValve_28 : decode cX2_moveValve 28 = .ok (.ifCond .eq 32, 3) := by decide +kernel
theorem dX2_moveValve_31 : decode cX2_moveValve 31 = .ok (.aload_n 1, 1) := by decide +kernel
theorem dX2_moveValve_32 : decode cX2_moveValve 32 = .ok (.dup, 1) := by decide +kernel
theorem dX2_moveValve_33 : decode cX2_moveValve 33 = .ok (.getfield 160, 3) := by decide +kernel
theorem dX2_moveValve_36 : decode cX2_moveValve 36 = .ok (.iconst 1, 1) := by decide +kernel
theorem dX2_moveValve_37 : decode cX2_moveValve 37 = .ok (.iadd, 1) := by decide +kernel
theorem dX2_moveValve_38 : decode cX2_moveValve 38 = .ok (.putfield 160, 3) := by decide +kernel
theorem dX2_moveValve_41 : decode cX2_moveValve 41 = .ok (.aload_n 1, 1) := by decide +kernel
theorem dX2_moveValve_42 : decode cX2_moveValve 42 = .ok (.getfield 160, 3) := by decide +kernel
theorem dX2_moveValve_45 : decode cX2_moveValve 45 = .ok (.aload_n 0, 1) := by decide +kernel
theorem dX2_moveValve_46 : decode cX2_moveValve 46 = .ok (.getfield 12, 3) := by decide +kernel
theorem dX2_moveValve_49 : decode cX2_moveValve 49 = .ok (.getfield 169, 3) := by decide +kernel
theorem dX2_moveValve_52 : decode cX2_moveValve 52 = .ok (.if_icmp .le 8, 3) := by decide +kernel
theorem dX2_moveValve_55 : decode cX2_moveValve 55 = .ok (.aload_n 0, 1) := by decide +kernel
theorem dX2_moveValve_56 : decode cX2_moveValve 56 = .ok (.aload_n 1, 1) := by decide +kernel
theorem dX2_moveValve_57 : decode cX2_moveValve 57 = .ok (.invokevirtual 172, 3) := by decide +kernel
theorem dX2_moveValve_60 : decode cX2_moveValve 60 = .ok (.return_, 1) := by decide +kernel
theorem dX2_openValve_0 : decode cX2_openValve 0 = .ok (.aload_n 1, 1) := by decide +kernel
theorem dX2_openValve_1 : decode cX2_openValve 1 = .ok (.iconst 1, 1) := by decide +kernel
theorem dX2_openValve_2 : decode cX2_openValve 2 = .ok (.putfield 163, 3) := by decide +kernel
theorem dX2_openValve_5 : decode cX2_openValve 5 = .ok (.aload_n 1, 1) := by decide +kernel
theorem dX2_openValve_6 : decode cX2_openValve 6 = .ok (.aload_n 0, 1) := by decide +kernel
theorem dX2_openValve_7 : decode cX2_openValve 7 = .ok (.getfield 35, 3) := by decide +kernel
theorem dX2_openValve_10 : decode cX2_openValve 10 = .ok (.putfield 175, 3) := by decide +kernel
theorem dX2_openValve_13 : decode cX2_openValve 13 = .ok (.aload_n 0, 1) := by decide +kernel
theorem dX2_openValve_14 : decode cX2_openValve 14 = .ok (.dup, 1) := by decide +kernel
theorem dX2_openValve_15 : decode cX2_openValve 15 = .ok (.getfield 48, 3) := by decide +kernel
theorem dX2_openValve_18 : decode cX2_openValve 18 = .ok (.iconst 1, 1) := by decide +kernel
theorem dX2_openValve_19 : decode cX2_openValve 19 = .ok (.iadd, 1) := by decide +kernel
theorem dX2_openValve_20 : decode cX2_openValve 20 = .ok (.putfield 48, 3) := by decide +kernel
theorem dX2_openValve_23 : decode cX2_openValve 23 = .ok (.return_, 1) := by decide +kernel
theorem dX2_closeValve_0 : decode cX2_closeValve 0 = .ok (.aload_n 1, 1) := by decide +kernel
theorem dX2_closeValve_1 : decode cX2_closeValve 1 = .ok (.iconst 0, 1) := by decide +kernel
theorem dX2_closeValve_2 : decode cX2_closeValve 2 = .ok (.putfield 163, 3) := by decide +kernel
theorem dX2_closeValve_5 : decode cX2_closeValve 5 = .ok (.aload_n 1, 1) := by decide +kernel
theorem dX2_closeValve_6 : decode cX2_closeValve 6 = .ok (.aload_n 0, 1) := by decide +kernel
theorem dX2_closeValve_7 : decode cX2_closeValve 7 = .ok (.getfield 35, 3) := by decide +kernel
theorem dX2_closeValve_10 : decode cX2_closeValve 10 = .ok (.putfield 178, 3) := by decide +kernel
theorem dX2_closeValve_13 : decode cX2_closeValve 13 = .ok (.aload_n 1, 1) := by decide +kernel
theorem dX2_closeValve_14 : decode cX2_closeValve 14 = .ok (.getfield 181, 3) := by decide +kernel
theorem dX2_closeValve_17 : decode cX2_closeValve 17 = .ok (.ifCond .eq 13, 3) := by decide +kernel
theorem dX2_closeValve_20 : decode cX2_closeValve 20 = .ok (.aload_n 1, 1) := by decide +kernel
theorem dX2_closeValve_21 : decode cX2_closeValve 21 = .ok (.iconst 0, 1) := by decide +kernel
theorem dX2_closeValve_22 : decode cX2_closeValve 22 = .ok (.putfield 181, 3) := by decide +kernel
theorem dX2_closeValve_25 : decode cX2_closeValve 25 = .ok (.aload_n 1, 1) := by decide +kernel
theorem dX2_closeValve_26 : decode cX2_closeValve 26 = .ok (.iconst 1, 1) := by decide +kernel
theorem dX2_closeValve_27 : decode cX2_closeValve 27 = .ok (.putfield 149, 3) := by decide +kernel
theorem dX2_closeValve_30 : decode cX2_closeValve 30 = .ok (.return_, 1) := by decide +kernel
theorem dX2_beginSounding_0 : decode cX2_beginSounding 0 = .ok (.aload_n 0, 1) := by decide +kernel
theorem dX2_beginSounding_1 : decode cX2_beginSounding 1 = .ok (.getfield 39, 3) := by decide +kernel
theorem dX2_beginSounding_4 : decode cX2_beginSounding 4 = .ok (.aload_n 0, 1) := by decide +kernel
theorem dX2_beginSounding_5 : decode cX2_beginSounding 5 = .ok (.getfield 42, 3) := by decide +kernel
theorem dX2_beginSounding_8 : decode cX2_beginSounding 8 = .ok (.iconst 1, 1) := by decide +kernel
theorem dX2_beginSounding_9 : decode cX2_beginSounding 9 = .ok (.iadd, 1) := by decide +kernel
theorem dX2_beginSounding_10 : decode cX2_beginSounding 10 = .ok (.imul, 1) := by decide +kernel
theorem dX2_beginSounding_11 : decode cX2_beginSounding 11 = .ok (.bipush 70, 2) := by decide +kernel
theorem dX2_beginSounding_13 : decode cX2_beginSounding 13 = .ok (.idiv, 1) := by decide +kernel
theorem dX2_beginSounding_14 : decode cX2_beginSounding 14 = .ok (.istore_n 3, 1) := by decide +kernel
theorem dX2_beginSounding_15 : decode cX2_beginSounding 15 = .ok (.aload_n 2, 1) := by decide +kernel
theorem dX2_beginSounding_16 : decode cX2_beginSounding 16 = .ok (.iconst 1, 1) := by decide +kernel
theorem dX2_beginSounding_17 : decode cX2_beginSounding 17 = .ok (.putfield 181, 3) := by decide +kernel
theorem dX2_beginSounding_20 : decode cX2_beginSounding 20 = .ok (.aload_n 2, 1) := by decide +kernel
theorem dX2_beginSounding_21 : decode cX2_beginSounding 21 = .ok (.aload_n 0, 1) := by decide +kernel
theorem dX2_beginSounding_22 : decode cX2_beginSounding 22 = .ok (.getfield 27, 3) := by decide +kernel
theorem dX2_beginSounding_25 : decode cX2_beginSounding 25 = .ok (.iload_n 1, 1) := by decide +kernel
theorem dX2_beginSounding_26 : decode cX2_beginSounding 26 = .ok (.aload_n 2, 1) := by decide +kernel
theorem dX2_beginSounding_27 : decode cX2_beginSounding 27 = .ok (.getfield 175, 3) := by decide +kernel
theorem dX2_beginSounding_30 : decode cX2_beginSounding 30 = .ok (.aload_n 0, 1) := by decide +kernel
theorem dX2_beginSounding_31 : decode cX2_beginSounding 31 = .ok (.getfield 35, 3) := by decide +kernel
theorem dX2_beginSounding_34 : decode cX2_beginSounding 34 = .ok (.iload_n 3, 1) := by decide +kernel
theorem dX2_beginSounding_35 : decode cX2_beginSounding 35 = .ok (.invokevirtual 184, 3) := by decide +kernel
theorem dX2_beginSounding_38 : decode cX2_beginSounding 38 = .ok (.putfield 188, 3) := by decide +kernel
theorem dX2_beginSounding_41 : decode cX2_beginSounding 41 = .ok (.aload_n 0, 1) := by decide +kernel
theorem dX2_beginSounding_42 : decode cX2_beginSounding 42 = .ok (.dup, 1) := by decide +kernel
theorem dX2_beginSounding_43 : decode cX2_beginSounding 43 = .ok (.getfield 51, 3) := by decide +kernel
theorem dX2_beginSounding_46 : decode cX2_beginSounding 46 = .ok (.iconst 1, 1) := by decide +kernel
theorem dX2_beginSounding_47 : decode cX2_beginSounding 47 = .ok (.iadd, 1) := by decide +kernel
theorem dX2_beginSounding_48 : decode cX2_beginSounding 48 = .ok (.putfield 51, 3) := by decide +kernel
theorem dX2_beginSounding_51 : decode cX2_beginSounding 51 = .ok (.return_, 1) := by decide +kernel
theorem dX2_endHearing_0 : decode cX2_endHearing 0 = .ok (.aload_n 0, 1) := by decide +kernel
theorem dX2_endHearing_1 : decode cX2_endHearing 1 = .ok (.getfield 27, 3) := by decide +kernel
theorem dX2_endHearing_4 : decode cX2_endHearing 4 = .ok (.aload_n 1, 1) := by decide +kernel
theorem dX2_endHearing_5 : decode cX2_endHearing 5 = .ok (.getfield 188, 3) := by decide +kernel
theorem dX2_endHearing_8 : decode cX2_endHearing 8 = .ok (.aload_n 0, 1) := by decide +kernel
theorem dX2_endHearing_9 : decode cX2_endHearing 9 = .ok (.getfield 35, 3) := by decide +kernel
theorem dX2_endHearing_12 : decode cX2_endHearing 12 = .ok (.iconst 1, 1) := by decide +kernel
theorem dX2_endHearing_13 : decode cX2_endHearing 13 = .ok (.isub, 1) := by decide +kernel
theorem dX2_endHearing_14 : decode cX2_endHearing 14 = .ok (.invokevirtual 191, 3) := by decide +kernel
theorem dX2_endHearing_17 : decode cX2_endHearing 17 = .ok (.aload_n 1, 1) := by decide +kernel
theorem dX2_endHearing_18 : decode cX2_endHearing 18 = .ok (.iconst (-1), 1) := by decide +kernel
theorem dX2_endHearing_19 : decode cX2_endHearing 19 = .ok (.putfield 188, 3) := by decide +kernel
theorem dX2_endHearing_22 : decode cX2_endHearing 22 = .ok (.aload_n 1, 1) := by decide +kernel
theorem dX2_endHearing_23 : decode cX2_endHearing 23 = .ok (.iconst 0, 1) := by decide +kernel
theorem dX2_endHearing_24 : decode cX2_endHearing 24 = .ok (.putfield 181, 3) := by decide +kernel
theorem dX2_endHearing_27 : decode cX2_endHearing 27 = .ok (.aload_n 1, 1) := by decide +kernel
theorem dX2_endHearing_28 : decode cX2_endHearing 28 = .ok (.iconst 0, 1) := by decide +kernel
theorem dX2_endHearing_29 : decode cX2_endHearing 29 = .ok (.putfield 149, 3) := by decide +kernel
theorem dX2_endHearing_32 : decode cX2_endHearing 32 = .ok (.return_, 1) := by decide +kernel
theorem dX2_moveSuction_0 : decode cX2_moveSuction 0 = .ok (.aload_n 0, 1) := by decide +kernel
theorem dX2_moveSuction_1 : decode cX2_moveSuction 1 = .ok (.getfield 12, 3) := by decide +kernel
theorem dX2_moveSuction_4 : decode cX2_moveSuction 4 = .ok (.getfield 195, 3) := by decide +kernel
theorem dX2_moveSuction_7 : decode cX2_moveSuction 7 = .ok (.istore_n 1, 1) := by decide +kernel
theorem dX2_moveSuction_8 : decode cX2_moveSuction 8 = .ok (.iconst 0, 1) := by decide +kernel
theorem dX2_moveSuction_9 : decode cX2_moveSuction 9 = .ok (.istore_n 2, 1) := by decide +kernel
theorem dX2_moveSuction_10 : decode cX2_moveSuction 10 = .ok (.iload_n 2, 1) := by decide +kernel
theorem dX2_moveSuction_11 : decode cX2_moveSuction 11 = .ok (.bipush 12, 2) := by decide +kernel
theorem dX2_moveSuction_13 : decode cX2_moveSuction 13 = .ok (.if_icmp .ge 33, 3) := by decide +kernel
theorem dX2_moveSuction_16 : decode cX2_moveSuction 16 = .ok (.aload_n 0, 1) := by decide +kernel
theorem dX2_moveSuction_17 : decode cX2_moveSuction 17 = .ok (.getfield 20, 3) := by decide +kernel
theorem dX2_moveSuction_20 : decode cX2_moveSuction 20 = .ok (.iload_n 2, 1) := by decide +kernel
theorem dX2_moveSuction_21 : decode cX2_moveSuction 21 = .ok (.aaload, 1) := by decide +kernel
theorem dX2_moveSuction_22 : decode cX2_moveSuction 22 = .ok (.getfield 163, 3) := by decide +kernel
theorem dX2_moveSuction_25 : decode cX2_moveSuction 25 = .ok (.ifCond .eq 15, 3) := by decide +kernel
theorem dX2_moveSuction_28 : decode cX2_moveSuction 28 = .ok (.iload_n 1, 1) := by decide +kernel
theorem dX2_moveSuction_29 : decode cX2_moveSuction 29 = .ok (.aload_n 0, 1) := by decide +kernel
theorem dX2_moveSuction_30 : decode cX2_moveSuction 30 = .ok (.getfield 20, 3) := by decide +kernel
theorem dX2_moveSuction_33 : decode cX2_moveSuction 33 = .ok (.iload_n 2, 1) := by decide +kernel
theorem dX2_moveSuction_34 : decode cX2_moveSuction 34 = .ok (.aaload, 1) := by decide +kernel
theorem dX2_moveSuction_35 : decode cX2_moveSuction 35 = .ok (.getfield 198, 3) := by decide +kernel
theorem dX2_moveSuction_38 : decode cX2_moveSuction 38 = .ok (.iadd, 1) := by decide +kernel
theorem dX2_moveSuction_39 : decode cX2_moveSuction 39 = .ok (.istore_n 1, 1) := by decide +kernel
theorem dX2_moveSuction_40 : decode cX2_moveSuction 40 = .ok (.iinc 2 1, 3) := by decide +kernel
theorem dX2_moveSuction_43 : decode cX2_moveSuction 43 = .ok (.goto (-33), 3) := by decide +kernel
theorem dX2_moveSuction_46 : decode cX2_moveSuction 46 = .ok (.aload_n 0, 1) := by decide +kernel
theorem dX2_moveSuction_47 : decode cX2_moveSuction 47 = .ok (.iconst 0, 1) := by decide +kernel
theorem dX2_moveSuction_48 : decode cX2_moveSuction 48 = .ok (.sipush 1000, 3) := by decide +kernel
theorem dX2_moveSuction_51 : decode cX2_moveSuction 51 = .ok (.aload_n 0, 1) := by decide +kernel
theorem dX2_moveSuction_52 : decode cX2_moveSuction 52 = .ok (.getfield 39, 3) := by decide +kernel
theorem dX2_moveSuction_55 : decode cX2_moveSuction 55 = .ok (.aload_n 0, 1) := by decide +kernel
theorem dX2_moveSuction_56 : decode cX2_moveSuction 56 = .ok (.getfield 12, 3) := by decide +kernel
theorem dX2_moveSuction_59 : decode cX2_moveSuction 59 = .ok (.getfield 201, 3) := by decide +kernel
theorem dX2_moveSuction_62 : decode cX2_moveSuction 62 = .ok (.iadd, 1) := by decide +kernel
theorem dX2_moveSuction_63 : decode cX2_moveSuction 63 = .ok (.invokestatic 128, 3) := by decide +kernel
theorem dX2_moveSuction_66 : decode cX2_moveSuction 66 = .ok (.iload_n 1, 1) := by decide +kernel
theorem dX2_moveSuction_67 : decode cX2_moveSuction 67 = .ok (.isub, 1) := by decide +kernel
theorem dX2_moveSuction_68 : decode cX2_moveSuction 68 = .ok (.invokestatic 133, 3) := by decide +kernel
theorem dX2_moveSuction_71 : decode cX2_moveSuction 71 = .ok (.putfield 39, 3) := by decide +kernel
theorem dX2_moveSuction_74 : decode cX2_moveSuction 74 = .ok (.return_, 1) := by decide +kernel
theorem dX2_endPlaying_0 : decode cX2_endPlaying 0 = .ok (.iconst 0, 1) := by decide +kernel
theorem dX2_endPlaying_1 : decode cX2_endPlaying 1 = .ok (.istore_n 1, 1) := by decide +kernel
theorem dX2_endPlaying_2 : decode cX2_endPlaying 2 = .ok (.iload_n 1, 1) := by decide +kernel
theorem dX2_endPlaying_3 : decode cX2_endPlaying 3 = .ok (.bipush 12, 2) := by decide +kernel
theorem dX2_endPlaying_5 : decode cX2_endPlaying 5 = .ok (.if_icmp .ge 29, 3) := by decide +kernel
theorem dX2_endPlaying_8 : decode cX2_endPlaying 8 = .ok (.aload_n 0, 1) := by decide +kernel
theorem dX2_endPlaying_9 : decode cX2_endPlaying 9 = .ok (.aload_n 0, 1) := by decide +kernel
theorem dX2_endPlaying_10 : decode cX2_endPlaying 10 = .ok (.getfield 20, 3) := by decide +kernel
theorem dX2_endPlaying_13 : decode cX2_endPlaying 13 = .ok (.iload_n 1, 1) := by decide +kernel
theorem dX2_endPlaying_14 : decode cX2_endPlaying 14 = .ok (.aaload, 1) := by decide +kernel
theorem dX2_endPlaying_15 : decode cX2_endPlaying 15 = .ok (.invokevirtual 152, 3) := by decide +kernel
theorem dX2_endPlaying_18 : decode cX2_endPlaying 18 = .ok (.aload_n 0, 1) := by decide +kernel
theorem dX2_endPlaying_19 : decode cX2_endPlaying 19 = .ok (.getfield 20, 3) := by decide +kernel
theorem dX2_endPlaying_22 : decode cX2_endPlaying 22 = .ok (.iload_n 1, 1) := by decide +kernel
theorem dX2_endPlaying_23 : decode cX2_endPlaying 23 = .ok (.aaload, 1) := by decide +kernel
theorem dX2_endPlaying_24 : decode cX2_endPlaying 24 = .ok (.iconst 0, 1) := by decide +kernel
theorem dX2_endPlaying_25 : decode cX2_endPlaying 25 = .ok (.putfield 163, 3) := by decide +kernel
theorem dX2_endPlaying_28 : decode cX2_endPlaying 28 = .ok (.iinc 1 1, 3) := by decide +kernel
theorem dX2_endPlaying_31 : decode cX2_endPlaying 31 = .ok (.goto (-29), 3) := by decide +kernel
theorem dX2_endPlaying_34 : decode cX2_endPlaying 34 = .ok (.aload_n 0, 1) := by decide +kernel
theorem dX2_endPlaying_35 : decode cX2_endPlaying 35 = .ok (.aconst_null, 1) := by decide +kernel
theorem dX2_endPlaying_36 : decode cX2_endPlaying 36 = .ok (.putfield 31, 3) := by decide +kernel
theorem dX2_endPlaying_39 : decode cX2_endPlaying 39 = .ok (.return_, 1) := by decide +kernel
set_option maxRecDepth 20000 in
theorem ggX2_init_X3_init : GoodIn wsX2_init wsX3_init := goodIn_r _ [27, 28, 2, 3, 29, 30, 31, 32, 33, 60, 61, 62, 63, 64] (by decide +kernel) (by decide +kernel)
set_option maxRecDepth 20000 in
theorem gX2_init_X3_init_n11 : GoodIn wsX2_init (wsX3_init) := ggX2_init_X3_init
set_option maxRecDepth 20000 in
theorem ggX2_init_X4_init : GoodIn wsX2_init wsX4_init := goodIn_r _ [35, 36, 2, 3, 37, 38, 39, 40, 41, 42, 43, 44, 78, 79, 80, 81, 82, 83, 84] (by decide +kernel) (by decide +kernel)
set_option maxRecDepth 20000 in
theorem gX2_init_X4_init_n26 : GoodIn wsX2_init (wsX4_init) := ggX2_init_X4_init
set_option maxRecDepth 20000 in
theorem ggX2_init_X5_init : GoodIn wsX2_init wsX5_init := goodIn_r _ [47, 48, 2, 3, 49, 50, 51, 52, 53, 54, 55, 56, 57, 58, 59, 85, 86, 87, 88, 89, 90, 91, 92, 93, 94, 95] (by decide +kernel) (by decide +kernel)
set_option maxRecDepth 20000 in
theorem gX2_init_X5_init : GoodIn wsX2_init (wsX5_init) := ggX2_init_X5_init
set_option maxRecDepth 20000 in
theorem ggX2_begin_X1_hasHolesFrom : GoodIn wsX2_begin wsX1_hasHolesFrom := goodIn_ca (goodIn_r _ [17, 18, 50] (by decide +kernel) (by decide +kernel)) (goodIn_sub (fun _ h => List.mem_cons_of_mem _ (List.mem_append_right _ h)) (by decide +kernel))
set_option maxRecDepth 20000 in
theorem gX2_begin_X1_hasHolesFrom : GoodIn wsX2_begin (wsV RX2 67 RX1 yX1_hasHolesFrom wsX1_hasHolesFrom) := goodIn_app (goodIn_of _ (by decide +kernel)) ggX2_begin_X1_hasHolesFrom
set_option maxRecDepth 20000 in
theorem ggX2_begin_X4_clear : GoodIn wsX2_begin wsX4_clear := goodIn_r _ [23, 24, 51, 52, 53, 54, 55, 56, 57] (by decide +kernel) (by decide +kernel)
set_option maxRecDepth 20000 in
theorem gX2_begin_X4_clear : GoodIn wsX2_begin (wsV RX2 73 RX4 yX4_clear wsX4_clear) := goodIn_app (goodIn_of _ (by decide +kernel)) ggX2_begin_X4_clear
set_option maxRecDepth 20000 in
theorem ggX2_begin_X5_reset : GoodIn wsX2_begin wsX5_reset := goodIn_r _ [29, 30, 31, 32, 33, 34, 35, 36, 58, 59, 60, 61, 62, 63, 64, 65, 66, 67, 68] (by decide +kernel) (by decide +kernel)
set_option maxRecDepth 20000 in
theorem gX2_begin_X5_reset : GoodIn wsX2_begin (wsV RX2 76 RX5 yX5_reset wsX5_reset) := goodIn_app (goodIn_of _ (by decide +kernel)) ggX2_begin_X5_reset
set_option maxRecDepth 20000 in
theorem ggX2_playRows_X1_hasHolesFrom : GoodIn wsX2_playRows wsX1_hasHolesFrom := goodIn_ca (goodIn_r _ [7, 8, 153] (by decide +kernel) (by decide +kernel)) (goodIn_sub (fun _ h => List.mem_cons_of_mem _ (List.mem_append_right _ h)) (by decide +kernel))
set_option maxRecDepth 20000 in
theorem gX2_playRows_X1_hasHolesFrom : GoodIn wsX2_playRows (wsV RX2 67 RX1 yX1_hasHolesFrom wsX1_hasHolesFrom) := goodIn_app (goodIn_of _ (by decide +kernel)) ggX2_playRows_X1_hasHolesFrom
set_option maxRecDepth 20000 in
theorem ggX2_playRows_X2_playRow : GoodIn wsX2_playRows wsX2_playRow := goodIn_ca (goodIn_r _ [13, 14, 15, 2, 16, 17, 18, 12, 19, 20, 21, 22, 23, 24, 6, 25, 8, 26, 27, 28, 29, 30, 31, 32, 33, 34, 35, 36, 37, 38, 39, 40, 41, 42, 43, 44, 45, 46, 47, 48, 49, 50, 51, 52, 53, 54, 55, 56, 57, 58, 59, 60, 61, 62, 63, 64, 65, 66, 67, 68, 69, 70, 71, 72, 73, 74, 75, 76, 77, 78, 79, 80, 81, 82, 83, 84, 85, 86, 87, 88, 89, 90, 91, 92, 93, 94, 95, 96, 97, 98, 99, 100, 101, 102, 103, 104, 105, 106, 107, 108, 109, 110, 111, 112, 113, 114, 115, 116, 117, 118, 119, 120, 121, 122, 123, 124, 125, 126, 127, 128, 129, 130, 131, 132, 133, 134, 135, 140, 141, 142, 143, 144, 145, 146, 147, 148, 149, 150, 151, 152, 153, 154, 155, 156, 157, 158, 159, 160, 161, 162, 163, 164, 165, 166, 167, 168, 169, 170, 171, 172, 173, 174, 175, 176] (by decide +kernel) (by decide +kernel)) (goodIn_sub (fun _ h => List.mem_cons_of_mem _ (List.mem_append_right _ h)) (by decide +kernel))
set_option maxRecDepth 20000 in
theorem gX2_playRows_X2_playRow : GoodIn wsX2_playRows (wsV RX2 79 RX2 yX2_playRow wsX2_playRow) := goodIn_app (goodIn_of _ (by decide +kernel)) ggX2_playRows_X2_playRow
set_option maxRecDepth 20000 in
theorem ggX2_playRows_X2_endPlaying : GoodIn wsX2_playRows wsX2_endPlaying := goodIn_ca (goodIn_r _ [139, 60, 74, 1, 99, 100, 101, 12, 102, 103, 104, 2, 87, 68, 105, 106, 107, 108, 109, 110, 111, 112, 113, 114, 115, 140, 141, 142, 143, 144, 145, 146, 147, 148, 149, 150, 151, 152, 159, 160, 161, 162, 163, 164, 165, 166, 167, 168, 169, 170, 171, 172, 173, 174, 175, 176] (by decide +kernel) (by decide +kernel)) (goodIn_sub (fun _ h => List.mem_cons_of_mem _ (List.mem_append_right _ h)) (by decide +kernel))
set_option maxRecDepth 20000 in
theorem gX2_playRows_X2_endPlaying : GoodIn wsX2_playRows (wsV RX2 83 RX2 yX2_endPlaying wsX2_endPlaying) := goodIn_app (goodIn_of _ (by decide +kernel)) ggX2_playRows_X2_endPlaying
set_option maxRecDepth 20000 in
theorem ggX2_playRow_X2_readHoles : GoodIn wsX2_playRow wsX2_readHoles := goodIn_ca (goodIn_r _ [8, 3, 9, 10, 11, 12, 13, 14, 15, 16, 127, 128, 129, 130, 131, 132, 133, 134, 135, 136, 137, 138, 139, 140] (by decide +kernel) (by decide +kernel)) (goodIn_sub (fun _ h => List.mem_cons_of_mem _ (List.mem_append_right _ h)) (by decide +kernel))
set_option maxRecDepth 20000 in
theorem gX2_playRow_X2_readHoles : GoodIn wsX2_playRow (wsV RX2 86 RX2 yX2_readHoles wsX2_readHoles) := goodIn_app (goodIn_of _ (by decide +kernel)) ggX2_playRow_X2_readHoles
set_option maxRecDepth 20000 in
theorem ggX2_playRow_X2_makeLevel : GoodIn wsX2_playRow wsX2_makeLevel := goodIn_r _ [20, 21, 22, 2, 23, 24, 25, 7, 26, 27, 28, 29, 30, 31, 32, 33, 34, 35, 36, 37, 38, 39, 40, 41, 42, 43, 44, 45, 46, 127, 128, 129, 130, 131, 132, 133, 134, 135, 136, 137, 138, 139, 141, 142, 143, 144, 145] (by decide +kernel) (by decide +kernel)
set_option maxRecDepth 20000 in
theorem gX2_playRow_X2_makeLevel : GoodIn wsX2_playRow (wsV RX2 90 RX2 yX2_makeLevel wsX2_makeLevel) := goodIn_app (goodIn_of _ (by decide +kernel)) ggX2_playRow_X2_makeLevel
set_option maxRecDepth 20000 in
theorem ggX2_playRow_X2_isRead : GoodIn wsX2_playRow wsX2_isRead := goodIn_r _ [26] (by decide +kernel) (by decide +kernel)
set_option maxRecDepth 20000 in
theorem gX2_playRow_X2_isRead : GoodIn wsX2_playRow (va_wsS RX2 93 yX2_isRead wsX2_isRead) := goodIn_app (goodIn_of _ (by decide +kernel)) ggX2_playRow_X2_isRead
set_option maxRecDepth 20000 in
theorem ggX2_playRow_X2_findFed : GoodIn wsX2_playRow wsX2_findFed := goodIn_r _ [50, 51, 52, 24, 25, 7, 26, 127, 128, 129, 130, 131, 132, 133, 134, 135, 136, 137, 138, 139, 146, 147, 148, 149, 150, 151, 152, 153, 154, 155, 156] (by decide +kernel) (by decide +kernel)
set_option maxRecDepth 20000 in
theorem gX2_playRow_X2_findFed : GoodIn wsX2_playRow (wsV RX2 97 RX2 yX2_findFed wsX2_findFed) := goodIn_app (goodIn_of _ (by decide +kernel)) ggX2_playRow_X2_findFed
set_option maxRecDepth 20000 in
theorem ggX2_playRow_X2_moveValves : GoodIn wsX2_playRow wsX2_moveValves := goodIn_ca (goodIn_r _ [56, 51, 3, 57, 21, 58, 59, 1, 24, 25, 7, 26, 60, 61, 62, 63, 64, 65, 66, 67, 68, 69, 70, 71, 72, 73, 74, 75, 76, 77, 78, 79, 80, 81, 82, 83, 84, 85, 86, 87, 88, 89, 90, 91, 92, 93, 94, 95, 96, 97, 98, 99, 100, 101, 102, 103, 104, 105, 106, 107, 108, 109, 110, 23, 111, 112, 113, 114, 115, 116, 117, 118, 119, 127, 128, 129, 130, 131, 132, 133, 134, 135, 136, 137, 138, 139, 141, 142, 143, 144, 145, 146, 147, 148, 149, 150, 151, 152, 153, 154, 155, 156, 157, 158, 159, 160, 161, 162, 163] (by decide +kernel) (by decide +kernel)) (goodIn_sub (fun _ h => List.mem_cons_of_mem _ (List.mem_append_right _ h)) (by decide +kernel))
set_option maxRecDepth 20000 in
theorem gX2_playRow_X2_moveValves : GoodIn wsX2_playRow (wsV RX2 101 RX2 yX2_moveValves wsX2_moveValves) := goodIn_app (goodIn_of _ (by decide +kernel)) ggX2_playRow_X2_moveValves
set_option maxRecDepth 20000 in
theorem ggX2_playRow_X2_moveSuction : GoodIn wsX2_playRow wsX2_moveSuction := goodIn_r _ [123, 21, 124, 51, 65, 125, 57, 126, 36, 37, 38, 39, 40, 41, 42, 127, 128, 129, 130, 131, 132, 133, 134, 135, 136, 137, 138, 139, 141, 142, 143, 144, 145, 146, 147, 148, 149, 150, 151, 152, 153, 154, 155, 156] (by decide +kernel) (by decide +kernel)
set_option maxRecDepth 20000 in
theorem gX2_playRow_X2_moveSuction : GoodIn wsX2_playRow (wsV RX2 104 RX2 yX2_moveSuction wsX2_moveSuction) := goodIn_app (goodIn_of _ (by decide +kernel)) ggX2_playRow_X2_moveSuction
set_option maxRecDepth 20000 in
theorem ggX2_readHoles_X1_readBits : GoodIn wsX2_readHoles wsX1_readBits := goodIn_ca (goodIn_r _ [8, 9, 23] (by decide +kernel) (by decide +kernel)) (goodIn_sub (fun _ h => List.mem_cons_of_mem _ (List.mem_append_right _ h)) (by decide +kernel))
set_option maxRecDepth 20000 in
theorem gX2_readHoles_X1_readBits : GoodIn wsX2_readHoles (wsV RX2 107 RX1 yX1_readBits wsX1_readBits) := goodIn_app (goodIn_of _ (by decide +kernel)) ggX2_readHoles_X1_readBits
set_option maxRecDepth 20000 in
theorem ggX2_makeLevel_X2_isRead : GoodIn wsX2_makeLevel wsX2_isRead := goodIn_r _ [8] (by decide +kernel) (by decide +kernel)
set_option maxRecDepth 20000 in
theorem gX2_makeLevel_X2_isRead : GoodIn wsX2_makeLevel (va_wsS RX2 93 yX2_isRead wsX2_isRead) := goodIn_app (goodIn_of _ (by decide +kernel)) ggX2_makeLevel_X2_isRead
set_option maxRecDepth 20000 in
theorem ggX2_makeLevel_X2_latch : GoodIn wsX2_makeLevel wsX2_latch := goodIn_r _ [12, 13, 29, 30, 31, 32, 33, 34, 35, 36, 37, 38, 39, 40, 41] (by decide +kernel) (by decide +kernel)
set_option maxRecDepth 20000 in
theorem gX2_makeLevel_X2_latch : GoodIn wsX2_makeLevel (wsV RX2 115 RX2 yX2_latch wsX2_latch) := goodIn_app (goodIn_of _ (by decide +kernel)) ggX2_makeLevel_X2_latch
set_option maxRecDepth 20000 in
theorem ggX2_makeLevel_X2_moveLevel : GoodIn wsX2_makeLevel wsX2_moveLevel := goodIn_r _ [17, 4, 18, 19, 20, 21, 22, 23, 24, 29, 30, 31, 32, 33, 34, 35, 36, 37, 38, 39, 40, 41] (by decide +kernel) (by decide +kernel)
set_option maxRecDepth 20000 in
theorem gX2_makeLevel_X2_moveLevel : GoodIn wsX2_makeLevel (wsV RX2 119 RX2 yX2_moveLevel wsX2_moveLevel) := goodIn_app (goodIn_of _ (by decide +kernel)) ggX2_makeLevel_X2_moveLevel
set_option maxRecDepth 20000 in
theorem ggX2_makeLevel_J6_compare_7cf53 : GoodIn wsX2_makeLevel wsJ6_compare_7cf53 := goodIn_r _ [28] (by decide +kernel) (by decide +kernel)
set_option maxRecDepth 20000 in
theorem gX2_makeLevel_J6_compare_7cf53 : GoodIn wsX2_makeLevel (va_wsS RX2 122 yJ6_compare_7cf53 wsJ6_compare_7cf53) := goodIn_app (goodIn_of _ (by decide +kernel)) ggX2_makeLevel_J6_compare_7cf53
set_option maxRecDepth 20000 in
theorem ggX2_findFed_X2_isRead : GoodIn wsX2_findFed wsX2_isRead := goodIn_r _ [6] (by decide +kernel) (by decide +kernel)
set_option maxRecDepth 20000 in
theorem gX2_findFed_X2_isRead : GoodIn wsX2_findFed (va_wsS RX2 93 yX2_isRead wsX2_isRead) := goodIn_app (goodIn_of _ (by decide +kernel)) ggX2_findFed_X2_isRead
set_option maxRecDepth 20000 in
theorem ggX2_moveValves_X2_isRead : GoodIn wsX2_moveValves wsX2_isRead := goodIn_r _ [11] (by decide +kernel) (by decide +kernel)
set_option maxRecDepth 20000 in
theorem gX2_moveValves_X2_isRead : GoodIn wsX2_moveValves (va_wsS RX2 93 yX2_isRead wsX2_isRead) := goodIn_app (goodIn_of _ (by decide +kernel)) ggX2_moveValves_X2_isRead
set_option maxRecDepth 20000 in
theorem ggX2_moveValves_X2_moveValve : GoodIn wsX2_moveValves wsX2_moveValve := goodIn_r _ [15, 16, 17, 4, 18, 19, 20, 21, 10, 22, 2, 23, 24, 25, 26, 27, 28, 29, 30, 6, 91, 92, 93, 94, 95, 96, 97, 98, 99, 100, 101, 73, 74, 75, 76, 77, 78, 79, 80, 81, 82, 83, 84, 85, 86, 87, 88, 89, 90] (by decide +kernel) (by decide +kernel)
set_option maxRecDepth 20000 in
theorem gX2_moveValves_X2_moveValve : GoodIn wsX2_moveValves (wsV RX2 139 RX2 yX2_moveValve wsX2_moveValve) := goodIn_app (goodIn_of _ (by decide +kernel)) ggX2_moveValves_X2_moveValve
set_option maxRecDepth 20000 in
theorem ggX2_moveValves_X5_isReady : GoodIn wsX2_moveValves wsX5_isReady := goodIn_r _ [35, 36, 37, 38, 39, 40, 41, 91, 92, 93, 94, 95, 96, 97, 98, 99, 100, 101] (by decide +kernel) (by decide +kernel)
set_option maxRecDepth 20000 in
theorem gX2_moveValves_X5_isReady : GoodIn wsX2_moveValves (wsV RX2 143 RX5 yX5_isReady wsX5_isReady) := goodIn_app (goodIn_of _ (by decide +kernel)) ggX2_moveValves_X5_isReady
set_option maxRecDepth 20000 in
theorem ggX2_moveValves_X2_endHearing : GoodIn wsX2_moveValves wsX2_endHearing := goodIn_ca (goodIn_r _ [45, 46, 47, 2, 30, 6, 48, 49, 50, 51, 52, 53, 54, 55, 56, 57, 58, 73, 74, 75, 76, 77, 78, 79, 80, 81, 82, 83, 84, 85, 91, 92, 93, 94, 95, 96, 97, 98, 99, 100, 101, 102, 103, 104, 105, 106, 107, 108] (by decide +kernel) (by decide +kernel)) (goodIn_sub (fun _ h => List.mem_cons_of_mem _ (List.mem_append_right _ h)) (by decide +kernel))
set_option maxRecDepth 20000 in
theorem gX2_moveValves_X2_endHearing : GoodIn wsX2_moveValves (wsV RX2 152 RX2 yX2_endHearing wsX2_endHearing) := goodIn_app (goodIn_of _ (by decide +kernel)) ggX2_moveValves_X2_endHearing
set_option maxRecDepth 20000 in
theorem ggX2_moveValves_X2_beginSounding : GoodIn wsX2_moveValves wsX2_beginSounding := goodIn_ca (goodIn_r _ [62, 3, 63, 30, 46, 23, 2, 47, 64, 65, 66, 67, 51, 68, 58, 69, 70, 71, 53, 72, 73, 74, 75, 76, 77, 78, 79, 80, 81, 82, 83, 84, 85, 91, 92, 93, 94, 95, 96, 97, 98, 99, 100, 101, 102, 103, 104, 105, 106, 107, 108] (by decide +kernel) (by decide +kernel)) (goodIn_sub (fun _ h => List.mem_cons_of_mem _ (List.mem_append_right _ h)) (by decide +kernel))
set_option maxRecDepth 20000 in
theorem gX2_moveValves_X2_beginSounding : GoodIn wsX2_moveValves (wsV RX2 156 RX2 yX2_beginSounding wsX2_beginSounding) := goodIn_app (goodIn_of _ (by decide +kernel)) ggX2_moveValves_X2_beginSounding
set_option maxRecDepth 20000 in
theorem ggX2_moveValve_X2_openValve : GoodIn wsX2_moveValve wsX2_openValve := goodIn_r _ [9, 2, 10, 11, 12, 20, 21, 22, 23, 24, 25, 26, 27, 28, 29, 30, 31, 32, 33, 34, 35, 36, 37, 38, 39, 40, 41, 42, 43] (by decide +kernel) (by decide +kernel)
set_option maxRecDepth 20000 in
theorem gX2_moveValve_X2_openValve : GoodIn wsX2_moveValve (wsV RX2 166 RX2 yX2_openValve wsX2_openValve) := goodIn_app (goodIn_of _ (by decide +kernel)) ggX2_moveValve_X2_openValve
set_option maxRecDepth 20000 in
theorem ggX2_moveValve_X2_closeValve : GoodIn wsX2_moveValve wsX2_closeValve := goodIn_r _ [16, 2, 10, 17, 18, 19, 20, 21, 22, 23, 24, 25, 26, 27, 28, 29, 30, 31, 32, 33, 34, 35, 36, 37, 38, 39, 40, 41, 42, 43] (by decide +kernel) (by decide +kernel)
set_option maxRecDepth 20000 in
theorem gX2_moveValve_X2_closeValve : GoodIn wsX2_moveValve (wsV RX2 172 RX2 yX2_closeValve wsX2_closeValve) := goodIn_app (goodIn_of _ (by decide +kernel)) ggX2_moveValve_X2_closeValve
set_option maxRecDepth 20000 in
theorem ggX2_beginSounding_X4_keep : GoodIn wsX2_beginSounding wsX4_keep := goodIn_ca (goodIn_r _ [13, 14, 15, 16, 17, 18, 19, 44, 45, 46, 47, 48, 49, 50] (by decide +kernel) (by decide +kernel)) (goodIn_sub (fun _ h => List.mem_cons_of_mem _ (List.mem_append_right _ h)) (by decide +kernel))
set_option maxRecDepth 20000 in
theorem gX2_beginSounding_X4_keep : GoodIn wsX2_beginSounding (wsV RX2 184 RX4 yX4_keep wsX4_keep) := goodIn_app (goodIn_of _ (by decide +kernel)) ggX2_beginSounding_X4_keep
set_option maxRecDepth 20000 in
theorem ggX2_endHearing_X4_finish : GoodIn wsX2_endHearing wsX4_finish := goodIn_ca (goodIn_r _ [10, 11, 12, 13, 14, 9, 15, 16, 41, 42, 43, 44, 45, 46, 47] (by decide +kernel) (by decide +kernel)) (goodIn_sub (fun _ h => List.mem_cons_of_mem _ (List.mem_append_right _ h)) (by decide +kernel))
set_option maxRecDepth 20000 in
theorem gX2_endHearing_X4_finish : GoodIn wsX2_endHearing (wsV RX2 191 RX4 yX4_finish wsX4_finish) := goodIn_app (goodIn_of _ (by decide +kernel)) ggX2_endHearing_X4_finish
set_option maxRecDepth 20000 in
theorem ggX2_endPlaying_X2_endHearing : GoodIn wsX2_endPlaying wsX2_endHearing := goodIn_ca (goodIn_r _ [8, 9, 10, 11, 12, 13, 14, 15, 16, 17, 18, 19, 20, 21, 22, 23, 24, 25, 26, 27, 28, 29, 30, 31, 32, 33, 34, 35, 36, 37, 38, 39, 40, 41, 42, 43, 44, 45, 46, 47, 48, 49, 50, 51, 52, 53, 54, 55] (by decide +kernel) (by decide +kernel)) (goodIn_sub (fun _ h => List.mem_cons_of_mem _ (List.mem_append_right _ h)) (by decide +kernel))
set_option maxRecDepth 20000 in
theorem gX2_endPlaying_X2_endHearing : GoodIn wsX2_endPlaying (wsV RX2 152 RX2 yX2_endHearing wsX2_endHearing) := goodIn_app (goodIn_of _ (by decide +kernel)) ggX2_endPlaying_X2_endHearing

