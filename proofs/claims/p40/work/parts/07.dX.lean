theorem dJ6_bitCount_0f7a4_0 : decode cJ6_bitCount_0f7a4 0 = .ok (.iload_n 0, 1) := by decide +kernel
theorem dJ6_bitCount_0f7a4_1 : decode cJ6_bitCount_0f7a4 1 = .ok (.iload_n 0, 1) := by decide +kernel
theorem dJ6_bitCount_0f7a4_2 : decode cJ6_bitCount_0f7a4 2 = .ok (.iconst 1, 1) := by decide +kernel
theorem dJ6_bitCount_0f7a4_3 : decode cJ6_bitCount_0f7a4 3 = .ok (.iushr, 1) := by decide +kernel
theorem dJ6_bitCount_0f7a4_4 : decode cJ6_bitCount_0f7a4 4 = .ok (.ldc_w 265, 3) := by decide +kernel
theorem dJ6_bitCount_0f7a4_7 : decode cJ6_bitCount_0f7a4 7 = .ok (.iand, 1) := by decide +kernel
theorem dJ6_bitCount_0f7a4_8 : decode cJ6_bitCount_0f7a4 8 = .ok (.isub, 1) := by decide +kernel
theorem dJ6_bitCount_0f7a4_9 : decode cJ6_bitCount_0f7a4 9 = .ok (.istore_n 0, 1) := by decide +kernel
theorem dJ6_bitCount_0f7a4_10 : decode cJ6_bitCount_0f7a4 10 = .ok (.iload_n 0, 1) := by decide +kernel
theorem dJ6_bitCount_0f7a4_11 : decode cJ6_bitCount_0f7a4 11 = .ok (.ldc_w 266, 3) := by decide +kernel
theorem dJ6_bitCount_0f7a4_14 : decode cJ6_bitCount_0f7a4 14 = .ok (.iand, 1) := by decide +kernel
theorem dJ6_bitCount_0f7a4_15 : decode cJ6_bitCount_0f7a4 15 = .ok (.iload_n 0, 1) := by decide +kernel
theorem dJ6_bitCount_0f7a4_16 : decode cJ6_bitCount_0f7a4 16 = .ok (.iconst 2, 1) := by decide +kernel
theorem dJ6_bitCount_0f7a4_17 : decode cJ6_bitCount_0f7a4 17 = .ok (.iushr, 1) := by decide +kernel
theorem dJ6_bitCount_0f7a4_18 : decode cJ6_bitCount_0f7a4 18 = .ok (.ldc_w 266, 3) := by decide +kernel
theorem dJ6_bitCount_0f7a4_21 : decode cJ6_bitCount_0f7a4 21 = .ok (.iand, 1) := by decide +kernel
theorem dJ6_bitCount_0f7a4_22 : decode cJ6_bitCount_0f7a4 22 = .ok (.iadd, 1) := by decide +kernel
theorem dJ6_bitCount_0f7a4_23 : decode cJ6_bitCount_0f7a4 23 = .ok (.istore_n 0, 1) := by decide +kernel
theorem dJ6_bitCount_0f7a4_24 : decode cJ6_bitCount_0f7a4 24 = .ok (.iload_n 0, 1) := by decide +kernel
theorem dJ6_bitCount_0f7a4_25 : decode cJ6_bitCount_0f7a4 25 = .ok (.iload_n 0, 1) := by decide +kernel
theorem dJ6_bitCount_0f7a4_26 : decode cJ6_bitCount_0f7a4 26 = .ok (.iconst 4, 1) := by decide +kernel
theorem dJ6_bitCount_0f7a4_27 : decode cJ6_bitCount_0f7a4 27 = .ok (.iushr, 1) := by decide +kernel
theorem dJ6_bitCount_0f7a4_28 : decode cJ6_bitCount_0f7a4 28 = .ok (.iadd, 1) := by decide +kernel
theorem dJ6_bitCount_0f7a4_29 : decode cJ6_bitCount_0f7a4 29 = .ok (.ldc_w 267, 3) := by decide +kernel
theorem dJ6_bitCount_0f7a4_32 : decode cJ6_bitCount_0f7a4 32 = .ok (.iand, 1) := by decide +kernel
theorem dJ6_bitCount_0f7a4_33 : decode cJ6_bitCount_0f7a4 33 = .ok (.istore_n 0, 1) := by decide +kernel
theorem dJ6_bitCount_0f7a4_34 : decode cJ6_bitCount_0f7a4 34 = .ok (.iload_n 0, 1) := by decide +kernel
theorem dJ6_bitCount_0f7a4_35 : decode cJ6_bitCount_0f7a4 35 = .ok (.iload_n 0, 1) := by decide +kernel
theorem dJ6_bitCount_0f7a4_36 : decode cJ6_bitCount_0f7a4 36 = .ok (.bipush 8, 2) := by decide +kernel
theorem dJ6_bitCount_0f7a4_38 : decode cJ6_bitCount_0f7a4 38 = .ok (.iushr, 1) := by decide +kernel
theorem dJ6_bitCount_0f7a4_39 : decode cJ6_bitCount_0f7a4 39 = .ok (.iadd, 1) := by decide +kernel
theorem dJ6_bitCount_0f7a4_40 : decode cJ6_bitCount_0f7a4 40 = .ok (.istore_n 0, 1) := by decide +kernel
theorem dJ6_bitCount_0f7a4_41 : decode cJ6_bitCount_0f7a4 41 = .ok (.iload_n 0, 1) := by decide +kernel
theorem dJ6_bitCount_0f7a4_42 : decode cJ6_bitCount_0f7a4 42 = .ok (.iload_n 0, 1) := by decide +kernel
theorem dJ6_bitCount_0f7a4_43 : decode cJ6_bitCount_0f7a4 43 = .ok (.bipush 16, 2) := by decide +kernel
theorem dJ6_bitCount_0f7a4_45 : decode cJ6_bitCount_0f7a4 45 = .ok (.iushr, 1) := by decide +kernel
theorem dJ6_bitCount_0f7a4_46 : decode cJ6_bitCount_0f7a4 46 = .ok (.iadd, 1) := by decide +kernel
theorem dJ6_bitCount_0f7a4_47 : decode cJ6_bitCount_0f7a4 47 = .ok (.istore_n 0, 1) := by decide +kernel
theorem dJ6_bitCount_0f7a4_48 : decode cJ6_bitCount_0f7a4 48 = .ok (.iload_n 0, 1) := by decide +kernel
theorem dJ6_bitCount_0f7a4_49 : decode cJ6_bitCount_0f7a4 49 = .ok (.bipush 63, 2) := by decide +kernel
theorem dJ6_bitCount_0f7a4_51 : decode cJ6_bitCount_0f7a4 51 = .ok (.iand, 1) := by decide +kernel
theorem dJ6_bitCount_0f7a4_52 : decode cJ6_bitCount_0f7a4 52 = .ok (.ireturn, 1) := by decide +kernel
theorem dX1_init_0 : decode cX1_init 0 = .ok (.aload_n 0, 1) := by decide +kernel
theorem dX1_init_1 : decode cX1_init 1 = .ok (.invokespecial 3, 3) := by decide +kernel
theorem dX1_init_4 : decode cX1_init 4 = .ok (.aload_n 0, 1) := by decide +kernel
theorem dX1_init_5 : decode cX1_init 5 = .ok (.sipush 200, 3) := by decide +kernel
theorem dX1_init_8 : decode cX1_init 8 = .ok (.newarray .int, 2) := by decide +kernel
theorem dX1_init_10 : decode cX1_init 10 = .ok (.putfield 9, 3) := by decide +kernel
theorem dX1_init_13 : decode cX1_init 13 = .ok (.return_, 1) := by decide +kernel
theorem dX1_readBits_0 : decode cX1_readBits 0 = .ok (.iload_n 1, 1) := by decide +kernel
theorem dX1_readBits_1 : decode cX1_readBits 1 = .ok (.ifCond .lt 19, 3) := by decide +kernel
theorem dX1_readBits_4 : decode cX1_readBits 4 = .ok (.iload_n 1, 1) := by decide +kernel
theorem dX1_readBits_5 : decode cX1_readBits 5 = .ok (.sipush 200, 3) := by decide +kernel
theorem dX1_readBits_8 : decode cX1_readBits 8 = .ok (.if_icmp .ge 12, 3) := by decide +kernel
theorem dX1_readBits_11 : decode cX1_readBits 11 = .ok (.aload_n 0, 1) := by decide +kernel
theorem dX1_readBits_12 : decode cX1_readBits 12 = .ok (.getfield 9, 3) := by decide +kernel
theorem dX1_readBits_15 : decode cX1_readBits 15 = .ok (.iload_n 1, 1) := by decide +kernel
theorem dX1_readBits_16 : decode cX1_readBits 16 = .ok (.iaload, 1) := by decide +kernel
theorem dX1_readBits_17 : decode cX1_readBits 17 = .ok (.goto 4, 3) := by decide +kernel
theorem dX1_readBits_20 : decode cX1_readBits 20 = .ok (.iconst 0, 1) := by decide +kernel
theorem dX1_readBits_21 : decode cX1_readBits 21 = .ok (.ireturn, 1) := by decide +kernel
theorem dX1_hasHole_0 : decode cX1_hasHole 0 = .ok (.aload_n 0, 1) := by decide +kernel
theorem dX1_hasHole_1 : decode cX1_hasHole 1 = .ok (.iload_n 1, 1) := by decide +kernel
theorem dX1_hasHole_2 : decode cX1_hasHole 2 = .ok (.invokevirtual 15, 3) := by decide +kernel
theorem dX1_hasHole_5 : decode cX1_hasHole 5 = .ok (.iload_n 2, 1) := by decide +kernel
theorem dX1_hasHole_6 : decode cX1_hasHole 6 = .ok (.ishr, 1) := by decide +kernel
theorem dX1_hasHole_7 : decode cX1_hasHole 7 = .ok (.iconst 1, 1) := by decide +kernel
theorem dX1_hasHole_8 : decode cX1_hasHole 8 = .ok (.iand, 1) := by decide +kernel
theorem dX1_hasHole_9 : decode cX1_hasHole 9 = .ok (.ifCond .eq 7, 3) := by decide +kernel
theorem dX1_hasHole_12 : decode cX1_hasHole 12 = .ok (.iconst 1, 1) := by decide +kernel
theorem dX1_hasHole_13 : decode cX1_hasHole 13 = .ok (.goto 4, 3) := by decide +kernel
theorem dX1_hasHole_16 : decode cX1_hasHole 16 = .ok (.iconst 0, 1) := by decide +kernel
theorem dX1_hasHole_17 : decode cX1_hasHole 17 = .ok (.ireturn, 1) := by decide +kernel
theorem dX1_putHole_0 : decode cX1_putHole 0 = .ok (.iload_n 1, 1) := by decide +kernel
theorem dX1_putHole_1 : decode cX1_putHole 1 = .ok (.ifCond .lt 10, 3) := by decide +kernel
theorem dX1_putHole_4 : decode cX1_putHole 4 = .ok (.iload_n 1, 1) := by decide +kernel
theorem dX1_putHole_5 : decode cX1_putHole 5 = .ok (.sipush 200, 3) := by decide +kernel
theorem dX1_putHole_8 : decode cX1_putHole 8 = .ok (.if_icmp .lt 4, 3) := by decide +kernel
theorem dX1_putHole_11 : decode cX1_putHole 11 = .ok (.return_, 1) := by decide +kernel
theorem dX1_putHole_12 : decode cX1_putHole 12 = .ok (.iconst 1, 1) := by decide +kernel
theorem dX1_putHole_13 : decode cX1_putHole 13 = .ok (.iload_n 2, 1) := by decide +kernel
theorem dX1_putHole_14 : decode cX1_putHole 14 = .ok (.ishl, 1) := by decide +kernel
theorem dX1_putHole_15 : decode cX1_putHole 15 = .ok (.istore 4, 2) := by decide +kernel
theorem dX1_putHole_17 : decode cX1_putHole 17 = .ok (.aload_n 0, 1) := by decide +kernel
theorem dX1_putHole_18 : decode cX1_putHole 18 = .ok (.getfield 9, 3) := by decide +kernel
theorem dX1_putHole_21 : decode cX1_putHole 21 = .ok (.iload_n 1, 1) := by decide +kernel
theorem dX1_putHole_22 : decode cX1_putHole 22 = .ok (.iload_n 3, 1) := by decide +kernel
theorem dX1_putHole_23 : decode cX1_putHole 23 = .ok (.ifCond .eq 15, 3) := by decide +kernel
theorem dX1_putHole_26 : decode cX1_putHole 26 = .ok (.aload_n 0, 1) := by decide +kernel
theorem dX1_putHole_27 : decode cX1_putHole 27 = .ok (.getfield 9, 3) := by decide +kernel
theorem dX1_putHole_30 : decode cX1_putHole 30 = .ok (.iload_n 1, 1) := by decide +kernel
theorem dX1_putHole_31 : decode cX1_putHole 31 = .ok (.iaload, 1) := by decide +kernel
theorem dX1_putHole_32 : decode cX1_putHole 32 = .ok (.iload 4, 2) := by decide +kernel
theorem dX1_putHole_34 : decode cX1_putHole 34 = .ok (.ior, 1) := by decide +kernel
theorem dX1_putHole_35 : decode cX1_putHole 35 = .ok (.goto 14, 3) := by decide +kernel
theorem dX1_putHole_38 : decode cX1_putHole 38 = .ok (.aload_n 0, 1) := by decide +kernel
theorem dX1_putHole_39 : decode cX1_putHole 39 = .ok (.getfield 9, 3) := by decide +kernel
theorem dX1_putHole_42 : decode cX1_putHole 42 = .ok (.iload_n 1, 1) := by decide +kernel
theorem dX1_putHole_43 : decode cX1_putHole 43 = .ok (.iaload, 1) := by decide +kernel
theorem dX1_putHole_44 : decode cX1_putHole 44 = .ok (.iload 4, 2) := by decide +kernel
theorem dX1_putHole_46 : decode cX1_putHole 46 = .ok (.iconst (-1), 1) := by decide +kernel
theorem dX1_putHole_47 : decode cX1_putHole 47 = .ok (.ixor, 1) := by decide +kernel
theorem dX1_putHole_48 : decode cX1_putHole 48 = .ok (.iand, 1) := by decide +kernel
theorem dX1_putHole_49 : decode cX1_putHole 49 = .ok (.iastore, 1) := by decide +kernel
theorem dX1_putHole_50 : decode cX1_putHole 50 = .ok (.return_, 1) := by decide +kernel
theorem dX1_countRows_0 : decode cX1_countRows 0 = .ok (.sipush 199, 3) := by decide +kernel
theorem dX1_countRows_3 : decode cX1_countRows 3 = .ok (.istore_n 1, 1) := by decide +kernel
theorem dX1_countRows_4 : decode cX1_countRows 4 = .ok (.iload_n 1, 1) := by decide +kernel
theorem dX1_countRows_5 : decode cX1_countRows 5 = .ok (.ifCond .lt 22, 3) := by decide +kernel
theorem dX1_countRows_8 : decode cX1_countRows 8 = .ok (.aload_n 0, 1) := by decide +kernel
theorem dX1_countRows_9 : decode cX1_countRows 9 = .ok (.getfield 9, 3) := by decide +kernel
theorem dX1_countRows_12 : decode cX1_countRows 12 = .ok (.iload_n 1, 1) := by decide +kernel
theorem dX1_countRows_13 : decode cX1_countRows 13 = .ok (.iaload, 1) := by decide +kernel
theorem dX1_countRows_14 : decode cX1_countRows 14 = .ok (.ifCond .eq 7, 3) := by decide +kernel
theorem dX1_countRows_17 : decode cX1_countRows 17 = .ok (.iload_n 1, 1) := by decide +kernel
theorem dX1_countRows_18 : decode cX1_countRows 18 = .ok (.iconst 1, 1) := by decide +kernel
theorem dX1_countRows_19 : decode cX1_countRows 19 = .ok (.iadd, 1) := by decide +kernel
theorem dX1_countRows_20 : decode cX1_countRows 20 = .ok (.ireturn, 1) := by decide +kernel
theorem dX1_countRows_21 : decode cX1_countRows 21 = .ok (.iinc 1 (-1), 3) := by decide +kernel
theorem dX1_countRows_24 : decode cX1_countRows 24 = .ok (.goto (-20), 3) := by decide +kernel
theorem dX1_countRows_27 : decode cX1_countRows 27 = .ok (.iconst 0, 1) := by decide +kernel
theorem dX1_countRows_28 : decode cX1_countRows 28 = .ok (.ireturn, 1) := by decide +kernel
theorem dX1_hasHolesFrom_0 : decode cX1_hasHolesFrom 0 = .ok (.iload_n 1, 1) := by decide +kernel
theorem dX1_hasHolesFrom_1 : decode cX1_hasHolesFrom 1 = .ok (.ifCond .ge 7, 3) := by decide +kernel
theorem dX1_hasHolesFrom_4 : decode cX1_hasHolesFrom 4 = .ok (.iconst 0, 1) := by decide +kernel
theorem dX1_hasHolesFrom_5 : decode cX1_hasHolesFrom 5 = .ok (.goto 4, 3) := by decide +kernel
theorem dX1_hasHolesFrom_8 : decode cX1_hasHolesFrom 8 = .ok (.iload_n 1, 1) := by decide +kernel
theorem dX1_hasHolesFrom_9 : decode cX1_hasHolesFrom 9 = .ok (.istore_n 2, 1) := by decide +kernel
theorem dX1_hasHolesFrom_10 : decode cX1_hasHolesFrom 10 = .ok (.iload_n 2, 1) := by decide +kernel
theorem dX1_hasHolesFrom_11 : decode cX1_hasHolesFrom 11 = .ok (.sipush 200, 3) := by decide +kernel
theorem dX1_hasHolesFrom_14 : decode cX1_hasHolesFrom 14 = .ok (.if_icmp .ge 20, 3) := by decide +kernel
theorem dX1_hasHolesFrom_17 : decode cX1_hasHolesFrom 17 = .ok (.aload_n 0, 1) := by decide +kernel
theorem dX1_hasHolesFrom_18 : decode cX1_hasHolesFrom 18 = .ok (.getfield 9, 3) := by decide +kernel
theorem dX1_hasHolesFrom_21 : decode cX1_hasHolesFrom 21 = .ok (.iload_n 2, 1) := by decide +kernel
theorem dX1_hasHolesFrom_22 : decode cX1_hasHolesFrom 22 = .ok (.iaload, 1) := by decide +kernel
theorem dX1_hasHolesFrom_23 : decode cX1_hasHolesFrom 23 = .ok (.ifCond .eq 5, 3) := by decide +kernel
theorem dX1_hasHolesFrom_26 : decode cX1_hasHolesFrom 26 = .ok (.iconst 1, 1) := by decide +kernel
theorem dX1_hasHolesFrom_27 : decode cX1_hasHolesFrom 27 = .ok (.ireturn, 1) := by decide +kernel
theorem dX1_hasHolesFrom_28 : decode cX1_hasHolesFrom 28 = .ok (.iinc 2 1, 3) := by decide +kernel
theorem dX1_hasHolesFrom_31 : decode cX1_hasHolesFrom 31 = .ok (.goto (-21), 3) := by decide +kernel
theorem dX1_hasHolesFrom_34 : decode cX1_hasHolesFrom 34 = .ok (.iconst 0, 1) := by decide +kernel
theorem dX1_hasHolesFrom_35 : decode cX1_hasHolesFrom 35 = .ok (.ireturn, 1) := by decide +kernel
theorem dX1_countHoles_0 : decode cX1_countHoles 0 = .ok (.iconst 0, 1) := by decide +kernel
theorem dX1_countHoles_1 : decode cX1_countHoles 1 = .ok (.istore_n 2, 1) := by decide +kernel
theorem dX1_countHoles_2 : decode cX1_countHoles 2 = .ok (.iconst 0, 1) := by decide +kernel
theorem dX1_countHoles_3 : decode cX1_countHoles 3 = .ok (.istore_n 3, 1) := by decide +kernel
theorem dX1_countHoles_4 : decode cX1_countHoles 4 = .ok (.iload_n 3, 1) := by decide +kernel
theorem dX1_countHoles_5 : decode cX1_countHoles 5 = .ok (.sipush 200, 3) := by decide +kernel
theorem dX1_countHoles_8 : decode cX1_countHoles 8 = .ok (.if_icmp .ge 23, 3) := by decide +kernel
theorem dX1_countHoles_11 : decode cX1_countHoles 11 = .ok (.iload_n 2, 1) := by decide +kernel
theorem dX1_countHoles_12 : decode cX1_countHoles 12 = .ok (.aload_n 0, 1) := by decide +kernel
theorem dX1_countHoles_13 : decode cX1_countHoles 13 = .ok (.getfield 9, 3) := by decide +kernel
theorem dX1_countHoles_16 : decode cX1_countHoles 16 = .ok (.iload_n 3, 1) := by decide +kernel
theorem dX1_countHoles_17 : decode cX1_countHoles 17 = .ok (.iaload, 1) := by decide +kernel
theorem dX1_countHoles_18 : decode cX1_countHoles 18 = .ok (.iload_n 1, 1) := by decide +kernel
theorem dX1_countHoles_19 : decode cX1_countHoles 19 = .ok (.iand, 1) := by decide +kernel
theorem dX1_countHoles_20 : decode cX1_countHoles 20 = .ok (.invokestatic 19, 3) := by decide +kernel
theorem dX1_countHoles_23 : decode cX1_countHoles 23 = .ok (.iadd, 1) := by decide +kernel
theorem dX1_countHoles_24 : decode cX1_countHoles 24 = .ok (.istore_n 2, 1) := by decide +kernel
theorem dX1_countHoles_25 : decode cX1_countHoles 25 = .ok (.iinc 3 1, 3) := by decide +kernel
theorem dX1_countHoles_28 : decode cX1_countHoles 28 = .ok (.goto (-24), 3) := by decide +kernel
theorem dX1_countHoles_31 : decode cX1_countHoles 31 = .ok (.iload_n 2, 1) := by decide +kernel
theorem dX1_countHoles_32 : decode cX1_countHoles 32 = .ok (.ireturn, 1) := by decide +kernel
theorem dX1_countUnlike_0 : decode cX1_countUnlike 0 = .ok (.iconst 0, 1) := by decide +kernel
theorem dX1_countUnlike_1 : decode cX1_countUnlike 1 = .ok (.istore_n 2, 1) := by decide +kernel
theorem dX1_countUnlike_2 : decode cX1_countUnlike 2 = .ok (.iconst 0, 1) := by decide +kernel
theorem dX1_countUnlike_3 : decode cX1_countUnlike 3 = .ok (.istore_n 3, 1) := by decide +kernel
theorem dX1_countUnlike_4 : decode cX1_countUnlike 4 = .ok (.iload_n 3, 1) := by decide +kernel
theorem dX1_countUnlike_5 : decode cX1_countUnlike 5 = .ok (.sipush 200, 3) := by decide +kernel
theorem dX1_countUnlike_8 : decode cX1_countUnlike 8 = .ok (.if_icmp .ge 28, 3) := by decide +kernel
theorem dX1_countUnlike_11 : decode cX1_countUnlike 11 = .ok (.iload_n 2, 1) := by decide +kernel
theorem dX1_countUnlike_12 : decode cX1_countUnlike 12 = .ok (.aload_n 0, 1) := by decide +kernel
theorem dX1_countUnlike_13 : decode cX1_countUnlike 13 = .ok (.getfield 9, 3) := by decide +kernel
theorem dX1_countUnlike_16 : decode cX1_countUnlike 16 = .ok (.iload_n 3, 1) := by decide +kernel
theorem dX1_countUnlike_17 : decode cX1_countUnlike 17 = .ok (.iaload, 1) := by decide +kernel
theorem dX1_countUnlike_18 : decode cX1_countUnlike 18 = .ok (.aload_n 1, 1) := by decide +kernel
theorem dX1_countUnlike_19 : decode cX1_countUnlike 19 = .ok (.getfield 9, 3) := by decide +kernel
theorem dX1_countUnlike_22 : decode cX1_countUnlike 22 = .ok (.iload_n 3, 1) := by decide +kernel
theorem dX1_countUnlike_23 : decode cX1_countUnlike 23 = .ok (.iaload, 1) := by decide +kernel
theorem dX1_countUnlike_24 : decode cX1_countUnlike 24 = .ok (.ixor, 1) := by decide +kernel
theorem dX1_countUnlike_25 : decode cX1_countUnlike 25 = .ok (.invokestatic 19, 3) := by decide +kernel
theorem dX1_countUnlike_28 : decode cX1_countUnlike 28 = .ok (.iadd, 1) := by decide +kernel
theorem dX1_countUnlike_29 : decode cX1_countUnlike 29 = .ok (.istore_n 2, 1) := by decide +kernel
theorem dX1_countUnlike_30 : decode cX1_countUnlike 30 = .ok (.iinc 3 1, 3) := by decide +kernel
theorem dX1_countUnlike_33 : decode cX1_countUnlike 33 = .ok (.goto (-29), 3) := by decide +kernel
theorem dX1_countUnlike_36 : decode cX1_countUnlike 36 = .ok (.iload_n 2, 1) := by decide +kernel
theorem dX1_countUnlike_37 : decode cX1_countUnlike 37 = .ok (.ireturn, 1) := by decide +kernel
theorem dX1_takeHolesOf_0 : decode cX1_takeHolesOf 0 = .ok (.iconst 0, 1) := by decide +kernel
theorem dX1_takeHolesOf_1 : decode cX1_takeHolesOf 1 = .ok (.istore_n 2, 1) := by decide +kernel
theorem dX1_takeHolesOf_2 : decode cX1_takeHolesOf 2 = .ok (.iload_n 2, 1) := by decide +kernel
theorem dX1_takeHolesOf_3 : decode cX1_takeHolesOf 3 = .ok (.sipush 200, 3) := by decide +kernel
theorem dX1_takeHolesOf_6 : decode cX1_takeHolesOf 6 = .ok (.if_icmp .ge 21, 3) := by decide +kernel
theorem dX1_takeHolesOf_9 : decode cX1_takeHolesOf 9 = .ok (.aload_n 0, 1) := by decide +kernel
theorem dX1_takeHolesOf_10 : decode cX1_takeHolesOf 10 = .ok (.getfield 9, 3) := by decide +kernel
theorem dX1_takeHolesOf_13 : decode cX1_takeHolesOf 13 = .ok (.iload_n 2, 1) := by decide +kernel
theorem dX1_takeHolesOf_14 : decode cX1_takeHolesOf 14 = .ok (.aload_n 1, 1) := by decide +kernel
theorem dX1_takeHolesOf_15 : decode cX1_takeHolesOf 15 = .ok (.getfield 9, 3) := by decide +kernel
theorem dX1_takeHolesOf_18 : decode cX1_takeHolesOf 18 = .ok (.iload_n 2, 1) := by decide +kernel
theorem dX1_takeHolesOf_19 : decode cX1_takeHolesOf 19 = .ok (.iaload, 1) := by decide +kernel
theorem dX1_takeHolesOf_20 : decode cX1_takeHolesOf 20 = .ok (.iastore, 1) := by decide +kernel
theorem dX1_takeHolesOf_21 : decode cX1_takeHolesOf 21 = .ok (.iinc 2 1, 3) := by decide +kernel
theorem dX1_takeHolesOf_24 : decode cX1_takeHolesOf 24 = .ok (.goto (-22), 3) := by decide +kernel
theorem dX1_takeHolesOf_27 : decode cX1_takeHolesOf 27 = .ok (.return_, 1) := by decide +kernel
theorem dX1_mendPitches_0 : decode cX1_mendPitches 0 = .ok (.iconst 0, 1) := by decide +kernel
theorem dX1_mendPitches_1 : decode cX1_mendPitches 1 = .ok (.istore_n 1, 1) := by decide +kernel
theorem dX1_mendPitches_2 : decode cX1_mendPitches 2 = .ok (.iload_n 1, 1) := by decide +kernel
theorem dX1_mendPitches_3 : decode cX1_mendPitches 3 = .ok (.sipush 200, 3) := by decide +kernel
theorem dX1_mendPitches_6 : decode cX1_mendPitches 6 = .ok (.if_icmp .ge 21, 3) := by decide +kernel
theorem dX1_mendPitches_9 : decode cX1_mendPitches 9 = .ok (.aload_n 0, 1) := by decide +kernel
theorem dX1_mendPitches_10 : decode cX1_mendPitches 10 = .ok (.getfield 9, 3) := by decide +kernel
theorem dX1_mendPitches_13 : decode cX1_mendPitches 13 = .ok (.iload_n 1, 1) := by decide +kernel
theorem dX1_mendPitches_14 : decode cX1_mendPitches 14 = .ok (.dup2, 1) := by decide +kernel
theorem dX1_mendPitches_15 : decode cX1_mendPitches 15 = .ok (.iaload, 1) := by decide +kernel
theorem dX1_mendPitches_16 : decode cX1_mendPitches 16 = .ok (.sipush (-4096), 3) := by decide +kernel
theorem dX1_mendPitches_19 : decode cX1_mendPitches 19 = .ok (.iand, 1) := by decide +kernel
theorem dX1_mendPitches_20 : decode cX1_mendPitches 20 = .ok (.iastore, 1) := by decide +kernel
theorem dX1_mendPitches_21 : decode cX1_mendPitches 21 = .ok (.iinc 1 1, 3) := by decide +kernel
theorem dX1_mendPitches_24 : decode cX1_mendPitches 24 = .ok (.goto (-22), 3) := by decide +kernel
theorem dX1_mendPitches_27 : decode cX1_mendPitches 27 = .ok (.return_, 1) := by decide +kernel
theorem dX1_findBeginnings_0 : decode cX1_findBeginnings 0 = .ok (.aload_n 0, 1) := by decide +kernel
theorem dX1_findBeginnings_1 : decode cX1_findBeginnings 1 = .ok (.iload_n 1, 1) := by decide +kernel
theorem dX1_findBeginnings_2 : decode cX1_findBeginnings 2 = .ok (.invokevirtual 15, 3) := by decide +kernel
theorem dX1_findBeginnings_5 : decode cX1_findBeginnings 5 = .ok (.aload_n 0, 1) := by decide +kernel
theorem dX1_findBeginnings_6 : decode cX1_findBeginnings 6 = .ok (.iload_n 1, 1) := by decide +kernel
theorem dX1_findBeginnings_7 : decode cX1_findBeginnings 7 = .ok (.iconst 1, 1) := by decide +kernel
theorem dX1_findBeginnings_8 : decode cX1_findBeginnings 8 = .ok (.isub, 1) := by decide +kernel
theorem dX1_findBeginnings_9 : decode cX1_findBeginnings 9 = .ok (.invokevirtual 15, 3) := by decide +kernel
theorem dX1_findBeginnings_12 : decode cX1_findBeginnings 12 = .ok (.iconst (-1), 1) := by decide +kernel
theorem dX1_findBeginnings_13 : decode cX1_findBeginnings 13 = .ok (.ixor, 1) := by decide +kernel
theorem dX1_findBeginnings_14 : decode cX1_findBeginnings 14 = .ok (.iand, 1) := by decide +kernel
theorem dX1_findBeginnings_15 : decode cX1_findBeginnings 15 = .ok (.aload_n 0, 1) := by decide +kernel
theorem dX1_findBeginnings_16 : decode cX1_findBeginnings 16 = .ok (.iload_n 1, 1) := by decide +kernel
theorem dX1_findBeginnings_17 : decode cX1_findBeginnings 17 = .ok (.iconst 2, 1) := by decide +kernel
theorem dX1_findBeginnings_18 : decode cX1_findBeginnings 18 = .ok (.isub, 1) := by decide +kernel
theorem dX1_findBeginnings_19 : decode cX1_findBeginnings 19 = .ok (.invokevirtual 15, 3) := by decide +kernel
theorem dX1_findBeginnings_22 : decode cX1_findBeginnings 22 = .ok (.iconst (-1), 1) := by decide +kernel
theorem dX1_findBeginnings_23 : decode cX1_findBeginnings 23 = .ok (.ixor, 1) := by decide +kernel
theorem dX1_findBeginnings_24 : decode cX1_findBeginnings 24 = .ok (.iand, 1) := by decide +kernel
theorem dX1_findBeginnings_25 : decode cX1_findBeginnings 25 = .ok (.sipush 4095, 3) := by decide +kernel
theorem dX1_findBeginnings_28 : decode cX1_findBeginnings 28 = .ok (.iand, 1) := by decide +kernel
theorem dX1_findBeginnings_29 : decode cX1_findBeginnings 29 = .ok (.ireturn, 1) := by decide +kernel
theorem dX1_isBeginning_0 : decode cX1_isBeginning 0 = .ok (.aload_n 0, 1) := by decide +kernel
theorem dX1_isBeginning_1 : decode cX1_isBeginning 1 = .ok (.iload_n 1, 1) := by decide +kernel
theorem dX1_isBeginning_2 : decode cX1_isBeginning 2 = .ok (.invokevirtual 24, 3) := by decide +kernel
theorem dX1_isBeginning_5 : decode cX1_isBeginning 5 = .ok (.iload_n 2, 1) := by decide +kernel
theorem dX1_isBeginning_6 : decode cX1_isBeginning 6 = .ok (.ishr, 1) := by decide +kernel
theorem dX1_isBeginning_7 : decode cX1_isBeginning 7 = .ok (.iconst 1, 1) := by decide +kernel
theorem dX1_isBeginning_8 : decode cX1_isBeginning 8 = .ok (.iand, 1) := by decide +kernel
theorem dX1_isBeginning_9 : decode cX1_isBeginning 9 = .ok (.ifCond .eq 7, 3) := by decide +kernel
theorem dX1_isBeginning_12 : decode cX1_isBeginning 12 = .ok (.iconst 1, 1) := by decide +kernel
theorem dX1_isBeginning_13 : decode cX1_isBeginning 13 = .ok (.goto 4, 3) := by decide +kernel
theorem dX1_isBeginning_16 : decode cX1_isBeginning 16 = .ok (.iconst 0, 1) := by decide +kernel
theorem dX1_isBeginning_17 : decode cX1_isBeginning 17 = .ok (.ireturn, 1) := by decide +kernel
theorem dX1_countNotes_0 : decode cX1_countNotes 0 = .ok (.iconst 0, 1) := by decide +kernel
theorem dX1_countNotes_1 : decode cX1_countNotes 1 = .ok (.istore_n 1, 1) := by decide +kernel
theorem dX1_countNotes_2 : decode cX1_countNotes 2 = .ok (.iconst 0, 1) := by decide +kernel
theorem dX1_countNotes_3 : decode cX1_countNotes 3 = .ok (.istore_n 2, 1) := by decide +kernel
theorem dX1_countNotes_4 : decode cX1_countNotes 4 = .ok (.iload_n 2, 1) := by decide +kernel
theorem dX1_countNotes_5 : decode cX1_countNotes 5 = .ok (.sipush 200, 3) := by decide +kernel
theorem dX1_countNotes_8 : decode cX1_countNotes 8 = .ok (.if_icmp .ge 20, 3) := by decide +kernel
theorem dX1_countNotes_11 : decode cX1_countNotes 11 = .ok (.iload_n 1, 1) := by decide +kernel
theorem dX1_countNotes_12 : decode cX1_countNotes 12 = .ok (.aload_n 0, 1) := by decide +kernel
theorem dX1_countNotes_13 : decode cX1_countNotes 13 = .ok (.iload_n 2, 1) := by decide +kernel
theorem dX1_countNotes_14 : decode cX1_countNotes 14 = .ok (.invokevirtual 24, 3) := by decide +kernel
theorem dX1_countNotes_17 : decode cX1_countNotes 17 = .ok (.invokestatic 19, 3) := by decide +kernel
theorem dX1_countNotes_20 : decode cX1_countNotes 20 = .ok (.iadd, 1) := by decide +kernel
theorem dX1_countNotes_21 : decode cX1_countNotes 21 = .ok (.istore_n 1, 1) := by decide +kernel
theorem dX1_countNotes_22 : decode cX1_countNotes 22 = .ok (.iinc 2 1, 3) := by decide +kernel
theorem dX1_countNotes_25 : decode cX1_countNotes 25 = .ok (.goto (-21), 3) := by decide +kernel
theorem dX1_countNotes_28 : decode cX1_countNotes 28 = .ok (.iload_n 1, 1) := by decide +kernel
theorem dX1_countNotes_29 : decode cX1_countNotes 29 = .ok (.ireturn, 1) := by decide +kernel
theorem dX1_findNote_0 : decode cX1_findNote 0 = .ok (.iload_n 1, 1) := by decide +kernel
theorem dX1_findNote_1 : decode cX1_findNote 1 = .ok (.ifCond .ge 5, 3) := by decide +kernel
theorem dX1_findNote_4 : decode cX1_findNote 4 = .ok (.iconst (-1), 1) := by decide +kernel
theorem dX1_findNote_5 : decode cX1_findNote 5 = .ok (.ireturn, 1) := by decide +kernel
theorem dX1_findNote_6 : decode cX1_findNote 6 = .ok (.iload_n 1, 1) := by decide +kernel
theorem dX1_findNote_7 : decode cX1_findNote 7 = .ok (.istore_n 2, 1) := by decide +kernel
theorem dX1_findNote_8 : decode cX1_findNote 8 = .ok (.iconst 0, 1) := by decide +kernel
theorem dX1_findNote_9 : decode cX1_findNote 9 = .ok (.istore_n 3, 1) := by decide +kernel
theorem dX1_findNote_10 : decode cX1_findNote 10 = .ok (.iload_n 3, 1) := by decide +kernel
theorem dX1_findNote_11 : decode cX1_findNote 11 = .ok (.sipush 200, 3) := by decide +kernel
theorem dX1_findNote_14 : decode cX1_findNote 14 = .ok (.if_icmp .ge 46, 3) := by decide +kernel
theorem dX1_findNote_17 : decode cX1_findNote 17 = .ok (.aload_n 0, 1) := by decide +kernel
theorem dX1_findNote_18 : decode cX1_findNote 18 = .ok (.iload_n 3, 1) := by decide +kernel
theorem dX1_findNote_19 : decode cX1_findNote 19 = .ok (.invokevirtual 24, 3) := by decide +kernel
theorem dX1_findNote_22 : decode cX1_findNote 22 = .ok (.istore 4, 2) := by decide +kernel
theorem dX1_findNote_24 : decode cX1_findNote 24 = .ok (.iload 4, 2) := by decide +kernel
theorem dX1_findNote_26 : decode cX1_findNote 26 = .ok (.invokestatic 19, 3) := by decide +kernel
theorem dX1_findNote_29 : decode cX1_findNote 29 = .ok (.istore 5, 2) := by decide +kernel
theorem dX1_findNote_31 : decode cX1_findNote 31 = .ok (.iload_n 2, 1) := by decide +kernel
theorem dX1_findNote_32 : decode cX1_findNote 32 = .ok (.iload 5, 2) := by decide +kernel
theorem dX1_findNote_34 : decode cX1_findNote 34 = .ok (.if_icmp .ge 15, 3) := by decide +kernel
theorem dX1_findNote_37 : decode cX1_findNote 37 = .ok (.iload_n 3, 1) := by decide +kernel
theorem dX1_findNote_38 : decode cX1_findNote 38 = .ok (.bipush 16, 2) := by decide +kernel
theorem dX1_findNote_40 : decode cX1_findNote 40 = .ok (.imul, 1) := by decide +kernel
theorem dX1_findNote_41 : decode cX1_findNote 41 = .ok (.iload 4, 2) := by decide +kernel
theorem dX1_findNote_43 : decode cX1_findNote 43 = .ok (.iload_n 2, 1) := by decide +kernel
theorem dX1_findNote_44 : decode cX1_findNote 44 = .ok (.invokestatic 27, 3) := by decide +kernel
theorem dX1_findNote_47 : decode cX1_findNote 47 = .ok (.iadd, 1) := by decide +kernel
theorem dX1_findNote_48 : decode cX1_findNote 48 = .ok (.ireturn, 1) := by decide +kernel
theorem dX1_findNote_49 : decode cX1_findNote 49 = .ok (.iload_n 2, 1) := by decide +kernel
theorem dX1_findNote_50 : decode cX1_findNote 50 = .ok (.iload 5, 2) := by decide +kernel
theorem dX1_findNote_52 : decode cX1_findNote 52 = .ok (.isub, 1) := by decide +kernel
theorem dX1_findNote_53 : decode cX1_findNote 53 = .ok (.istore_n 2, 1) := by decide +kernel
theorem dX1_findNote_54 : decode cX1_findNote 54 = .ok (.iinc 3 1, 3) := by decide +kernel
theorem dX1_findNote_57 : decode cX1_findNote 57 = .ok (.goto (-47), 3) := by decide +kernel
theorem dX1_findNote_60 : decode cX1_findNote 60 = .ok (.iconst (-1), 1) := by decide +kernel
theorem dX1_findNote_61 : decode cX1_findNote 61 = .ok (.ireturn, 1) := by decide +kernel
theorem dX1_findBit_0 : decode cX1_findBit 0 = .ok (.iload_n 1, 1) := by decide +kernel
theorem dX1_findBit_1 : decode cX1_findBit 1 = .ok (.istore_n 2, 1) := by decide +kernel
theorem dX1_findBit_2 : decode cX1_findBit 2 = .ok (.iconst 0, 1) := by decide +kernel
theorem dX1_findBit_3 : decode cX1_findBit 3 = .ok (.istore_n 3, 1) := by decide +kernel
theorem dX1_findBit_4 : decode cX1_findBit 4 = .ok (.iload_n 3, 1) := by decide +kernel
theorem dX1_findBit_5 : decode cX1_findBit 5 = .ok (.bipush 12, 2) := by decide +kernel
theorem dX1_findBit_7 : decode cX1_findBit 7 = .ok (.if_icmp .ge 26, 3) := by decide +kernel
theorem dX1_findBit_10 : decode cX1_findBit 10 = .ok (.iload_n 0, 1) := by decide +kernel
theorem dX1_findBit_11 : decode cX1_findBit 11 = .ok (.iload_n 3, 1) := by decide +kernel
theorem dX1_findBit_12 : decode cX1_findBit 12 = .ok (.ishr, 1) := by decide +kernel
theorem dX1_findBit_13 : decode cX1_findBit 13 = .ok (.iconst 1, 1) := by decide +kernel
theorem dX1_findBit_14 : decode cX1_findBit 14 = .ok (.iand, 1) := by decide +kernel
theorem dX1_findBit_15 : decode cX1_findBit 15 = .ok (.ifCond .eq 12, 3) := by decide +kernel
theorem dX1_findBit_18 : decode cX1_findBit 18 = .ok (.iload_n 2, 1) := by decide +kernel
theorem dX1_findBit_19 : decode cX1_findBit 19 = .ok (.ifCond .ne 5, 3) := by decide +kernel
theorem dX1_findBit_22 : decode cX1_findBit 22 = .ok (.iload_n 3, 1) := by decide +kernel
theorem dX1_findBit_23 : decode cX1_findBit 23 = .ok (.ireturn, 1) := by decide +kernel
theorem dX1_findBit_24 : decode cX1_findBit 24 = .ok (.iinc 2 (-1), 3) := by decide +kernel
theorem dX1_findBit_27 : decode cX1_findBit 27 = .ok (.iinc 3 1, 3) := by decide +kernel
theorem dX1_findBit_30 : decode cX1_findBit 30 = .ok (.goto (-26), 3) := by decide +kernel
theorem dX1_findBit_33 : decode cX1_findBit 33 = .ok (.iconst 0, 1) := by decide +kernel
theorem dX1_findBit_34 : decode cX1_findBit 34 = .ok (.ireturn, 1) := by decide +kernel
theorem dX1_measureNote_0 : decode cX1_measureNote 0 = .ok (.iload_n 1, 1) := by decide +kernel
theorem dX1_measureNote_1 : decode cX1_measureNote 1 = .ok (.istore_n 3, 1) := by decide +kernel
theorem dX1_measureNote_2 : decode cX1_measureNote 2 = .ok (.iload_n 1, 1) := by decide +kernel
theorem dX1_measureNote_3 : decode cX1_measureNote 3 = .ok (.iconst 1, 1) := by decide +kernel
theorem dX1_measureNote_4 : decode cX1_measureNote 4 = .ok (.iadd, 1) := by decide +kernel
theorem dX1_measureNote_5 : decode cX1_measureNote 5 = .ok (.istore 4, 2) := by decide +kernel
theorem dX1_measureNote_7 : decode cX1_measureNote 7 = .ok (.iload 4, 2) := by decide +kernel
theorem dX1_measureNote_9 : decode cX1_measureNote 9 = .ok (.sipush 200, 3) := by decide +kernel
theorem dX1_measureNote_12 : decode cX1_measureNote 12 = .ok (.if_icmp .ge 36, 3) := by decide +kernel
theorem dX1_measureNote_15 : decode cX1_measureNote 15 = .ok (.aload_n 0, 1) := by decide +kernel
theorem dX1_measureNote_16 : decode cX1_measureNote 16 = .ok (.iload 4, 2) := by decide +kernel
theorem dX1_measureNote_18 : decode cX1_measureNote 18 = .ok (.iload_n 2, 1) := by decide +kernel
theorem dX1_measureNote_19 : decode cX1_measureNote 19 = .ok (.invokevirtual 31, 3) := by decide +kernel
theorem dX1_measureNote_22 : decode cX1_measureNote 22 = .ok (.ifCond .eq 9, 3) := by decide +kernel
theorem dX1_measureNote_25 : decode cX1_measureNote 25 = .ok (.iload 4, 2) := by decide +kernel
theorem dX1_measureNote_27 : decode cX1_measureNote 27 = .ok (.istore_n 3, 1) := by decide +kernel
theorem dX1_measureNote_28 : decode cX1_measureNote 28 = .ok (.goto 14, 3) := by decide +kernel
theorem dX1_measureNote_31 : decode cX1_measureNote 31 = .ok (.iload 4, 2) := by decide +kernel
theorem dX1_measureNote_33 : decode cX1_measureNote 33 = .ok (.iload_n 3, 1) := by decide +kernel
theorem dX1_measureNote_34 : decode cX1_measureNote 34 = .ok (.isub, 1) := by decide +kernel
theorem dX1_measureNote_35 : decode cX1_measureNote 35 = .ok (.iconst 2, 1) := by decide +kernel
theorem dX1_measureNote_36 : decode cX1_measureNote 36 = .ok (.if_icmp .lt 6, 3) := by decide +kernel
theorem dX1_measureNote_39 : decode cX1_measureNote 39 = .ok (.goto 9, 3) := by decide +kernel
theorem dX1_measureNote_42 : decode cX1_measureNote 42 = .ok (.iinc 4 1, 3) := by decide +kernel
theorem dX1_measureNote_45 : decode cX1_measureNote 45 = .ok (.goto (-38), 3) := by decide +kernel
theorem dX1_measureNote_48 : decode cX1_measureNote 48 = .ok (.iload_n 3, 1) := by decide +kernel
theorem dX1_measureNote_49 : decode cX1_measureNote 49 = .ok (.iload_n 1, 1) := by decide +kernel
theorem dX1_measureNote_50 : decode cX1_measureNote 50 = .ok (.isub, 1) := by decide +kernel
theorem dX1_measureNote_51 : decode cX1_measureNote 51 = .ok (.iconst 1, 1) := by decide +kernel
theorem dX1_measureNote_52 : decode cX1_measureNote 52 = .ok (.iadd, 1) := by decide +kernel
theorem dX1_measureNote_53 : decode cX1_measureNote 53 = .ok (.ireturn, 1) := by decide +kernel
theorem dX1_addToSum_0 : decode cX1_addToSum 0 = .ok (.lload_n 1, 1) := by decide +kernel
theorem dX1_addToSum_1 : decode cX1_addToSum 1 = .ok (.lstore_n 3, 1) := by decide +kernel
theorem dX1_addToSum_2 : decode cX1_addToSum 2 = .ok (.iconst 0, 1) := by decide +kernel
theorem dX1_addToSum_3 : decode cX1_addToSum 3 = .ok (.istore 5, 2) := by decide +kernel
theorem dX1_addToSum_5 : decode cX1_addToSum 5 = .ok (.iload 5, 2) := by decide +kernel
theorem dX1_addToSum_7 : decode cX1_addToSum 7 = .ok (.sipush 200, 3) := by decide +kernel
theorem dX1_addToSum_10 : decode cX1_addToSum 10 = .ok (.if_icmp .ge 27, 3) := by decide +kernel
theorem dX1_addToSum_13 : decode cX1_addToSum 13 = .ok (.aload_n 0, 1) := by decide +kernel
theorem dX1_addToSum_14 : decode cX1_addToSum 14 = .ok (.getfield 9, 3) := by decide +kernel
theorem dX1_addToSum_17 : decode cX1_addToSum 17 = .ok (.iload 5, 2) := by decide +kernel
theorem dX1_addToSum_19 : decode cX1_addToSum 19 = .ok (.iaload, 1) := by decide +kernel
theorem dX1_addToSum_20 : decode cX1_addToSum 20 = .ok (.ifCond .eq 11, 3) := by decide +kernel
theorem dX1_addToSum_23 : decode cX1_addToSum 23 = .ok (.aload_n 0, 1) := by decide +kernel
theorem dX1_addToSum_24 : decode cX1_addToSum 24 = .ok (.lload_n 3, 1) := by decide +kernel
theorem dX1_addToSum_25 : decode cX1_addToSum 25 = .ok (.iload 5, 2) := by decide +kernel
theorem dX1_addToSum_27 : decode cX1_addToSum 27 = .ok (.invokevirtual 35, 3) := by decide +kernel
theorem dX1_addToSum_30 : decode cX1_addToSum 30 = .ok (.lstore_n 3, 1) := by decide +kernel
theorem dX1_addToSum_31 : decode cX1_addToSum 31 = .ok (.iinc 5 1, 3) := by decide +kernel
theorem dX1_addToSum_34 : decode cX1_addToSum 34 = .ok (.goto (-29), 3) := by decide +kernel
theorem dX1_addToSum_37 : decode cX1_addToSum 37 = .ok (.lload_n 3, 1) := by decide +kernel
theorem dX1_addToSum_38 : decode cX1_addToSum 38 = .ok (.lreturn, 1) := by decide +kernel
theorem dX1_addRowToSum_0 : decode cX1_addRowToSum 0 = .ok (.lload_n 1, 1) := by decide +kernel
theorem dX1_addRowToSum_1 : decode cX1_addRowToSum 1 = .ok (.lstore 4, 2) := by decide +kernel
theorem dX1_addRowToSum_3 : decode cX1_addRowToSum 3 = .ok (.iconst 0, 1) := by decide +kernel
theorem dX1_addRowToSum_4 : decode cX1_addRowToSum 4 = .ok (.istore 6, 2) := by decide +kernel
theorem dX1_addRowToSum_6 : decode cX1_addRowToSum 6 = .ok (.iload 6, 2) := by decide +kernel
theorem dX1_addRowToSum_8 : decode cX1_addRowToSum 8 = .ok (.bipush 16, 2) := by decide +kernel
theorem dX1_addRowToSum_10 : decode cX1_addRowToSum 10 = .ok (.if_icmp .ge 37, 3) := by decide +kernel
theorem dX1_addRowToSum_13 : decode cX1_addRowToSum 13 = .ok (.aload_n 0, 1) := by decide +kernel
theorem dX1_addRowToSum_14 : decode cX1_addRowToSum 14 = .ok (.iload_n 3, 1) := by decide +kernel
theorem dX1_addRowToSum_15 : decode cX1_addRowToSum 15 = .ok (.iload 6, 2) := by decide +kernel
theorem dX1_addRowToSum_17 : decode cX1_addRowToSum 17 = .ok (.invokevirtual 31, 3) := by decide +kernel
theorem dX1_addRowToSum_20 : decode cX1_addRowToSum 20 = .ok (.ifCond .eq 21, 3) := by decide +kernel
theorem dX1_addRowToSum_23 : decode cX1_addRowToSum 23 = .ok (.ldc2_w 39, 3) := by decide +kernel
theorem dX1_addRowToSum_26 : decode cX1_addRowToSum 26 = .ok (.lload 4, 2) := by decide +kernel
theorem dX1_addRowToSum_28 : decode cX1_addRowToSum 28 = .ok (.lmul, 1) := by decide +kernel
theorem dX1_addRowToSum_29 : decode cX1_addRowToSum 29 = .ok (.bipush 16, 2) := by decide +kernel
theorem dX1_addRowToSum_31 : decode cX1_addRowToSum 31 = .ok (.iload_n 3, 1) := by decide +kernel
theorem dX1_addRowToSum_32 : decode cX1_addRowToSum 32 = .ok (.imul, 1) := by decide +kernel
theorem dX1_addRowToSum_33 : decode cX1_addRowToSum 33 = .ok (.i2l, 1) := by decide +kernel
theorem dX1_addRowToSum_34 : decode cX1_addRowToSum 34 = .ok (.ladd, 1) := by decide +kernel
theorem dX1_addRowToSum_35 : decode cX1_addRowToSum 35 = .ok (.iload 6, 2) := by decide +kernel
theorem dX1_addRowToSum_37 : decode cX1_addRowToSum 37 = .ok (.i2l, 1) := by decide +kernel
theorem dX1_addRowToSum_38 : decode cX1_addRowToSum 38 = .ok (.ladd, 1) := by decide +kernel
theorem dX1_addRowToSum_39 : decode cX1_addRowToSum 39 = .ok (.lstore 4, 2) := by decide +kernel
theorem dX1_addRowToSum_41 : decode cX1_addRowToSum 41 = .ok (.iinc 6 1, 3) := by decide +kernel
theorem dX1_addRowToSum_44 : decode cX1_addRowToSum 44 = .ok (.goto (-38), 3) := by decide +kernel
theorem dX1_addRowToSum_47 : decode cX1_addRowToSum 47 = .ok (.lload 4, 2) := by decide +kernel
theorem dX1_addRowToSum_49 : decode cX1_addRowToSum 49 = .ok (.lreturn, 1) := by decide +kernel
set_option maxRecDepth 20000 in
theorem ggX1_hasHole_X1_readBits : GoodIn wsX1_hasHole wsX1_readBits := goodIn_ca (goodIn_r _ [5, 6, 7] (by decide +kernel) (by decide +kernel)) (goodIn_sub (fun _ h => List.mem_cons_of_mem _ (List.mem_append_right _ h)) (by decide +kernel))
set_option maxRecDepth 20000 in
theorem gX1_hasHole_X1_readBits : GoodIn wsX1_hasHole (wsV RX1 15 RX1 yX1_readBits wsX1_readBits) := goodIn_app (goodIn_of _ (by decide +kernel)) ggX1_hasHole_X1_readBits
set_option maxRecDepth 20000 in
theorem ggX1_countHoles_J6_bitCount_0f7a4 : GoodIn wsX1_countHoles wsJ6_bitCount_0f7a4 := goodIn_r _ [5, 6, 7, 8] (by decide +kernel) (by decide +kernel)
set_option maxRecDepth 20000 in
theorem gX1_countHoles_J6_bitCount_0f7a4 : GoodIn wsX1_countHoles (va_wsS RX1 19 yJ6_bitCount_0f7a4 wsJ6_bitCount_0f7a4) := goodIn_app (goodIn_of _ (by decide +kernel)) ggX1_countHoles_J6_bitCount_0f7a4
set_option maxRecDepth 20000 in
theorem ggX1_countUnlike_J6_bitCount_0f7a4 : GoodIn wsX1_countUnlike wsJ6_bitCount_0f7a4 := goodIn_r _ [5, 6, 7, 8] (by decide +kernel) (by decide +kernel)
set_option maxRecDepth 20000 in
theorem gX1_countUnlike_J6_bitCount_0f7a4 : GoodIn wsX1_countUnlike (va_wsS RX1 19 yJ6_bitCount_0f7a4 wsJ6_bitCount_0f7a4) := goodIn_app (goodIn_of _ (by decide +kernel)) ggX1_countUnlike_J6_bitCount_0f7a4
set_option maxRecDepth 20000 in
theorem ggX1_findBeginnings_X1_readBits : GoodIn wsX1_findBeginnings wsX1_readBits := goodIn_ca (goodIn_r _ [5, 6, 7] (by decide +kernel) (by decide +kernel)) (goodIn_sub (fun _ h => List.mem_cons_of_mem _ (List.mem_append_right _ h)) (by decide +kernel))
set_option maxRecDepth 20000 in
theorem gX1_findBeginnings_X1_readBits : GoodIn wsX1_findBeginnings (wsV RX1 15 RX1 yX1_readBits wsX1_readBits) := goodIn_app (goodIn_of _ (by decide +kernel)) ggX1_findBeginnings_X1_readBits
set_option maxRecDepth 20000 in
theorem ggX1_isBeginning_X1_findBeginnings : GoodIn wsX1_isBeginning wsX1_findBeginnings := goodIn_ca (goodIn_r _ [5, 6, 7, 8, 4, 9, 10, 11] (by decide +kernel) (by decide +kernel)) (goodIn_sub (fun _ h => List.mem_cons_of_mem _ (List.mem_append_right _ h)) (by decide +kernel))
set_option maxRecDepth 20000 in
theorem gX1_isBeginning_X1_findBeginnings : GoodIn wsX1_isBeginning (wsV RX1 24 RX1 yX1_findBeginnings wsX1_findBeginnings) := goodIn_app (goodIn_of _ (by decide +kernel)) ggX1_isBeginning_X1_findBeginnings
set_option maxRecDepth 20000 in
theorem ggX1_countNotes_X1_findBeginnings : GoodIn wsX1_countNotes wsX1_findBeginnings := goodIn_ca (goodIn_r _ [5, 6, 7, 8, 4, 9, 10, 18] (by decide +kernel) (by decide +kernel)) (goodIn_sub (fun _ h => List.mem_cons_of_mem _ (List.mem_append_right _ h)) (by decide +kernel))
set_option maxRecDepth 20000 in
theorem gX1_countNotes_X1_findBeginnings : GoodIn wsX1_countNotes (wsV RX1 24 RX1 yX1_findBeginnings wsX1_findBeginnings) := goodIn_app (goodIn_of _ (by decide +kernel)) ggX1_countNotes_X1_findBeginnings
set_option maxRecDepth 20000 in
theorem ggX1_countNotes_J6_bitCount_0f7a4 : GoodIn wsX1_countNotes wsJ6_bitCount_0f7a4 := goodIn_r _ [14, 15, 16, 17] (by decide +kernel) (by decide +kernel)
set_option maxRecDepth 20000 in
theorem gX1_countNotes_J6_bitCount_0f7a4 : GoodIn wsX1_countNotes (va_wsS RX1 19 yJ6_bitCount_0f7a4 wsJ6_bitCount_0f7a4) := goodIn_app (goodIn_of _ (by decide +kernel)) ggX1_countNotes_J6_bitCount_0f7a4
set_option maxRecDepth 20000 in
theorem ggX1_findNote_X1_findBeginnings : GoodIn wsX1_findNote wsX1_findBeginnings := goodIn_ca (goodIn_r _ [5, 6, 7, 8, 4, 9, 10, 21] (by decide +kernel) (by decide +kernel)) (goodIn_sub (fun _ h => List.mem_cons_of_mem _ (List.mem_append_right _ h)) (by decide +kernel))
set_option maxRecDepth 20000 in
theorem gX1_findNote_X1_findBeginnings : GoodIn wsX1_findNote (wsV RX1 24 RX1 yX1_findBeginnings wsX1_findBeginnings) := goodIn_app (goodIn_of _ (by decide +kernel)) ggX1_findNote_X1_findBeginnings
set_option maxRecDepth 20000 in
theorem ggX1_findNote_J6_bitCount_0f7a4 : GoodIn wsX1_findNote wsJ6_bitCount_0f7a4 := goodIn_r _ [14, 15, 16, 17] (by decide +kernel) (by decide +kernel)
set_option maxRecDepth 20000 in
theorem gX1_findNote_J6_bitCount_0f7a4 : GoodIn wsX1_findNote (va_wsS RX1 19 yJ6_bitCount_0f7a4 wsJ6_bitCount_0f7a4) := goodIn_app (goodIn_of _ (by decide +kernel)) ggX1_findNote_J6_bitCount_0f7a4
set_option maxRecDepth 20000 in
theorem ggX1_findNote_X1_findBit : GoodIn wsX1_findNote wsX1_findBit := goodIn_r _ [20] (by decide +kernel) (by decide +kernel)
set_option maxRecDepth 20000 in
theorem gX1_findNote_X1_findBit : GoodIn wsX1_findNote (va_wsS RX1 27 yX1_findBit wsX1_findBit) := goodIn_app (goodIn_of _ (by decide +kernel)) ggX1_findNote_X1_findBit
set_option maxRecDepth 20000 in
theorem ggX1_measureNote_X1_hasHole : GoodIn wsX1_measureNote wsX1_hasHole := goodIn_ca (goodIn_r _ [5, 6, 7, 8, 4, 9, 10, 11] (by decide +kernel) (by decide +kernel)) (goodIn_sub (fun _ h => List.mem_cons_of_mem _ (List.mem_append_right _ h)) (by decide +kernel))
set_option maxRecDepth 20000 in
theorem gX1_measureNote_X1_hasHole : GoodIn wsX1_measureNote (wsV RX1 31 RX1 yX1_hasHole wsX1_hasHole) := goodIn_app (goodIn_of _ (by decide +kernel)) ggX1_measureNote_X1_hasHole
set_option maxRecDepth 20000 in
theorem ggX1_addToSum_X1_addRowToSum : GoodIn wsX1_addToSum wsX1_addRowToSum := goodIn_ca (goodIn_r _ [6, 7, 8, 9, 10, 5, 11, 12, 13, 14, 15, 1, 16] (by decide +kernel) (by decide +kernel)) (goodIn_sub (fun _ h => List.mem_cons_of_mem _ (List.mem_append_right _ h)) (by decide +kernel))
set_option maxRecDepth 20000 in
theorem gX1_addToSum_X1_addRowToSum : GoodIn wsX1_addToSum (wsV RX1 35 RX1 yX1_addRowToSum wsX1_addRowToSum) := goodIn_app (goodIn_of _ (by decide +kernel)) ggX1_addToSum_X1_addRowToSum
set_option maxRecDepth 20000 in
theorem ggX1_addRowToSum_X1_hasHole : GoodIn wsX1_addRowToSum wsX1_hasHole := goodIn_ca (goodIn_r _ [6, 7, 8, 9, 5, 10, 11, 12] (by decide +kernel) (by decide +kernel)) (goodIn_sub (fun _ h => List.mem_cons_of_mem _ (List.mem_append_right _ h)) (by decide +kernel))
set_option maxRecDepth 20000 in
theorem gX1_addRowToSum_X1_hasHole : GoodIn wsX1_addRowToSum (wsV RX1 31 RX1 yX1_hasHole wsX1_hasHole) := goodIn_app (goodIn_of _ (by decide +kernel)) ggX1_addRowToSum_X1_hasHole

