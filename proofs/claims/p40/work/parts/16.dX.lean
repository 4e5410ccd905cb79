theorem dX6_init_0 : decode cX6_init 0 = .ok (.aload_n 0, 1) := by decide +kernel
theorem dX6_init_1 : decode cX6_init 1 = .ok (.invokespecial 1, 3) := by decide +kernel
theorem dX6_init_4 : decode cX6_init 4 = .ok (.aload_n 0, 1) := by decide +kernel
theorem dX6_init_5 : decode cX6_init 5 = .ok (.iconst 4, 1) := by decide +kernel
theorem dX6_init_6 : decode cX6_init 6 = .ok (.anewarray 9, 3) := by decide +kernel
theorem dX6_init_9 : decode cX6_init 9 = .ok (.putfield 11, 3) := by decide +kernel
theorem dX6_init_12 : decode cX6_init 12 = .ok (.aload_n 0, 1) := by decide +kernel
theorem dX6_init_13 : decode cX6_init 13 = .ok (.new 15, 3) := by decide +kernel
theorem dX6_init_16 : decode cX6_init 16 = .ok (.dup, 1) := by decide +kernel
theorem dX6_init_17 : decode cX6_init 17 = .ok (.invokespecial 17, 3) := by decide +kernel
theorem dX6_init_20 : decode cX6_init 20 = .ok (.putfield 18, 3) := by decide +kernel
theorem dX6_init_23 : decode cX6_init 23 = .ok (.aload_n 0, 1) := by decide +kernel
theorem dX6_init_24 : decode cX6_init 24 = .ok (.new 22, 3) := by decide +kernel
theorem dX6_init_27 : decode cX6_init 27 = .ok (.dup, 1) := by decide +kernel
theorem dX6_init_28 : decode cX6_init 28 = .ok (.invokespecial 24, 3) := by decide +kernel
theorem dX6_init_31 : decode cX6_init 31 = .ok (.putfield 25, 3) := by decide +kernel
theorem dX6_init_34 : decode cX6_init 34 = .ok (.aload_n 0, 1) := by decide +kernel
theorem dX6_init_35 : decode cX6_init 35 = .ok (.aload_n 0, 1) := by decide +kernel
theorem dX6_init_36 : decode cX6_init 36 = .ok (.getfield 25, 3) := by decide +kernel
theorem dX6_init_39 : decode cX6_init 39 = .ok (.getfield 29, 3) := by decide +kernel
theorem dX6_init_42 : decode cX6_init 42 = .ok (.putfield 33, 3) := by decide +kernel
theorem dX6_init_45 : decode cX6_init 45 = .ok (.aload_n 0, 1) := by decide +kernel
theorem dX6_init_46 : decode cX6_init 46 = .ok (.aload_n 0, 1) := by decide +kernel
theorem dX6_init_47 : decode cX6_init 47 = .ok (.getfield 25, 3) := by decide +kernel
theorem dX6_init_50 : decode cX6_init 50 = .ok (.getfield 34, 3) := by decide +kernel
theorem dX6_init_53 : decode cX6_init 53 = .ok (.putfield 38, 3) := by decide +kernel
theorem dX6_init_56 : decode cX6_init 56 = .ok (.aload_n 0, 1) := by decide +kernel
theorem dX6_init_57 : decode cX6_init 57 = .ok (.aload_n 0, 1) := by decide +kernel
theorem dX6_init_58 : decode cX6_init 58 = .ok (.getfield 25, 3) := by decide +kernel
theorem dX6_init_61 : decode cX6_init 61 = .ok (.getfield 39, 3) := by decide +kernel
theorem dX6_init_64 : decode cX6_init 64 = .ok (.putfield 43, 3) := by decide +kernel
theorem dX6_init_67 : decode cX6_init 67 = .ok (.aload_n 0, 1) := by decide +kernel
theorem dX6_init_68 : decode cX6_init 68 = .ok (.iconst 0, 1) := by decide +kernel
theorem dX6_init_69 : decode cX6_init 69 = .ok (.putfield 44, 3) := by decide +kernel
theorem dX6_init_72 : decode cX6_init 72 = .ok (.aload_n 0, 1) := by decide +kernel
theorem dX6_init_73 : decode cX6_init 73 = .ok (.iconst (-1), 1) := by decide +kernel
theorem dX6_init_74 : decode cX6_init 74 = .ok (.putfield 48, 3) := by decide +kernel
theorem dX6_init_77 : decode cX6_init 77 = .ok (.aload_n 0, 1) := by decide +kernel
theorem dX6_init_78 : decode cX6_init 78 = .ok (.sipush 400, 3) := by decide +kernel
theorem dX6_init_81 : decode cX6_init 81 = .ok (.putfield 51, 3) := by decide +kernel
theorem dX6_init_84 : decode cX6_init 84 = .ok (.aload_n 0, 1) := by decide +kernel
theorem dX6_init_85 : decode cX6_init 85 = .ok (.iconst 0, 1) := by decide +kernel
theorem dX6_init_86 : decode cX6_init 86 = .ok (.putfield 54, 3) := by decide +kernel
theorem dX6_init_89 : decode cX6_init 89 = .ok (.iconst 0, 1) := by decide +kernel
theorem dX6_init_90 : decode cX6_init 90 = .ok (.istore_n 1, 1) := by decide +kernel
theorem dX6_init_91 : decode cX6_init 91 = .ok (.iload_n 1, 1) := by decide +kernel
theorem dX6_init_92 : decode cX6_init 92 = .ok (.iconst 4, 1) := by decide +kernel
theorem dX6_init_93 : decode cX6_init 93 = .ok (.if_icmp .ge 22, 3) := by decide +kernel
theorem dX6_init_96 : decode cX6_init 96 = .ok (.aload_n 0, 1) := by decide +kernel
theorem dX6_init_97 : decode cX6_init 97 = .ok (.getfield 11, 3) := by decide +kernel
theorem dX6_init_100 : decode cX6_init 100 = .ok (.iload_n 1, 1) := by decide +kernel
theorem dX6_init_101 : decode cX6_init 101 = .ok (.new 9, 3) := by decide +kernel
theorem dX6_init_104 : decode cX6_init 104 = .ok (.dup, 1) := by decide +kernel
theorem dX6_init_105 : decode cX6_init 105 = .ok (.invokespecial 57, 3) := by decide +kernel
theorem dX6_init_108 : decode cX6_init 108 = .ok (.aastore, 1) := by decide +kernel
theorem dX6_init_109 : decode cX6_init 109 = .ok (.iinc 1 1, 3) := by decide +kernel
theorem dX6_init_112 : decode cX6_init 112 = .ok (.goto (-21), 3) := by decide +kernel
theorem dX6_init_115 : decode cX6_init 115 = .ok (.return_, 1) := by decide +kernel
theorem dX6_roll_0 : decode cX6_roll 0 = .ok (.aload_n 0, 1) := by decide +kernel
theorem dX6_roll_1 : decode cX6_roll 1 = .ok (.invokevirtual 58, 3) := by decide +kernel
theorem dX6_roll_4 : decode cX6_roll 4 = .ok (.aload_n 0, 1) := by decide +kernel
theorem dX6_roll_5 : decode cX6_roll 5 = .ok (.invokevirtual 61, 3) := by decide +kernel
theorem dX6_roll_8 : decode cX6_roll 8 = .ok (.ireturn, 1) := by decide +kernel
theorem dX6_punch_0 : decode cX6_punch 0 = .ok (.aload_n 0, 1) := by decide +kernel
theorem dX6_punch_1 : decode cX6_punch 1 = .ok (.iload_n 1, 1) := by decide +kernel
theorem dX6_punch_2 : decode cX6_punch 2 = .ok (.invokevirtual 65, 3) := by decide +kernel
theorem dX6_punch_5 : decode cX6_punch 5 = .ok (.astore 5, 2) := by decide +kernel
theorem dX6_punch_7 : decode cX6_punch 7 = .ok (.iload_n 2, 1) := by decide +kernel
theorem dX6_punch_8 : decode cX6_punch 8 = .ok (.iconst 0, 1) := by decide +kernel
theorem dX6_punch_9 : decode cX6_punch 9 = .ok (.sipush 199, 3) := by decide +kernel
theorem dX6_punch_12 : decode cX6_punch 12 = .ok (.invokestatic 69, 3) := by decide +kernel
theorem dX6_punch_15 : decode cX6_punch 15 = .ok (.iload_n 3, 1) := by decide +kernel
theorem dX6_punch_16 : decode cX6_punch 16 = .ok (.iconst 0, 1) := by decide +kernel
theorem dX6_punch_17 : decode cX6_punch 17 = .ok (.bipush 15, 2) := by decide +kernel
theorem dX6_punch_19 : decode cX6_punch 19 = .ok (.invokestatic 69, 3) := by decide +kernel
theorem dX6_punch_22 : decode cX6_punch 22 = .ok (.aload 5, 2) := by decide +kernel
theorem dX6_punch_24 : decode cX6_punch 24 = .ok (.iload_n 2, 1) := by decide +kernel
theorem dX6_punch_25 : decode cX6_punch 25 = .ok (.iload_n 3, 1) := by decide +kernel
theorem dX6_punch_26 : decode cX6_punch 26 = .ok (.invokevirtual 73, 3) := by decide +kernel
theorem dX6_punch_29 : decode cX6_punch 29 = .ok (.istore 6, 2) := by decide +kernel
theorem dX6_punch_31 : decode cX6_punch 31 = .ok (.iload 6, 2) := by decide +kernel
theorem dX6_punch_33 : decode cX6_punch 33 = .ok (.iload 4, 2) := by decide +kernel
theorem dX6_punch_35 : decode cX6_punch 35 = .ok (.if_icmp .eq 17, 3) := by decide +kernel
theorem dX6_punch_38 : decode cX6_punch 38 = .ok (.aload 5, 2) := by decide +kernel
theorem dX6_punch_40 : decode cX6_punch 40 = .ok (.iload_n 2, 1) := by decide +kernel
theorem dX6_punch_41 : decode cX6_punch 41 = .ok (.iload_n 3, 1) := by decide +kernel
theorem dX6_punch_42 : decode cX6_punch 42 = .ok (.iload 4, 2) := by decide +kernel
theorem dX6_punch_44 : decode cX6_punch 44 = .ok (.invokevirtual 77, 3) := by decide +kernel
theorem dX6_punch_47 : decode cX6_punch 47 = .ok (.aload_n 0, 1) := by decide +kernel
theorem dX6_punch_48 : decode cX6_punch 48 = .ok (.iload_n 1, 1) := by decide +kernel
theorem dX6_punch_49 : decode cX6_punch 49 = .ok (.invokevirtual 81, 3) := by decide +kernel
theorem dX6_punch_52 : decode cX6_punch 52 = .ok (.iload 6, 2) := by decide +kernel
theorem dX6_punch_54 : decode cX6_punch 54 = .ok (.ireturn, 1) := by decide +kernel
theorem dX6_hole_0 : decode cX6_hole 0 = .ok (.aload_n 0, 1) := by decide +kernel
theorem dX6_hole_1 : decode cX6_hole 1 = .ok (.iload_n 1, 1) := by decide +kernel
theorem dX6_hole_2 : decode cX6_hole 2 = .ok (.invokevirtual 65, 3) := by decide +kernel
theorem dX6_hole_5 : decode cX6_hole 5 = .ok (.astore 4, 2) := by decide +kernel
theorem dX6_hole_7 : decode cX6_hole 7 = .ok (.iload_n 2, 1) := by decide +kernel
theorem dX6_hole_8 : decode cX6_hole 8 = .ok (.iconst 0, 1) := by decide +kernel
theorem dX6_hole_9 : decode cX6_hole 9 = .ok (.sipush 199, 3) := by decide +kernel
theorem dX6_hole_12 : decode cX6_hole 12 = .ok (.invokestatic 69, 3) := by decide +kernel
theorem dX6_hole_15 : decode cX6_hole 15 = .ok (.iload_n 3, 1) := by decide +kernel
theorem dX6_hole_16 : decode cX6_hole 16 = .ok (.iconst 0, 1) := by decide +kernel
theorem dX6_hole_17 : decode cX6_hole 17 = .ok (.bipush 15, 2) := by decide +kernel
theorem dX6_hole_19 : decode cX6_hole 19 = .ok (.invokestatic 69, 3) := by decide +kernel
theorem dX6_hole_22 : decode cX6_hole 22 = .ok (.aload 4, 2) := by decide +kernel
theorem dX6_hole_24 : decode cX6_hole 24 = .ok (.iload_n 2, 1) := by decide +kernel
theorem dX6_hole_25 : decode cX6_hole 25 = .ok (.iload_n 3, 1) := by decide +kernel
theorem dX6_hole_26 : decode cX6_hole 26 = .ok (.invokevirtual 73, 3) := by decide +kernel
theorem dX6_hole_29 : decode cX6_hole 29 = .ok (.ireturn, 1) := by decide +kernel
theorem dX6_length_0 : decode cX6_length 0 = .ok (.aload_n 0, 1) := by decide +kernel
theorem dX6_length_1 : decode cX6_length 1 = .ok (.iload_n 1, 1) := by decide +kernel
theorem dX6_length_2 : decode cX6_length 2 = .ok (.invokevirtual 65, 3) := by decide +kernel
theorem dX6_length_5 : decode cX6_length 5 = .ok (.invokevirtual 85, 3) := by decide +kernel
theorem dX6_length_8 : decode cX6_length 8 = .ok (.ireturn, 1) := by decide +kernel
theorem dX6_holes_0 : decode cX6_holes 0 = .ok (.aload_n 0, 1) := by decide +kernel
theorem dX6_holes_1 : decode cX6_holes 1 = .ok (.iload_n 1, 1) := by decide +kernel
theorem dX6_holes_2 : decode cX6_holes 2 = .ok (.invokevirtual 65, 3) := by decide +kernel
theorem dX6_holes_5 : decode cX6_holes 5 = .ok (.astore_n 3, 1) := by decide +kernel
theorem dX6_holes_6 : decode cX6_holes 6 = .ok (.iload_n 2, 1) := by decide +kernel
theorem dX6_holes_7 : decode cX6_holes 7 = .ok (.iconst 0, 1) := by decide +kernel
theorem dX6_holes_8 : decode cX6_holes 8 = .ok (.bipush 15, 2) := by decide +kernel
theorem dX6_holes_10 : decode cX6_holes 10 = .ok (.invokestatic 69, 3) := by decide +kernel
theorem dX6_holes_13 : decode cX6_holes 13 = .ok (.aload_n 3, 1) := by decide +kernel
theorem dX6_holes_14 : decode cX6_holes 14 = .ok (.iconst 1, 1) := by decide +kernel
theorem dX6_holes_15 : decode cX6_holes 15 = .ok (.iload_n 2, 1) := by decide +kernel
theorem dX6_holes_16 : decode cX6_holes 16 = .ok (.ishl, 1) := by decide +kernel
theorem dX6_holes_17 : decode cX6_holes 17 = .ok (.invokevirtual 88, 3) := by decide +kernel
theorem dX6_holes_20 : decode cX6_holes 20 = .ok (.ireturn, 1) := by decide +kernel
theorem dX6_copy_0 : decode cX6_copy 0 = .ok (.aload_n 0, 1) := by decide +kernel
theorem dX6_copy_1 : decode cX6_copy 1 = .ok (.iload_n 1, 1) := by decide +kernel
theorem dX6_copy_2 : decode cX6_copy 2 = .ok (.invokevirtual 65, 3) := by decide +kernel
theorem dX6_copy_5 : decode cX6_copy 5 = .ok (.astore_n 2, 1) := by decide +kernel
theorem dX6_copy_6 : decode cX6_copy 6 = .ok (.aload_n 0, 1) := by decide +kernel
theorem dX6_copy_7 : decode cX6_copy 7 = .ok (.invokevirtual 58, 3) := by decide +kernel
theorem dX6_copy_10 : decode cX6_copy 10 = .ok (.aload_n 0, 1) := by decide +kernel
theorem dX6_copy_11 : decode cX6_copy 11 = .ok (.invokevirtual 61, 3) := by decide +kernel
theorem dX6_copy_14 : decode cX6_copy 14 = .ok (.istore_n 3, 1) := by decide +kernel
theorem dX6_copy_15 : decode cX6_copy 15 = .ok (.aload_n 0, 1) := by decide +kernel
theorem dX6_copy_16 : decode cX6_copy 16 = .ok (.iload_n 3, 1) := by decide +kernel
theorem dX6_copy_17 : decode cX6_copy 17 = .ok (.invokevirtual 65, 3) := by decide +kernel
theorem dX6_copy_20 : decode cX6_copy 20 = .ok (.aload_n 2, 1) := by decide +kernel
theorem dX6_copy_21 : decode cX6_copy 21 = .ok (.invokevirtual 92, 3) := by decide +kernel
theorem dX6_copy_24 : decode cX6_copy 24 = .ok (.iload_n 3, 1) := by decide +kernel
theorem dX6_copy_25 : decode cX6_copy 25 = .ok (.ireturn, 1) := by decide +kernel
theorem dX6_unlike_0 : decode cX6_unlike 0 = .ok (.aload_n 0, 1) := by decide +kernel
theorem dX6_unlike_1 : decode cX6_unlike 1 = .ok (.iload_n 1, 1) := by decide +kernel
theorem dX6_unlike_2 : decode cX6_unlike 2 = .ok (.invokevirtual 65, 3) := by decide +kernel
theorem dX6_unlike_5 : decode cX6_unlike 5 = .ok (.astore_n 3, 1) := by decide +kernel
theorem dX6_unlike_6 : decode cX6_unlike 6 = .ok (.aload_n 3, 1) := by decide +kernel
theorem dX6_unlike_7 : decode cX6_unlike 7 = .ok (.aload_n 0, 1) := by decide +kernel
theorem dX6_unlike_8 : decode cX6_unlike 8 = .ok (.iload_n 2, 1) := by decide +kernel
theorem dX6_unlike_9 : decode cX6_unlike 9 = .ok (.invokevirtual 65, 3) := by decide +kernel
theorem dX6_unlike_12 : decode cX6_unlike 12 = .ok (.invokevirtual 96, 3) := by decide +kernel
theorem dX6_unlike_15 : decode cX6_unlike 15 = .ok (.ireturn, 1) := by decide +kernel
theorem dX6_parent_0 : decode cX6_parent 0 = .ok (.aload_n 0, 1) := by decide +kernel
theorem dX6_parent_1 : decode cX6_parent 1 = .ok (.iload_n 1, 1) := by decide +kernel
theorem dX6_parent_2 : decode cX6_parent 2 = .ok (.invokevirtual 65, 3) := by decide +kernel
theorem dX6_parent_5 : decode cX6_parent 5 = .ok (.astore_n 2, 1) := by decide +kernel
theorem dX6_parent_6 : decode cX6_parent 6 = .ok (.iload_n 1, 1) := by decide +kernel
theorem dX6_parent_7 : decode cX6_parent 7 = .ok (.ifCond .ne 13, 3) := by decide +kernel
theorem dX6_parent_10 : decode cX6_parent 10 = .ok (.new 100, 3) := by decide +kernel
theorem dX6_parent_13 : decode cX6_parent 13 = .ok (.dup, 1) := by decide +kernel
theorem dX6_parent_14 : decode cX6_parent 14 = .ok (.ldc 102, 2) := by decide +kernel
theorem dX6_parent_16 : decode cX6_parent 16 = .ok (.invokespecial 104, 3) := by decide +kernel
theorem dX6_parent_19 : decode cX6_parent 19 = .ok (.athrow, 1) := by decide +kernel
theorem dX6_parent_20 : decode cX6_parent 20 = .ok (.iconst 0, 1) := by decide +kernel
theorem dX6_parent_21 : decode cX6_parent 21 = .ok (.istore_n 3, 1) := by decide +kernel
theorem dX6_parent_22 : decode cX6_parent 22 = .ok (.aload_n 2, 1) := by decide +kernel
theorem dX6_parent_23 : decode cX6_parent 23 = .ok (.aload_n 0, 1) := by decide +kernel
theorem dX6_parent_24 : decode cX6_parent 24 = .ok (.iconst 0, 1) := by decide +kernel
theorem dX6_parent_25 : decode cX6_parent 25 = .ok (.invokevirtual 65, 3) := by decide +kernel
theorem dX6_parent_28 : decode cX6_parent 28 = .ok (.invokevirtual 96, 3) := by decide +kernel
theorem dX6_parent_31 : decode cX6_parent 31 = .ok (.istore 4, 2) := by decide +kernel
theorem dX6_parent_33 : decode cX6_parent 33 = .ok (.iconst 1, 1) := by decide +kernel
theorem dX6_parent_34 : decode cX6_parent 34 = .ok (.istore 5, 2) := by decide +kernel
theorem dX6_parent_36 : decode cX6_parent 36 = .ok (.iload 5, 2) := by decide +kernel
theorem dX6_parent_38 : decode cX6_parent 38 = .ok (.iload_n 1, 1) := by decide +kernel
theorem dX6_parent_39 : decode cX6_parent 39 = .ok (.if_icmp .ge 35, 3) := by decide +kernel
theorem dX6_parent_42 : decode cX6_parent 42 = .ok (.aload_n 2, 1) := by decide +kernel
theorem dX6_parent_43 : decode cX6_parent 43 = .ok (.aload_n 0, 1) := by decide +kernel
theorem dX6_parent_44 : decode cX6_parent 44 = .ok (.iload 5, 2) := by decide +kernel
theorem dX6_parent_46 : decode cX6_parent 46 = .ok (.invokevirtual 65, 3) := by decide +kernel
theorem dX6_parent_49 : decode cX6_parent 49 = .ok (.invokevirtual 96, 3) := by decide +kernel
theorem dX6_parent_52 : decode cX6_parent 52 = .ok (.istore 6, 2) := by decide +kernel
theorem dX6_parent_54 : decode cX6_parent 54 = .ok (.iload 6, 2) := by decide +kernel
theorem dX6_parent_56 : decode cX6_parent 56 = .ok (.iload 4, 2) := by decide +kernel
theorem dX6_parent_58 : decode cX6_parent 58 = .ok (.if_icmp .ge 10, 3) := by decide +kernel
theorem dX6_parent_61 : decode cX6_parent 61 = .ok (.iload 5, 2) := by decide +kernel
theorem dX6_parent_63 : decode cX6_parent 63 = .ok (.istore_n 3, 1) := by decide +kernel
theorem dX6_parent_64 : decode cX6_parent 64 = .ok (.iload 6, 2) := by decide +kernel
theorem dX6_parent_66 : decode cX6_parent 66 = .ok (.istore 4, 2) := by decide +kernel
theorem dX6_parent_68 : decode cX6_parent 68 = .ok (.iinc 5 1, 3) := by decide +kernel
theorem dX6_parent_71 : decode cX6_parent 71 = .ok (.goto (-35), 3) := by decide +kernel
theorem dX6_parent_74 : decode cX6_parent 74 = .ok (.iload_n 3, 1) := by decide +kernel
theorem dX6_parent_75 : decode cX6_parent 75 = .ok (.ireturn, 1) := by decide +kernel
theorem dX6_note_0 : decode cX6_note 0 = .ok (.iload_n 1, 1) := by decide +kernel
theorem dX6_note_1 : decode cX6_note 1 = .ok (.iconst 0, 1) := by decide +kernel
theorem dX6_note_2 : decode cX6_note 2 = .ok (.sipush 199, 3) := by decide +kernel
theorem dX6_note_5 : decode cX6_note 5 = .ok (.invokestatic 69, 3) := by decide +kernel
theorem dX6_note_8 : decode cX6_note 8 = .ok (.iload_n 2, 1) := by decide +kernel
theorem dX6_note_9 : decode cX6_note 9 = .ok (.iconst 1, 1) := by decide +kernel
theorem dX6_note_10 : decode cX6_note 10 = .ok (.bipush 60, 2) := by decide +kernel
theorem dX6_note_12 : decode cX6_note 12 = .ok (.invokestatic 69, 3) := by decide +kernel
theorem dX6_note_15 : decode cX6_note 15 = .ok (.iload_n 3, 1) := by decide +kernel
theorem dX6_note_16 : decode cX6_note 16 = .ok (.iconst 0, 1) := by decide +kernel
theorem dX6_note_17 : decode cX6_note 17 = .ok (.bipush 11, 2) := by decide +kernel
theorem dX6_note_19 : decode cX6_note 19 = .ok (.invokestatic 69, 3) := by decide +kernel
theorem dX6_note_22 : decode cX6_note 22 = .ok (.iload_n 1, 1) := by decide +kernel
theorem dX6_note_23 : decode cX6_note 23 = .ok (.iload_n 2, 1) := by decide +kernel
theorem dX6_note_24 : decode cX6_note 24 = .ok (.iadd, 1) := by decide +kernel
theorem dX6_note_25 : decode cX6_note 25 = .ok (.iconst 1, 1) := by decide +kernel
theorem dX6_note_26 : decode cX6_note 26 = .ok (.isub, 1) := by decide +kernel
theorem dX6_note_27 : decode cX6_note 27 = .ok (.iconst 0, 1) := by decide +kernel
theorem dX6_note_28 : decode cX6_note 28 = .ok (.sipush 199, 3) := by decide +kernel
theorem dX6_note_31 : decode cX6_note 31 = .ok (.invokestatic 69, 3) := by decide +kernel
theorem dX6_note_34 : decode cX6_note 34 = .ok (.aload_n 0, 1) := by decide +kernel
theorem dX6_note_35 : decode cX6_note 35 = .ok (.getfield 18, 3) := by decide +kernel
theorem dX6_note_38 : decode cX6_note 38 = .ok (.iload_n 1, 1) := by decide +kernel
theorem dX6_note_39 : decode cX6_note 39 = .ok (.iload_n 2, 1) := by decide +kernel
theorem dX6_note_40 : decode cX6_note 40 = .ok (.iload_n 3, 1) := by decide +kernel
theorem dX6_note_41 : decode cX6_note 41 = .ok (.invokevirtual 107, 3) := by decide +kernel
theorem dX6_note_44 : decode cX6_note 44 = .ok (.ifCond .eq 13, 3) := by decide +kernel
theorem dX6_note_47 : decode cX6_note 47 = .ok (.new 111, 3) := by decide +kernel
theorem dX6_note_50 : decode cX6_note 50 = .ok (.dup, 1) := by decide +kernel
theorem dX6_note_51 : decode cX6_note 51 = .ok (.ldc 113, 2) := by decide +kernel
theorem dX6_note_53 : decode cX6_note 53 = .ok (.invokespecial 115, 3) := by decide +kernel
theorem dX6_note_56 : decode cX6_note 56 = .ok (.athrow, 1) := by decide +kernel
theorem dX6_note_57 : decode cX6_note 57 = .ok (.aload_n 0, 1) := by decide +kernel
theorem dX6_note_58 : decode cX6_note 58 = .ok (.getfield 18, 3) := by decide +kernel
theorem dX6_note_61 : decode cX6_note 61 = .ok (.invokevirtual 116, 3) := by decide +kernel
theorem dX6_note_64 : decode cX6_note 64 = .ok (.ifCond .eq 13, 3) := by decide +kernel
theorem dX6_note_67 : decode cX6_note 67 = .ok (.new 120, 3) := by decide +kernel
theorem dX6_note_70 : decode cX6_note 70 = .ok (.dup, 1) := by decide +kernel
theorem dX6_note_71 : decode cX6_note 71 = .ok (.ldc 122, 2) := by decide +kernel
theorem dX6_note_73 : decode cX6_note 73 = .ok (.invokespecial 124, 3) := by decide +kernel
theorem dX6_note_76 : decode cX6_note 76 = .ok (.athrow, 1) := by decide +kernel
theorem dX6_note_77 : decode cX6_note 77 = .ok (.aload_n 0, 1) := by decide +kernel
theorem dX6_note_78 : decode cX6_note 78 = .ok (.iconst (-1), 1) := by decide +kernel
theorem dX6_note_79 : decode cX6_note 79 = .ok (.putfield 48, 3) := by decide +kernel
theorem dX6_note_82 : decode cX6_note 82 = .ok (.aload_n 0, 1) := by decide +kernel
theorem dX6_note_83 : decode cX6_note 83 = .ok (.getfield 18, 3) := by decide +kernel
theorem dX6_note_86 : decode cX6_note 86 = .ok (.iload_n 1, 1) := by decide +kernel
theorem dX6_note_87 : decode cX6_note 87 = .ok (.iload_n 2, 1) := by decide +kernel
theorem dX6_note_88 : decode cX6_note 88 = .ok (.iload_n 3, 1) := by decide +kernel
theorem dX6_note_89 : decode cX6_note 89 = .ok (.invokevirtual 125, 3) := by decide +kernel
theorem dX6_note_92 : decode cX6_note 92 = .ok (.ireturn, 1) := by decide +kernel
theorem dX6_wipe_0 : decode cX6_wipe 0 = .ok (.aload_n 0, 1) := by decide +kernel
theorem dX6_wipe_1 : decode cX6_wipe 1 = .ok (.iconst (-1), 1) := by decide +kernel
theorem dX6_wipe_2 : decode cX6_wipe 2 = .ok (.putfield 48, 3) := by decide +kernel
theorem dX6_wipe_5 : decode cX6_wipe 5 = .ok (.aload_n 0, 1) := by decide +kernel
theorem dX6_wipe_6 : decode cX6_wipe 6 = .ok (.getfield 18, 3) := by decide +kernel
theorem dX6_wipe_9 : decode cX6_wipe 9 = .ok (.invokevirtual 129, 3) := by decide +kernel
theorem dX6_wipe_12 : decode cX6_wipe 12 = .ok (.ireturn, 1) := by decide +kernel
theorem dX6_arrange_0 : decode cX6_arrange 0 = .ok (.aload_n 0, 1) := by decide +kernel
theorem dX6_arrange_1 : decode cX6_arrange 1 = .ok (.iload_n 1, 1) := by decide +kernel
theorem dX6_arrange_2 : decode cX6_arrange 2 = .ok (.invokevirtual 65, 3) := by decide +kernel
theorem dX6_arrange_5 : decode cX6_arrange 5 = .ok (.astore_n 3, 1) := by decide +kernel
theorem dX6_arrange_6 : decode cX6_arrange 6 = .ok (.aload_n 3, 1) := by decide +kernel
theorem dX6_arrange_7 : decode cX6_arrange 7 = .ok (.invokevirtual 132, 3) := by decide +kernel
theorem dX6_arrange_10 : decode cX6_arrange 10 = .ok (.aload_n 0, 1) := by decide +kernel
theorem dX6_arrange_11 : decode cX6_arrange 11 = .ok (.getfield 18, 3) := by decide +kernel
theorem dX6_arrange_14 : decode cX6_arrange 14 = .ok (.aload_n 3, 1) := by decide +kernel
theorem dX6_arrange_15 : decode cX6_arrange 15 = .ok (.iload_n 2, 1) := by decide +kernel
theorem dX6_arrange_16 : decode cX6_arrange 16 = .ok (.invokevirtual 135, 3) := by decide +kernel
theorem dX6_arrange_19 : decode cX6_arrange 19 = .ok (.aload_n 0, 1) := by decide +kernel
theorem dX6_arrange_20 : decode cX6_arrange 20 = .ok (.iload_n 1, 1) := by decide +kernel
theorem dX6_arrange_21 : decode cX6_arrange 21 = .ok (.putfield 48, 3) := by decide +kernel
theorem dX6_arrange_24 : decode cX6_arrange 24 = .ok (.aload_n 3, 1) := by decide +kernel
theorem dX6_arrange_25 : decode cX6_arrange 25 = .ok (.sipush 4095, 3) := by decide +kernel
theorem dX6_arrange_28 : decode cX6_arrange 28 = .ok (.invokevirtual 88, 3) := by decide +kernel
theorem dX6_arrange_31 : decode cX6_arrange 31 = .ok (.ireturn, 1) := by decide +kernel
theorem dX6_scanned_0 : decode cX6_scanned 0 = .ok (.aload_n 0, 1) := by decide +kernel
theorem dX6_scanned_1 : decode cX6_scanned 1 = .ok (.iload_n 1, 1) := by decide +kernel
theorem dX6_scanned_2 : decode cX6_scanned 2 = .ok (.invokevirtual 65, 3) := by decide +kernel
theorem dX6_scanned_5 : decode cX6_scanned 5 = .ok (.invokevirtual 139, 3) := by decide +kernel
theorem dX6_scanned_8 : decode cX6_scanned 8 = .ok (.ireturn, 1) := by decide +kernel
theorem dX6_scan_0 : decode cX6_scan 0 = .ok (.aload_n 0, 1) := by decide +kernel
theorem dX6_scan_1 : decode cX6_scan 1 = .ok (.iload_n 1, 1) := by decide +kernel
theorem dX6_scan_2 : decode cX6_scan 2 = .ok (.invokevirtual 65, 3) := by decide +kernel
theorem dX6_scan_5 : decode cX6_scan 5 = .ok (.astore 4, 2) := by decide +kernel
theorem dX6_scan_7 : decode cX6_scan 7 = .ok (.iload_n 3, 1) := by decide +kernel
theorem dX6_scan_8 : decode cX6_scan 8 = .ok (.bipush 102, 2) := by decide +kernel
theorem dX6_scan_10 : decode cX6_scan 10 = .ok (.if_icmp .eq 25, 3) := by decide +kernel
theorem dX6_scan_13 : decode cX6_scan 13 = .ok (.iload_n 3, 1) := by decide +kernel
theorem dX6_scan_14 : decode cX6_scan 14 = .ok (.bipush 108, 2) := by decide +kernel
theorem dX6_scan_16 : decode cX6_scan 16 = .ok (.if_icmp .eq 19, 3) := by decide +kernel
theorem dX6_scan_19 : decode cX6_scan 19 = .ok (.iload_n 3, 1) := by decide +kernel
theorem dX6_scan_20 : decode cX6_scan 20 = .ok (.bipush 112, 2) := by decide +kernel
theorem dX6_scan_22 : decode cX6_scan 22 = .ok (.if_icmp .eq 13, 3) := by decide +kernel
theorem dX6_scan_25 : decode cX6_scan 25 = .ok (.new 142, 3) := by decide +kernel
theorem dX6_scan_28 : decode cX6_scan 28 = .ok (.dup, 1) := by decide +kernel
theorem dX6_scan_29 : decode cX6_scan 29 = .ok (.ldc 144, 2) := by decide +kernel
theorem dX6_scan_31 : decode cX6_scan 31 = .ok (.invokespecial 146, 3) := by decide +kernel
theorem dX6_scan_34 : decode cX6_scan 34 = .ok (.athrow, 1) := by decide +kernel
theorem dX6_scan_35 : decode cX6_scan 35 = .ok (.aload 4, 2) := by decide +kernel
theorem dX6_scan_37 : decode cX6_scan 37 = .ok (.iload_n 2, 1) := by decide +kernel
theorem dX6_scan_38 : decode cX6_scan 38 = .ok (.invokevirtual 147, 3) := by decide +kernel
theorem dX6_scan_41 : decode cX6_scan 41 = .ok (.istore 5, 2) := by decide +kernel
theorem dX6_scan_43 : decode cX6_scan 43 = .ok (.iload 5, 2) := by decide +kernel
theorem dX6_scan_45 : decode cX6_scan 45 = .ok (.iconst (-1), 1) := by decide +kernel
theorem dX6_scan_46 : decode cX6_scan 46 = .ok (.if_icmp .ne 13, 3) := by decide +kernel
theorem dX6_scan_49 : decode cX6_scan 49 = .ok (.new 100, 3) := by decide +kernel
theorem dX6_scan_52 : decode cX6_scan 52 = .ok (.dup, 1) := by decide +kernel
theorem dX6_scan_53 : decode cX6_scan 53 = .ok (.ldc 150, 2) := by decide +kernel
theorem dX6_scan_55 : decode cX6_scan 55 = .ok (.invokespecial 104, 3) := by decide +kernel
theorem dX6_scan_58 : decode cX6_scan 58 = .ok (.athrow, 1) := by decide +kernel
theorem dX6_scan_59 : decode cX6_scan 59 = .ok (.iload 5, 2) := by decide +kernel
theorem dX6_scan_61 : decode cX6_scan 61 = .ok (.bipush 16, 2) := by decide +kernel
theorem dX6_scan_63 : decode cX6_scan 63 = .ok (.idiv, 1) := by decide +kernel
theorem dX6_scan_64 : decode cX6_scan 64 = .ok (.istore 6, 2) := by decide +kernel
theorem dX6_scan_66 : decode cX6_scan 66 = .ok (.iload 5, 2) := by decide +kernel
theorem dX6_scan_68 : decode cX6_scan 68 = .ok (.bipush 16, 2) := by decide +kernel
theorem dX6_scan_70 : decode cX6_scan 70 = .ok (.irem, 1) := by decide +kernel
theorem dX6_scan_71 : decode cX6_scan 71 = .ok (.istore 7, 2) := by decide +kernel
theorem dX6_scan_73 : decode cX6_scan 73 = .ok (.iload_n 3, 1) := by decide +kernel
theorem dX6_scan_74 : decode cX6_scan 74 = .ok (.bipush 102, 2) := by decide +kernel
theorem dX6_scan_76 : decode cX6_scan 76 = .ok (.if_icmp .ne 6, 3) := by decide +kernel
theorem dX6_scan_79 : decode cX6_scan 79 = .ok (.iload 6, 2) := by decide +kernel
theorem dX6_scan_81 : decode cX6_scan 81 = .ok (.ireturn, 1) := by decide +kernel
theorem dX6_scan_82 : decode cX6_scan 82 = .ok (.iload_n 3, 1) := by decide +kernel
theorem dX6_scan_83 : decode cX6_scan 83 = .ok (.bipush 112, 2) := by decide +kernel
theorem dX6_scan_85 : decode cX6_scan 85 = .ok (.if_icmp .ne 8, 3) := by decide +kernel
theorem dX6_scan_88 : decode cX6_scan 88 = .ok (.iload 7, 2) := by decide +kernel
theorem dX6_scan_90 : decode cX6_scan 90 = .ok (.goto 12, 3) := by decide +kernel
theorem dX6_scan_93 : decode cX6_scan 93 = .ok (.aload 4, 2) := by decide +kernel
theorem dX6_scan_95 : decode cX6_scan 95 = .ok (.iload 6, 2) := by decide +kernel
theorem dX6_scan_97 : decode cX6_scan 97 = .ok (.iload 7, 2) := by decide +kernel
theorem dX6_scan_99 : decode cX6_scan 99 = .ok (.invokevirtual 152, 3) := by decide +kernel
theorem dX6_scan_102 : decode cX6_scan 102 = .ok (.ireturn, 1) := by decide +kernel
theorem dX6_isMusic_0 : decode cX6_isMusic 0 = .ok (.aload_n 0, 1) := by decide +kernel
theorem dX6_isMusic_1 : decode cX6_isMusic 1 = .ok (.getfield 18, 3) := by decide +kernel
theorem dX6_isMusic_4 : decode cX6_isMusic 4 = .ok (.aload_n 0, 1) := by decide +kernel
theorem dX6_isMusic_5 : decode cX6_isMusic 5 = .ok (.iload_n 1, 1) := by decide +kernel
theorem dX6_isMusic_6 : decode cX6_isMusic 6 = .ok (.invokevirtual 65, 3) := by decide +kernel
theorem dX6_isMusic_9 : decode cX6_isMusic 9 = .ok (.invokevirtual 156, 3) := by decide +kernel
theorem dX6_isMusic_12 : decode cX6_isMusic 12 = .ok (.ireturn, 1) := by decide +kernel
theorem dX6_valve_0 : decode cX6_valve 0 = .ok (.aload_n 0, 1) := by decide +kernel
theorem dX6_valve_1 : decode cX6_valve 1 = .ok (.iload_n 1, 1) := by decide +kernel
theorem dX6_valve_2 : decode cX6_valve 2 = .ok (.invokevirtual 160, 3) := by decide +kernel
theorem dX6_valve_5 : decode cX6_valve 5 = .ok (.astore 4, 2) := by decide +kernel
theorem dX6_valve_7 : decode cX6_valve 7 = .ok (.iload_n 2, 1) := by decide +kernel
theorem dX6_valve_8 : decode cX6_valve 8 = .ok (.iconst 0, 1) := by decide +kernel
theorem dX6_valve_9 : decode cX6_valve 9 = .ok (.iconst 5, 1) := by decide +kernel
theorem dX6_valve_10 : decode cX6_valve 10 = .ok (.invokestatic 69, 3) := by decide +kernel
theorem dX6_valve_13 : decode cX6_valve 13 = .ok (.iload_n 3, 1) := by decide +kernel
theorem dX6_valve_14 : decode cX6_valve 14 = .ok (.iconst 0, 1) := by decide +kernel
theorem dX6_valve_15 : decode cX6_valve 15 = .ok (.bipush 9, 2) := by decide +kernel
theorem dX6_valve_17 : decode cX6_valve 17 = .ok (.invokestatic 69, 3) := by decide +kernel
theorem dX6_valve_20 : decode cX6_valve 20 = .ok (.aload 4, 2) := by decide +kernel
theorem dX6_valve_22 : decode cX6_valve 22 = .ok (.getfield 164, 3) := by decide +kernel
theorem dX6_valve_25 : decode cX6_valve 25 = .ok (.istore 5, 2) := by decide +kernel
theorem dX6_valve_27 : decode cX6_valve 27 = .ok (.aload 4, 2) := by decide +kernel
theorem dX6_valve_29 : decode cX6_valve 29 = .ok (.iload_n 2, 1) := by decide +kernel
theorem dX6_valve_30 : decode cX6_valve 30 = .ok (.putfield 164, 3) := by decide +kernel
theorem dX6_valve_33 : decode cX6_valve 33 = .ok (.aload 4, 2) := by decide +kernel
theorem dX6_valve_35 : decode cX6_valve 35 = .ok (.iload_n 3, 1) := by decide +kernel
theorem dX6_valve_36 : decode cX6_valve 36 = .ok (.putfield 169, 3) := by decide +kernel
theorem dX6_valve_39 : decode cX6_valve 39 = .ok (.iload 5, 2) := by decide +kernel
theorem dX6_valve_41 : decode cX6_valve 41 = .ok (.ireturn, 1) := by decide +kernel
theorem dX6_use_0 : decode cX6_use 0 = .ok (.aload_n 0, 1) := by decide +kernel
theorem dX6_use_1 : decode cX6_use 1 = .ok (.iload_n 1, 1) := by decide +kernel
theorem dX6_use_2 : decode cX6_use 2 = .ok (.invokevirtual 160, 3) := by decide +kernel
theorem dX6_use_5 : decode cX6_use 5 = .ok (.astore_n 3, 1) := by decide +kernel
theorem dX6_use_6 : decode cX6_use 6 = .ok (.iload_n 2, 1) := by decide +kernel
theorem dX6_use_7 : decode cX6_use 7 = .ok (.iconst 0, 1) := by decide +kernel
theorem dX6_use_8 : decode cX6_use 8 = .ok (.bipush 99, 2) := by decide +kernel
theorem dX6_use_10 : decode cX6_use 10 = .ok (.invokestatic 69, 3) := by decide +kernel
theorem dX6_use_13 : decode cX6_use 13 = .ok (.aload_n 3, 1) := by decide +kernel
theorem dX6_use_14 : decode cX6_use 14 = .ok (.getfield 172, 3) := by decide +kernel
theorem dX6_use_17 : decode cX6_use 17 = .ok (.istore 4, 2) := by decide +kernel
theorem dX6_use_19 : decode cX6_use 19 = .ok (.aload_n 3, 1) := by decide +kernel
theorem dX6_use_20 : decode cX6_use 20 = .ok (.iload_n 2, 1) := by decide +kernel
theorem dX6_use_21 : decode cX6_use 21 = .ok (.putfield 172, 3) := by decide +kernel
theorem dX6_use_24 : decode cX6_use 24 = .ok (.iload 4, 2) := by decide +kernel
theorem dX6_use_26 : decode cX6_use 26 = .ok (.ireturn, 1) := by decide +kernel
theorem dX6_borrow_0 : decode cX6_borrow 0 = .ok (.aload_n 0, 1) := by decide +kernel
theorem dX6_borrow_1 : decode cX6_borrow 1 = .ok (.iload_n 1, 1) := by decide +kernel
theorem dX6_borrow_2 : decode cX6_borrow 2 = .ok (.invokevirtual 160, 3) := by decide +kernel
theorem dX6_borrow_5 : decode cX6_borrow 5 = .ok (.astore_n 3, 1) := by decide +kernel
theorem dX6_borrow_6 : decode cX6_borrow 6 = .ok (.aload_n 0, 1) := by decide +kernel
theorem dX6_borrow_7 : decode cX6_borrow 7 = .ok (.iload_n 2, 1) := by decide +kernel
theorem dX6_borrow_8 : decode cX6_borrow 8 = .ok (.invokevirtual 160, 3) := by decide +kernel
theorem dX6_borrow_11 : decode cX6_borrow 11 = .ok (.astore 4, 2) := by decide +kernel
theorem dX6_borrow_13 : decode cX6_borrow 13 = .ok (.iload_n 2, 1) := by decide +kernel
theorem dX6_borrow_14 : decode cX6_borrow 14 = .ok (.iload_n 1, 1) := by decide +kernel
theorem dX6_borrow_15 : decode cX6_borrow 15 = .ok (.if_icmp .eq 30, 3) := by decide +kernel
theorem dX6_borrow_18 : decode cX6_borrow 18 = .ok (.aload 4, 2) := by decide +kernel
theorem dX6_borrow_20 : decode cX6_borrow 20 = .ok (.getfield 175, 3) := by decide +kernel
theorem dX6_borrow_23 : decode cX6_borrow 23 = .ok (.iload_n 2, 1) := by decide +kernel
theorem dX6_borrow_24 : decode cX6_borrow 24 = .ok (.if_icmp .ne 11, 3) := by decide +kernel
theorem dX6_borrow_27 : decode cX6_borrow 27 = .ok (.aload_n 0, 1) := by decide +kernel
theorem dX6_borrow_28 : decode cX6_borrow 28 = .ok (.iload_n 1, 1) := by decide +kernel
theorem dX6_borrow_29 : decode cX6_borrow 29 = .ok (.invokevirtual 178, 3) := by decide +kernel
theorem dX6_borrow_32 : decode cX6_borrow 32 = .ok (.ifCond .eq 13, 3) := by decide +kernel
theorem dX6_borrow_35 : decode cX6_borrow 35 = .ok (.new 111, 3) := by decide +kernel
theorem dX6_borrow_38 : decode cX6_borrow 38 = .ok (.dup, 1) := by decide +kernel
theorem dX6_borrow_39 : decode cX6_borrow 39 = .ok (.ldc 182, 2) := by decide +kernel
theorem dX6_borrow_41 : decode cX6_borrow 41 = .ok (.invokespecial 115, 3) := by decide +kernel
theorem dX6_borrow_44 : decode cX6_borrow 44 = .ok (.athrow, 1) := by decide +kernel
theorem dX6_borrow_45 : decode cX6_borrow 45 = .ok (.aload_n 3, 1) := by decide +kernel
theorem dX6_borrow_46 : decode cX6_borrow 46 = .ok (.getfield 175, 3) := by decide +kernel
theorem dX6_borrow_49 : decode cX6_borrow 49 = .ok (.istore 5, 2) := by decide +kernel
theorem dX6_borrow_51 : decode cX6_borrow 51 = .ok (.aload_n 3, 1) := by decide +kernel
theorem dX6_borrow_52 : decode cX6_borrow 52 = .ok (.iload_n 2, 1) := by decide +kernel
theorem dX6_borrow_53 : decode cX6_borrow 53 = .ok (.putfield 175, 3) := by decide +kernel
theorem dX6_borrow_56 : decode cX6_borrow 56 = .ok (.iload 5, 2) := by decide +kernel
theorem dX6_borrow_58 : decode cX6_borrow 58 = .ok (.ireturn, 1) := by decide +kernel
theorem dX6_set_0 : decode cX6_set 0 = .ok (.aload_n 0, 1) := by decide +kernel
theorem dX6_set_1 : decode cX6_set 1 = .ok (.getfield 33, 3) := by decide +kernel
theorem dX6_set_4 : decode cX6_set 4 = .ok (.iload_n 1, 1) := by decide +kernel
theorem dX6_set_5 : decode cX6_set 5 = .ok (.invokevirtual 184, 3) := by decide +kernel
theorem dX6_set_8 : decode cX6_set 8 = .ok (.istore_n 3, 1) := by decide +kernel
theorem dX6_set_9 : decode cX6_set 9 = .ok (.iload_n 3, 1) := by decide +kernel
theorem dX6_set_10 : decode cX6_set 10 = .ok (.ifCond .ge 13, 3) := by decide +kernel
theorem dX6_set_13 : decode cX6_set 13 = .ok (.new 142, 3) := by decide +kernel
theorem dX6_set_16 : decode cX6_set 16 = .ok (.dup, 1) := by decide +kernel
theorem dX6_set_17 : decode cX6_set 17 = .ok (.ldc 190, 2) := by decide +kernel
theorem dX6_set_19 : decode cX6_set 19 = .ok (.invokespecial 146, 3) := by decide +kernel
theorem dX6_set_22 : decode cX6_set 22 = .ok (.athrow, 1) := by decide +kernel
theorem dX6_set_23 : decode cX6_set 23 = .ok (.iload_n 2, 1) := by decide +kernel
theorem dX6_set_24 : decode cX6_set 24 = .ok (.iconst 0, 1) := by decide +kernel
theorem dX6_set_25 : decode cX6_set 25 = .ok (.iload_n 3, 1) := by decide +kernel
theorem dX6_set_26 : decode cX6_set 26 = .ok (.invokestatic 69, 3) := by decide +kernel
theorem dX6_set_29 : decode cX6_set 29 = .ok (.aload_n 0, 1) := by decide +kernel
theorem dX6_set_30 : decode cX6_set 30 = .ok (.getfield 33, 3) := by decide +kernel
theorem dX6_set_33 : decode cX6_set 33 = .ok (.iload_n 1, 1) := by decide +kernel
theorem dX6_set_34 : decode cX6_set 34 = .ok (.iload_n 2, 1) := by decide +kernel
theorem dX6_set_35 : decode cX6_set 35 = .ok (.invokevirtual 192, 3) := by decide +kernel
theorem dX6_set_38 : decode cX6_set 38 = .ok (.ireturn, 1) := by decide +kernel
theorem dX6_maker_0 : decode cX6_maker 0 = .ok (.iload_n 1, 1) := by decide +kernel
theorem dX6_maker_1 : decode cX6_maker 1 = .ok (.bipush 97, 2) := by decide +kernel
theorem dX6_maker_3 : decode cX6_maker 3 = .ok (.if_icmp .eq 25, 3) := by decide +kernel
theorem dX6_maker_6 : decode cX6_maker 6 = .ok (.iload_n 1, 1) := by decide +kernel
theorem dX6_maker_7 : decode cX6_maker 7 = .ok (.bipush 98, 2) := by decide +kernel
theorem dX6_maker_9 : decode cX6_maker 9 = .ok (.if_icmp .eq 19, 3) := by decide +kernel
theorem dX6_maker_12 : decode cX6_maker 12 = .ok (.iload_n 1, 1) := by decide +kernel
theorem dX6_maker_13 : decode cX6_maker 13 = .ok (.bipush 99, 2) := by decide +kernel
theorem dX6_maker_15 : decode cX6_maker 15 = .ok (.if_icmp .eq 13, 3) := by decide +kernel
theorem dX6_maker_18 : decode cX6_maker 18 = .ok (.new 142, 3) := by decide +kernel
theorem dX6_maker_21 : decode cX6_maker 21 = .ok (.dup, 1) := by decide +kernel
theorem dX6_maker_22 : decode cX6_maker 22 = .ok (.ldc 196, 2) := by decide +kernel
theorem dX6_maker_24 : decode cX6_maker 24 = .ok (.invokespecial 146, 3) := by decide +kernel
theorem dX6_maker_27 : decode cX6_maker 27 = .ok (.athrow, 1) := by decide +kernel
theorem dX6_maker_28 : decode cX6_maker 28 = .ok (.aload_n 0, 1) := by decide +kernel
theorem dX6_maker_29 : decode cX6_maker 29 = .ok (.getfield 33, 3) := by decide +kernel
theorem dX6_maker_32 : decode cX6_maker 32 = .ok (.getfield 198, 3) := by decide +kernel
theorem dX6_maker_35 : decode cX6_maker 35 = .ok (.istore_n 2, 1) := by decide +kernel
theorem dX6_maker_36 : decode cX6_maker 36 = .ok (.aload_n 0, 1) := by decide +kernel
theorem dX6_maker_37 : decode cX6_maker 37 = .ok (.getfield 33, 3) := by decide +kernel
theorem dX6_maker_40 : decode cX6_maker 40 = .ok (.iload_n 1, 1) := by decide +kernel
theorem dX6_maker_41 : decode cX6_maker 41 = .ok (.putfield 198, 3) := by decide +kernel
theorem dX6_maker_44 : decode cX6_maker 44 = .ok (.iload_n 2, 1) := by decide +kernel
theorem dX6_maker_45 : decode cX6_maker 45 = .ok (.ireturn, 1) := by decide +kernel
theorem dX6_load_0 : decode cX6_load 0 = .ok (.aload_n 0, 1) := by decide +kernel
theorem dX6_load_1 : decode cX6_load 1 = .ok (.iload_n 1, 1) := by decide +kernel
theorem dX6_load_2 : decode cX6_load 2 = .ok (.invokevirtual 65, 3) := by decide +kernel
theorem dX6_load_5 : decode cX6_load 5 = .ok (.astore_n 2, 1) := by decide +kernel
theorem dX6_load_6 : decode cX6_load 6 = .ok (.aload_n 0, 1) := by decide +kernel
theorem dX6_load_7 : decode cX6_load 7 = .ok (.getfield 25, 3) := by decide +kernel
theorem dX6_load_10 : decode cX6_load 10 = .ok (.aload_n 2, 1) := by decide +kernel
theorem dX6_load_11 : decode cX6_load 11 = .ok (.invokevirtual 202, 3) := by decide +kernel
theorem dX6_load_14 : decode cX6_load 14 = .ok (.aload_n 2, 1) := by decide +kernel
theorem dX6_load_15 : decode cX6_load 15 = .ok (.invokevirtual 85, 3) := by decide +kernel
theorem dX6_load_18 : decode cX6_load 18 = .ok (.ireturn, 1) := by decide +kernel
theorem dX6_tick_0 : decode cX6_tick 0 = .ok (.aload_n 0, 1) := by decide +kernel
theorem dX6_tick_1 : decode cX6_tick 1 = .ok (.invokevirtual 205, 3) := by decide +kernel
theorem dX6_tick_4 : decode cX6_tick 4 = .ok (.iload_n 1, 1) := by decide +kernel
theorem dX6_tick_5 : decode cX6_tick 5 = .ok (.iconst 1, 1) := by decide +kernel
theorem dX6_tick_6 : decode cX6_tick 6 = .ok (.bipush 100, 2) := by decide +kernel
theorem dX6_tick_8 : decode cX6_tick 8 = .ok (.invokestatic 69, 3) := by decide +kernel
theorem dX6_tick_11 : decode cX6_tick 11 = .ok (.aload_n 0, 1) := by decide +kernel
theorem dX6_tick_12 : decode cX6_tick 12 = .ok (.getfield 25, 3) := by decide +kernel
theorem dX6_tick_15 : decode cX6_tick 15 = .ok (.iload_n 1, 1) := by decide +kernel
theorem dX6_tick_16 : decode cX6_tick 16 = .ok (.invokevirtual 211, 3) := by decide +kernel
theorem dX6_tick_19 : decode cX6_tick 19 = .ok (.ireturn, 1) := by decide +kernel
theorem dX6_isPlaying_0 : decode cX6_isPlaying 0 = .ok (.aload_n 0, 1) := by decide +kernel
theorem dX6_isPlaying_1 : decode cX6_isPlaying 1 = .ok (.getfield 25, 3) := by decide +kernel
theorem dX6_isPlaying_4 : decode cX6_isPlaying 4 = .ok (.invokevirtual 214, 3) := by decide +kernel
theorem dX6_isPlaying_7 : decode cX6_isPlaying 7 = .ok (.ireturn, 1) := by decide +kernel
theorem dX6_row_0 : decode cX6_row 0 = .ok (.aload_n 0, 1) := by decide +kernel
theorem dX6_row_1 : decode cX6_row 1 = .ok (.invokevirtual 205, 3) := by decide +kernel
theorem dX6_row_4 : decode cX6_row 4 = .ok (.aload_n 0, 1) := by decide +kernel
theorem dX6_row_5 : decode cX6_row 5 = .ok (.getfield 25, 3) := by decide +kernel
theorem dX6_row_8 : decode cX6_row 8 = .ok (.getfield 217, 3) := by decide +kernel
theorem dX6_row_11 : decode cX6_row 11 = .ok (.ireturn, 1) := by decide +kernel
theorem dX6_suction_0 : decode cX6_suction 0 = .ok (.aload_n 0, 1) := by decide +kernel
theorem dX6_suction_1 : decode cX6_suction 1 = .ok (.invokevirtual 205, 3) := by decide +kernel
theorem dX6_suction_4 : decode cX6_suction 4 = .ok (.aload_n 0, 1) := by decide +kernel
theorem dX6_suction_5 : decode cX6_suction 5 = .ok (.getfield 25, 3) := by decide +kernel
theorem dX6_suction_8 : decode cX6_suction 8 = .ok (.getfield 220, 3) := by decide +kernel
theorem dX6_suction_11 : decode cX6_suction 11 = .ok (.ireturn, 1) := by decide +kernel
theorem dX6_level_0 : decode cX6_level 0 = .ok (.aload_n 0, 1) := by decide +kernel
theorem dX6_level_1 : decode cX6_level 1 = .ok (.invokevirtual 205, 3) := by decide +kernel
theorem dX6_level_4 : decode cX6_level 4 = .ok (.aload_n 0, 1) := by decide +kernel
theorem dX6_level_5 : decode cX6_level 5 = .ok (.getfield 25, 3) := by decide +kernel
theorem dX6_level_8 : decode cX6_level 8 = .ok (.getfield 223, 3) := by decide +kernel
theorem dX6_level_11 : decode cX6_level 11 = .ok (.ireturn, 1) := by decide +kernel
theorem dX6_isOpen_0 : decode cX6_isOpen 0 = .ok (.aload_n 0, 1) := by decide +kernel
theorem dX6_isOpen_1 : decode cX6_isOpen 1 = .ok (.invokevirtual 205, 3) := by decide +kernel
theorem dX6_isOpen_4 : decode cX6_isOpen 4 = .ok (.aload_n 0, 1) := by decide +kernel
theorem dX6_isOpen_5 : decode cX6_isOpen 5 = .ok (.iload_n 1, 1) := by decide +kernel
theorem dX6_isOpen_6 : decode cX6_isOpen 6 = .ok (.invokevirtual 160, 3) := by decide +kernel
theorem dX6_isOpen_9 : decode cX6_isOpen 9 = .ok (.getfield 226, 3) := by decide +kernel
theorem dX6_isOpen_12 : decode cX6_isOpen 12 = .ok (.ireturn, 1) := by decide +kernel
theorem dX6_isHeard_0 : decode cX6_isHeard 0 = .ok (.aload_n 0, 1) := by decide +kernel
theorem dX6_isHeard_1 : decode cX6_isHeard 1 = .ok (.invokevirtual 205, 3) := by decide +kernel
theorem dX6_isHeard_4 : decode cX6_isHeard 4 = .ok (.aload_n 0, 1) := by decide +kernel
theorem dX6_isHeard_5 : decode cX6_isHeard 5 = .ok (.iload_n 1, 1) := by decide +kernel
theorem dX6_isHeard_6 : decode cX6_isHeard 6 = .ok (.invokevirtual 160, 3) := by decide +kernel
theorem dX6_isHeard_9 : decode cX6_isHeard 9 = .ok (.invokevirtual 230, 3) := by decide +kernel
theorem dX6_isHeard_12 : decode cX6_isHeard 12 = .ok (.ireturn, 1) := by decide +kernel
theorem dX6_soundings_0 : decode cX6_soundings 0 = .ok (.aload_n 0, 1) := by decide +kernel
theorem dX6_soundings_1 : decode cX6_soundings 1 = .ok (.getfield 43, 3) := by decide +kernel
theorem dX6_soundings_4 : decode cX6_soundings 4 = .ok (.getfield 233, 3) := by decide +kernel
theorem dX6_soundings_7 : decode cX6_soundings 7 = .ok (.ireturn, 1) := by decide +kernel
theorem dX6_sounding_0 : decode cX6_sounding 0 = .ok (.iload_n 2, 1) := by decide +kernel
theorem dX6_sounding_1 : decode cX6_sounding 1 = .ok (.bipush 110, 2) := by decide +kernel
theorem dX6_sounding_3 : decode cX6_sounding 3 = .ok (.if_icmp .eq 37, 3) := by decide +kernel
theorem dX6_sounding_6 : decode cX6_sounding 6 = .ok (.iload_n 2, 1) := by decide +kernel
theorem dX6_sounding_7 : decode cX6_sounding 7 = .ok (.bipush 111, 2) := by decide +kernel
theorem dX6_sounding_9 : decode cX6_sounding 9 = .ok (.if_icmp .eq 31, 3) := by decide +kernel
theorem dX6_sounding_12 : decode cX6_sounding 12 = .ok (.iload_n 2, 1) := by decide +kernel
theorem dX6_sounding_13 : decode cX6_sounding 13 = .ok (.bipush 102, 2) := by decide +kernel
theorem dX6_sounding_15 : decode cX6_sounding 15 = .ok (.if_icmp .eq 25, 3) := by decide +kernel
theorem dX6_sounding_18 : decode cX6_sounding 18 = .ok (.iload_n 2, 1) := by decide +kernel
theorem dX6_sounding_19 : decode cX6_sounding 19 = .ok (.bipush 108, 2) := by decide +kernel
theorem dX6_sounding_21 : decode cX6_sounding 21 = .ok (.if_icmp .eq 19, 3) := by decide +kernel
theorem dX6_sounding_24 : decode cX6_sounding 24 = .ok (.iload_n 2, 1) := by decide +kernel
theorem dX6_sounding_25 : decode cX6_sounding 25 = .ok (.bipush 118, 2) := by decide +kernel
theorem dX6_sounding_27 : decode cX6_sounding 27 = .ok (.if_icmp .eq 13, 3) := by decide +kernel
theorem dX6_sounding_30 : decode cX6_sounding 30 = .ok (.new 142, 3) := by decide +kernel
theorem dX6_sounding_33 : decode cX6_sounding 33 = .ok (.dup, 1) := by decide +kernel
theorem dX6_sounding_34 : decode cX6_sounding 34 = .ok (.ldc 238, 2) := by decide +kernel
theorem dX6_sounding_36 : decode cX6_sounding 36 = .ok (.invokespecial 146, 3) := by decide +kernel
theorem dX6_sounding_39 : decode cX6_sounding 39 = .ok (.athrow, 1) := by decide +kernel
theorem dX6_sounding_40 : decode cX6_sounding 40 = .ok (.aload_n 0, 1) := by decide +kernel
theorem dX6_sounding_41 : decode cX6_sounding 41 = .ok (.getfield 43, 3) := by decide +kernel
theorem dX6_sounding_44 : decode cX6_sounding 44 = .ok (.iload_n 1, 1) := by decide +kernel
theorem dX6_sounding_45 : decode cX6_sounding 45 = .ok (.invokevirtual 240, 3) := by decide +kernel
theorem dX6_sounding_48 : decode cX6_sounding 48 = .ok (.ifCond .ne 13, 3) := by decide +kernel
theorem dX6_sounding_51 : decode cX6_sounding 51 = .ok (.new 100, 3) := by decide +kernel
theorem dX6_sounding_54 : decode cX6_sounding 54 = .ok (.dup, 1) := by decide +kernel
theorem dX6_sounding_55 : decode cX6_sounding 55 = .ok (.ldc 243, 2) := by decide +kernel
theorem dX6_sounding_57 : decode cX6_sounding 57 = .ok (.invokespecial 104, 3) := by decide +kernel
theorem dX6_sounding_60 : decode cX6_sounding 60 = .ok (.athrow, 1) := by decide +kernel
theorem dX6_sounding_61 : decode cX6_sounding 61 = .ok (.aload_n 0, 1) := by decide +kernel
theorem dX6_sounding_62 : decode cX6_sounding 62 = .ok (.getfield 43, 3) := by decide +kernel
theorem dX6_sounding_65 : decode cX6_sounding 65 = .ok (.iload_n 1, 1) := by decide +kernel
theorem dX6_sounding_66 : decode cX6_sounding 66 = .ok (.iload_n 2, 1) := by decide +kernel
theorem dX6_sounding_67 : decode cX6_sounding 67 = .ok (.invokevirtual 245, 3) := by decide +kernel
theorem dX6_sounding_70 : decode cX6_sounding 70 = .ok (.ireturn, 1) := by decide +kernel
theorem dX6_loudest_0 : decode cX6_loudest 0 = .ok (.aload_n 0, 1) := by decide +kernel
theorem dX6_loudest_1 : decode cX6_loudest 1 = .ok (.getfield 43, 3) := by decide +kernel
theorem dX6_loudest_4 : decode cX6_loudest 4 = .ok (.getfield 233, 3) := by decide +kernel
theorem dX6_loudest_7 : decode cX6_loudest 7 = .ok (.ifCond .ne 13, 3) := by decide +kernel
theorem dX6_loudest_10 : decode cX6_loudest 10 = .ok (.new 100, 3) := by decide +kernel
theorem dX6_loudest_13 : decode cX6_loudest 13 = .ok (.dup, 1) := by decide +kernel
theorem dX6_loudest_14 : decode cX6_loudest 14 = .ok (.ldc 249, 2) := by decide +kernel
theorem dX6_loudest_16 : decode cX6_loudest 16 = .ok (.invokespecial 104, 3) := by decide +kernel
theorem dX6_loudest_19 : decode cX6_loudest 19 = .ok (.athrow, 1) := by decide +kernel
theorem dX6_loudest_20 : decode cX6_loudest 20 = .ok (.aload_n 0, 1) := by decide +kernel
theorem dX6_loudest_21 : decode cX6_loudest 21 = .ok (.getfield 43, 3) := by decide +kernel
theorem dX6_loudest_24 : decode cX6_loudest 24 = .ok (.invokevirtual 251, 3) := by decide +kernel
theorem dX6_loudest_27 : decode cX6_loudest 27 = .ok (.ireturn, 1) := by decide +kernel
theorem dX6_speed_0 : decode cX6_speed 0 = .ok (.iload_n 1, 1) := by decide +kernel
theorem dX6_speed_1 : decode cX6_speed 1 = .ok (.bipush 100, 2) := by decide +kernel
theorem dX6_speed_3 : decode cX6_speed 3 = .ok (.sipush 900, 3) := by decide +kernel
theorem dX6_speed_6 : decode cX6_speed 6 = .ok (.invokestatic 69, 3) := by decide +kernel
theorem dX6_speed_9 : decode cX6_speed 9 = .ok (.iload_n 2, 1) := by decide +kernel
theorem dX6_speed_10 : decode cX6_speed 10 = .ok (.iconst 0, 1) := by decide +kernel
theorem dX6_speed_11 : decode cX6_speed 11 = .ok (.bipush 50, 2) := by decide +kernel
theorem dX6_speed_13 : decode cX6_speed 13 = .ok (.invokestatic 69, 3) := by decide +kernel
theorem dX6_speed_16 : decode cX6_speed 16 = .ok (.aload_n 0, 1) := by decide +kernel
theorem dX6_speed_17 : decode cX6_speed 17 = .ok (.getfield 51, 3) := by decide +kernel
theorem dX6_speed_20 : decode cX6_speed 20 = .ok (.istore_n 3, 1) := by decide +kernel
theorem dX6_speed_21 : decode cX6_speed 21 = .ok (.aload_n 0, 1) := by decide +kernel
theorem dX6_speed_22 : decode cX6_speed 22 = .ok (.iload_n 1, 1) := by decide +kernel
theorem dX6_speed_23 : decode cX6_speed 23 = .ok (.putfield 51, 3) := by decide +kernel
theorem dX6_speed_26 : decode cX6_speed 26 = .ok (.aload_n 0, 1) := by decide +kernel
theorem dX6_speed_27 : decode cX6_speed 27 = .ok (.iload_n 2, 1) := by decide +kernel
theorem dX6_speed_28 : decode cX6_speed 28 = .ok (.putfield 54, 3) := by decide +kernel
theorem dX6_speed_31 : decode cX6_speed 31 = .ok (.iload_n 3, 1) := by decide +kernel
theorem dX6_speed_32 : decode cX6_speed 32 = .ok (.ireturn, 1) := by decide +kernel
theorem dX6_time_0 : decode cX6_time 0 = .ok (.iload_n 1, 1) := by decide +kernel
theorem dX6_time_1 : decode cX6_time 1 = .ok (.iconst 0, 1) := by decide +kernel
theorem dX6_time_2 : decode cX6_time 2 = .ok (.sipush 200, 3) := by decide +kernel
theorem dX6_time_5 : decode cX6_time 5 = .ok (.invokestatic 69, 3) := by decide +kernel
theorem dX6_time_8 : decode cX6_time 8 = .ok (.lconst 0, 1) := by decide +kernel
theorem dX6_time_9 : decode cX6_time 9 = .ok (.lstore_n 2, 1) := by decide +kernel
theorem dX6_time_10 : decode cX6_time 10 = .ok (.iconst 0, 1) := by decide +kernel
theorem dX6_time_11 : decode cX6_time 11 = .ok (.istore 4, 2) := by decide +kernel
theorem dX6_time_13 : decode cX6_time 13 = .ok (.iload 4, 2) := by decide +kernel
theorem dX6_time_15 : decode cX6_time 15 = .ok (.iload_n 1, 1) := by decide +kernel
theorem dX6_time_16 : decode cX6_time 16 = .ok (.if_icmp .ge 19, 3) := by decide +kernel
theorem dX6_time_19 : decode cX6_time 19 = .ok (.lload_n 2, 1) := by decide +kernel
theorem dX6_time_20 : decode cX6_time 20 = .ok (.aload_n 0, 1) := by decide +kernel
theorem dX6_time_21 : decode cX6_time 21 = .ok (.iload 4, 2) := by decide +kernel
theorem dX6_time_23 : decode cX6_time 23 = .ok (.invokevirtual 254, 3) := by decide +kernel
theorem dX6_time_26 : decode cX6_time 26 = .ok (.i2l, 1) := by decide +kernel
theorem dX6_time_27 : decode cX6_time 27 = .ok (.ladd, 1) := by decide +kernel
theorem dX6_time_28 : decode cX6_time 28 = .ok (.lstore_n 2, 1) := by decide +kernel
theorem dX6_time_29 : decode cX6_time 29 = .ok (.iinc 4 1, 3) := by decide +kernel
theorem dX6_time_32 : decode cX6_time 32 = .ok (.goto (-19), 3) := by decide +kernel
theorem dX6_time_35 : decode cX6_time 35 = .ok (.lload_n 2, 1) := by decide +kernel
theorem dX6_time_36 : decode cX6_time 36 = .ok (.lreturn, 1) := by decide +kernel
theorem dX6_checksum_0 : decode cX6_checksum 0 = .ok (.ldc2_w 257, 3) := by decide +kernel
theorem dX6_checksum_3 : decode cX6_checksum 3 = .ok (.lstore_n 1, 1) := by decide +kernel
theorem dX6_checksum_4 : decode cX6_checksum 4 = .ok (.iconst 0, 1) := by decide +kernel
theorem dX6_checksum_5 : decode cX6_checksum 5 = .ok (.istore_n 3, 1) := by decide +kernel
theorem dX6_checksum_6 : decode cX6_checksum 6 = .ok (.iload_n 3, 1) := by decide +kernel
theorem dX6_checksum_7 : decode cX6_checksum 7 = .ok (.aload_n 0, 1) := by decide +kernel
theorem dX6_checksum_8 : decode cX6_checksum 8 = .ok (.getfield 44, 3) := by decide +kernel
theorem dX6_checksum_11 : decode cX6_checksum 11 = .ok (.if_icmp .ge 25, 3) := by decide +kernel
theorem dX6_checksum_14 : decode cX6_checksum 14 = .ok (.iload_n 3, 1) := by decide +kernel
theorem dX6_checksum_15 : decode cX6_checksum 15 = .ok (.iconst 4, 1) := by decide +kernel
theorem dX6_checksum_16 : decode cX6_checksum 16 = .ok (.if_icmp .ge 20, 3) := by decide +kernel
theorem dX6_checksum_19 : decode cX6_checksum 19 = .ok (.aload_n 0, 1) := by decide +kernel
theorem dX6_checksum_20 : decode cX6_checksum 20 = .ok (.getfield 11, 3) := by decide +kernel
theorem dX6_checksum_23 : decode cX6_checksum 23 = .ok (.iload_n 3, 1) := by decide +kernel
theorem dX6_checksum_24 : decode cX6_checksum 24 = .ok (.aaload, 1) := by decide +kernel
theorem dX6_checksum_25 : decode cX6_checksum 25 = .ok (.lload_n 1, 1) := by decide +kernel
theorem dX6_checksum_26 : decode cX6_checksum 26 = .ok (.invokevirtual 259, 3) := by decide +kernel
theorem dX6_checksum_29 : decode cX6_checksum 29 = .ok (.lstore_n 1, 1) := by decide +kernel
theorem dX6_checksum_30 : decode cX6_checksum 30 = .ok (.iinc 3 1, 3) := by decide +kernel
theorem dX6_checksum_33 : decode cX6_checksum 33 = .ok (.goto (-27), 3) := by decide +kernel
theorem dX6_checksum_36 : decode cX6_checksum 36 = .ok (.aload_n 0, 1) := by decide +kernel
theorem dX6_checksum_37 : decode cX6_checksum 37 = .ok (.getfield 43, 3) := by decide +kernel
theorem dX6_checksum_40 : decode cX6_checksum 40 = .ok (.lload_n 1, 1) := by decide +kernel
theorem dX6_checksum_41 : decode cX6_checksum 41 = .ok (.invokevirtual 263, 3) := by decide +kernel
theorem dX6_checksum_44 : decode cX6_checksum 44 = .ok (.lreturn, 1) := by decide +kernel
theorem dX6_heardShare_0 : decode cX6_heardShare 0 = .ok (.aload_n 0, 1) := by decide +kernel
theorem dX6_heardShare_1 : decode cX6_heardShare 1 = .ok (.getfield 25, 3) := by decide +kernel
theorem dX6_heardShare_4 : decode cX6_heardShare 4 = .ok (.getfield 264, 3) := by decide +kernel
theorem dX6_heardShare_7 : decode cX6_heardShare 7 = .ok (.ifCond .ne 14, 3) := by decide +kernel
theorem dX6_heardShare_10 : decode cX6_heardShare 10 = .ok (.new 267, 3) := by decide +kernel
theorem dX6_heardShare_13 : decode cX6_heardShare 13 = .ok (.dup, 1) := by decide +kernel
theorem dX6_heardShare_14 : decode cX6_heardShare 14 = .ok (.ldc_w 269, 3) := by decide +kernel
theorem dX6_heardShare_17 : decode cX6_heardShare 17 = .ok (.invokespecial 271, 3) := by decide +kernel
theorem dX6_heardShare_20 : decode cX6_heardShare 20 = .ok (.athrow, 1) := by decide +kernel
theorem dX6_heardShare_21 : decode cX6_heardShare 21 = .ok (.aload_n 0, 1) := by decide +kernel
theorem dX6_heardShare_22 : decode cX6_heardShare 22 = .ok (.getfield 25, 3) := by decide +kernel
theorem dX6_heardShare_25 : decode cX6_heardShare 25 = .ok (.getfield 272, 3) := by decide +kernel
theorem dX6_heardShare_28 : decode cX6_heardShare 28 = .ok (.i2f, 1) := by decide +kernel
theorem dX6_heardShare_29 : decode cX6_heardShare 29 = .ok (.aload_n 0, 1) := by decide +kernel
theorem dX6_heardShare_30 : decode cX6_heardShare 30 = .ok (.getfield 25, 3) := by decide +kernel
theorem dX6_heardShare_33 : decode cX6_heardShare 33 = .ok (.getfield 264, 3) := by decide +kernel
theorem dX6_heardShare_36 : decode cX6_heardShare 36 = .ok (.i2f, 1) := by decide +kernel
theorem dX6_heardShare_37 : decode cX6_heardShare 37 = .ok (.fdiv, 1) := by decide +kernel
theorem dX6_heardShare_38 : decode cX6_heardShare 38 = .ok (.freturn, 1) := by decide +kernel
theorem dX6_meanLoud_0 : decode cX6_meanLoud 0 = .ok (.aload_n 0, 1) := by decide +kernel
theorem dX6_meanLoud_1 : decode cX6_meanLoud 1 = .ok (.getfield 43, 3) := by decide +kernel
theorem dX6_meanLoud_4 : decode cX6_meanLoud 4 = .ok (.getfield 233, 3) := by decide +kernel
theorem dX6_meanLoud_7 : decode cX6_meanLoud 7 = .ok (.ifCond .ne 13, 3) := by decide +kernel
theorem dX6_meanLoud_10 : decode cX6_meanLoud 10 = .ok (.new 267, 3) := by decide +kernel
theorem dX6_meanLoud_13 : decode cX6_meanLoud 13 = .ok (.dup, 1) := by decide +kernel
theorem dX6_meanLoud_14 : decode cX6_meanLoud 14 = .ok (.ldc 249, 2) := by decide +kernel
theorem dX6_meanLoud_16 : decode cX6_meanLoud 16 = .ok (.invokespecial 271, 3) := by decide +kernel
theorem dX6_meanLoud_19 : decode cX6_meanLoud 19 = .ok (.athrow, 1) := by decide +kernel
theorem dX6_meanLoud_20 : decode cX6_meanLoud 20 = .ok (.aload_n 0, 1) := by decide +kernel
theorem dX6_meanLoud_21 : decode cX6_meanLoud 21 = .ok (.getfield 43, 3) := by decide +kernel
theorem dX6_meanLoud_24 : decode cX6_meanLoud 24 = .ok (.invokevirtual 275, 3) := by decide +kernel
theorem dX6_meanLoud_27 : decode cX6_meanLoud 27 = .ok (.i2d, 1) := by decide +kernel
theorem dX6_meanLoud_28 : decode cX6_meanLoud 28 = .ok (.aload_n 0, 1) := by decide +kernel
theorem dX6_meanLoud_29 : decode cX6_meanLoud 29 = .ok (.getfield 43, 3) := by decide +kernel
theorem dX6_meanLoud_32 : decode cX6_meanLoud 32 = .ok (.getfield 233, 3) := by decide +kernel
theorem dX6_meanLoud_35 : decode cX6_meanLoud 35 = .ok (.i2d, 1) := by decide +kernel
theorem dX6_meanLoud_36 : decode cX6_meanLoud 36 = .ok (.ddiv, 1) := by decide +kernel
theorem dX6_meanLoud_37 : decode cX6_meanLoud 37 = .ok (.dreturn, 1) := by decide +kernel
theorem dX6_isSound_0 : decode cX6_isSound 0 = .ok (.aload_n 0, 1) := by decide +kernel
theorem dX6_isSound_1 : decode cX6_isSound 1 = .ok (.getfield 43, 3) := by decide +kernel
theorem dX6_isSound_4 : decode cX6_isSound 4 = .ok (.invokevirtual 278, 3) := by decide +kernel
theorem dX6_isSound_7 : decode cX6_isSound 7 = .ok (.ifCond .eq 14, 3) := by decide +kernel
theorem dX6_isSound_10 : decode cX6_isSound 10 = .ok (.aload_n 0, 1) := by decide +kernel
theorem dX6_isSound_11 : decode cX6_isSound 11 = .ok (.invokevirtual 281, 3) := by decide +kernel
theorem dX6_isSound_14 : decode cX6_isSound 14 = .ok (.ifCond .eq 7, 3) := by decide +kernel
theorem dX6_isSound_17 : decode cX6_isSound 17 = .ok (.iconst 1, 1) := by decide +kernel
theorem dX6_isSound_18 : decode cX6_isSound 18 = .ok (.goto 4, 3) := by decide +kernel
theorem dX6_isSound_21 : decode cX6_isSound 21 = .ok (.iconst 0, 1) := by decide +kernel
theorem dX6_isSound_22 : decode cX6_isSound 22 = .ok (.ireturn, 1) := by decide +kernel
theorem dX6_demandWithin_0 : decode cX6_demandWithin 0 = .ok (.iload_n 0, 1) := by decide +kernel
theorem dX6_demandWithin_1 : decode cX6_demandWithin 1 = .ok (.iload_n 1, 1) := by decide +kernel
theorem dX6_demandWithin_2 : decode cX6_demandWithin 2 = .ok (.if_icmp .lt 8, 3) := by decide +kernel
theorem dX6_demandWithin_5 : decode cX6_demandWithin 5 = .ok (.iload_n 0, 1) := by decide +kernel
theorem dX6_demandWithin_6 : decode cX6_demandWithin 6 = .ok (.iload_n 2, 1) := by decide +kernel
theorem dX6_demandWithin_7 : decode cX6_demandWithin 7 = .ok (.if_icmp .le 14, 3) := by decide +kernel
theorem dX6_demandWithin_10 : decode cX6_demandWithin 10 = .ok (.new 142, 3) := by decide +kernel
theorem dX6_demandWithin_13 : decode cX6_demandWithin 13 = .ok (.dup, 1) := by decide +kernel
theorem dX6_demandWithin_14 : decode cX6_demandWithin 14 = .ok (.ldc_w 284, 3) := by decide +kernel
theorem dX6_demandWithin_17 : decode cX6_demandWithin 17 = .ok (.invokespecial 146, 3) := by decide +kernel
theorem dX6_demandWithin_20 : decode cX6_demandWithin 20 = .ok (.athrow, 1) := by decide +kernel
theorem dX6_demandWithin_21 : decode cX6_demandWithin 21 = .ok (.return_, 1) := by decide +kernel
theorem dX6_hasPaper_0 : decode cX6_hasPaper 0 = .ok (.iload_n 1, 1) := by decide +kernel
theorem dX6_hasPaper_1 : decode cX6_hasPaper 1 = .ok (.ifCond .lt 20, 3) := by decide +kernel
theorem dX6_hasPaper_4 : decode cX6_hasPaper 4 = .ok (.iload_n 1, 1) := by decide +kernel
theorem dX6_hasPaper_5 : decode cX6_hasPaper 5 = .ok (.aload_n 0, 1) := by decide +kernel
theorem dX6_hasPaper_6 : decode cX6_hasPaper 6 = .ok (.getfield 44, 3) := by decide +kernel
theorem dX6_hasPaper_9 : decode cX6_hasPaper 9 = .ok (.if_icmp .ge 12, 3) := by decide +kernel
theorem dX6_hasPaper_12 : decode cX6_hasPaper 12 = .ok (.iload_n 1, 1) := by decide +kernel
theorem dX6_hasPaper_13 : decode cX6_hasPaper 13 = .ok (.iconst 4, 1) := by decide +kernel
theorem dX6_hasPaper_14 : decode cX6_hasPaper 14 = .ok (.if_icmp .ge 7, 3) := by decide +kernel
theorem dX6_hasPaper_17 : decode cX6_hasPaper 17 = .ok (.iconst 1, 1) := by decide +kernel
theorem dX6_hasPaper_18 : decode cX6_hasPaper 18 = .ok (.goto 4, 3) := by decide +kernel
theorem dX6_hasPaper_21 : decode cX6_hasPaper 21 = .ok (.iconst 0, 1) := by decide +kernel
theorem dX6_hasPaper_22 : decode cX6_hasPaper 22 = .ok (.ireturn, 1) := by decide +kernel
theorem dX6_demandPaper_0 : decode cX6_demandPaper 0 = .ok (.aload_n 0, 1) := by decide +kernel
theorem dX6_demandPaper_1 : decode cX6_demandPaper 1 = .ok (.iload_n 1, 1) := by decide +kernel
theorem dX6_demandPaper_2 : decode cX6_demandPaper 2 = .ok (.invokevirtual 286, 3) := by decide +kernel
theorem dX6_demandPaper_5 : decode cX6_demandPaper 5 = .ok (.ifCond .ne 14, 3) := by decide +kernel
theorem dX6_demandPaper_8 : decode cX6_demandPaper 8 = .ok (.new 289, 3) := by decide +kernel
theorem dX6_demandPaper_11 : decode cX6_demandPaper 11 = .ok (.dup, 1) := by decide +kernel
theorem dX6_demandPaper_12 : decode cX6_demandPaper 12 = .ok (.ldc_w 291, 3) := by decide +kernel
theorem dX6_demandPaper_15 : decode cX6_demandPaper 15 = .ok (.invokespecial 293, 3) := by decide +kernel
theorem dX6_demandPaper_18 : decode cX6_demandPaper 18 = .ok (.athrow, 1) := by decide +kernel
theorem dX6_demandPaper_19 : decode cX6_demandPaper 19 = .ok (.aload_n 0, 1) := by decide +kernel
theorem dX6_demandPaper_20 : decode cX6_demandPaper 20 = .ok (.getfield 11, 3) := by decide +kernel
theorem dX6_demandPaper_23 : decode cX6_demandPaper 23 = .ok (.iload_n 1, 1) := by decide +kernel
theorem dX6_demandPaper_24 : decode cX6_demandPaper 24 = .ok (.aaload, 1) := by decide +kernel
theorem dX6_demandPaper_25 : decode cX6_demandPaper 25 = .ok (.areturn, 1) := by decide +kernel
theorem dX6_demandValve_0 : decode cX6_demandValve 0 = .ok (.iload_n 1, 1) := by decide +kernel
theorem dX6_demandValve_1 : decode cX6_demandValve 1 = .ok (.ifCond .lt 12, 3) := by decide +kernel
theorem dX6_demandValve_4 : decode cX6_demandValve 4 = .ok (.iload_n 1, 1) := by decide +kernel
theorem dX6_demandValve_5 : decode cX6_demandValve 5 = .ok (.aload_n 0, 1) := by decide +kernel
theorem dX6_demandValve_6 : decode cX6_demandValve 6 = .ok (.getfield 38, 3) := by decide +kernel
theorem dX6_demandValve_9 : decode cX6_demandValve 9 = .ok (.arraylength, 1) := by decide +kernel
theorem dX6_demandValve_10 : decode cX6_demandValve 10 = .ok (.if_icmp .lt 13, 3) := by decide +kernel
theorem dX6_demandValve_13 : decode cX6_demandValve 13 = .ok (.new 289, 3) := by decide +kernel
theorem dX6_demandValve_16 : decode cX6_demandValve 16 = .ok (.dup, 1) := by decide +kernel
theorem dX6_demandValve_17 : decode cX6_demandValve 17 = .ok (.ldc 150, 2) := by decide +kernel
theorem dX6_demandValve_19 : decode cX6_demandValve 19 = .ok (.invokespecial 293, 3) := by decide +kernel
theorem dX6_demandValve_22 : decode cX6_demandValve 22 = .ok (.athrow, 1) := by decide +kernel
theorem dX6_demandValve_23 : decode cX6_demandValve 23 = .ok (.aload_n 0, 1) := by decide +kernel
theorem dX6_demandValve_24 : decode cX6_demandValve 24 = .ok (.getfield 38, 3) := by decide +kernel
theorem dX6_demandValve_27 : decode cX6_demandValve 27 = .ok (.iload_n 1, 1) := by decide +kernel
theorem dX6_demandValve_28 : decode cX6_demandValve 28 = .ok (.aaload, 1) := by decide +kernel
theorem dX6_demandValve_29 : decode cX6_demandValve 29 = .ok (.areturn, 1) := by decide +kernel
theorem dX6_demandPlaying_0 : decode cX6_demandPlaying 0 = .ok (.aload_n 0, 1) := by decide +kernel
theorem dX6_demandPlaying_1 : decode cX6_demandPlaying 1 = .ok (.getfield 25, 3) := by decide +kernel
theorem dX6_demandPlaying_4 : decode cX6_demandPlaying 4 = .ok (.invokevirtual 214, 3) := by decide +kernel
theorem dX6_demandPlaying_7 : decode cX6_demandPlaying 7 = .ok (.ifCond .ne 14, 3) := by decide +kernel
theorem dX6_demandPlaying_10 : decode cX6_demandPlaying 10 = .ok (.new 120, 3) := by decide +kernel
theorem dX6_demandPlaying_13 : decode cX6_demandPlaying 13 = .ok (.dup, 1) := by decide +kernel
theorem dX6_demandPlaying_14 : decode cX6_demandPlaying 14 = .ok (.ldc_w 294, 3) := by decide +kernel
theorem dX6_demandPlaying_17 : decode cX6_demandPlaying 17 = .ok (.invokespecial 124, 3) := by decide +kernel
theorem dX6_demandPlaying_20 : decode cX6_demandPlaying 20 = .ok (.athrow, 1) := by decide +kernel
theorem dX6_demandPlaying_21 : decode cX6_demandPlaying 21 = .ok (.return_, 1) := by decide +kernel
theorem dX6_demandRoomForRoll_0 : decode cX6_demandRoomForRoll 0 = .ok (.aload_n 0, 1) := by decide +kernel
theorem dX6_demandRoomForRoll_1 : decode cX6_demandRoomForRoll 1 = .ok (.getfield 44, 3) := by decide +kernel
theorem dX6_demandRoomForRoll_4 : decode cX6_demandRoomForRoll 4 = .ok (.iconst 4, 1) := by decide +kernel
theorem dX6_demandRoomForRoll_5 : decode cX6_demandRoomForRoll 5 = .ok (.if_icmp .lt 14, 3) := by decide +kernel
theorem dX6_demandRoomForRoll_8 : decode cX6_demandRoomForRoll 8 = .ok (.new 120, 3) := by decide +kernel
theorem dX6_demandRoomForRoll_11 : decode cX6_demandRoomForRoll 11 = .ok (.dup, 1) := by decide +kernel
theorem dX6_demandRoomForRoll_12 : decode cX6_demandRoomForRoll 12 = .ok (.ldc_w 296, 3) := by decide +kernel
theorem dX6_demandRoomForRoll_15 : decode cX6_demandRoomForRoll 15 = .ok (.invokespecial 124, 3) := by decide +kernel
theorem dX6_demandRoomForRoll_18 : decode cX6_demandRoomForRoll 18 = .ok (.athrow, 1) := by decide +kernel
theorem dX6_demandRoomForRoll_19 : decode cX6_demandRoomForRoll 19 = .ok (.return_, 1) := by decide +kernel
theorem dX6_addRoll_0 : decode cX6_addRoll 0 = .ok (.aload_n 0, 1) := by decide +kernel
theorem dX6_addRoll_1 : decode cX6_addRoll 1 = .ok (.dup, 1) := by decide +kernel
theorem dX6_addRoll_2 : decode cX6_addRoll 2 = .ok (.getfield 44, 3) := by decide +kernel
theorem dX6_addRoll_5 : decode cX6_addRoll 5 = .ok (.iconst 1, 1) := by decide +kernel
theorem dX6_addRoll_6 : decode cX6_addRoll 6 = .ok (.iadd, 1) := by decide +kernel
theorem dX6_addRoll_7 : decode cX6_addRoll 7 = .ok (.putfield 44, 3) := by decide +kernel
theorem dX6_addRoll_10 : decode cX6_addRoll 10 = .ok (.aload_n 0, 1) := by decide +kernel
theorem dX6_addRoll_11 : decode cX6_addRoll 11 = .ok (.getfield 44, 3) := by decide +kernel
theorem dX6_addRoll_14 : decode cX6_addRoll 14 = .ok (.iconst 1, 1) := by decide +kernel
theorem dX6_addRoll_15 : decode cX6_addRoll 15 = .ok (.isub, 1) := by decide +kernel
theorem dX6_addRoll_16 : decode cX6_addRoll 16 = .ok (.ireturn, 1) := by decide +kernel
theorem dX6_forgetArrangementOf_0 : decode cX6_forgetArrangementOf 0 = .ok (.aload_n 0, 1) := by decide +kernel
theorem dX6_forgetArrangementOf_1 : decode cX6_forgetArrangementOf 1 = .ok (.getfield 48, 3) := by decide +kernel
theorem dX6_forgetArrangementOf_4 : decode cX6_forgetArrangementOf 4 = .ok (.iload_n 1, 1) := by decide +kernel
theorem dX6_forgetArrangementOf_5 : decode cX6_forgetArrangementOf 5 = .ok (.if_icmp .ne 8, 3) := by decide +kernel
theorem dX6_forgetArrangementOf_8 : decode cX6_forgetArrangementOf 8 = .ok (.aload_n 0, 1) := by decide +kernel
theorem dX6_forgetArrangementOf_9 : decode cX6_forgetArrangementOf 9 = .ok (.iconst (-1), 1) := by decide +kernel
theorem dX6_forgetArrangementOf_10 : decode cX6_forgetArrangementOf 10 = .ok (.putfield 48, 3) := by decide +kernel
theorem dX6_forgetArrangementOf_13 : decode cX6_forgetArrangementOf 13 = .ok (.return_, 1) := by decide +kernel
theorem dX6_isArrangementKept_0 : decode cX6_isArrangementKept 0 = .ok (.aload_n 0, 1) := by decide +kernel
theorem dX6_isArrangementKept_1 : decode cX6_isArrangementKept 1 = .ok (.aload_n 0, 1) := by decide +kernel
theorem dX6_isArrangementKept_2 : decode cX6_isArrangementKept 2 = .ok (.getfield 48, 3) := by decide +kernel
theorem dX6_isArrangementKept_5 : decode cX6_isArrangementKept 5 = .ok (.invokevirtual 286, 3) := by decide +kernel
theorem dX6_isArrangementKept_8 : decode cX6_isArrangementKept 8 = .ok (.ifCond .eq 22, 3) := by decide +kernel
theorem dX6_isArrangementKept_11 : decode cX6_isArrangementKept 11 = .ok (.aload_n 0, 1) := by decide +kernel
theorem dX6_isArrangementKept_12 : decode cX6_isArrangementKept 12 = .ok (.getfield 18, 3) := by decide +kernel
theorem dX6_isArrangementKept_15 : decode cX6_isArrangementKept 15 = .ok (.aload_n 0, 1) := by decide +kernel
theorem dX6_isArrangementKept_16 : decode cX6_isArrangementKept 16 = .ok (.getfield 11, 3) := by decide +kernel
theorem dX6_isArrangementKept_19 : decode cX6_isArrangementKept 19 = .ok (.aload_n 0, 1) := by decide +kernel
theorem dX6_isArrangementKept_20 : decode cX6_isArrangementKept 20 = .ok (.getfield 48, 3) := by decide +kernel
theorem dX6_isArrangementKept_23 : decode cX6_isArrangementKept 23 = .ok (.aaload, 1) := by decide +kernel
theorem dX6_isArrangementKept_24 : decode cX6_isArrangementKept 24 = .ok (.invokevirtual 156, 3) := by decide +kernel
theorem dX6_isArrangementKept_27 : decode cX6_isArrangementKept 27 = .ok (.ifCond .eq 7, 3) := by decide +kernel
theorem dX6_isArrangementKept_30 : decode cX6_isArrangementKept 30 = .ok (.iconst 1, 1) := by decide +kernel
theorem dX6_isArrangementKept_31 : decode cX6_isArrangementKept 31 = .ok (.goto 4, 3) := by decide +kernel
theorem dX6_isArrangementKept_34 : decode cX6_isArrangementKept 34 = .ok (.iconst 0, 1) := by decide +kernel
theorem dX6_isArrangementKept_35 : decode cX6_isArrangementKept 35 = .ok (.ireturn, 1) := by decide +kernel
theorem dX6_isLentToAnother_0 : decode cX6_isLentToAnother 0 = .ok (.iconst 0, 1) := by decide +kernel
theorem dX6_isLentToAnother_1 : decode cX6_isLentToAnother 1 = .ok (.istore_n 2, 1) := by decide +kernel
theorem dX6_isLentToAnother_2 : decode cX6_isLentToAnother 2 = .ok (.iload_n 2, 1) := by decide +kernel
theorem dX6_isLentToAnother_3 : decode cX6_isLentToAnother 3 = .ok (.bipush 12, 2) := by decide +kernel
theorem dX6_isLentToAnother_5 : decode cX6_isLentToAnother 5 = .ok (.if_icmp .ge 29, 3) := by decide +kernel
theorem dX6_isLentToAnother_8 : decode cX6_isLentToAnother 8 = .ok (.iload_n 2, 1) := by decide +kernel
theorem dX6_isLentToAnother_9 : decode cX6_isLentToAnother 9 = .ok (.iload_n 1, 1) := by decide +kernel
theorem dX6_isLentToAnother_10 : decode cX6_isLentToAnother 10 = .ok (.if_icmp .eq 18, 3) := by decide +kernel
theorem dX6_isLentToAnother_13 : decode cX6_isLentToAnother 13 = .ok (.aload_n 0, 1) := by decide +kernel
theorem dX6_isLentToAnother_14 : decode cX6_isLentToAnother 14 = .ok (.getfield 38, 3) := by decide +kernel
theorem dX6_isLentToAnother_17 : decode cX6_isLentToAnother 17 = .ok (.iload_n 2, 1) := by decide +kernel
theorem dX6_isLentToAnother_18 : decode cX6_isLentToAnother 18 = .ok (.aaload, 1) := by decide +kernel
theorem dX6_isLentToAnother_19 : decode cX6_isLentToAnother 19 = .ok (.getfield 175, 3) := by decide +kernel
theorem dX6_isLentToAnother_22 : decode cX6_isLentToAnother 22 = .ok (.iload_n 1, 1) := by decide +kernel
theorem dX6_isLentToAnother_23 : decode cX6_isLentToAnother 23 = .ok (.if_icmp .ne 5, 3) := by decide +kernel
theorem dX6_isLentToAnother_26 : decode cX6_isLentToAnother 26 = .ok (.iconst 1, 1) := by decide +kernel
theorem dX6_isLentToAnother_27 : decode cX6_isLentToAnother 27 = .ok (.ireturn, 1) := by decide +kernel
theorem dX6_isLentToAnother_28 : decode cX6_isLentToAnother 28 = .ok (.iinc 2 1, 3) := by decide +kernel
theorem dX6_isLentToAnother_31 : decode cX6_isLentToAnother 31 = .ok (.goto (-29), 3) := by decide +kernel
theorem dX6_isLentToAnother_34 : decode cX6_isLentToAnother 34 = .ok (.iconst 0, 1) := by decide +kernel
theorem dX6_isLentToAnother_35 : decode cX6_isLentToAnother 35 = .ok (.ireturn, 1) := by decide +kernel
theorem dX6_measureRow_0 : decode cX6_measureRow 0 = .ok (.aload_n 0, 1) := by decide +kernel
theorem dX6_measureRow_1 : decode cX6_measureRow 1 = .ok (.getfield 51, 3) := by decide +kernel
theorem dX6_measureRow_4 : decode cX6_measureRow 4 = .ok (.iload_n 1, 1) := by decide +kernel
theorem dX6_measureRow_5 : decode cX6_measureRow 5 = .ok (.aload_n 0, 1) := by decide +kernel
theorem dX6_measureRow_6 : decode cX6_measureRow 6 = .ok (.getfield 54, 3) := by decide +kernel
theorem dX6_measureRow_9 : decode cX6_measureRow 9 = .ok (.imul, 1) := by decide +kernel
theorem dX6_measureRow_10 : decode cX6_measureRow 10 = .ok (.bipush 10, 2) := by decide +kernel
theorem dX6_measureRow_12 : decode cX6_measureRow 12 = .ok (.idiv, 1) := by decide +kernel
theorem dX6_measureRow_13 : decode cX6_measureRow 13 = .ok (.iadd, 1) := by decide +kernel
theorem dX6_measureRow_14 : decode cX6_measureRow 14 = .ok (.istore_n 2, 1) := by decide +kernel
theorem dX6_measureRow_15 : decode cX6_measureRow 15 = .ok (.iload_n 2, 1) := by decide +kernel
theorem dX6_measureRow_16 : decode cX6_measureRow 16 = .ok (.ifCond .le 11, 3) := by decide +kernel
theorem dX6_measureRow_19 : decode cX6_measureRow 19 = .ok (.ldc_w 298, 3) := by decide +kernel
theorem dX6_measureRow_22 : decode cX6_measureRow 22 = .ok (.iload_n 2, 1) := by decide +kernel
theorem dX6_measureRow_23 : decode cX6_measureRow 23 = .ok (.idiv, 1) := by decide +kernel
theorem dX6_measureRow_24 : decode cX6_measureRow 24 = .ok (.goto 4, 3) := by decide +kernel
theorem dX6_measureRow_27 : decode cX6_measureRow 27 = .ok (.iconst 0, 1) := by decide +kernel
theorem dX6_measureRow_28 : decode cX6_measureRow 28 = .ok (.ireturn, 1) := by decide +kernel
set_option maxRecDepth 20000 in
theorem ggX6_init_X0_init : GoodIn wsX6_init wsX0_init := goodIn_r _ [27, 28, 2, 3, 29, 30, 31, 32, 33, 107, 108, 109, 110] (by decide +kernel) (by decide +kernel)
set_option maxRecDepth 20000 in
theorem gX6_init_X0_init_n17 : GoodIn wsX6_init (wsX0_init) := ggX6_init_X0_init
set_option maxRecDepth 20000 in
theorem ggX6_init_X2_init : GoodIn wsX6_init wsX2_init := goodIn_r _ [36, 37, 2, 3, 38, 39, 40, 41, 42, 43, 44, 45, 46, 47, 48, 49, 50, 51, 52, 53, 54, 55, 56, 57, 58, 59, 60, 61, 62, 63, 64, 65, 66, 67, 68, 69, 70, 29, 71, 72, 73, 74, 75, 76, 77, 78, 79, 80, 81, 82, 83, 84, 85, 86, 87, 88, 89, 90, 91, 92, 125, 126, 127, 128, 129, 111, 112, 113, 114, 115, 116, 117, 118, 119, 120, 121, 122, 123, 130, 131, 132, 133, 134, 135, 136, 137, 138, 139, 140, 141, 142, 143, 144, 145, 146, 147] (by decide +kernel) (by decide +kernel)
set_option maxRecDepth 20000 in
theorem gX6_init_X2_init : GoodIn wsX6_init (wsX2_init) := ggX6_init_X2_init
set_option maxRecDepth 20000 in
theorem ggX6_init_X1_init : GoodIn wsX6_init wsX1_init := goodIn_r _ [94, 95, 2, 3, 29, 96, 124] (by decide +kernel) (by decide +kernel)
set_option maxRecDepth 20000 in
theorem gX6_init_X1_init_n57 : GoodIn wsX6_init (wsX1_init) := ggX6_init_X1_init
set_option maxRecDepth 20000 in
theorem ggX6_roll_X6_demandRoomForRoll : GoodIn wsX6_roll wsX6_demandRoomForRoll := goodIn_ca (goodIn_r _ [5, 6, 7, 8, 13, 14, 15, 16, 17, 18, 19, 20, 21, 22] (by decide +kernel) (by decide +kernel)) (goodIn_sub (fun _ h => List.mem_cons_of_mem _ (List.mem_append_right _ h)) (by decide +kernel))
set_option maxRecDepth 20000 in
theorem gX6_roll_X6_demandRoomForRoll : GoodIn wsX6_roll (wsV RX6 58 RX6 yX6_demandRoomForRoll wsX6_demandRoomForRoll) := goodIn_app (goodIn_of _ (by decide +kernel)) ggX6_roll_X6_demandRoomForRoll
set_option maxRecDepth 20000 in
theorem ggX6_roll_X6_addRoll : GoodIn wsX6_roll wsX6_addRoll := goodIn_r _ [12, 8, 13, 14, 15, 16, 17, 18, 19, 20, 21, 22] (by decide +kernel) (by decide +kernel)
set_option maxRecDepth 20000 in
theorem gX6_roll_X6_addRoll : GoodIn wsX6_roll (wsV RX6 61 RX6 yX6_addRoll wsX6_addRoll) := goodIn_app (goodIn_of _ (by decide +kernel)) ggX6_roll_X6_addRoll
set_option maxRecDepth 20000 in
theorem ggX6_punch_X6_demandPaper : GoodIn wsX6_punch wsX6_demandPaper := goodIn_ca (goodIn_r _ [5, 6, 7, 8, 9, 10, 11, 4, 12, 13, 38, 39, 40, 41, 42, 43, 44, 45, 46, 47] (by decide +kernel) (by decide +kernel)) (goodIn_sub (fun _ h => List.mem_cons_of_mem _ (List.mem_append_left _ (List.mem_append_left _ (List.mem_append_right _ h)))) (by decide +kernel))
set_option maxRecDepth 20000 in
theorem gX6_punch_X6_demandPaper : GoodIn wsX6_punch (wsV RX6 65 RX6 yX6_demandPaper wsX6_demandPaper) := goodIn_app (goodIn_of _ (by decide +kernel)) ggX6_punch_X6_demandPaper
set_option maxRecDepth 20000 in
theorem ggX6_punch_X6_demandWithin : GoodIn wsX6_punch wsX6_demandWithin := goodIn_ca (goodIn_r _ [16, 17, 18] (by decide +kernel) (by decide +kernel)) (goodIn_sub (fun _ h => List.mem_cons_of_mem _ (List.mem_append_left _ (List.mem_append_right _ h))) (by decide +kernel))
set_option maxRecDepth 20000 in
theorem gX6_punch_X6_demandWithin : GoodIn wsX6_punch (va_wsS RX6 69 yX6_demandWithin wsX6_demandWithin) := goodIn_app (goodIn_of _ (by decide +kernel)) ggX6_punch_X6_demandWithin
set_option maxRecDepth 20000 in
theorem ggX6_punch_X1_hasHole : GoodIn wsX6_punch wsX1_hasHole := goodIn_ca (goodIn_r _ [23, 24, 25, 26, 22, 27, 28, 48] (by decide +kernel) (by decide +kernel)) (goodIn_sub (fun _ h => List.mem_cons_of_mem _ (List.mem_append_right _ h)) (by decide +kernel))
set_option maxRecDepth 20000 in
theorem gX6_punch_X1_hasHole : GoodIn wsX6_punch (wsV RX6 73 RX1 yX1_hasHole wsX1_hasHole) := goodIn_app (goodIn_of _ (by decide +kernel)) ggX6_punch_X1_hasHole
set_option maxRecDepth 20000 in
theorem ggX6_punch_X1_putHole : GoodIn wsX6_punch wsX1_putHole := goodIn_ca (goodIn_r _ [32, 28, 48] (by decide +kernel) (by decide +kernel)) (goodIn_sub (fun _ h => List.mem_cons_of_mem _ (List.mem_append_right _ h)) (by decide +kernel))
set_option maxRecDepth 20000 in
theorem gX6_punch_X1_putHole : GoodIn wsX6_punch (wsV RX6 77 RX1 yX1_putHole wsX1_putHole) := goodIn_app (goodIn_of _ (by decide +kernel)) ggX6_punch_X1_putHole
set_option maxRecDepth 20000 in
theorem ggX6_punch_X6_forgetArrangementOf : GoodIn wsX6_punch wsX6_forgetArrangementOf := goodIn_r _ [36, 37, 38, 39, 40, 41, 42, 43, 44, 45, 46, 47] (by decide +kernel) (by decide +kernel)
set_option maxRecDepth 20000 in
theorem gX6_punch_X6_forgetArrangementOf : GoodIn wsX6_punch (wsV RX6 81 RX6 yX6_forgetArrangementOf wsX6_forgetArrangementOf) := goodIn_app (goodIn_of _ (by decide +kernel)) ggX6_punch_X6_forgetArrangementOf
set_option maxRecDepth 20000 in
theorem ggX6_hole_X6_demandPaper : GoodIn wsX6_hole wsX6_demandPaper := goodIn_ca (goodIn_r _ [5, 6, 7, 8, 9, 10, 11, 4, 12, 13, 29, 30, 31, 32, 33, 34, 35, 36, 37, 38] (by decide +kernel) (by decide +kernel)) (goodIn_sub (fun _ h => List.mem_cons_of_mem _ (List.mem_append_left _ (List.mem_append_left _ (List.mem_append_right _ h)))) (by decide +kernel))
set_option maxRecDepth 20000 in
theorem gX6_hole_X6_demandPaper : GoodIn wsX6_hole (wsV RX6 65 RX6 yX6_demandPaper wsX6_demandPaper) := goodIn_app (goodIn_of _ (by decide +kernel)) ggX6_hole_X6_demandPaper
set_option maxRecDepth 20000 in
theorem ggX6_hole_X6_demandWithin : GoodIn wsX6_hole wsX6_demandWithin := goodIn_ca (goodIn_r _ [16, 17, 18] (by decide +kernel) (by decide +kernel)) (goodIn_sub (fun _ h => List.mem_cons_of_mem _ (List.mem_append_left _ (List.mem_append_right _ h))) (by decide +kernel))
set_option maxRecDepth 20000 in
theorem gX6_hole_X6_demandWithin : GoodIn wsX6_hole (va_wsS RX6 69 yX6_demandWithin wsX6_demandWithin) := goodIn_app (goodIn_of _ (by decide +kernel)) ggX6_hole_X6_demandWithin
set_option maxRecDepth 20000 in
theorem ggX6_hole_X1_hasHole : GoodIn wsX6_hole wsX1_hasHole := goodIn_ca (goodIn_r _ [23, 24, 25, 26, 22, 27, 28, 39] (by decide +kernel) (by decide +kernel)) (goodIn_sub (fun _ h => List.mem_cons_of_mem _ (List.mem_append_right _ h)) (by decide +kernel))
set_option maxRecDepth 20000 in
theorem gX6_hole_X1_hasHole : GoodIn wsX6_hole (wsV RX6 73 RX1 yX1_hasHole wsX1_hasHole) := goodIn_app (goodIn_of _ (by decide +kernel)) ggX6_hole_X1_hasHole
set_option maxRecDepth 20000 in
theorem ggX6_length_X6_demandPaper : GoodIn wsX6_length wsX6_demandPaper := goodIn_ca (goodIn_r _ [5, 6, 7, 8, 9, 10, 11, 4, 12, 13, 20, 21, 22, 23, 24, 25, 26, 27, 28, 29] (by decide +kernel) (by decide +kernel)) (goodIn_sub (fun _ h => List.mem_cons_of_mem _ (List.mem_append_left _ (List.mem_append_right _ h))) (by decide +kernel))
set_option maxRecDepth 20000 in
theorem gX6_length_X6_demandPaper : GoodIn wsX6_length (wsV RX6 65 RX6 yX6_demandPaper wsX6_demandPaper) := goodIn_app (goodIn_of _ (by decide +kernel)) ggX6_length_X6_demandPaper
set_option maxRecDepth 20000 in
theorem ggX6_length_X1_countRows : GoodIn wsX6_length wsX1_countRows := goodIn_ca (goodIn_r _ [18, 19, 30] (by decide +kernel) (by decide +kernel)) (goodIn_sub (fun _ h => List.mem_cons_of_mem _ (List.mem_append_right _ h)) (by decide +kernel))
set_option maxRecDepth 20000 in
theorem gX6_length_X1_countRows : GoodIn wsX6_length (wsV RX6 85 RX1 yX1_countRows wsX1_countRows) := goodIn_app (goodIn_of _ (by decide +kernel)) ggX6_length_X1_countRows
set_option maxRecDepth 20000 in
theorem ggX6_holes_X6_demandPaper : GoodIn wsX6_holes wsX6_demandPaper := goodIn_ca (goodIn_r _ [5, 6, 7, 8, 9, 10, 11, 4, 12, 13, 32, 33, 34, 35, 36, 37, 38, 39, 40, 41] (by decide +kernel) (by decide +kernel)) (goodIn_sub (fun _ h => List.mem_cons_of_mem _ (List.mem_append_left _ (List.mem_append_left _ (List.mem_append_right _ h)))) (by decide +kernel))
set_option maxRecDepth 20000 in
theorem gX6_holes_X6_demandPaper : GoodIn wsX6_holes (wsV RX6 65 RX6 yX6_demandPaper wsX6_demandPaper) := goodIn_app (goodIn_of _ (by decide +kernel)) ggX6_holes_X6_demandPaper
set_option maxRecDepth 20000 in
theorem ggX6_holes_X6_demandWithin : GoodIn wsX6_holes wsX6_demandWithin := goodIn_ca (goodIn_r _ [16, 17, 18] (by decide +kernel) (by decide +kernel)) (goodIn_sub (fun _ h => List.mem_cons_of_mem _ (List.mem_append_left _ (List.mem_append_right _ h))) (by decide +kernel))
set_option maxRecDepth 20000 in
theorem gX6_holes_X6_demandWithin : GoodIn wsX6_holes (va_wsS RX6 69 yX6_demandWithin wsX6_demandWithin) := goodIn_app (goodIn_of _ (by decide +kernel)) ggX6_holes_X6_demandWithin
set_option maxRecDepth 20000 in
theorem ggX6_holes_X1_countHoles : GoodIn wsX6_holes wsX1_countHoles := goodIn_ca (goodIn_r _ [23, 24, 25, 26, 27, 28, 29, 30, 31, 42] (by decide +kernel) (by decide +kernel)) (goodIn_sub (fun _ h => List.mem_cons_of_mem _ (List.mem_append_right _ h)) (by decide +kernel))
set_option maxRecDepth 20000 in
theorem gX6_holes_X1_countHoles : GoodIn wsX6_holes (wsV RX6 88 RX1 yX1_countHoles wsX1_countHoles) := goodIn_app (goodIn_of _ (by decide +kernel)) ggX6_holes_X1_countHoles
set_option maxRecDepth 20000 in
theorem ggX6_copy_X6_demandPaper : GoodIn wsX6_copy wsX6_demandPaper := goodIn_ca (goodIn_r _ [5, 6, 7, 8, 9, 10, 11, 4, 12, 13, 30, 31, 32, 33, 34, 35, 36, 37, 38, 39] (by decide +kernel) (by decide +kernel)) (goodIn_sub (fun _ h => List.mem_cons_of_mem _ (List.mem_append_left _ (List.mem_append_left _ (List.mem_append_right _ h)))) (by decide +kernel))
set_option maxRecDepth 20000 in
theorem gX6_copy_X6_demandPaper : GoodIn wsX6_copy (wsV RX6 65 RX6 yX6_demandPaper wsX6_demandPaper) := goodIn_app (goodIn_of _ (by decide +kernel)) ggX6_copy_X6_demandPaper
set_option maxRecDepth 20000 in
theorem ggX6_copy_X6_demandRoomForRoll : GoodIn wsX6_copy wsX6_demandRoomForRoll := goodIn_ca (goodIn_r _ [17, 18, 19, 13, 30, 31, 32, 33, 34, 35, 36, 37, 38, 39] (by decide +kernel) (by decide +kernel)) (goodIn_sub (fun _ h => List.mem_cons_of_mem _ (List.mem_append_left _ (List.mem_append_right _ h))) (by decide +kernel))
set_option maxRecDepth 20000 in
theorem gX6_copy_X6_demandRoomForRoll : GoodIn wsX6_copy (wsV RX6 58 RX6 yX6_demandRoomForRoll wsX6_demandRoomForRoll) := goodIn_app (goodIn_of _ (by decide +kernel)) ggX6_copy_X6_demandRoomForRoll
set_option maxRecDepth 20000 in
theorem ggX6_copy_X6_addRoll : GoodIn wsX6_copy wsX6_addRoll := goodIn_r _ [23, 13, 30, 31, 32, 33, 34, 35, 36, 37, 38, 39] (by decide +kernel) (by decide +kernel)
set_option maxRecDepth 20000 in
theorem gX6_copy_X6_addRoll : GoodIn wsX6_copy (wsV RX6 61 RX6 yX6_addRoll wsX6_addRoll) := goodIn_app (goodIn_of _ (by decide +kernel)) ggX6_copy_X6_addRoll
set_option maxRecDepth 20000 in
theorem ggX6_copy_X1_takeHolesOf : GoodIn wsX6_copy wsX1_takeHolesOf := goodIn_ca (goodIn_r _ [28, 29, 40] (by decide +kernel) (by decide +kernel)) (goodIn_sub (fun _ h => List.mem_cons_of_mem _ (List.mem_append_right _ h)) (by decide +kernel))
set_option maxRecDepth 20000 in
theorem gX6_copy_X1_takeHolesOf : GoodIn wsX6_copy (wsV RX6 92 RX1 yX1_takeHolesOf wsX1_takeHolesOf) := goodIn_app (goodIn_of _ (by decide +kernel)) ggX6_copy_X1_takeHolesOf
set_option maxRecDepth 20000 in
theorem ggX6_unlike_X6_demandPaper : GoodIn wsX6_unlike wsX6_demandPaper := goodIn_ca (goodIn_r _ [5, 6, 7, 8, 9, 10, 11, 4, 12, 13, 27, 28, 29, 30, 31, 32, 33, 34, 35, 36] (by decide +kernel) (by decide +kernel)) (goodIn_sub (fun _ h => List.mem_cons_of_mem _ (List.mem_append_left _ (List.mem_append_right _ h))) (by decide +kernel))
set_option maxRecDepth 20000 in
theorem gX6_unlike_X6_demandPaper : GoodIn wsX6_unlike (wsV RX6 65 RX6 yX6_demandPaper wsX6_demandPaper) := goodIn_app (goodIn_of _ (by decide +kernel)) ggX6_unlike_X6_demandPaper
set_option maxRecDepth 20000 in
theorem ggX6_unlike_X1_countUnlike : GoodIn wsX6_unlike wsX1_countUnlike := goodIn_ca (goodIn_r _ [18, 19, 20, 21, 22, 23, 24, 25, 26, 37] (by decide +kernel) (by decide +kernel)) (goodIn_sub (fun _ h => List.mem_cons_of_mem _ (List.mem_append_right _ h)) (by decide +kernel))
set_option maxRecDepth 20000 in
theorem gX6_unlike_X1_countUnlike : GoodIn wsX6_unlike (wsV RX6 96 RX1 yX1_countUnlike wsX1_countUnlike) := goodIn_app (goodIn_of _ (by decide +kernel)) ggX6_unlike_X1_countUnlike
set_option maxRecDepth 20000 in
theorem ggX6_parent_X6_demandPaper : GoodIn wsX6_parent wsX6_demandPaper := goodIn_ca (goodIn_r _ [7, 8, 9, 10, 11, 12, 13, 6, 14, 15, 29, 30, 31, 32, 33, 34, 35, 36, 37, 38] (by decide +kernel) (by decide +kernel)) (goodIn_sub (fun _ h => List.mem_cons_of_mem _ (List.mem_append_left _ (List.mem_append_right _ h))) (by decide +kernel))
set_option maxRecDepth 20000 in
theorem gX6_parent_X6_demandPaper : GoodIn wsX6_parent (wsV RX6 65 RX6 yX6_demandPaper wsX6_demandPaper) := goodIn_app (goodIn_of _ (by decide +kernel)) ggX6_parent_X6_demandPaper
set_option maxRecDepth 20000 in
theorem ggX6_parent_X1_countUnlike : GoodIn wsX6_parent wsX1_countUnlike := goodIn_ca (goodIn_r _ [20, 21, 22, 23, 24, 25, 26, 27, 28, 39] (by decide +kernel) (by decide +kernel)) (goodIn_sub (fun _ h => List.mem_cons_of_mem _ (List.mem_append_right _ h)) (by decide +kernel))
set_option maxRecDepth 20000 in
theorem gX6_parent_X1_countUnlike : GoodIn wsX6_parent (wsV RX6 96 RX1 yX1_countUnlike wsX1_countUnlike) := goodIn_app (goodIn_of _ (by decide +kernel)) ggX6_parent_X1_countUnlike
set_option maxRecDepth 20000 in
theorem ggX6_note_X6_demandWithin : GoodIn wsX6_note wsX6_demandWithin := goodIn_ca (goodIn_r _ [10, 11, 12] (by decide +kernel) (by decide +kernel)) (goodIn_sub (fun _ h => List.mem_cons_of_mem _ (List.mem_append_left _ (List.mem_append_right _ h))) (by decide +kernel))
set_option maxRecDepth 20000 in
theorem gX6_note_X6_demandWithin : GoodIn wsX6_note (va_wsS RX6 69 yX6_demandWithin wsX6_demandWithin) := goodIn_app (goodIn_of _ (by decide +kernel)) ggX6_note_X6_demandWithin
set_option maxRecDepth 20000 in
theorem ggX6_note_X0_isTooNear : GoodIn wsX6_note wsX0_isTooNear := goodIn_ca (goodIn_r _ [17, 18, 19, 20, 21, 40, 41, 42, 43] (by decide +kernel) (by decide +kernel)) (goodIn_sub (fun _ h => List.mem_cons_of_mem _ (List.mem_append_right _ h)) (by decide +kernel))
set_option maxRecDepth 20000 in
theorem gX6_note_X0_isTooNear : GoodIn wsX6_note (wsV RX6 107 RX0 yX0_isTooNear wsX0_isTooNear) := goodIn_app (goodIn_of _ (by decide +kernel)) ggX6_note_X0_isTooNear
set_option maxRecDepth 20000 in
theorem ggX6_note_X0_isFull : GoodIn wsX6_note wsX0_isFull := goodIn_r _ [25, 18, 40, 41, 42, 43] (by decide +kernel) (by decide +kernel)
set_option maxRecDepth 20000 in
theorem gX6_note_X0_isFull : GoodIn wsX6_note (wsV RX6 116 RX0 yX0_isFull wsX0_isFull) := goodIn_app (goodIn_of _ (by decide +kernel)) ggX6_note_X0_isFull
set_option maxRecDepth 20000 in
theorem ggX6_note_X0_type : GoodIn wsX6_note wsX0_type := goodIn_ca (goodIn_r _ [29, 18, 20, 21, 19, 40, 41, 42, 43] (by decide +kernel) (by decide +kernel)) (goodIn_sub (fun _ h => List.mem_cons_of_mem _ (List.mem_append_right _ h)) (by decide +kernel))
set_option maxRecDepth 20000 in
theorem gX6_note_X0_type : GoodIn wsX6_note (wsV RX6 125 RX0 yX0_type wsX0_type) := goodIn_app (goodIn_of _ (by decide +kernel)) ggX6_note_X0_type
set_option maxRecDepth 20000 in
theorem ggX6_wipe_X0_forgetAll : GoodIn wsX6_wipe wsX0_forgetAll := goodIn_r _ [7, 8, 19, 20, 21, 22] (by decide +kernel) (by decide +kernel)
set_option maxRecDepth 20000 in
theorem gX6_wipe_X0_forgetAll : GoodIn wsX6_wipe (wsV RX6 129 RX0 yX0_forgetAll wsX0_forgetAll) := goodIn_app (goodIn_of _ (by decide +kernel)) ggX6_wipe_X0_forgetAll
set_option maxRecDepth 20000 in
theorem ggX6_arrange_X6_demandPaper : GoodIn wsX6_arrange wsX6_demandPaper := goodIn_ca (goodIn_r _ [7, 8, 9, 10, 11, 12, 13, 6, 14, 15, 50, 51, 52, 53, 54, 55, 56, 57, 58, 59] (by decide +kernel) (by decide +kernel)) (goodIn_sub (fun _ h => List.mem_cons_of_mem _ (List.mem_append_left _ (List.mem_append_right _ h))) (by decide +kernel))
set_option maxRecDepth 20000 in
theorem gX6_arrange_X6_demandPaper : GoodIn wsX6_arrange (wsV RX6 65 RX6 yX6_demandPaper wsX6_demandPaper) := goodIn_app (goodIn_of _ (by decide +kernel)) ggX6_arrange_X6_demandPaper
set_option maxRecDepth 20000 in
theorem ggX6_arrange_X1_mendPitches : GoodIn wsX6_arrange wsX1_mendPitches := goodIn_ca (goodIn_r _ [20, 21, 60] (by decide +kernel) (by decide +kernel)) (goodIn_sub (fun _ h => List.mem_cons_of_mem _ (List.mem_append_right _ h)) (by decide +kernel))
set_option maxRecDepth 20000 in
theorem gX6_arrange_X1_mendPitches : GoodIn wsX6_arrange (wsV RX6 132 RX1 yX1_mendPitches wsX1_mendPitches) := goodIn_app (goodIn_of _ (by decide +kernel)) ggX6_arrange_X1_mendPitches
set_option maxRecDepth 20000 in
theorem ggX6_arrange_X0_punchInto : GoodIn wsX6_arrange wsX0_punchInto := goodIn_ca (goodIn_r _ [26, 27, 28, 29, 30, 25, 31, 32, 33, 34, 35, 36, 37, 19, 38, 21, 61, 62, 63, 64, 60] (by decide +kernel) (by decide +kernel)) (goodIn_sub (fun _ h => List.mem_cons_of_mem _ (List.mem_append_right _ h)) (by decide +kernel))
set_option maxRecDepth 20000 in
theorem gX6_arrange_X0_punchInto : GoodIn wsX6_arrange (wsV RX6 135 RX0 yX0_punchInto wsX0_punchInto) := goodIn_app (goodIn_of _ (by decide +kernel)) ggX6_arrange_X0_punchInto
set_option maxRecDepth 20000 in
theorem ggX6_arrange_X1_countHoles : GoodIn wsX6_arrange wsX1_countHoles := goodIn_ca (goodIn_r _ [42, 21, 43, 44, 45, 46, 47, 48, 49, 60] (by decide +kernel) (by decide +kernel)) (goodIn_sub (fun _ h => List.mem_cons_of_mem _ (List.mem_append_right _ h)) (by decide +kernel))
set_option maxRecDepth 20000 in
theorem gX6_arrange_X1_countHoles : GoodIn wsX6_arrange (wsV RX6 88 RX1 yX1_countHoles wsX1_countHoles) := goodIn_app (goodIn_of _ (by decide +kernel)) ggX6_arrange_X1_countHoles
set_option maxRecDepth 20000 in
theorem ggX6_scanned_X6_demandPaper : GoodIn wsX6_scanned wsX6_demandPaper := goodIn_ca (goodIn_r _ [5, 6, 7, 8, 9, 10, 11, 4, 12, 13, 35, 36, 37, 38, 39, 40, 41, 42, 43, 44] (by decide +kernel) (by decide +kernel)) (goodIn_sub (fun _ h => List.mem_cons_of_mem _ (List.mem_append_left _ (List.mem_append_right _ h))) (by decide +kernel))
set_option maxRecDepth 20000 in
theorem gX6_scanned_X6_demandPaper : GoodIn wsX6_scanned (wsV RX6 65 RX6 yX6_demandPaper wsX6_demandPaper) := goodIn_app (goodIn_of _ (by decide +kernel)) ggX6_scanned_X6_demandPaper
set_option maxRecDepth 20000 in
theorem ggX6_scanned_X1_countNotes : GoodIn wsX6_scanned wsX1_countNotes := goodIn_ca (goodIn_r _ [18, 19, 20, 21, 17, 22, 23, 24, 25, 26, 27, 28, 29, 30, 31, 32, 33, 34, 45] (by decide +kernel) (by decide +kernel)) (goodIn_sub (fun _ h => List.mem_cons_of_mem _ (List.mem_append_right _ h)) (by decide +kernel))
set_option maxRecDepth 20000 in
theorem gX6_scanned_X1_countNotes : GoodIn wsX6_scanned (wsV RX6 139 RX1 yX1_countNotes wsX1_countNotes) := goodIn_app (goodIn_of _ (by decide +kernel)) ggX6_scanned_X1_countNotes
set_option maxRecDepth 20000 in
theorem ggX6_scan_X6_demandPaper : GoodIn wsX6_scan wsX6_demandPaper := goodIn_ca (goodIn_r _ [9, 10, 11, 12, 13, 14, 15, 8, 16, 17, 50, 51, 52, 53, 54, 55, 56, 57, 58, 59] (by decide +kernel) (by decide +kernel)) (goodIn_sub (fun _ h => List.mem_cons_of_mem _ (List.mem_append_left _ (List.mem_append_right _ h))) (by decide +kernel))
set_option maxRecDepth 20000 in
theorem gX6_scan_X6_demandPaper : GoodIn wsX6_scan (wsV RX6 65 RX6 yX6_demandPaper wsX6_demandPaper) := goodIn_app (goodIn_of _ (by decide +kernel)) ggX6_scan_X6_demandPaper
set_option maxRecDepth 20000 in
theorem ggX6_scan_X1_findNote : GoodIn wsX6_scan wsX1_findNote := goodIn_ca (goodIn_r _ [22, 23, 24, 25, 21, 26, 27, 28, 29, 30, 31, 32, 33, 34, 35, 36, 37, 38, 39, 40, 41, 60] (by decide +kernel) (by decide +kernel)) (goodIn_sub (fun _ h => List.mem_cons_of_mem _ (List.mem_append_right _ h)) (by decide +kernel))
set_option maxRecDepth 20000 in
theorem gX6_scan_X1_findNote : GoodIn wsX6_scan (wsV RX6 147 RX1 yX1_findNote wsX1_findNote) := goodIn_app (goodIn_of _ (by decide +kernel)) ggX6_scan_X1_findNote
set_option maxRecDepth 20000 in
theorem ggX6_scan_X1_measureNote : GoodIn wsX6_scan wsX1_measureNote := goodIn_ca (goodIn_r _ [45, 46, 47, 48, 21, 49, 27, 28, 29, 30, 31, 60] (by decide +kernel) (by decide +kernel)) (goodIn_sub (fun _ h => List.mem_cons_of_mem _ (List.mem_append_right _ h)) (by decide +kernel))
set_option maxRecDepth 20000 in
theorem gX6_scan_X1_measureNote : GoodIn wsX6_scan (wsV RX6 152 RX1 yX1_measureNote wsX1_measureNote) := goodIn_app (goodIn_of _ (by decide +kernel)) ggX6_scan_X1_measureNote
set_option maxRecDepth 20000 in
theorem ggX6_isMusic_X6_demandPaper : GoodIn wsX6_isMusic wsX6_demandPaper := goodIn_ca (goodIn_r _ [6, 7, 8, 9, 10, 11, 12, 5, 13, 14, 57, 58, 59, 60, 61, 62, 63, 64, 65, 66] (by decide +kernel) (by decide +kernel)) (goodIn_sub (fun _ h => List.mem_cons_of_mem _ (List.mem_append_left _ (List.mem_append_right _ h))) (by decide +kernel))
set_option maxRecDepth 20000 in
theorem gX6_isMusic_X6_demandPaper : GoodIn wsX6_isMusic (wsV RX6 65 RX6 yX6_demandPaper wsX6_demandPaper) := goodIn_app (goodIn_of _ (by decide +kernel)) ggX6_isMusic_X6_demandPaper
set_option maxRecDepth 20000 in
theorem ggX6_isMusic_X0_isScannedFrom : GoodIn wsX6_isMusic wsX0_isScannedFrom := goodIn_ca (goodIn_r _ [19, 20, 21, 22, 23, 24, 25, 26, 27, 28, 29, 30, 31, 32, 33, 34, 35, 36, 37, 38, 39, 40, 41, 42, 43, 44, 45, 46, 47, 48, 49, 50, 51, 52, 53, 54, 55, 56, 67, 68, 69, 70, 71] (by decide +kernel) (by decide +kernel)) (goodIn_sub (fun _ h => List.mem_cons_of_mem _ (List.mem_append_right _ h)) (by decide +kernel))
set_option maxRecDepth 20000 in
theorem gX6_isMusic_X0_isScannedFrom : GoodIn wsX6_isMusic (wsV RX6 156 RX0 yX0_isScannedFrom wsX0_isScannedFrom) := goodIn_app (goodIn_of _ (by decide +kernel)) ggX6_isMusic_X0_isScannedFrom
set_option maxRecDepth 20000 in
theorem ggX6_valve_X6_demandValve : GoodIn wsX6_valve wsX6_demandValve := goodIn_ca (goodIn_r _ [7, 8, 9, 10, 27, 28, 29, 30, 31, 32, 33, 34, 35, 36] (by decide +kernel) (by decide +kernel)) (goodIn_sub (fun _ h => List.mem_cons_of_mem _ (List.mem_append_left _ (List.mem_append_right _ h))) (by decide +kernel))
set_option maxRecDepth 20000 in
theorem gX6_valve_X6_demandValve : GoodIn wsX6_valve (wsV RX6 160 RX6 yX6_demandValve wsX6_demandValve) := goodIn_app (goodIn_of _ (by decide +kernel)) ggX6_valve_X6_demandValve
set_option maxRecDepth 20000 in
theorem ggX6_valve_X6_demandWithin : GoodIn wsX6_valve wsX6_demandWithin := goodIn_ca (goodIn_r _ [13, 14, 15] (by decide +kernel) (by decide +kernel)) (goodIn_sub (fun _ h => List.mem_cons_of_mem _ (List.mem_append_right _ h)) (by decide +kernel))
set_option maxRecDepth 20000 in
theorem gX6_valve_X6_demandWithin : GoodIn wsX6_valve (va_wsS RX6 69 yX6_demandWithin wsX6_demandWithin) := goodIn_app (goodIn_of _ (by decide +kernel)) ggX6_valve_X6_demandWithin
set_option maxRecDepth 20000 in
theorem ggX6_use_X6_demandValve : GoodIn wsX6_use wsX6_demandValve := goodIn_ca (goodIn_r _ [6, 7, 8, 9, 26, 27, 28, 29, 30, 31, 32, 33, 34, 35] (by decide +kernel) (by decide +kernel)) (goodIn_sub (fun _ h => List.mem_cons_of_mem _ (List.mem_append_left _ (List.mem_append_right _ h))) (by decide +kernel))
set_option maxRecDepth 20000 in
theorem gX6_use_X6_demandValve : GoodIn wsX6_use (wsV RX6 160 RX6 yX6_demandValve wsX6_demandValve) := goodIn_app (goodIn_of _ (by decide +kernel)) ggX6_use_X6_demandValve
set_option maxRecDepth 20000 in
theorem ggX6_use_X6_demandWithin : GoodIn wsX6_use wsX6_demandWithin := goodIn_ca (goodIn_r _ [12, 13, 14] (by decide +kernel) (by decide +kernel)) (goodIn_sub (fun _ h => List.mem_cons_of_mem _ (List.mem_append_right _ h)) (by decide +kernel))
set_option maxRecDepth 20000 in
theorem gX6_use_X6_demandWithin : GoodIn wsX6_use (va_wsS RX6 69 yX6_demandWithin wsX6_demandWithin) := goodIn_app (goodIn_of _ (by decide +kernel)) ggX6_use_X6_demandWithin
set_option maxRecDepth 20000 in
theorem ggX6_borrow_X6_demandValve : GoodIn wsX6_borrow wsX6_demandValve := goodIn_ca (goodIn_r _ [8, 9, 10, 11, 27, 28, 29, 30, 31, 32, 33, 34, 35, 36] (by decide +kernel) (by decide +kernel)) (goodIn_sub (fun _ h => List.mem_cons_of_mem _ (List.mem_append_right _ h)) (by decide +kernel))
set_option maxRecDepth 20000 in
theorem gX6_borrow_X6_demandValve : GoodIn wsX6_borrow (wsV RX6 160 RX6 yX6_demandValve wsX6_demandValve) := goodIn_app (goodIn_of _ (by decide +kernel)) ggX6_borrow_X6_demandValve
set_option maxRecDepth 20000 in
theorem ggX6_borrow_X6_isLentToAnother : GoodIn wsX6_borrow wsX6_isLentToAnother := goodIn_r _ [15, 11, 3, 27, 28, 29, 30, 31, 32, 33, 34, 35, 36, 16, 17, 18, 19, 20, 21, 22, 23, 24, 25, 26] (by decide +kernel) (by decide +kernel)
set_option maxRecDepth 20000 in
theorem gX6_borrow_X6_isLentToAnother : GoodIn wsX6_borrow (wsV RX6 178 RX6 yX6_isLentToAnother wsX6_isLentToAnother) := goodIn_app (goodIn_of _ (by decide +kernel)) ggX6_borrow_X6_isLentToAnother
set_option maxRecDepth 20000 in
theorem ggX6_set_X3_findMost : GoodIn wsX6_set wsX3_findMost := goodIn_r _ [8] (by decide +kernel) (by decide +kernel)
set_option maxRecDepth 20000 in
theorem gX6_set_X3_findMost : GoodIn wsX6_set (wsV RX6 184 RX3 yX3_findMost wsX3_findMost) := goodIn_app (goodIn_of _ (by decide +kernel)) ggX6_set_X3_findMost
set_option maxRecDepth 20000 in
theorem ggX6_set_X6_demandWithin : GoodIn wsX6_set wsX6_demandWithin := goodIn_ca (goodIn_r _ [12, 1, 2] (by decide +kernel) (by decide +kernel)) (goodIn_sub (fun _ h => List.mem_cons_of_mem _ (List.mem_append_right _ h)) (by decide +kernel))
set_option maxRecDepth 20000 in
theorem gX6_set_X6_demandWithin : GoodIn wsX6_set (va_wsS RX6 69 yX6_demandWithin wsX6_demandWithin) := goodIn_app (goodIn_of _ (by decide +kernel)) ggX6_set_X6_demandWithin
set_option maxRecDepth 20000 in
theorem ggX6_set_X3_exchange : GoodIn wsX6_set wsX3_exchange := goodIn_r _ [16, 17, 18, 19, 20, 31, 32, 33, 34, 35] (by decide +kernel) (by decide +kernel)
set_option maxRecDepth 20000 in
theorem gX6_set_X3_exchange : GoodIn wsX6_set (wsV RX6 192 RX3 yX3_exchange wsX3_exchange) := goodIn_app (goodIn_of _ (by decide +kernel)) ggX6_set_X3_exchange
set_option maxRecDepth 20000 in
theorem ggX6_load_X6_demandPaper : GoodIn wsX6_load wsX6_demandPaper := goodIn_ca (goodIn_r _ [6, 7, 8, 9, 10, 11, 12, 5, 13, 14, 60, 61, 62, 63, 64, 65, 66, 67, 68, 69] (by decide +kernel) (by decide +kernel)) (goodIn_sub (fun _ h => List.mem_cons_of_mem _ (List.mem_append_left _ (List.mem_append_right _ h))) (by decide +kernel))
set_option maxRecDepth 20000 in
theorem gX6_load_X6_demandPaper : GoodIn wsX6_load (wsV RX6 65 RX6 yX6_demandPaper wsX6_demandPaper) := goodIn_app (goodIn_of _ (by decide +kernel)) ggX6_load_X6_demandPaper
set_option maxRecDepth 20000 in
theorem ggX6_load_X2_begin : GoodIn wsX6_load wsX2_begin := goodIn_ca (goodIn_r _ [19, 20, 21, 22, 23, 24, 25, 26, 27, 28, 29, 30, 31, 32, 33, 34, 35, 36, 37, 38, 39, 40, 41, 42, 43, 44, 45, 46, 47, 48, 49, 50, 51, 52, 53, 54, 55, 70, 71, 72, 73, 74, 75, 76, 77, 78, 79, 80, 81, 82, 83, 84, 85, 86, 87, 88, 89, 90, 91, 92, 93, 94, 95, 96, 97, 98, 99, 100, 101] (by decide +kernel) (by decide +kernel)) (goodIn_sub (fun _ h => List.mem_cons_of_mem _ (List.mem_append_right _ h)) (by decide +kernel))
set_option maxRecDepth 20000 in
theorem gX6_load_X2_begin : GoodIn wsX6_load (wsV RX6 202 RX2 yX2_begin wsX2_begin) := goodIn_app (goodIn_of _ (by decide +kernel)) ggX6_load_X2_begin
set_option maxRecDepth 20000 in
theorem ggX6_load_X1_countRows : GoodIn wsX6_load wsX1_countRows := goodIn_ca (goodIn_r _ [59, 37, 83] (by decide +kernel) (by decide +kernel)) (goodIn_sub (fun _ h => List.mem_cons_of_mem _ (List.mem_append_right _ h)) (by decide +kernel))
set_option maxRecDepth 20000 in
theorem gX6_load_X1_countRows : GoodIn wsX6_load (wsV RX6 85 RX1 yX1_countRows wsX1_countRows) := goodIn_app (goodIn_of _ (by decide +kernel)) ggX6_load_X1_countRows
set_option maxRecDepth 20000 in
theorem ggX6_tick_X6_demandPlaying : GoodIn wsX6_tick wsX6_demandPlaying := goodIn_ca (goodIn_r _ [6, 7, 8, 1, 9, 10, 11, 12, 13, 14, 161, 162, 163, 164, 165, 166, 167, 168, 169, 170, 171, 172, 173, 174, 175, 176, 177, 178, 179, 180, 181, 182, 183] (by decide +kernel) (by decide +kernel)) (goodIn_sub (fun _ h => List.mem_cons_of_mem _ (List.mem_append_left _ (List.mem_append_left _ (List.mem_append_right _ h)))) (by decide +kernel))
set_option maxRecDepth 20000 in
theorem gX6_tick_X6_demandPlaying : GoodIn wsX6_tick (wsV RX6 205 RX6 yX6_demandPlaying wsX6_demandPlaying) := goodIn_app (goodIn_of _ (by decide +kernel)) ggX6_tick_X6_demandPlaying
set_option maxRecDepth 20000 in
theorem ggX6_tick_X6_demandWithin : GoodIn wsX6_tick wsX6_demandWithin := goodIn_ca (goodIn_r _ [17, 18, 19] (by decide +kernel) (by decide +kernel)) (goodIn_sub (fun _ h => List.mem_cons_of_mem _ (List.mem_append_left _ (List.mem_append_right _ h))) (by decide +kernel))
set_option maxRecDepth 20000 in
theorem gX6_tick_X6_demandWithin : GoodIn wsX6_tick (va_wsS RX6 69 yX6_demandWithin wsX6_demandWithin) := goodIn_app (goodIn_of _ (by decide +kernel)) ggX6_tick_X6_demandWithin
set_option maxRecDepth 20000 in
theorem ggX6_tick_X2_playRows : GoodIn wsX6_tick wsX2_playRows := goodIn_ca (goodIn_r _ [23, 14, 24, 25, 26, 27, 28, 29, 30, 31, 32, 33, 12, 34, 35, 36, 37, 38, 39, 40, 41, 42, 43, 44, 45, 46, 47, 48, 49, 50, 51, 52, 53, 54, 55, 56, 57, 58, 59, 60, 61, 62, 63, 64, 65, 66, 67, 68, 69, 70, 71, 72, 73, 74, 75, 76, 77, 78, 79, 80, 81, 82, 83, 84, 85, 86, 87, 88, 89, 90, 91, 92, 93, 94, 95, 96, 97, 98, 99, 100, 101, 102, 103, 104, 105, 106, 107, 108, 109, 110, 111, 112, 113, 114, 115, 116, 117, 118, 119, 120, 121, 122, 123, 124, 125, 126, 127, 128, 129, 130, 131, 132, 133, 134, 135, 136, 137, 138, 139, 140, 141, 142, 143, 144, 145, 146, 147, 148, 149, 150, 151, 152, 153, 154, 155, 156, 157, 158, 159, 160, 171, 172, 173, 174, 175, 176, 177, 178, 179, 180, 181, 182, 183, 184, 185, 186, 187, 188, 189, 190, 191, 192, 193, 194, 195, 196, 197, 198, 199, 200, 201, 202, 203, 204, 205, 206, 207] (by decide +kernel) (by decide +kernel)) (goodIn_sub (fun _ h => List.mem_cons_of_mem _ (List.mem_append_right _ h)) (by decide +kernel))
set_option maxRecDepth 20000 in
theorem gX6_tick_X2_playRows : GoodIn wsX6_tick (wsV RX6 211 RX2 yX2_playRows wsX2_playRows) := goodIn_app (goodIn_of _ (by decide +kernel)) ggX6_tick_X2_playRows
set_option maxRecDepth 20000 in
theorem ggX6_isPlaying_X2_isBusy : GoodIn wsX6_isPlaying wsX2_isBusy := goodIn_r _ [6, 7, 18, 19, 20, 21, 22, 23, 24, 25, 26, 27, 28, 29, 30] (by decide +kernel) (by decide +kernel)
set_option maxRecDepth 20000 in
theorem gX6_isPlaying_X2_isBusy : GoodIn wsX6_isPlaying (wsV RX6 214 RX2 yX2_isBusy wsX2_isBusy) := goodIn_app (goodIn_of _ (by decide +kernel)) ggX6_isPlaying_X2_isBusy
set_option maxRecDepth 20000 in
theorem ggX6_row_X6_demandPlaying : GoodIn wsX6_row wsX6_demandPlaying := goodIn_ca (goodIn_r _ [7, 8, 9, 1, 10, 11, 12, 13, 14, 15, 16, 17, 18, 19, 20, 21, 22, 23, 24, 25, 26, 27, 28, 29, 30, 31, 32, 33, 34, 35, 36, 37, 38] (by decide +kernel) (by decide +kernel)) (goodIn_sub (fun _ h => List.mem_cons_of_mem _ (List.mem_append_right _ h)) (by decide +kernel))
set_option maxRecDepth 20000 in
theorem gX6_row_X6_demandPlaying : GoodIn wsX6_row (wsV RX6 205 RX6 yX6_demandPlaying wsX6_demandPlaying) := goodIn_app (goodIn_of _ (by decide +kernel)) ggX6_row_X6_demandPlaying
set_option maxRecDepth 20000 in
theorem ggX6_suction_X6_demandPlaying : GoodIn wsX6_suction wsX6_demandPlaying := goodIn_ca (goodIn_r _ [7, 8, 9, 1, 10, 11, 12, 13, 14, 15, 16, 17, 18, 19, 20, 21, 22, 23, 24, 25, 26, 27, 28, 29, 30, 31, 32, 33, 34, 35, 36, 37, 38] (by decide +kernel) (by decide +kernel)) (goodIn_sub (fun _ h => List.mem_cons_of_mem _ (List.mem_append_right _ h)) (by decide +kernel))
set_option maxRecDepth 20000 in
theorem gX6_suction_X6_demandPlaying : GoodIn wsX6_suction (wsV RX6 205 RX6 yX6_demandPlaying wsX6_demandPlaying) := goodIn_app (goodIn_of _ (by decide +kernel)) ggX6_suction_X6_demandPlaying
set_option maxRecDepth 20000 in
theorem ggX6_level_X6_demandPlaying : GoodIn wsX6_level wsX6_demandPlaying := goodIn_ca (goodIn_r _ [7, 8, 9, 1, 10, 11, 12, 13, 14, 15, 16, 17, 18, 19, 20, 21, 22, 23, 24, 25, 26, 27, 28, 29, 30, 31, 32, 33, 34, 35, 36, 37, 38] (by decide +kernel) (by decide +kernel)) (goodIn_sub (fun _ h => List.mem_cons_of_mem _ (List.mem_append_right _ h)) (by decide +kernel))
set_option maxRecDepth 20000 in
theorem gX6_level_X6_demandPlaying : GoodIn wsX6_level (wsV RX6 205 RX6 yX6_demandPlaying wsX6_demandPlaying) := goodIn_app (goodIn_of _ (by decide +kernel)) ggX6_level_X6_demandPlaying
set_option maxRecDepth 20000 in
theorem ggX6_isOpen_X6_demandPlaying : GoodIn wsX6_isOpen wsX6_demandPlaying := goodIn_ca (goodIn_r _ [6, 7, 8, 9, 10, 11, 12, 13, 14, 15, 34, 35, 36, 37, 38, 39, 40, 41, 42, 43, 44, 45, 46, 47, 48, 49, 50, 51, 52, 53, 54, 55, 56] (by decide +kernel) (by decide +kernel)) (goodIn_sub (fun _ h => List.mem_cons_of_mem _ (List.mem_append_left _ (List.mem_append_right _ h))) (by decide +kernel))
set_option maxRecDepth 20000 in
theorem gX6_isOpen_X6_demandPlaying : GoodIn wsX6_isOpen (wsV RX6 205 RX6 yX6_demandPlaying wsX6_demandPlaying) := goodIn_app (goodIn_of _ (by decide +kernel)) ggX6_isOpen_X6_demandPlaying
set_option maxRecDepth 20000 in
theorem ggX6_isOpen_X6_demandValve : GoodIn wsX6_isOpen wsX6_demandValve := goodIn_ca (goodIn_r _ [19, 20, 21, 22, 34, 35, 36, 37, 38, 39, 40, 41, 42, 43] (by decide +kernel) (by decide +kernel)) (goodIn_sub (fun _ h => List.mem_cons_of_mem _ (List.mem_append_right _ h)) (by decide +kernel))
set_option maxRecDepth 20000 in
theorem gX6_isOpen_X6_demandValve : GoodIn wsX6_isOpen (wsV RX6 160 RX6 yX6_demandValve wsX6_demandValve) := goodIn_app (goodIn_of _ (by decide +kernel)) ggX6_isOpen_X6_demandValve
set_option maxRecDepth 20000 in
theorem ggX6_isHeard_X6_demandPlaying : GoodIn wsX6_isHeard wsX6_demandPlaying := goodIn_ca (goodIn_r _ [5, 6, 7, 8, 9, 10, 11, 12, 13, 14, 29, 30, 31, 32, 33, 34, 35, 36, 37, 38, 39, 40, 41, 42, 43, 44, 45, 46, 47, 48, 49, 50, 51] (by decide +kernel) (by decide +kernel)) (goodIn_sub (fun _ h => List.mem_cons_of_mem _ (List.mem_append_left _ (List.mem_append_right _ h))) (by decide +kernel))
set_option maxRecDepth 20000 in
theorem gX6_isHeard_X6_demandPlaying : GoodIn wsX6_isHeard (wsV RX6 205 RX6 yX6_demandPlaying wsX6_demandPlaying) := goodIn_app (goodIn_of _ (by decide +kernel)) ggX6_isHeard_X6_demandPlaying
set_option maxRecDepth 20000 in
theorem ggX6_isHeard_X6_demandValve : GoodIn wsX6_isHeard wsX6_demandValve := goodIn_ca (goodIn_r _ [18, 19, 20, 21, 29, 30, 31, 32, 33, 34, 35, 36, 37, 38] (by decide +kernel) (by decide +kernel)) (goodIn_sub (fun _ h => List.mem_cons_of_mem _ (List.mem_append_right _ h)) (by decide +kernel))
set_option maxRecDepth 20000 in
theorem gX6_isHeard_X6_demandValve : GoodIn wsX6_isHeard (wsV RX6 160 RX6 yX6_demandValve wsX6_demandValve) := goodIn_app (goodIn_of _ (by decide +kernel)) ggX6_isHeard_X6_demandValve
set_option maxRecDepth 20000 in
theorem ggX6_isHeard_X5_isAudible : GoodIn wsX6_isHeard wsX5_isAudible := goodIn_r _ [26, 27, 28, 52, 53, 54, 55, 56, 57, 58, 59, 60, 61, 62] (by decide +kernel) (by decide +kernel)
set_option maxRecDepth 20000 in
theorem gX6_isHeard_X5_isAudible : GoodIn wsX6_isHeard (wsV RX6 230 RX5 yX5_isAudible wsX5_isAudible) := goodIn_app (goodIn_of _ (by decide +kernel)) ggX6_isHeard_X5_isAudible
set_option maxRecDepth 20000 in
theorem ggX6_sounding_X4_has : GoodIn wsX6_sounding wsX4_has := goodIn_r _ [10, 11, 32, 33, 34, 35, 36, 37, 38] (by decide +kernel) (by decide +kernel)
set_option maxRecDepth 20000 in
theorem gX6_sounding_X4_has : GoodIn wsX6_sounding (wsV RX6 240 RX4 yX4_has wsX4_has) := goodIn_app (goodIn_of _ (by decide +kernel)) ggX6_sounding_X4_has
set_option maxRecDepth 20000 in
theorem ggX6_sounding_X4_tell : GoodIn wsX6_sounding wsX4_tell := goodIn_ca (goodIn_r _ [15, 16, 17, 18, 19, 20, 21, 7, 8, 9, 10, 11, 32, 33, 34, 35, 36, 37, 38] (by decide +kernel) (by decide +kernel)) (goodIn_sub (fun _ h => List.mem_cons_of_mem _ (List.mem_append_right _ h)) (by decide +kernel))
set_option maxRecDepth 20000 in
theorem gX6_sounding_X4_tell : GoodIn wsX6_sounding (wsV RX6 245 RX4 yX4_tell wsX4_tell) := goodIn_app (goodIn_of _ (by decide +kernel)) ggX6_sounding_X4_tell
set_option maxRecDepth 20000 in
theorem ggX6_loudest_X4_findLoudest : GoodIn wsX6_loudest wsX4_findLoudest := goodIn_ca (goodIn_r _ [9, 10, 11, 22, 23, 24, 25, 26, 27, 28] (by decide +kernel) (by decide +kernel)) (goodIn_sub (fun _ h => List.mem_cons_of_mem _ (List.mem_append_right _ h)) (by decide +kernel))
set_option maxRecDepth 20000 in
theorem gX6_loudest_X4_findLoudest : GoodIn wsX6_loudest (wsV RX6 251 RX4 yX4_findLoudest wsX4_findLoudest) := goodIn_app (goodIn_of _ (by decide +kernel)) ggX6_loudest_X4_findLoudest
set_option maxRecDepth 20000 in
theorem ggX6_speed_X6_demandWithin : GoodIn wsX6_speed wsX6_demandWithin := goodIn_ca (goodIn_r _ [6, 7, 8] (by decide +kernel) (by decide +kernel)) (goodIn_sub (fun _ h => List.mem_cons_of_mem _ (List.mem_append_right _ h)) (by decide +kernel))
set_option maxRecDepth 20000 in
theorem gX6_speed_X6_demandWithin : GoodIn wsX6_speed (va_wsS RX6 69 yX6_demandWithin wsX6_demandWithin) := goodIn_app (goodIn_of _ (by decide +kernel)) ggX6_speed_X6_demandWithin
set_option maxRecDepth 20000 in
theorem ggX6_time_X6_demandWithin : GoodIn wsX6_time wsX6_demandWithin := goodIn_ca (goodIn_r _ [4, 5, 6] (by decide +kernel) (by decide +kernel)) (goodIn_sub (fun _ h => List.mem_cons_of_mem _ (List.mem_append_left _ (List.mem_append_right _ h))) (by decide +kernel))
set_option maxRecDepth 20000 in
theorem gX6_time_X6_demandWithin : GoodIn wsX6_time (va_wsS RX6 69 yX6_demandWithin wsX6_demandWithin) := goodIn_app (goodIn_of _ (by decide +kernel)) ggX6_time_X6_demandWithin
set_option maxRecDepth 20000 in
theorem ggX6_time_X6_measureRow : GoodIn wsX6_time wsX6_measureRow := goodIn_ca (goodIn_r _ [10, 11, 12, 13, 14, 15, 16, 17, 18, 19, 20, 21, 22, 23] (by decide +kernel) (by decide +kernel)) (goodIn_sub (fun _ h => List.mem_cons_of_mem _ (List.mem_append_right _ h)) (by decide +kernel))
set_option maxRecDepth 20000 in
theorem gX6_time_X6_measureRow : GoodIn wsX6_time (wsV RX6 254 RX6 yX6_measureRow wsX6_measureRow) := goodIn_app (goodIn_of _ (by decide +kernel)) ggX6_time_X6_measureRow
set_option maxRecDepth 20000 in
theorem ggX6_checksum_X1_addToSum : GoodIn wsX6_checksum wsX1_addToSum := goodIn_ca (goodIn_r _ [9, 10, 11, 12, 13, 8, 14, 15, 16, 17, 18, 19, 20, 21, 22, 23, 44] (by decide +kernel) (by decide +kernel)) (goodIn_sub (fun _ h => List.mem_cons_of_mem _ (List.mem_append_right _ h)) (by decide +kernel))
set_option maxRecDepth 20000 in
theorem gX6_checksum_X1_addToSum : GoodIn wsX6_checksum (wsV RX6 259 RX1 yX1_addToSum wsX1_addToSum) := goodIn_app (goodIn_of _ (by decide +kernel)) ggX6_checksum_X1_addToSum
set_option maxRecDepth 20000 in
theorem ggX6_checksum_X4_addToSum : GoodIn wsX6_checksum wsX4_addToSum := goodIn_ca (goodIn_r _ [28, 29, 30, 31, 32, 33, 45, 46, 47, 48, 49, 50, 51] (by decide +kernel) (by decide +kernel)) (goodIn_sub (fun _ h => List.mem_cons_of_mem _ (List.mem_append_right _ h)) (by decide +kernel))
set_option maxRecDepth 20000 in
theorem gX6_checksum_X4_addToSum : GoodIn wsX6_checksum (wsV RX6 263 RX4 yX4_addToSum wsX4_addToSum) := goodIn_app (goodIn_of _ (by decide +kernel)) ggX6_checksum_X4_addToSum
set_option maxRecDepth 20000 in
theorem ggX6_meanLoud_X4_addLoudness : GoodIn wsX6_meanLoud wsX4_addLoudness := goodIn_ca (goodIn_r _ [9, 10, 11, 22, 23, 24, 25, 26, 27, 28] (by decide +kernel) (by decide +kernel)) (goodIn_sub (fun _ h => List.mem_cons_of_mem _ (List.mem_append_right _ h)) (by decide +kernel))
set_option maxRecDepth 20000 in
theorem gX6_meanLoud_X4_addLoudness : GoodIn wsX6_meanLoud (wsV RX6 275 RX4 yX4_addLoudness wsX4_addLoudness) := goodIn_app (goodIn_of _ (by decide +kernel)) ggX6_meanLoud_X4_addLoudness
set_option maxRecDepth 20000 in
theorem ggX6_isSound_X4_isInOrder : GoodIn wsX6_isSound wsX4_isInOrder := goodIn_ca (goodIn_r _ [6, 7, 8, 9, 10, 11, 12, 13, 14, 5, 15, 16, 82, 83, 84, 85, 86, 87, 88] (by decide +kernel) (by decide +kernel)) (goodIn_sub (fun _ h => List.mem_cons_of_mem _ (List.mem_append_right _ h)) (by decide +kernel))
set_option maxRecDepth 20000 in
theorem gX6_isSound_X4_isInOrder : GoodIn wsX6_isSound (wsV RX6 278 RX4 yX4_isInOrder wsX4_isInOrder) := goodIn_app (goodIn_of _ (by decide +kernel)) ggX6_isSound_X4_isInOrder
set_option maxRecDepth 20000 in
theorem ggX6_isSound_X6_isArrangementKept : GoodIn wsX6_isSound wsX6_isArrangementKept := goodIn_ca (goodIn_r _ [21, 22, 23, 24, 25, 26, 27, 20, 28, 29, 30, 31, 32, 33, 34, 35, 36, 37, 38, 39, 40, 41, 42, 43, 44, 45, 46, 47, 48, 49, 50, 51, 52, 53, 54, 55, 56, 57, 58, 59, 60, 61, 62, 63, 64, 65, 66, 67, 68, 69, 70, 71, 72, 73, 74, 75, 76, 77, 78, 79, 80, 81, 89, 90, 91, 92, 93] (by decide +kernel) (by decide +kernel)) (goodIn_sub (fun _ h => List.mem_cons_of_mem _ (List.mem_append_right _ h)) (by decide +kernel))
set_option maxRecDepth 20000 in
theorem gX6_isSound_X6_isArrangementKept : GoodIn wsX6_isSound (wsV RX6 281 RX6 yX6_isArrangementKept wsX6_isArrangementKept) := goodIn_app (goodIn_of _ (by decide +kernel)) ggX6_isSound_X6_isArrangementKept
set_option maxRecDepth 20000 in
theorem ggX6_demandPaper_X6_hasPaper : GoodIn wsX6_demandPaper wsX6_hasPaper := goodIn_r _ [8, 9, 10, 11, 12, 13, 14, 15, 16, 17, 18, 19] (by decide +kernel) (by decide +kernel)
set_option maxRecDepth 20000 in
theorem gX6_demandPaper_X6_hasPaper : GoodIn wsX6_demandPaper (wsV RX6 286 RX6 yX6_hasPaper wsX6_hasPaper) := goodIn_app (goodIn_of _ (by decide +kernel)) ggX6_demandPaper_X6_hasPaper
set_option maxRecDepth 20000 in
theorem ggX6_demandPlaying_X2_isBusy : GoodIn wsX6_demandPlaying wsX2_isBusy := goodIn_r _ [8, 9, 20, 21, 22, 23, 24, 25, 26, 27, 28, 29, 30, 31, 32] (by decide +kernel) (by decide +kernel)
set_option maxRecDepth 20000 in
theorem gX6_demandPlaying_X2_isBusy : GoodIn wsX6_demandPlaying (wsV RX6 214 RX2 yX2_isBusy wsX2_isBusy) := goodIn_app (goodIn_of _ (by decide +kernel)) ggX6_demandPlaying_X2_isBusy
set_option maxRecDepth 20000 in
theorem ggX6_isArrangementKept_X6_hasPaper : GoodIn wsX6_isArrangementKept wsX6_hasPaper := goodIn_r _ [8, 9, 52, 53, 54, 55, 56, 57, 58, 59, 60, 61] (by decide +kernel) (by decide +kernel)
set_option maxRecDepth 20000 in
theorem gX6_isArrangementKept_X6_hasPaper : GoodIn wsX6_isArrangementKept (wsV RX6 286 RX6 yX6_hasPaper wsX6_hasPaper) := goodIn_app (goodIn_of _ (by decide +kernel)) ggX6_isArrangementKept_X6_hasPaper
set_option maxRecDepth 20000 in
theorem ggX6_isArrangementKept_X0_isScannedFrom : GoodIn wsX6_isArrangementKept wsX0_isScannedFrom := goodIn_ca (goodIn_r _ [14, 15, 16, 17, 18, 19, 20, 21, 22, 23, 24, 25, 26, 27, 28, 29, 30, 31, 32, 33, 34, 35, 36, 37, 38, 39, 40, 41, 42, 43, 44, 45, 46, 47, 48, 49, 50, 51, 62, 63, 64, 65, 66] (by decide +kernel) (by decide +kernel)) (goodIn_sub (fun _ h => List.mem_cons_of_mem _ (List.mem_append_right _ h)) (by decide +kernel))
set_option maxRecDepth 20000 in
theorem gX6_isArrangementKept_X0_isScannedFrom : GoodIn wsX6_isArrangementKept (wsV RX6 156 RX0 yX0_isScannedFrom wsX0_isScannedFrom) := goodIn_app (goodIn_of _ (by decide +kernel)) ggX6_isArrangementKept_X0_isScannedFrom

