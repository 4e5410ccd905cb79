set_option maxRecDepth 20000 in
theorem ggL_roll_X6_roll : GoodIn wsL_roll wsX6_roll := goodIn_ca (goodIn_r _ [6, 7, 8, 9, 5, 10, 11, 12, 13, 14, 15, 16, 17, 18, 19, 20, 21, 22, 23, 24, 25, 26, 27] (by decide +kernel) (by decide +kernel)) (goodIn_sub (fun _ h => List.mem_cons_of_mem _ (List.mem_append_right _ h)) (by decide +kernel))
set_option maxRecDepth 20000 in
theorem gL_roll_X6_roll : GoodIn wsL_roll (wsV RL 7 RX6 yX6_roll wsX6_roll) := goodIn_app (goodIn_of _ (by decide +kernel)) ggL_roll_X6_roll
theorem dL_roll_0 : decode cL_roll 0 = .ok (.aload_n 1, 1) := by decide +kernel
theorem dL_roll_1 : decode cL_roll 1 = .ok (.iconst 0, 1) := by decide +kernel
theorem dL_roll_2 : decode cL_roll 2 = .ok (.aload_n 0, 1) := by decide +kernel
theorem dL_roll_3 : decode cL_roll 3 = .ok (.invokevirtual 7, 3) := by decide +kernel
theorem dL_roll_6 : decode cL_roll 6 = .ok (.i2l, 1) := by decide +kernel
theorem dL_roll_7 : decode cL_roll 7 = .ok (.lastore, 1) := by decide +kernel
theorem dL_roll_8 : decode cL_roll 8 = .ok (.goto 6, 3) := by decide +kernel
theorem dL_roll_11 : decode cL_roll 11 = .ok (.astore_n 2, 1) := by decide +kernel
theorem dL_roll_12 : decode cL_roll 12 = .ok (.iconst 1, 1) := by decide +kernel
theorem dL_roll_13 : decode cL_roll 13 = .ok (.ireturn, 1) := by decide +kernel
theorem dL_roll_14 : decode cL_roll 14 = .ok (.iconst 0, 1) := by decide +kernel
theorem dL_roll_15 : decode cL_roll 15 = .ok (.ireturn, 1) := by decide +kernel
set_option maxRecDepth 20000 in
theorem ggL_punch_X6_punch : GoodIn wsL_punch wsX6_punch := goodIn_ca (goodIn_ca (goodIn_ca (goodIn_r _ [7, 8, 9, 10, 6, 11, 12, 13, 14, 15, 16, 17, 18, 19, 20, 21, 22, 23, 24, 25, 26, 27, 28, 29, 30, 31, 32, 33, 34, 35, 36, 37, 38, 39, 40, 41, 42, 43, 44, 45, 46, 47, 48, 49, 50, 51, 52, 53, 54] (by decide +kernel) (by decide +kernel)) (goodIn_sub (fun _ h => List.mem_cons_of_mem _ (List.mem_append_left _ (List.mem_append_right _ h))) (by decide +kernel))) (goodIn_sub (fun _ h => List.mem_cons_of_mem _ (List.mem_append_right _ h)) (by decide +kernel))) (goodIn_sub (fun _ h => List.mem_cons_of_mem _ (List.mem_append_left _ (List.mem_append_left _ (List.mem_append_right _ h)))) (by decide +kernel))
set_option maxRecDepth 20000 in
theorem gL_punch_X6_punch : GoodIn wsL_punch (wsV RL 15 RX6 yX6_punch wsX6_punch) := goodIn_app (goodIn_of _ (by decide +kernel)) ggL_punch_X6_punch
theorem dL_punch_0 : decode cL_punch 0 = .ok (.aload 5, 2) := by decide +kernel
theorem dL_punch_2 : decode cL_punch 2 = .ok (.iconst 0, 1) := by decide +kernel
theorem dL_punch_3 : decode cL_punch 3 = .ok (.aload_n 0, 1) := by decide +kernel
theorem dL_punch_4 : decode cL_punch 4 = .ok (.iload_n 1, 1) := by decide +kernel
theorem dL_punch_5 : decode cL_punch 5 = .ok (.iload_n 2, 1) := by decide +kernel
theorem dL_punch_6 : decode cL_punch 6 = .ok (.iload_n 3, 1) := by decide +kernel
theorem dL_punch_7 : decode cL_punch 7 = .ok (.iload 4, 2) := by decide +kernel
theorem dL_punch_9 : decode cL_punch 9 = .ok (.invokevirtual 15, 3) := by decide +kernel
theorem dL_punch_12 : decode cL_punch 12 = .ok (.ifCond .eq 7, 3) := by decide +kernel
theorem dL_punch_15 : decode cL_punch 15 = .ok (.lconst 1, 1) := by decide +kernel
theorem dL_punch_16 : decode cL_punch 16 = .ok (.goto 4, 3) := by decide +kernel
theorem dL_punch_19 : decode cL_punch 19 = .ok (.lconst 0, 1) := by decide +kernel
theorem dL_punch_20 : decode cL_punch 20 = .ok (.lastore, 1) := by decide +kernel
theorem dL_punch_21 : decode cL_punch 21 = .ok (.goto 11, 3) := by decide +kernel
theorem dL_punch_24 : decode cL_punch 24 = .ok (.astore 6, 2) := by decide +kernel
theorem dL_punch_26 : decode cL_punch 26 = .ok (.iconst 1, 1) := by decide +kernel
theorem dL_punch_27 : decode cL_punch 27 = .ok (.ireturn, 1) := by decide +kernel
theorem dL_punch_28 : decode cL_punch 28 = .ok (.astore 6, 2) := by decide +kernel
theorem dL_punch_30 : decode cL_punch 30 = .ok (.iconst 2, 1) := by decide +kernel
theorem dL_punch_31 : decode cL_punch 31 = .ok (.ireturn, 1) := by decide +kernel
theorem dL_punch_32 : decode cL_punch 32 = .ok (.iconst 0, 1) := by decide +kernel
theorem dL_punch_33 : decode cL_punch 33 = .ok (.ireturn, 1) := by decide +kernel
set_option maxRecDepth 20000 in
theorem ggL_hole_X6_hole : GoodIn wsL_hole wsX6_hole := goodIn_ca (goodIn_ca (goodIn_ca (goodIn_r _ [7, 8, 9, 10, 6, 11, 12, 13, 14, 15, 16, 17, 18, 19, 20, 21, 22, 23, 24, 25, 26, 27, 28, 29, 30, 31, 32, 33, 34, 35, 36, 37, 38, 39, 40, 41, 42, 43, 44, 45] (by decide +kernel) (by decide +kernel)) (goodIn_sub (fun _ h => List.mem_cons_of_mem _ (List.mem_append_left _ (List.mem_append_right _ h))) (by decide +kernel))) (goodIn_sub (fun _ h => List.mem_cons_of_mem _ (List.mem_append_right _ h)) (by decide +kernel))) (goodIn_sub (fun _ h => List.mem_cons_of_mem _ (List.mem_append_left _ (List.mem_append_left _ (List.mem_append_right _ h)))) (by decide +kernel))
set_option maxRecDepth 20000 in
theorem gL_hole_X6_hole : GoodIn wsL_hole (wsV RL 23 RX6 yX6_hole wsX6_hole) := goodIn_app (goodIn_of _ (by decide +kernel)) ggL_hole_X6_hole
theorem dL_hole_0 : decode cL_hole 0 = .ok (.aload 4, 2) := by decide +kernel
theorem dL_hole_2 : decode cL_hole 2 = .ok (.iconst 0, 1) := by decide +kernel
theorem dL_hole_3 : decode cL_hole 3 = .ok (.aload_n 0, 1) := by decide +kernel
theorem dL_hole_4 : decode cL_hole 4 = .ok (.iload_n 1, 1) := by decide +kernel
theorem dL_hole_5 : decode cL_hole 5 = .ok (.iload_n 2, 1) := by decide +kernel
theorem dL_hole_6 : decode cL_hole 6 = .ok (.iload_n 3, 1) := by decide +kernel
theorem dL_hole_7 : decode cL_hole 7 = .ok (.invokevirtual 23, 3) := by decide +kernel
theorem dL_hole_10 : decode cL_hole 10 = .ok (.ifCond .eq 7, 3) := by decide +kernel
theorem dL_hole_13 : decode cL_hole 13 = .ok (.lconst 1, 1) := by decide +kernel
theorem dL_hole_14 : decode cL_hole 14 = .ok (.goto 4, 3) := by decide +kernel
theorem dL_hole_17 : decode cL_hole 17 = .ok (.lconst 0, 1) := by decide +kernel
theorem dL_hole_18 : decode cL_hole 18 = .ok (.lastore, 1) := by decide +kernel
theorem dL_hole_19 : decode cL_hole 19 = .ok (.goto 11, 3) := by decide +kernel
theorem dL_hole_22 : decode cL_hole 22 = .ok (.astore 5, 2) := by decide +kernel
theorem dL_hole_24 : decode cL_hole 24 = .ok (.iconst 1, 1) := by decide +kernel
theorem dL_hole_25 : decode cL_hole 25 = .ok (.ireturn, 1) := by decide +kernel
theorem dL_hole_26 : decode cL_hole 26 = .ok (.astore 5, 2) := by decide +kernel
theorem dL_hole_28 : decode cL_hole 28 = .ok (.iconst 2, 1) := by decide +kernel
theorem dL_hole_29 : decode cL_hole 29 = .ok (.ireturn, 1) := by decide +kernel
theorem dL_hole_30 : decode cL_hole 30 = .ok (.iconst 0, 1) := by decide +kernel
theorem dL_hole_31 : decode cL_hole 31 = .ok (.ireturn, 1) := by decide +kernel
set_option maxRecDepth 20000 in
theorem ggL_length_X6_length : GoodIn wsL_length wsX6_length := goodIn_ca (goodIn_ca (goodIn_r _ [6, 7, 8, 9, 5, 10, 11, 12, 13, 14, 15, 16, 17, 18, 19, 20, 21, 22, 23, 24, 25, 26, 27, 28, 29, 30, 31, 32, 33, 34, 35] (by decide +kernel) (by decide +kernel)) (goodIn_sub (fun _ h => List.mem_cons_of_mem _ (List.mem_append_right _ h)) (by decide +kernel))) (goodIn_sub (fun _ h => List.mem_cons_of_mem _ (List.mem_append_left _ (List.mem_append_right _ h))) (by decide +kernel))
set_option maxRecDepth 20000 in
theorem gL_length_X6_length : GoodIn wsL_length (wsV RL 27 RX6 yX6_length wsX6_length) := goodIn_app (goodIn_of _ (by decide +kernel)) ggL_length_X6_length
theorem dL_length_0 : decode cL_length 0 = .ok (.aload_n 2, 1) := by decide +kernel
theorem dL_length_1 : decode cL_length 1 = .ok (.iconst 0, 1) := by decide +kernel
theorem dL_length_2 : decode cL_length 2 = .ok (.aload_n 0, 1) := by decide +kernel
theorem dL_length_3 : decode cL_length 3 = .ok (.iload_n 1, 1) := by decide +kernel
theorem dL_length_4 : decode cL_length 4 = .ok (.invokevirtual 27, 3) := by decide +kernel
theorem dL_length_7 : decode cL_length 7 = .ok (.i2l, 1) := by decide +kernel
theorem dL_length_8 : decode cL_length 8 = .ok (.lastore, 1) := by decide +kernel
theorem dL_length_9 : decode cL_length 9 = .ok (.goto 6, 3) := by decide +kernel
theorem dL_length_12 : decode cL_length 12 = .ok (.astore_n 3, 1) := by decide +kernel
theorem dL_length_13 : decode cL_length 13 = .ok (.iconst 1, 1) := by decide +kernel
theorem dL_length_14 : decode cL_length 14 = .ok (.ireturn, 1) := by decide +kernel
theorem dL_length_15 : decode cL_length 15 = .ok (.iconst 0, 1) := by decide +kernel
theorem dL_length_16 : decode cL_length 16 = .ok (.ireturn, 1) := by decide +kernel
set_option maxRecDepth 20000 in
theorem ggL_holes_X6_holes : GoodIn wsL_holes wsX6_holes := goodIn_ca (goodIn_ca (goodIn_ca (goodIn_r _ [7, 8, 9, 10, 6, 11, 12, 13, 14, 15, 16, 17, 18, 19, 20, 21, 22, 23, 24, 25, 26, 27, 28, 29, 30, 31, 32, 33, 34, 35, 36, 37, 38, 39, 40, 41, 42, 43, 44, 45, 46, 47, 48] (by decide +kernel) (by decide +kernel)) (goodIn_sub (fun _ h => List.mem_cons_of_mem _ (List.mem_append_left _ (List.mem_append_right _ h))) (by decide +kernel))) (goodIn_sub (fun _ h => List.mem_cons_of_mem _ (List.mem_append_right _ h)) (by decide +kernel))) (goodIn_sub (fun _ h => List.mem_cons_of_mem _ (List.mem_append_left _ (List.mem_append_left _ (List.mem_append_right _ h)))) (by decide +kernel))
set_option maxRecDepth 20000 in
theorem gL_holes_X6_holes : GoodIn wsL_holes (wsV RL 31 RX6 yX6_holes wsX6_holes) := goodIn_app (goodIn_of _ (by decide +kernel)) ggL_holes_X6_holes
theorem dL_holes_0 : decode cL_holes 0 = .ok (.aload_n 3, 1) := by decide +kernel
theorem dL_holes_1 : decode cL_holes 1 = .ok (.iconst 0, 1) := by decide +kernel
theorem dL_holes_2 : decode cL_holes 2 = .ok (.aload_n 0, 1) := by decide +kernel
theorem dL_holes_3 : decode cL_holes 3 = .ok (.iload_n 1, 1) := by decide +kernel
theorem dL_holes_4 : decode cL_holes 4 = .ok (.iload_n 2, 1) := by decide +kernel
theorem dL_holes_5 : decode cL_holes 5 = .ok (.invokevirtual 31, 3) := by decide +kernel
theorem dL_holes_8 : decode cL_holes 8 = .ok (.i2l, 1) := by decide +kernel
theorem dL_holes_9 : decode cL_holes 9 = .ok (.lastore, 1) := by decide +kernel
theorem dL_holes_10 : decode cL_holes 10 = .ok (.goto 11, 3) := by decide +kernel
theorem dL_holes_13 : decode cL_holes 13 = .ok (.astore 4, 2) := by decide +kernel
theorem dL_holes_15 : decode cL_holes 15 = .ok (.iconst 1, 1) := by decide +kernel
theorem dL_holes_16 : decode cL_holes 16 = .ok (.ireturn, 1) := by decide +kernel
theorem dL_holes_17 : decode cL_holes 17 = .ok (.astore 4, 2) := by decide +kernel
theorem dL_holes_19 : decode cL_holes 19 = .ok (.iconst 2, 1) := by decide +kernel
theorem dL_holes_20 : decode cL_holes 20 = .ok (.ireturn, 1) := by decide +kernel
theorem dL_holes_21 : decode cL_holes 21 = .ok (.iconst 0, 1) := by decide +kernel
theorem dL_holes_22 : decode cL_holes 22 = .ok (.ireturn, 1) := by decide +kernel
set_option maxRecDepth 20000 in
theorem ggL_copy_X6_copy : GoodIn wsL_copy wsX6_copy := goodIn_ca (goodIn_ca (goodIn_ca (goodIn_r _ [7, 8, 9, 10, 6, 11, 12, 13, 14, 15, 16, 17, 18, 19, 20, 21, 22, 23, 24, 25, 26, 27, 28, 29, 30, 31, 32, 33, 34, 35, 36, 37, 38, 39, 40, 41, 42, 43, 44, 45, 46] (by decide +kernel) (by decide +kernel)) (goodIn_sub (fun _ h => List.mem_cons_of_mem _ (List.mem_append_left _ (List.mem_append_right _ h))) (by decide +kernel))) (goodIn_sub (fun _ h => List.mem_cons_of_mem _ (List.mem_append_right _ h)) (by decide +kernel))) (goodIn_sub (fun _ h => List.mem_cons_of_mem _ (List.mem_append_left _ (List.mem_append_left _ (List.mem_append_right _ h)))) (by decide +kernel))
set_option maxRecDepth 20000 in
theorem gL_copy_X6_copy : GoodIn wsL_copy (wsV RL 35 RX6 yX6_copy wsX6_copy) := goodIn_app (goodIn_of _ (by decide +kernel)) ggL_copy_X6_copy
theorem dL_copy_0 : decode cL_copy 0 = .ok (.aload_n 2, 1) := by decide +kernel
theorem dL_copy_1 : decode cL_copy 1 = .ok (.iconst 0, 1) := by decide +kernel
theorem dL_copy_2 : decode cL_copy 2 = .ok (.aload_n 0, 1) := by decide +kernel
theorem dL_copy_3 : decode cL_copy 3 = .ok (.iload_n 1, 1) := by decide +kernel
theorem dL_copy_4 : decode cL_copy 4 = .ok (.invokevirtual 35, 3) := by decide +kernel
theorem dL_copy_7 : decode cL_copy 7 = .ok (.i2l, 1) := by decide +kernel
theorem dL_copy_8 : decode cL_copy 8 = .ok (.lastore, 1) := by decide +kernel
theorem dL_copy_9 : decode cL_copy 9 = .ok (.goto 9, 3) := by decide +kernel
theorem dL_copy_12 : decode cL_copy 12 = .ok (.astore_n 3, 1) := by decide +kernel
theorem dL_copy_13 : decode cL_copy 13 = .ok (.iconst 1, 1) := by decide +kernel
theorem dL_copy_14 : decode cL_copy 14 = .ok (.ireturn, 1) := by decide +kernel
theorem dL_copy_15 : decode cL_copy 15 = .ok (.astore_n 3, 1) := by decide +kernel
theorem dL_copy_16 : decode cL_copy 16 = .ok (.iconst 2, 1) := by decide +kernel
theorem dL_copy_17 : decode cL_copy 17 = .ok (.ireturn, 1) := by decide +kernel
theorem dL_copy_18 : decode cL_copy 18 = .ok (.iconst 0, 1) := by decide +kernel
theorem dL_copy_19 : decode cL_copy 19 = .ok (.ireturn, 1) := by decide +kernel
set_option maxRecDepth 20000 in
theorem ggL_unlike_X6_unlike : GoodIn wsL_unlike wsX6_unlike := goodIn_ca (goodIn_ca (goodIn_r _ [6, 7, 8, 9, 5, 10, 11, 12, 13, 14, 15, 16, 17, 18, 19, 20, 21, 22, 23, 24, 25, 26, 27, 28, 29, 30, 31, 32, 33, 34, 35, 36, 37, 38, 39, 40, 41, 42] (by decide +kernel) (by decide +kernel)) (goodIn_sub (fun _ h => List.mem_cons_of_mem _ (List.mem_append_right _ h)) (by decide +kernel))) (goodIn_sub (fun _ h => List.mem_cons_of_mem _ (List.mem_append_left _ (List.mem_append_right _ h))) (by decide +kernel))
set_option maxRecDepth 20000 in
theorem gL_unlike_X6_unlike : GoodIn wsL_unlike (wsV RL 38 RX6 yX6_unlike wsX6_unlike) := goodIn_app (goodIn_of _ (by decide +kernel)) ggL_unlike_X6_unlike
theorem dL_unlike_0 : decode cL_unlike 0 = .ok (.aload_n 3, 1) := by decide +kernel
theorem dL_unlike_1 : decode cL_unlike 1 = .ok (.iconst 0, 1) := by decide +kernel
theorem dL_unlike_2 : decode cL_unlike 2 = .ok (.aload_n 0, 1) := by decide +kernel
theorem dL_unlike_3 : decode cL_unlike 3 = .ok (.iload_n 1, 1) := by decide +kernel
theorem dL_unlike_4 : decode cL_unlike 4 = .ok (.iload_n 2, 1) := by decide +kernel
theorem dL_unlike_5 : decode cL_unlike 5 = .ok (.invokevirtual 38, 3) := by decide +kernel
theorem dL_unlike_8 : decode cL_unlike 8 = .ok (.i2l, 1) := by decide +kernel
theorem dL_unlike_9 : decode cL_unlike 9 = .ok (.lastore, 1) := by decide +kernel
theorem dL_unlike_10 : decode cL_unlike 10 = .ok (.goto 7, 3) := by decide +kernel
theorem dL_unlike_13 : decode cL_unlike 13 = .ok (.astore 4, 2) := by decide +kernel
theorem dL_unlike_15 : decode cL_unlike 15 = .ok (.iconst 1, 1) := by decide +kernel
theorem dL_unlike_16 : decode cL_unlike 16 = .ok (.ireturn, 1) := by decide +kernel
theorem dL_unlike_17 : decode cL_unlike 17 = .ok (.iconst 0, 1) := by decide +kernel
theorem dL_unlike_18 : decode cL_unlike 18 = .ok (.ireturn, 1) := by decide +kernel
set_option maxRecDepth 20000 in
theorem ggL_parent_X6_parent : GoodIn wsL_parent wsX6_parent := goodIn_ca (goodIn_ca (goodIn_ca (goodIn_r _ [7, 8, 9, 10, 11, 12, 6, 13, 14, 15, 16, 17, 18, 19, 20, 21, 22, 23, 24, 25, 26, 27, 28, 29, 30, 31, 32, 33, 34, 35, 36, 37, 38, 39, 40, 41, 42, 43, 44, 45] (by decide +kernel) (by decide +kernel)) (goodIn_sub (fun _ h => List.mem_cons_of_mem _ (List.mem_append_left _ (List.mem_append_right _ h))) (by decide +kernel))) (goodIn_sub (fun _ h => List.mem_cons_of_mem _ (List.mem_append_right _ h)) (by decide +kernel))) (goodIn_sub (fun _ h => List.mem_cons_of_mem _ (List.mem_append_left _ (List.mem_append_left _ (List.mem_append_right _ h)))) (by decide +kernel))
set_option maxRecDepth 20000 in
theorem gL_parent_X6_parent : GoodIn wsL_parent (wsV RL 41 RX6 yX6_parent wsX6_parent) := goodIn_app (goodIn_of _ (by decide +kernel)) ggL_parent_X6_parent
theorem dL_parent_0 : decode cL_parent 0 = .ok (.aload_n 2, 1) := by decide +kernel
theorem dL_parent_1 : decode cL_parent 1 = .ok (.iconst 0, 1) := by decide +kernel
theorem dL_parent_2 : decode cL_parent 2 = .ok (.aload_n 0, 1) := by decide +kernel
theorem dL_parent_3 : decode cL_parent 3 = .ok (.iload_n 1, 1) := by decide +kernel
theorem dL_parent_4 : decode cL_parent 4 = .ok (.invokevirtual 41, 3) := by decide +kernel
theorem dL_parent_7 : decode cL_parent 7 = .ok (.i2l, 1) := by decide +kernel
theorem dL_parent_8 : decode cL_parent 8 = .ok (.lastore, 1) := by decide +kernel
theorem dL_parent_9 : decode cL_parent 9 = .ok (.goto 9, 3) := by decide +kernel
theorem dL_parent_12 : decode cL_parent 12 = .ok (.astore_n 3, 1) := by decide +kernel
theorem dL_parent_13 : decode cL_parent 13 = .ok (.iconst 1, 1) := by decide +kernel
theorem dL_parent_14 : decode cL_parent 14 = .ok (.ireturn, 1) := by decide +kernel
theorem dL_parent_15 : decode cL_parent 15 = .ok (.astore_n 3, 1) := by decide +kernel
theorem dL_parent_16 : decode cL_parent 16 = .ok (.iconst 2, 1) := by decide +kernel
theorem dL_parent_17 : decode cL_parent 17 = .ok (.ireturn, 1) := by decide +kernel
theorem dL_parent_18 : decode cL_parent 18 = .ok (.iconst 0, 1) := by decide +kernel
theorem dL_parent_19 : decode cL_parent 19 = .ok (.ireturn, 1) := by decide +kernel
set_option maxRecDepth 20000 in
theorem ggL_note_X6_note : GoodIn wsL_note wsX6_note := goodIn_ca (goodIn_ca (goodIn_ca (goodIn_ca (goodIn_r _ [8, 9, 10, 11, 12, 13, 14, 15, 16, 7, 17, 18, 19, 20, 21, 22, 23, 24, 25, 26, 27, 28, 29, 30, 31, 32, 33, 34, 35, 36, 37, 38, 39, 40, 41, 42, 43, 44, 45, 46, 47, 48, 49, 50] (by decide +kernel) (by decide +kernel)) (goodIn_sub (fun _ h => List.mem_cons_of_mem _ (List.mem_append_left _ (List.mem_append_left _ (List.mem_append_right _ h)))) (by decide +kernel))) (goodIn_sub (fun _ h => List.mem_cons_of_mem _ (List.mem_append_left _ (List.mem_append_right _ h))) (by decide +kernel))) (goodIn_sub (fun _ h => List.mem_cons_of_mem _ (List.mem_append_right _ h)) (by decide +kernel))) (goodIn_sub (fun _ h => List.mem_cons_of_mem _ (List.mem_append_left _ (List.mem_append_left _ (List.mem_append_left _ (List.mem_append_right _ h))))) (by decide +kernel))
set_option maxRecDepth 20000 in
theorem gL_note_X6_note : GoodIn wsL_note (wsV RL 46 RX6 yX6_note wsX6_note) := goodIn_app (goodIn_of _ (by decide +kernel)) ggL_note_X6_note
theorem dL_note_0 : decode cL_note 0 = .ok (.aload 4, 2) := by decide +kernel
theorem dL_note_2 : decode cL_note 2 = .ok (.iconst 0, 1) := by decide +kernel
theorem dL_note_3 : decode cL_note 3 = .ok (.aload_n 0, 1) := by decide +kernel
theorem dL_note_4 : decode cL_note 4 = .ok (.iload_n 1, 1) := by decide +kernel
theorem dL_note_5 : decode cL_note 5 = .ok (.iload_n 2, 1) := by decide +kernel
theorem dL_note_6 : decode cL_note 6 = .ok (.iload_n 3, 1) := by decide +kernel
theorem dL_note_7 : decode cL_note 7 = .ok (.invokevirtual 46, 3) := by decide +kernel
theorem dL_note_10 : decode cL_note 10 = .ok (.i2l, 1) := by decide +kernel
theorem dL_note_11 : decode cL_note 11 = .ok (.lastore, 1) := by decide +kernel
theorem dL_note_12 : decode cL_note 12 = .ok (.goto 15, 3) := by decide +kernel
theorem dL_note_15 : decode cL_note 15 = .ok (.astore 5, 2) := by decide +kernel
theorem dL_note_17 : decode cL_note 17 = .ok (.iconst 1, 1) := by decide +kernel
theorem dL_note_18 : decode cL_note 18 = .ok (.ireturn, 1) := by decide +kernel
theorem dL_note_19 : decode cL_note 19 = .ok (.astore 5, 2) := by decide +kernel
theorem dL_note_21 : decode cL_note 21 = .ok (.iconst 2, 1) := by decide +kernel
theorem dL_note_22 : decode cL_note 22 = .ok (.ireturn, 1) := by decide +kernel
theorem dL_note_23 : decode cL_note 23 = .ok (.astore 5, 2) := by decide +kernel
theorem dL_note_25 : decode cL_note 25 = .ok (.iconst 3, 1) := by decide +kernel
theorem dL_note_26 : decode cL_note 26 = .ok (.ireturn, 1) := by decide +kernel
theorem dL_note_27 : decode cL_note 27 = .ok (.iconst 0, 1) := by decide +kernel
theorem dL_note_28 : decode cL_note 28 = .ok (.ireturn, 1) := by decide +kernel
set_option maxRecDepth 20000 in
theorem ggL_arrange_X6_arrange : GoodIn wsL_arrange wsX6_arrange := goodIn_ca (goodIn_ca (goodIn_r _ [6, 7, 8, 9, 10, 11, 5, 12, 13, 14, 15, 16, 17, 18, 19, 20, 21, 22, 23, 24, 25, 26, 27, 28, 29, 30, 31, 32, 33, 34, 35, 36, 37, 38, 39, 40, 41, 42, 43, 44, 45, 46, 47, 48, 49, 50, 51, 52, 53, 54, 55, 56, 57, 58, 59, 60, 61, 62, 63, 64, 65, 66, 67, 68, 69] (by decide +kernel) (by decide +kernel)) (goodIn_sub (fun _ h => List.mem_cons_of_mem _ (List.mem_append_right _ h)) (by decide +kernel))) (goodIn_sub (fun _ h => List.mem_cons_of_mem _ (List.mem_append_left _ (List.mem_append_right _ h))) (by decide +kernel))
set_option maxRecDepth 20000 in
theorem gL_arrange_X6_arrange : GoodIn wsL_arrange (wsV RL 52 RX6 yX6_arrange wsX6_arrange) := goodIn_app (goodIn_of _ (by decide +kernel)) ggL_arrange_X6_arrange
theorem dL_arrange_0 : decode cL_arrange 0 = .ok (.aload_n 3, 1) := by decide +kernel
theorem dL_arrange_1 : decode cL_arrange 1 = .ok (.iconst 0, 1) := by decide +kernel
theorem dL_arrange_2 : decode cL_arrange 2 = .ok (.aload_n 0, 1) := by decide +kernel
theorem dL_arrange_3 : decode cL_arrange 3 = .ok (.iload_n 1, 1) := by decide +kernel
theorem dL_arrange_4 : decode cL_arrange 4 = .ok (.iload_n 2, 1) := by decide +kernel
theorem dL_arrange_5 : decode cL_arrange 5 = .ok (.invokevirtual 52, 3) := by decide +kernel
theorem dL_arrange_8 : decode cL_arrange 8 = .ok (.i2l, 1) := by decide +kernel
theorem dL_arrange_9 : decode cL_arrange 9 = .ok (.lastore, 1) := by decide +kernel
theorem dL_arrange_10 : decode cL_arrange 10 = .ok (.goto 7, 3) := by decide +kernel
theorem dL_arrange_13 : decode cL_arrange 13 = .ok (.astore 4, 2) := by decide +kernel
theorem dL_arrange_15 : decode cL_arrange 15 = .ok (.iconst 1, 1) := by decide +kernel
theorem dL_arrange_16 : decode cL_arrange 16 = .ok (.ireturn, 1) := by decide +kernel
theorem dL_arrange_17 : decode cL_arrange 17 = .ok (.iconst 0, 1) := by decide +kernel
theorem dL_arrange_18 : decode cL_arrange 18 = .ok (.ireturn, 1) := by decide +kernel
set_option maxRecDepth 20000 in
theorem ggL_scanned_X6_scanned : GoodIn wsL_scanned wsX6_scanned := goodIn_ca (goodIn_ca (goodIn_r _ [6, 7, 8, 9, 5, 10, 11, 12, 13, 14, 15, 16, 17, 18, 19, 20, 21, 22, 23, 24, 25, 26, 27, 28, 29, 30, 31, 32, 33, 34, 35, 36, 37, 38, 39, 40, 41, 42, 43, 44, 45, 46, 47, 48, 49, 50] (by decide +kernel) (by decide +kernel)) (goodIn_sub (fun _ h => List.mem_cons_of_mem _ (List.mem_append_right _ h)) (by decide +kernel))) (goodIn_sub (fun _ h => List.mem_cons_of_mem _ (List.mem_append_left _ (List.mem_append_right _ h))) (by decide +kernel))
set_option maxRecDepth 20000 in
theorem gL_scanned_X6_scanned : GoodIn wsL_scanned (wsV RL 56 RX6 yX6_scanned wsX6_scanned) := goodIn_app (goodIn_of _ (by decide +kernel)) ggL_scanned_X6_scanned
theorem dL_scanned_0 : decode cL_scanned 0 = .ok (.aload_n 2, 1) := by decide +kernel
theorem dL_scanned_1 : decode cL_scanned 1 = .ok (.iconst 0, 1) := by decide +kernel
theorem dL_scanned_2 : decode cL_scanned 2 = .ok (.aload_n 0, 1) := by decide +kernel
theorem dL_scanned_3 : decode cL_scanned 3 = .ok (.iload_n 1, 1) := by decide +kernel
theorem dL_scanned_4 : decode cL_scanned 4 = .ok (.invokevirtual 56, 3) := by decide +kernel
theorem dL_scanned_7 : decode cL_scanned 7 = .ok (.i2l, 1) := by decide +kernel
theorem dL_scanned_8 : decode cL_scanned 8 = .ok (.lastore, 1) := by decide +kernel
theorem dL_scanned_9 : decode cL_scanned 9 = .ok (.goto 6, 3) := by decide +kernel
theorem dL_scanned_12 : decode cL_scanned 12 = .ok (.astore_n 3, 1) := by decide +kernel
theorem dL_scanned_13 : decode cL_scanned 13 = .ok (.iconst 1, 1) := by decide +kernel
theorem dL_scanned_14 : decode cL_scanned 14 = .ok (.ireturn, 1) := by decide +kernel
theorem dL_scanned_15 : decode cL_scanned 15 = .ok (.iconst 0, 1) := by decide +kernel
theorem dL_scanned_16 : decode cL_scanned 16 = .ok (.ireturn, 1) := by decide +kernel
set_option maxRecDepth 20000 in
theorem ggL_scan_X6_scan : GoodIn wsL_scan wsX6_scan := goodIn_ca (goodIn_ca (goodIn_ca (goodIn_ca (goodIn_r _ [8, 9, 10, 11, 12, 13, 14, 15, 7, 16, 17, 18, 19, 20, 21, 22, 23, 24, 25, 26, 27, 28, 29, 30, 31, 32, 33, 34, 35, 36, 37, 38, 39, 40, 41, 42, 43, 44, 45, 46, 47, 48, 49, 50, 51, 52, 53, 54, 55, 56, 57, 58, 59, 60, 61, 62, 63, 64, 65, 66, 67] (by decide +kernel) (by decide +kernel)) (goodIn_sub (fun _ h => List.mem_cons_of_mem _ (List.mem_append_left _ (List.mem_append_left _ (List.mem_append_right _ h)))) (by decide +kernel))) (goodIn_sub (fun _ h => List.mem_cons_of_mem _ (List.mem_append_left _ (List.mem_append_right _ h))) (by decide +kernel))) (goodIn_sub (fun _ h => List.mem_cons_of_mem _ (List.mem_append_right _ h)) (by decide +kernel))) (goodIn_sub (fun _ h => List.mem_cons_of_mem _ (List.mem_append_left _ (List.mem_append_left _ (List.mem_append_left _ (List.mem_append_right _ h))))) (by decide +kernel))
set_option maxRecDepth 20000 in
theorem gL_scan_X6_scan : GoodIn wsL_scan (wsV RL 59 RX6 yX6_scan wsX6_scan) := goodIn_app (goodIn_of _ (by decide +kernel)) ggL_scan_X6_scan
theorem dL_scan_0 : decode cL_scan 0 = .ok (.aload 4, 2) := by decide +kernel
theorem dL_scan_2 : decode cL_scan 2 = .ok (.iconst 0, 1) := by decide +kernel
theorem dL_scan_3 : decode cL_scan 3 = .ok (.aload_n 0, 1) := by decide +kernel
theorem dL_scan_4 : decode cL_scan 4 = .ok (.iload_n 1, 1) := by decide +kernel
theorem dL_scan_5 : decode cL_scan 5 = .ok (.iload_n 2, 1) := by decide +kernel
theorem dL_scan_6 : decode cL_scan 6 = .ok (.iload_n 3, 1) := by decide +kernel
theorem dL_scan_7 : decode cL_scan 7 = .ok (.invokevirtual 59, 3) := by decide +kernel
theorem dL_scan_10 : decode cL_scan 10 = .ok (.i2l, 1) := by decide +kernel
theorem dL_scan_11 : decode cL_scan 11 = .ok (.lastore, 1) := by decide +kernel
theorem dL_scan_12 : decode cL_scan 12 = .ok (.goto 15, 3) := by decide +kernel
theorem dL_scan_15 : decode cL_scan 15 = .ok (.astore 5, 2) := by decide +kernel
theorem dL_scan_17 : decode cL_scan 17 = .ok (.iconst 1, 1) := by decide +kernel
theorem dL_scan_18 : decode cL_scan 18 = .ok (.ireturn, 1) := by decide +kernel
theorem dL_scan_19 : decode cL_scan 19 = .ok (.astore 5, 2) := by decide +kernel
theorem dL_scan_21 : decode cL_scan 21 = .ok (.iconst 2, 1) := by decide +kernel
theorem dL_scan_22 : decode cL_scan 22 = .ok (.ireturn, 1) := by decide +kernel
theorem dL_scan_23 : decode cL_scan 23 = .ok (.astore 5, 2) := by decide +kernel
theorem dL_scan_25 : decode cL_scan 25 = .ok (.iconst 3, 1) := by decide +kernel
theorem dL_scan_26 : decode cL_scan 26 = .ok (.ireturn, 1) := by decide +kernel
theorem dL_scan_27 : decode cL_scan 27 = .ok (.iconst 0, 1) := by decide +kernel
theorem dL_scan_28 : decode cL_scan 28 = .ok (.ireturn, 1) := by decide +kernel
set_option maxRecDepth 20000 in
theorem ggL_isMusic_X6_isMusic : GoodIn wsL_isMusic wsX6_isMusic := goodIn_ca (goodIn_ca (goodIn_r _ [6, 7, 8, 9, 10, 5, 11, 12, 13, 14, 15, 16, 17, 18, 19, 20, 21, 22, 23, 24, 25, 26, 27, 28, 29, 30, 31, 32, 33, 34, 35, 36, 37, 38, 39, 40, 41, 42, 43, 44, 45, 46, 47, 48, 49, 50, 51, 52, 53, 54, 55, 56, 57, 58, 59, 60, 61, 62, 63, 64, 65, 66, 67, 68, 69, 70, 71, 72, 73, 74, 75, 76] (by decide +kernel) (by decide +kernel)) (goodIn_sub (fun _ h => List.mem_cons_of_mem _ (List.mem_append_right _ h)) (by decide +kernel))) (goodIn_sub (fun _ h => List.mem_cons_of_mem _ (List.mem_append_left _ (List.mem_append_right _ h))) (by decide +kernel))
set_option maxRecDepth 20000 in
theorem gL_isMusic_X6_isMusic : GoodIn wsL_isMusic (wsV RL 63 RX6 yX6_isMusic wsX6_isMusic) := goodIn_app (goodIn_of _ (by decide +kernel)) ggL_isMusic_X6_isMusic
theorem dL_isMusic_0 : decode cL_isMusic 0 = .ok (.aload_n 2, 1) := by decide +kernel
theorem dL_isMusic_1 : decode cL_isMusic 1 = .ok (.iconst 0, 1) := by decide +kernel
theorem dL_isMusic_2 : decode cL_isMusic 2 = .ok (.aload_n 0, 1) := by decide +kernel
theorem dL_isMusic_3 : decode cL_isMusic 3 = .ok (.iload_n 1, 1) := by decide +kernel
theorem dL_isMusic_4 : decode cL_isMusic 4 = .ok (.invokevirtual 63, 3) := by decide +kernel
theorem dL_isMusic_7 : decode cL_isMusic 7 = .ok (.ifCond .eq 7, 3) := by decide +kernel
theorem dL_isMusic_10 : decode cL_isMusic 10 = .ok (.lconst 1, 1) := by decide +kernel
theorem dL_isMusic_11 : decode cL_isMusic 11 = .ok (.goto 4, 3) := by decide +kernel
theorem dL_isMusic_14 : decode cL_isMusic 14 = .ok (.lconst 0, 1) := by decide +kernel
theorem dL_isMusic_15 : decode cL_isMusic 15 = .ok (.lastore, 1) := by decide +kernel
theorem dL_isMusic_16 : decode cL_isMusic 16 = .ok (.goto 6, 3) := by decide +kernel
theorem dL_isMusic_19 : decode cL_isMusic 19 = .ok (.astore_n 3, 1) := by decide +kernel
theorem dL_isMusic_20 : decode cL_isMusic 20 = .ok (.iconst 1, 1) := by decide +kernel
theorem dL_isMusic_21 : decode cL_isMusic 21 = .ok (.ireturn, 1) := by decide +kernel
theorem dL_isMusic_22 : decode cL_isMusic 22 = .ok (.iconst 0, 1) := by decide +kernel
theorem dL_isMusic_23 : decode cL_isMusic 23 = .ok (.ireturn, 1) := by decide +kernel
set_option maxRecDepth 20000 in
theorem ggL_valve_X6_valve : GoodIn wsL_valve wsX6_valve := goodIn_ca (goodIn_ca (goodIn_r _ [7, 8, 9, 10, 11, 12, 6, 13, 14, 15, 16, 17, 18, 19, 20, 21, 22, 23, 24, 25, 26, 27, 28, 29, 30, 31, 32, 33, 34, 35, 36, 37, 38, 39, 40, 41, 42] (by decide +kernel) (by decide +kernel)) (goodIn_sub (fun _ h => List.mem_cons_of_mem _ (List.mem_append_left _ (List.mem_append_right _ h))) (by decide +kernel))) (goodIn_sub (fun _ h => List.mem_cons_of_mem _ (List.mem_append_right _ h)) (by decide +kernel))
set_option maxRecDepth 20000 in
theorem gL_valve_X6_valve : GoodIn wsL_valve (wsV RL 67 RX6 yX6_valve wsX6_valve) := goodIn_app (goodIn_of _ (by decide +kernel)) ggL_valve_X6_valve
theorem dL_valve_0 : decode cL_valve 0 = .ok (.aload 4, 2) := by decide +kernel
theorem dL_valve_2 : decode cL_valve 2 = .ok (.iconst 0, 1) := by decide +kernel
theorem dL_valve_3 : decode cL_valve 3 = .ok (.aload_n 0, 1) := by decide +kernel
theorem dL_valve_4 : decode cL_valve 4 = .ok (.iload_n 1, 1) := by decide +kernel
theorem dL_valve_5 : decode cL_valve 5 = .ok (.iload_n 2, 1) := by decide +kernel
theorem dL_valve_6 : decode cL_valve 6 = .ok (.iload_n 3, 1) := by decide +kernel
theorem dL_valve_7 : decode cL_valve 7 = .ok (.invokevirtual 67, 3) := by decide +kernel
theorem dL_valve_10 : decode cL_valve 10 = .ok (.i2l, 1) := by decide +kernel
theorem dL_valve_11 : decode cL_valve 11 = .ok (.lastore, 1) := by decide +kernel
theorem dL_valve_12 : decode cL_valve 12 = .ok (.goto 11, 3) := by decide +kernel
theorem dL_valve_15 : decode cL_valve 15 = .ok (.astore 5, 2) := by decide +kernel
theorem dL_valve_17 : decode cL_valve 17 = .ok (.iconst 1, 1) := by decide +kernel
theorem dL_valve_18 : decode cL_valve 18 = .ok (.ireturn, 1) := by decide +kernel
theorem dL_valve_19 : decode cL_valve 19 = .ok (.astore 5, 2) := by decide +kernel
theorem dL_valve_21 : decode cL_valve 21 = .ok (.iconst 2, 1) := by decide +kernel
theorem dL_valve_22 : decode cL_valve 22 = .ok (.ireturn, 1) := by decide +kernel
theorem dL_valve_23 : decode cL_valve 23 = .ok (.iconst 0, 1) := by decide +kernel
theorem dL_valve_24 : decode cL_valve 24 = .ok (.ireturn, 1) := by decide +kernel
set_option maxRecDepth 20000 in
theorem ggL_use_X6_use : GoodIn wsL_use wsX6_use := goodIn_ca (goodIn_ca (goodIn_r _ [7, 8, 9, 10, 11, 6, 12, 13, 14, 15, 16, 17, 18, 19, 20, 21, 22, 23, 24, 25, 26, 27, 28, 29, 30, 31, 32, 33, 34, 35, 36, 37, 38, 39, 40, 41] (by decide +kernel) (by decide +kernel)) (goodIn_sub (fun _ h => List.mem_cons_of_mem _ (List.mem_append_left _ (List.mem_append_right _ h))) (by decide +kernel))) (goodIn_sub (fun _ h => List.mem_cons_of_mem _ (List.mem_append_right _ h)) (by decide +kernel))
set_option maxRecDepth 20000 in
theorem gL_use_X6_use : GoodIn wsL_use (wsV RL 70 RX6 yX6_use wsX6_use) := goodIn_app (goodIn_of _ (by decide +kernel)) ggL_use_X6_use
theorem dL_use_0 : decode cL_use 0 = .ok (.aload_n 3, 1) := by decide +kernel
theorem dL_use_1 : decode cL_use 1 = .ok (.iconst 0, 1) := by decide +kernel
theorem dL_use_2 : decode cL_use 2 = .ok (.aload_n 0, 1) := by decide +kernel
theorem dL_use_3 : decode cL_use 3 = .ok (.iload_n 1, 1) := by decide +kernel
theorem dL_use_4 : decode cL_use 4 = .ok (.iload_n 2, 1) := by decide +kernel
theorem dL_use_5 : decode cL_use 5 = .ok (.invokevirtual 70, 3) := by decide +kernel
theorem dL_use_8 : decode cL_use 8 = .ok (.i2l, 1) := by decide +kernel
theorem dL_use_9 : decode cL_use 9 = .ok (.lastore, 1) := by decide +kernel
theorem dL_use_10 : decode cL_use 10 = .ok (.goto 11, 3) := by decide +kernel
theorem dL_use_13 : decode cL_use 13 = .ok (.astore 4, 2) := by decide +kernel
theorem dL_use_15 : decode cL_use 15 = .ok (.iconst 1, 1) := by decide +kernel
theorem dL_use_16 : decode cL_use 16 = .ok (.ireturn, 1) := by decide +kernel
theorem dL_use_17 : decode cL_use 17 = .ok (.astore 4, 2) := by decide +kernel
theorem dL_use_19 : decode cL_use 19 = .ok (.iconst 2, 1) := by decide +kernel
theorem dL_use_20 : decode cL_use 20 = .ok (.ireturn, 1) := by decide +kernel
theorem dL_use_21 : decode cL_use 21 = .ok (.iconst 0, 1) := by decide +kernel
theorem dL_use_22 : decode cL_use 22 = .ok (.ireturn, 1) := by decide +kernel
set_option maxRecDepth 20000 in
theorem ggL_borrow_X6_borrow : GoodIn wsL_borrow wsX6_borrow := goodIn_ca (goodIn_ca (goodIn_r _ [7, 8, 9, 10, 11, 12, 13, 6, 14, 15, 16, 17, 18, 19, 20, 21, 22, 23, 24, 25, 26, 27, 28, 29, 30, 31, 32, 33, 34, 35, 36, 37, 38, 39, 40, 41, 42] (by decide +kernel) (by decide +kernel)) (goodIn_sub (fun _ h => List.mem_cons_of_mem _ (List.mem_append_left _ (List.mem_append_right _ h))) (by decide +kernel))) (goodIn_sub (fun _ h => List.mem_cons_of_mem _ (List.mem_append_right _ h)) (by decide +kernel))
set_option maxRecDepth 20000 in
theorem gL_borrow_X6_borrow : GoodIn wsL_borrow (wsV RL 73 RX6 yX6_borrow wsX6_borrow) := goodIn_app (goodIn_of _ (by decide +kernel)) ggL_borrow_X6_borrow
theorem dL_borrow_0 : decode cL_borrow 0 = .ok (.aload_n 3, 1) := by decide +kernel
theorem dL_borrow_1 : decode cL_borrow 1 = .ok (.iconst 0, 1) := by decide +kernel
theorem dL_borrow_2 : decode cL_borrow 2 = .ok (.aload_n 0, 1) := by decide +kernel
theorem dL_borrow_3 : decode cL_borrow 3 = .ok (.iload_n 1, 1) := by decide +kernel
theorem dL_borrow_4 : decode cL_borrow 4 = .ok (.iload_n 2, 1) := by decide +kernel
theorem dL_borrow_5 : decode cL_borrow 5 = .ok (.invokevirtual 73, 3) := by decide +kernel
theorem dL_borrow_8 : decode cL_borrow 8 = .ok (.i2l, 1) := by decide +kernel
theorem dL_borrow_9 : decode cL_borrow 9 = .ok (.lastore, 1) := by decide +kernel
theorem dL_borrow_10 : decode cL_borrow 10 = .ok (.goto 11, 3) := by decide +kernel
theorem dL_borrow_13 : decode cL_borrow 13 = .ok (.astore 4, 2) := by decide +kernel
theorem dL_borrow_15 : decode cL_borrow 15 = .ok (.iconst 1, 1) := by decide +kernel
theorem dL_borrow_16 : decode cL_borrow 16 = .ok (.ireturn, 1) := by decide +kernel
theorem dL_borrow_17 : decode cL_borrow 17 = .ok (.astore 4, 2) := by decide +kernel
theorem dL_borrow_19 : decode cL_borrow 19 = .ok (.iconst 2, 1) := by decide +kernel
theorem dL_borrow_20 : decode cL_borrow 20 = .ok (.ireturn, 1) := by decide +kernel
theorem dL_borrow_21 : decode cL_borrow 21 = .ok (.iconst 0, 1) := by decide +kernel
theorem dL_borrow_22 : decode cL_borrow 22 = .ok (.ireturn, 1) := by decide +kernel
set_option maxRecDepth 20000 in
theorem ggL_set_X6_set : GoodIn wsL_set wsX6_set := goodIn_ca (goodIn_r _ [6, 7, 8, 9, 10, 11, 12, 13, 14, 15, 16, 5, 17, 18, 19, 20, 21, 22, 23, 24, 25, 26, 27, 28, 29, 30, 31, 32, 33, 34, 35, 36, 37, 38, 39, 40] (by decide +kernel) (by decide +kernel)) (goodIn_sub (fun _ h => List.mem_cons_of_mem _ (List.mem_append_right _ h)) (by decide +kernel))
set_option maxRecDepth 20000 in
theorem gL_set_X6_set : GoodIn wsL_set (wsV RL 76 RX6 yX6_set wsX6_set) := goodIn_app (goodIn_of _ (by decide +kernel)) ggL_set_X6_set
theorem dL_set_0 : decode cL_set 0 = .ok (.aload_n 3, 1) := by decide +kernel
theorem dL_set_1 : decode cL_set 1 = .ok (.iconst 0, 1) := by decide +kernel
theorem dL_set_2 : decode cL_set 2 = .ok (.aload_n 0, 1) := by decide +kernel
theorem dL_set_3 : decode cL_set 3 = .ok (.iload_n 1, 1) := by decide +kernel
theorem dL_set_4 : decode cL_set 4 = .ok (.iload_n 2, 1) := by decide +kernel
theorem dL_set_5 : decode cL_set 5 = .ok (.invokevirtual 76, 3) := by decide +kernel
theorem dL_set_8 : decode cL_set 8 = .ok (.i2l, 1) := by decide +kernel
theorem dL_set_9 : decode cL_set 9 = .ok (.lastore, 1) := by decide +kernel
theorem dL_set_10 : decode cL_set 10 = .ok (.goto 7, 3) := by decide +kernel
theorem dL_set_13 : decode cL_set 13 = .ok (.astore 4, 2) := by decide +kernel
theorem dL_set_15 : decode cL_set 15 = .ok (.iconst 1, 1) := by decide +kernel
theorem dL_set_16 : decode cL_set 16 = .ok (.ireturn, 1) := by decide +kernel
theorem dL_set_17 : decode cL_set 17 = .ok (.iconst 0, 1) := by decide +kernel
theorem dL_set_18 : decode cL_set 18 = .ok (.ireturn, 1) := by decide +kernel
set_option maxRecDepth 20000 in
theorem ggL_maker_X6_maker : GoodIn wsL_maker wsX6_maker := goodIn_ca (goodIn_r _ [6, 7, 8, 9, 10, 11, 12, 13, 14, 15, 16, 17, 18, 19, 20, 21, 22, 23, 24, 25] (by decide +kernel) (by decide +kernel)) (goodIn_sub (fun _ h => List.mem_cons_of_mem _ (List.mem_append_right _ h)) (by decide +kernel))
set_option maxRecDepth 20000 in
theorem gL_maker_X6_maker : GoodIn wsL_maker (wsV RL 80 RX6 yX6_maker wsX6_maker) := goodIn_app (goodIn_of _ (by decide +kernel)) ggL_maker_X6_maker
theorem dL_maker_0 : decode cL_maker 0 = .ok (.aload_n 2, 1) := by decide +kernel
theorem dL_maker_1 : decode cL_maker 1 = .ok (.iconst 0, 1) := by decide +kernel
theorem dL_maker_2 : decode cL_maker 2 = .ok (.aload_n 0, 1) := by decide +kernel
theorem dL_maker_3 : decode cL_maker 3 = .ok (.iload_n 1, 1) := by decide +kernel
theorem dL_maker_4 : decode cL_maker 4 = .ok (.invokevirtual 80, 3) := by decide +kernel
theorem dL_maker_7 : decode cL_maker 7 = .ok (.i2l, 1) := by decide +kernel
theorem dL_maker_8 : decode cL_maker 8 = .ok (.lastore, 1) := by decide +kernel
theorem dL_maker_9 : decode cL_maker 9 = .ok (.goto 6, 3) := by decide +kernel
theorem dL_maker_12 : decode cL_maker 12 = .ok (.astore_n 3, 1) := by decide +kernel
theorem dL_maker_13 : decode cL_maker 13 = .ok (.iconst 1, 1) := by decide +kernel
theorem dL_maker_14 : decode cL_maker 14 = .ok (.ireturn, 1) := by decide +kernel
theorem dL_maker_15 : decode cL_maker 15 = .ok (.iconst 0, 1) := by decide +kernel
theorem dL_maker_16 : decode cL_maker 16 = .ok (.ireturn, 1) := by decide +kernel
set_option maxRecDepth 20000 in
theorem ggL_load_X6_load : GoodIn wsL_load wsX6_load := goodIn_ca (goodIn_ca (goodIn_r _ [6, 7, 8, 9, 10, 5, 11, 12, 13, 14, 15, 16, 17, 18, 19, 20, 21, 22, 23, 24, 25, 26, 27, 28, 29, 30, 31, 32, 33, 34, 35, 36, 37, 38, 39, 40, 41, 42, 43, 44, 45, 46, 47, 48, 49, 50, 51, 52, 53, 54, 55, 56, 57, 58, 59, 60, 61, 62, 63, 64, 65, 66, 67, 68, 69, 70, 71, 72, 73, 74, 75, 76, 77, 78, 79, 80, 81, 82, 83, 84, 85, 86, 87, 88, 89, 90, 91, 92, 93, 94, 95, 96, 97, 98, 99, 100, 101, 102, 103, 104, 105, 106] (by decide +kernel) (by decide +kernel)) (goodIn_sub (fun _ h => List.mem_cons_of_mem _ (List.mem_append_right _ h)) (by decide +kernel))) (goodIn_sub (fun _ h => List.mem_cons_of_mem _ (List.mem_append_left _ (List.mem_append_right _ h))) (by decide +kernel))
set_option maxRecDepth 20000 in
theorem gL_load_X6_load : GoodIn wsL_load (wsV RL 84 RX6 yX6_load wsX6_load) := goodIn_app (goodIn_of _ (by decide +kernel)) ggL_load_X6_load
theorem dL_load_0 : decode cL_load 0 = .ok (.aload_n 2, 1) := by decide +kernel
theorem dL_load_1 : decode cL_load 1 = .ok (.iconst 0, 1) := by decide +kernel
theorem dL_load_2 : decode cL_load 2 = .ok (.aload_n 0, 1) := by decide +kernel
theorem dL_load_3 : decode cL_load 3 = .ok (.iload_n 1, 1) := by decide +kernel
theorem dL_load_4 : decode cL_load 4 = .ok (.invokevirtual 84, 3) := by decide +kernel
theorem dL_load_7 : decode cL_load 7 = .ok (.i2l, 1) := by decide +kernel
theorem dL_load_8 : decode cL_load 8 = .ok (.lastore, 1) := by decide +kernel
theorem dL_load_9 : decode cL_load 9 = .ok (.goto 6, 3) := by decide +kernel
theorem dL_load_12 : decode cL_load 12 = .ok (.astore_n 3, 1) := by decide +kernel
theorem dL_load_13 : decode cL_load 13 = .ok (.iconst 1, 1) := by decide +kernel
theorem dL_load_14 : decode cL_load 14 = .ok (.ireturn, 1) := by decide +kernel
theorem dL_load_15 : decode cL_load 15 = .ok (.iconst 0, 1) := by decide +kernel
theorem dL_load_16 : decode cL_load 16 = .ok (.ireturn, 1) := by decide +kernel
set_option maxRecDepth 20000 in
theorem ggL_aside_X6_aside : GoodIn wsL_aside wsX6_aside := goodIn_ca (goodIn_ca (goodIn_r _ [7, 8, 9, 10, 11, 12, 6, 13, 14, 15, 16, 17, 18, 19, 20, 21, 22, 23, 24, 25, 26, 27, 28, 29, 30, 31, 32, 33, 34, 35, 36, 37, 38, 39, 40, 41, 42, 43, 44, 45, 46, 47, 48, 49] (by decide +kernel) (by decide +kernel)) (goodIn_sub (fun _ h => List.mem_cons_of_mem _ (List.mem_append_left _ (List.mem_append_right _ h))) (by decide +kernel))) (goodIn_sub (fun _ h => List.mem_cons_of_mem _ (List.mem_append_right _ h)) (by decide +kernel))
set_option maxRecDepth 20000 in
theorem gL_aside_X6_aside : GoodIn wsL_aside (wsV RL 87 RX6 yX6_aside wsX6_aside) := goodIn_app (goodIn_of _ (by decide +kernel)) ggL_aside_X6_aside
theorem dL_aside_0 : decode cL_aside 0 = .ok (.aload_n 2, 1) := by decide +kernel
theorem dL_aside_1 : decode cL_aside 1 = .ok (.iconst 0, 1) := by decide +kernel
theorem dL_aside_2 : decode cL_aside 2 = .ok (.aload_n 0, 1) := by decide +kernel
theorem dL_aside_3 : decode cL_aside 3 = .ok (.iload_n 1, 1) := by decide +kernel
theorem dL_aside_4 : decode cL_aside 4 = .ok (.invokevirtual 87, 3) := by decide +kernel
theorem dL_aside_7 : decode cL_aside 7 = .ok (.i2l, 1) := by decide +kernel
theorem dL_aside_8 : decode cL_aside 8 = .ok (.lastore, 1) := by decide +kernel
theorem dL_aside_9 : decode cL_aside 9 = .ok (.goto 9, 3) := by decide +kernel
theorem dL_aside_12 : decode cL_aside 12 = .ok (.astore_n 3, 1) := by decide +kernel
theorem dL_aside_13 : decode cL_aside 13 = .ok (.iconst 1, 1) := by decide +kernel
theorem dL_aside_14 : decode cL_aside 14 = .ok (.ireturn, 1) := by decide +kernel
theorem dL_aside_15 : decode cL_aside 15 = .ok (.astore_n 3, 1) := by decide +kernel
theorem dL_aside_16 : decode cL_aside 16 = .ok (.iconst 2, 1) := by decide +kernel
theorem dL_aside_17 : decode cL_aside 17 = .ok (.ireturn, 1) := by decide +kernel
theorem dL_aside_18 : decode cL_aside 18 = .ok (.iconst 0, 1) := by decide +kernel
theorem dL_aside_19 : decode cL_aside 19 = .ok (.ireturn, 1) := by decide +kernel
set_option maxRecDepth 20000 in
theorem ggL_tick_X6_tick : GoodIn wsL_tick wsX6_tick := goodIn_ca (goodIn_ca (goodIn_ca (goodIn_r _ [7, 8, 9, 10, 11, 6, 12, 13, 14, 15, 16, 17, 18, 19, 20, 21, 22, 23, 24, 25, 26, 27, 28, 29, 30, 31, 32, 33, 34, 35, 36, 37, 38, 39, 40, 41, 42, 43, 44, 45, 46, 47, 48, 49, 50, 51, 52, 53, 54, 55, 56, 57, 58, 59, 60, 61, 62, 63, 64, 65, 66, 67, 68, 69, 70, 71, 72, 73, 74, 75, 76, 77, 78, 79, 80, 81, 82, 83, 84, 85, 86, 87, 88, 89, 90, 91, 92, 93, 94, 95, 96, 97, 98, 99, 100, 101, 102, 103, 104, 105, 106, 107, 108, 109, 110, 111, 112, 113, 114, 115, 116, 117, 118, 119, 120, 121, 122, 123, 124, 125, 126, 127, 128, 129, 130, 131, 132, 133, 134, 135, 136, 137, 138, 139, 140, 141, 142, 143, 144, 145, 146, 147, 148, 149, 150, 151, 152, 153, 154, 155, 156, 157, 158, 159, 160, 161, 162, 163, 164, 165, 166, 167, 168, 169, 170, 171, 172, 173, 174, 175, 176, 177, 178, 179, 180, 181, 182, 183, 184, 185, 186, 187, 188, 189, 190, 191, 192, 193, 194, 195, 196, 197, 198, 199, 200, 201, 202, 203, 204, 205, 206, 207, 208, 209, 210, 211, 212, 213] (by decide +kernel) (by decide +kernel)) (goodIn_sub (fun _ h => List.mem_cons_of_mem _ (List.mem_append_left _ (List.mem_append_right _ h))) (by decide +kernel))) (goodIn_sub (fun _ h => List.mem_cons_of_mem _ (List.mem_append_right _ h)) (by decide +kernel))) (goodIn_sub (fun _ h => List.mem_cons_of_mem _ (List.mem_append_left _ (List.mem_append_left _ (List.mem_append_right _ h)))) (by decide +kernel))
set_option maxRecDepth 20000 in
theorem gL_tick_X6_tick : GoodIn wsL_tick (wsV RL 90 RX6 yX6_tick wsX6_tick) := goodIn_app (goodIn_of _ (by decide +kernel)) ggL_tick_X6_tick
theorem dL_tick_0 : decode cL_tick 0 = .ok (.aload_n 2, 1) := by decide +kernel
theorem dL_tick_1 : decode cL_tick 1 = .ok (.iconst 0, 1) := by decide +kernel
theorem dL_tick_2 : decode cL_tick 2 = .ok (.aload_n 0, 1) := by decide +kernel
theorem dL_tick_3 : decode cL_tick 3 = .ok (.iload_n 1, 1) := by decide +kernel
theorem dL_tick_4 : decode cL_tick 4 = .ok (.invokevirtual 90, 3) := by decide +kernel
theorem dL_tick_7 : decode cL_tick 7 = .ok (.i2l, 1) := by decide +kernel
theorem dL_tick_8 : decode cL_tick 8 = .ok (.lastore, 1) := by decide +kernel
theorem dL_tick_9 : decode cL_tick 9 = .ok (.goto 9, 3) := by decide +kernel
theorem dL_tick_12 : decode cL_tick 12 = .ok (.astore_n 3, 1) := by decide +kernel
theorem dL_tick_13 : decode cL_tick 13 = .ok (.iconst 1, 1) := by decide +kernel
theorem dL_tick_14 : decode cL_tick 14 = .ok (.ireturn, 1) := by decide +kernel
theorem dL_tick_15 : decode cL_tick 15 = .ok (.astore_n 3, 1) := by decide +kernel
theorem dL_tick_16 : decode cL_tick 16 = .ok (.iconst 2, 1) := by decide +kernel
theorem dL_tick_17 : decode cL_tick 17 = .ok (.ireturn, 1) := by decide +kernel
theorem dL_tick_18 : decode cL_tick 18 = .ok (.iconst 0, 1) := by decide +kernel
theorem dL_tick_19 : decode cL_tick 19 = .ok (.ireturn, 1) := by decide +kernel
set_option maxRecDepth 20000 in
theorem ggL_row_X6_row : GoodIn wsL_row wsX6_row := goodIn_ca (goodIn_r _ [6, 7, 8, 9, 10, 11, 5, 12, 13, 14, 15, 16, 17, 18, 19, 20, 21, 22, 23, 24, 25, 26, 27, 28, 29, 30, 31, 32, 33, 34, 35, 36, 37, 38, 39, 40, 41, 42, 43] (by decide +kernel) (by decide +kernel)) (goodIn_sub (fun _ h => List.mem_cons_of_mem _ (List.mem_append_right _ h)) (by decide +kernel))
set_option maxRecDepth 20000 in
theorem gL_row_X6_row : GoodIn wsL_row (wsV RL 93 RX6 yX6_row wsX6_row) := goodIn_app (goodIn_of _ (by decide +kernel)) ggL_row_X6_row
theorem dL_row_0 : decode cL_row 0 = .ok (.aload_n 1, 1) := by decide +kernel
theorem dL_row_1 : decode cL_row 1 = .ok (.iconst 0, 1) := by decide +kernel
theorem dL_row_2 : decode cL_row 2 = .ok (.aload_n 0, 1) := by decide +kernel
theorem dL_row_3 : decode cL_row 3 = .ok (.invokevirtual 93, 3) := by decide +kernel
theorem dL_row_6 : decode cL_row 6 = .ok (.i2l, 1) := by decide +kernel
theorem dL_row_7 : decode cL_row 7 = .ok (.lastore, 1) := by decide +kernel
theorem dL_row_8 : decode cL_row 8 = .ok (.goto 6, 3) := by decide +kernel
theorem dL_row_11 : decode cL_row 11 = .ok (.astore_n 2, 1) := by decide +kernel
theorem dL_row_12 : decode cL_row 12 = .ok (.iconst 1, 1) := by decide +kernel
theorem dL_row_13 : decode cL_row 13 = .ok (.ireturn, 1) := by decide +kernel
theorem dL_row_14 : decode cL_row 14 = .ok (.iconst 0, 1) := by decide +kernel
theorem dL_row_15 : decode cL_row 15 = .ok (.ireturn, 1) := by decide +kernel
set_option maxRecDepth 20000 in
theorem ggL_suction_X6_suction : GoodIn wsL_suction wsX6_suction := goodIn_ca (goodIn_r _ [6, 7, 8, 9, 10, 11, 5, 12, 13, 14, 15, 16, 17, 18, 19, 20, 21, 22, 23, 24, 25, 26, 27, 28, 29, 30, 31, 32, 33, 34, 35, 36, 37, 38, 39, 40, 41, 42, 43] (by decide +kernel) (by decide +kernel)) (goodIn_sub (fun _ h => List.mem_cons_of_mem _ (List.mem_append_right _ h)) (by decide +kernel))
set_option maxRecDepth 20000 in
theorem gL_suction_X6_suction : GoodIn wsL_suction (wsV RL 96 RX6 yX6_suction wsX6_suction) := goodIn_app (goodIn_of _ (by decide +kernel)) ggL_suction_X6_suction
theorem dL_suction_0 : decode cL_suction 0 = .ok (.aload_n 1, 1) := by decide +kernel
theorem dL_suction_1 : decode cL_suction 1 = .ok (.iconst 0, 1) := by decide +kernel
theorem dL_suction_2 : decode cL_suction 2 = .ok (.aload_n 0, 1) := by decide +kernel
theorem dL_suction_3 : decode cL_suction 3 = .ok (.invokevirtual 96, 3) := by decide +kernel
theorem dL_suction_6 : decode cL_suction 6 = .ok (.i2l, 1) := by decide +kernel
theorem dL_suction_7 : decode cL_suction 7 = .ok (.lastore, 1) := by decide +kernel
theorem dL_suction_8 : decode cL_suction 8 = .ok (.goto 6, 3) := by decide +kernel
theorem dL_suction_11 : decode cL_suction 11 = .ok (.astore_n 2, 1) := by decide +kernel
theorem dL_suction_12 : decode cL_suction 12 = .ok (.iconst 1, 1) := by decide +kernel
theorem dL_suction_13 : decode cL_suction 13 = .ok (.ireturn, 1) := by decide +kernel
theorem dL_suction_14 : decode cL_suction 14 = .ok (.iconst 0, 1) := by decide +kernel
theorem dL_suction_15 : decode cL_suction 15 = .ok (.ireturn, 1) := by decide +kernel
set_option maxRecDepth 20000 in
theorem ggL_level_X6_level : GoodIn wsL_level wsX6_level := goodIn_ca (goodIn_r _ [6, 7, 8, 9, 10, 11, 5, 12, 13, 14, 15, 16, 17, 18, 19, 20, 21, 22, 23, 24, 25, 26, 27, 28, 29, 30, 31, 32, 33, 34, 35, 36, 37, 38, 39, 40, 41, 42, 43] (by decide +kernel) (by decide +kernel)) (goodIn_sub (fun _ h => List.mem_cons_of_mem _ (List.mem_append_right _ h)) (by decide +kernel))
set_option maxRecDepth 20000 in
theorem gL_level_X6_level : GoodIn wsL_level (wsV RL 99 RX6 yX6_level wsX6_level) := goodIn_app (goodIn_of _ (by decide +kernel)) ggL_level_X6_level
theorem dL_level_0 : decode cL_level 0 = .ok (.aload_n 1, 1) := by decide +kernel
theorem dL_level_1 : decode cL_level 1 = .ok (.iconst 0, 1) := by decide +kernel
theorem dL_level_2 : decode cL_level 2 = .ok (.aload_n 0, 1) := by decide +kernel
theorem dL_level_3 : decode cL_level 3 = .ok (.invokevirtual 99, 3) := by decide +kernel
theorem dL_level_6 : decode cL_level 6 = .ok (.i2l, 1) := by decide +kernel
theorem dL_level_7 : decode cL_level 7 = .ok (.lastore, 1) := by decide +kernel
theorem dL_level_8 : decode cL_level 8 = .ok (.goto 6, 3) := by decide +kernel
theorem dL_level_11 : decode cL_level 11 = .ok (.astore_n 2, 1) := by decide +kernel
theorem dL_level_12 : decode cL_level 12 = .ok (.iconst 1, 1) := by decide +kernel
theorem dL_level_13 : decode cL_level 13 = .ok (.ireturn, 1) := by decide +kernel
theorem dL_level_14 : decode cL_level 14 = .ok (.iconst 0, 1) := by decide +kernel
theorem dL_level_15 : decode cL_level 15 = .ok (.ireturn, 1) := by decide +kernel
set_option maxRecDepth 20000 in
theorem ggL_isOpen_X6_isOpen : GoodIn wsL_isOpen wsX6_isOpen := goodIn_ca (goodIn_ca (goodIn_r _ [7, 8, 9, 10, 11, 6, 12, 13, 14, 15, 16, 17, 18, 19, 20, 21, 22, 23, 24, 25, 26, 27, 28, 29, 30, 31, 32, 33, 34, 35, 36, 37, 38, 39, 40, 41, 42, 43, 44, 45, 46, 47, 48, 49, 50, 51, 52, 53, 54, 55, 56, 57, 58, 59, 60, 61, 62] (by decide +kernel) (by decide +kernel)) (goodIn_sub (fun _ h => List.mem_cons_of_mem _ (List.mem_append_left _ (List.mem_append_right _ h))) (by decide +kernel))) (goodIn_sub (fun _ h => List.mem_cons_of_mem _ (List.mem_append_right _ h)) (by decide +kernel))
set_option maxRecDepth 20000 in
theorem gL_isOpen_X6_isOpen : GoodIn wsL_isOpen (wsV RL 102 RX6 yX6_isOpen wsX6_isOpen) := goodIn_app (goodIn_of _ (by decide +kernel)) ggL_isOpen_X6_isOpen
theorem dL_isOpen_0 : decode cL_isOpen 0 = .ok (.aload_n 2, 1) := by decide +kernel
theorem dL_isOpen_1 : decode cL_isOpen 1 = .ok (.iconst 0, 1) := by decide +kernel
theorem dL_isOpen_2 : decode cL_isOpen 2 = .ok (.aload_n 0, 1) := by decide +kernel
theorem dL_isOpen_3 : decode cL_isOpen 3 = .ok (.iload_n 1, 1) := by decide +kernel
theorem dL_isOpen_4 : decode cL_isOpen 4 = .ok (.invokevirtual 102, 3) := by decide +kernel
theorem dL_isOpen_7 : decode cL_isOpen 7 = .ok (.ifCond .eq 7, 3) := by decide +kernel
theorem dL_isOpen_10 : decode cL_isOpen 10 = .ok (.lconst 1, 1) := by decide +kernel
theorem dL_isOpen_11 : decode cL_isOpen 11 = .ok (.goto 4, 3) := by decide +kernel
theorem dL_isOpen_14 : decode cL_isOpen 14 = .ok (.lconst 0, 1) := by decide +kernel
theorem dL_isOpen_15 : decode cL_isOpen 15 = .ok (.lastore, 1) := by decide +kernel
theorem dL_isOpen_16 : decode cL_isOpen 16 = .ok (.goto 9, 3) := by decide +kernel
theorem dL_isOpen_19 : decode cL_isOpen 19 = .ok (.astore_n 3, 1) := by decide +kernel
theorem dL_isOpen_20 : decode cL_isOpen 20 = .ok (.iconst 1, 1) := by decide +kernel
theorem dL_isOpen_21 : decode cL_isOpen 21 = .ok (.ireturn, 1) := by decide +kernel
theorem dL_isOpen_22 : decode cL_isOpen 22 = .ok (.astore_n 3, 1) := by decide +kernel
theorem dL_isOpen_23 : decode cL_isOpen 23 = .ok (.iconst 2, 1) := by decide +kernel
theorem dL_isOpen_24 : decode cL_isOpen 24 = .ok (.ireturn, 1) := by decide +kernel
theorem dL_isOpen_25 : decode cL_isOpen 25 = .ok (.iconst 0, 1) := by decide +kernel
theorem dL_isOpen_26 : decode cL_isOpen 26 = .ok (.ireturn, 1) := by decide +kernel
set_option maxRecDepth 20000 in
theorem ggL_isHeard_X6_isHeard : GoodIn wsL_isHeard wsX6_isHeard := goodIn_ca (goodIn_ca (goodIn_r _ [7, 8, 9, 10, 6, 11, 12, 13, 14, 15, 16, 17, 18, 19, 20, 21, 22, 23, 24, 25, 26, 27, 28, 29, 30, 31, 32, 33, 34, 35, 36, 37, 38, 39, 40, 41, 42, 43, 44, 45, 46, 47, 48, 49, 50, 51, 52, 53, 54, 55, 56, 57, 58, 59, 60, 61, 62, 63, 64, 65, 66, 67, 68] (by decide +kernel) (by decide +kernel)) (goodIn_sub (fun _ h => List.mem_cons_of_mem _ (List.mem_append_left _ (List.mem_append_right _ h))) (by decide +kernel))) (goodIn_sub (fun _ h => List.mem_cons_of_mem _ (List.mem_append_right _ h)) (by decide +kernel))
set_option maxRecDepth 20000 in
theorem gL_isHeard_X6_isHeard : GoodIn wsL_isHeard (wsV RL 105 RX6 yX6_isHeard wsX6_isHeard) := goodIn_app (goodIn_of _ (by decide +kernel)) ggL_isHeard_X6_isHeard
theorem dL_isHeard_0 : decode cL_isHeard 0 = .ok (.aload_n 2, 1) := by decide +kernel
theorem dL_isHeard_1 : decode cL_isHeard 1 = .ok (.iconst 0, 1) := by decide +kernel
theorem dL_isHeard_2 : decode cL_isHeard 2 = .ok (.aload_n 0, 1) := by decide +kernel
theorem dL_isHeard_3 : decode cL_isHeard 3 = .ok (.iload_n 1, 1) := by decide +kernel
theorem dL_isHeard_4 : decode cL_isHeard 4 = .ok (.invokevirtual 105, 3) := by decide +kernel
theorem dL_isHeard_7 : decode cL_isHeard 7 = .ok (.ifCond .eq 7, 3) := by decide +kernel
theorem dL_isHeard_10 : decode cL_isHeard 10 = .ok (.lconst 1, 1) := by decide +kernel
theorem dL_isHeard_11 : decode cL_isHeard 11 = .ok (.goto 4, 3) := by decide +kernel
theorem dL_isHeard_14 : decode cL_isHeard 14 = .ok (.lconst 0, 1) := by decide +kernel
theorem dL_isHeard_15 : decode cL_isHeard 15 = .ok (.lastore, 1) := by decide +kernel
theorem dL_isHeard_16 : decode cL_isHeard 16 = .ok (.goto 9, 3) := by decide +kernel
theorem dL_isHeard_19 : decode cL_isHeard 19 = .ok (.astore_n 3, 1) := by decide +kernel
theorem dL_isHeard_20 : decode cL_isHeard 20 = .ok (.iconst 1, 1) := by decide +kernel
theorem dL_isHeard_21 : decode cL_isHeard 21 = .ok (.ireturn, 1) := by decide +kernel
theorem dL_isHeard_22 : decode cL_isHeard 22 = .ok (.astore_n 3, 1) := by decide +kernel
theorem dL_isHeard_23 : decode cL_isHeard 23 = .ok (.iconst 2, 1) := by decide +kernel
theorem dL_isHeard_24 : decode cL_isHeard 24 = .ok (.ireturn, 1) := by decide +kernel
theorem dL_isHeard_25 : decode cL_isHeard 25 = .ok (.iconst 0, 1) := by decide +kernel
theorem dL_isHeard_26 : decode cL_isHeard 26 = .ok (.ireturn, 1) := by decide +kernel
set_option maxRecDepth 20000 in
theorem ggL_sounding_X6_sounding : GoodIn wsL_sounding wsX6_sounding := goodIn_ca (goodIn_ca (goodIn_ca (goodIn_r _ [7, 8, 9, 10, 11, 12, 13, 14, 15, 16, 17, 18, 19, 20, 21, 22, 23, 24, 25, 26, 27, 28, 29, 30, 31, 32, 33, 34, 35, 36, 37, 38, 39, 40, 41, 42, 43, 44, 45] (by decide +kernel) (by decide +kernel)) (goodIn_sub (fun _ h => List.mem_cons_of_mem _ (List.mem_append_left _ (List.mem_append_right _ h))) (by decide +kernel))) (goodIn_sub (fun _ h => List.mem_cons_of_mem _ (List.mem_append_right _ h)) (by decide +kernel))) (goodIn_sub (fun _ h => List.mem_cons_of_mem _ (List.mem_append_left _ (List.mem_append_left _ (List.mem_append_right _ h)))) (by decide +kernel))
set_option maxRecDepth 20000 in
theorem gL_sounding_X6_sounding : GoodIn wsL_sounding (wsV RL 108 RX6 yX6_sounding wsX6_sounding) := goodIn_app (goodIn_of _ (by decide +kernel)) ggL_sounding_X6_sounding
theorem dL_sounding_0 : decode cL_sounding 0 = .ok (.aload_n 3, 1) := by decide +kernel
theorem dL_sounding_1 : decode cL_sounding 1 = .ok (.iconst 0, 1) := by decide +kernel
theorem dL_sounding_2 : decode cL_sounding 2 = .ok (.aload_n 0, 1) := by decide +kernel
theorem dL_sounding_3 : decode cL_sounding 3 = .ok (.iload_n 1, 1) := by decide +kernel
theorem dL_sounding_4 : decode cL_sounding 4 = .ok (.iload_n 2, 1) := by decide +kernel
theorem dL_sounding_5 : decode cL_sounding 5 = .ok (.invokevirtual 108, 3) := by decide +kernel
theorem dL_sounding_8 : decode cL_sounding 8 = .ok (.i2l, 1) := by decide +kernel
theorem dL_sounding_9 : decode cL_sounding 9 = .ok (.lastore, 1) := by decide +kernel
theorem dL_sounding_10 : decode cL_sounding 10 = .ok (.goto 11, 3) := by decide +kernel
theorem dL_sounding_13 : decode cL_sounding 13 = .ok (.astore 4, 2) := by decide +kernel
theorem dL_sounding_15 : decode cL_sounding 15 = .ok (.iconst 1, 1) := by decide +kernel
theorem dL_sounding_16 : decode cL_sounding 16 = .ok (.ireturn, 1) := by decide +kernel
theorem dL_sounding_17 : decode cL_sounding 17 = .ok (.astore 4, 2) := by decide +kernel
theorem dL_sounding_19 : decode cL_sounding 19 = .ok (.iconst 2, 1) := by decide +kernel
theorem dL_sounding_20 : decode cL_sounding 20 = .ok (.ireturn, 1) := by decide +kernel
theorem dL_sounding_21 : decode cL_sounding 21 = .ok (.iconst 0, 1) := by decide +kernel
theorem dL_sounding_22 : decode cL_sounding 22 = .ok (.ireturn, 1) := by decide +kernel
set_option maxRecDepth 20000 in
theorem ggL_loudest_X6_loudest : GoodIn wsL_loudest wsX6_loudest := goodIn_ca (goodIn_ca (goodIn_r _ [6, 7, 8, 9, 10, 11, 12, 13, 14, 15, 16, 17, 18, 19, 20, 21, 22, 23, 24, 25, 26, 27, 28, 29, 30, 31, 32, 33, 34] (by decide +kernel) (by decide +kernel)) (goodIn_sub (fun _ h => List.mem_cons_of_mem _ (List.mem_append_right _ h)) (by decide +kernel))) (goodIn_sub (fun _ h => List.mem_cons_of_mem _ (List.mem_append_left _ (List.mem_append_right _ h))) (by decide +kernel))
set_option maxRecDepth 20000 in
theorem gL_loudest_X6_loudest : GoodIn wsL_loudest (wsV RL 112 RX6 yX6_loudest wsX6_loudest) := goodIn_app (goodIn_of _ (by decide +kernel)) ggL_loudest_X6_loudest
theorem dL_loudest_0 : decode cL_loudest 0 = .ok (.aload_n 1, 1) := by decide +kernel
theorem dL_loudest_1 : decode cL_loudest 1 = .ok (.iconst 0, 1) := by decide +kernel
theorem dL_loudest_2 : decode cL_loudest 2 = .ok (.aload_n 0, 1) := by decide +kernel
theorem dL_loudest_3 : decode cL_loudest 3 = .ok (.invokevirtual 112, 3) := by decide +kernel
theorem dL_loudest_6 : decode cL_loudest 6 = .ok (.i2l, 1) := by decide +kernel
theorem dL_loudest_7 : decode cL_loudest 7 = .ok (.lastore, 1) := by decide +kernel
theorem dL_loudest_8 : decode cL_loudest 8 = .ok (.goto 6, 3) := by decide +kernel
theorem dL_loudest_11 : decode cL_loudest 11 = .ok (.astore_n 2, 1) := by decide +kernel
theorem dL_loudest_12 : decode cL_loudest 12 = .ok (.iconst 1, 1) := by decide +kernel
theorem dL_loudest_13 : decode cL_loudest 13 = .ok (.ireturn, 1) := by decide +kernel
theorem dL_loudest_14 : decode cL_loudest 14 = .ok (.iconst 0, 1) := by decide +kernel
theorem dL_loudest_15 : decode cL_loudest 15 = .ok (.ireturn, 1) := by decide +kernel
set_option maxRecDepth 20000 in
theorem ggL_speed_X6_speed : GoodIn wsL_speed wsX6_speed := goodIn_ca (goodIn_r _ [6, 7, 8, 9, 10, 5, 11, 12, 13, 14, 15, 16, 17, 18, 19, 20, 21, 22, 23] (by decide +kernel) (by decide +kernel)) (goodIn_sub (fun _ h => List.mem_cons_of_mem _ (List.mem_append_right _ h)) (by decide +kernel))
set_option maxRecDepth 20000 in
theorem gL_speed_X6_speed : GoodIn wsL_speed (wsV RL 115 RX6 yX6_speed wsX6_speed) := goodIn_app (goodIn_of _ (by decide +kernel)) ggL_speed_X6_speed
theorem dL_speed_0 : decode cL_speed 0 = .ok (.aload_n 3, 1) := by decide +kernel
theorem dL_speed_1 : decode cL_speed 1 = .ok (.iconst 0, 1) := by decide +kernel
theorem dL_speed_2 : decode cL_speed 2 = .ok (.aload_n 0, 1) := by decide +kernel
theorem dL_speed_3 : decode cL_speed 3 = .ok (.iload_n 1, 1) := by decide +kernel
theorem dL_speed_4 : decode cL_speed 4 = .ok (.iload_n 2, 1) := by decide +kernel
theorem dL_speed_5 : decode cL_speed 5 = .ok (.invokevirtual 115, 3) := by decide +kernel
theorem dL_speed_8 : decode cL_speed 8 = .ok (.i2l, 1) := by decide +kernel
theorem dL_speed_9 : decode cL_speed 9 = .ok (.lastore, 1) := by decide +kernel
theorem dL_speed_10 : decode cL_speed 10 = .ok (.goto 7, 3) := by decide +kernel
theorem dL_speed_13 : decode cL_speed 13 = .ok (.astore 4, 2) := by decide +kernel
theorem dL_speed_15 : decode cL_speed 15 = .ok (.iconst 1, 1) := by decide +kernel
theorem dL_speed_16 : decode cL_speed 16 = .ok (.ireturn, 1) := by decide +kernel
theorem dL_speed_17 : decode cL_speed 17 = .ok (.iconst 0, 1) := by decide +kernel
theorem dL_speed_18 : decode cL_speed 18 = .ok (.ireturn, 1) := by decide +kernel
set_option maxRecDepth 20000 in
theorem ggL_time_X6_time : GoodIn wsL_time wsX6_time := goodIn_ca (goodIn_ca (goodIn_r _ [6, 7, 8, 5, 9, 10, 11, 12, 13, 14, 15, 16, 17, 18, 19, 20, 21, 22, 23, 24, 25, 26, 27, 28] (by decide +kernel) (by decide +kernel)) (goodIn_sub (fun _ h => List.mem_cons_of_mem _ (List.mem_append_left _ (List.mem_append_right _ h))) (by decide +kernel))) (goodIn_sub (fun _ h => List.mem_cons_of_mem _ (List.mem_append_right _ h)) (by decide +kernel))
set_option maxRecDepth 20000 in
theorem gL_time_X6_time : GoodIn wsL_time (wsV RL 118 RX6 yX6_time wsX6_time) := goodIn_app (goodIn_of _ (by decide +kernel)) ggL_time_X6_time
theorem dL_time_0 : decode cL_time 0 = .ok (.aload_n 2, 1) := by decide +kernel
theorem dL_time_1 : decode cL_time 1 = .ok (.iconst 0, 1) := by decide +kernel
theorem dL_time_2 : decode cL_time 2 = .ok (.aload_n 0, 1) := by decide +kernel
theorem dL_time_3 : decode cL_time 3 = .ok (.iload_n 1, 1) := by decide +kernel
theorem dL_time_4 : decode cL_time 4 = .ok (.invokevirtual 118, 3) := by decide +kernel
theorem dL_time_7 : decode cL_time 7 = .ok (.lastore, 1) := by decide +kernel
theorem dL_time_8 : decode cL_time 8 = .ok (.goto 6, 3) := by decide +kernel
theorem dL_time_11 : decode cL_time 11 = .ok (.astore_n 3, 1) := by decide +kernel
theorem dL_time_12 : decode cL_time 12 = .ok (.iconst 1, 1) := by decide +kernel
theorem dL_time_13 : decode cL_time 13 = .ok (.ireturn, 1) := by decide +kernel
theorem dL_time_14 : decode cL_time 14 = .ok (.iconst 0, 1) := by decide +kernel
theorem dL_time_15 : decode cL_time 15 = .ok (.ireturn, 1) := by decide +kernel
set_option maxRecDepth 20000 in
theorem ggL_heardShare_X6_heardShare : GoodIn wsL_heardShare wsX6_heardShare := goodIn_ca (goodIn_r _ [6, 7, 8, 9, 10, 11, 12, 13, 14, 15, 16, 17, 18, 19, 20, 21, 22, 23, 24, 25, 26, 27, 28, 29, 30, 31, 32, 33, 34] (by decide +kernel) (by decide +kernel)) (goodIn_sub (fun _ h => List.mem_cons_of_mem _ (List.mem_append_right _ h)) (by decide +kernel))
set_option maxRecDepth 20000 in
theorem gL_heardShare_X6_heardShare : GoodIn wsL_heardShare (wsV RL 122 RX6 yX6_heardShare wsX6_heardShare) := goodIn_app (goodIn_of _ (by decide +kernel)) ggL_heardShare_X6_heardShare
theorem dL_heardShare_0 : decode cL_heardShare 0 = .ok (.aload_n 1, 1) := by decide +kernel
theorem dL_heardShare_1 : decode cL_heardShare 1 = .ok (.iconst 0, 1) := by decide +kernel
theorem dL_heardShare_2 : decode cL_heardShare 2 = .ok (.aload_n 0, 1) := by decide +kernel
theorem dL_heardShare_3 : decode cL_heardShare 3 = .ok (.invokevirtual 122, 3) := by decide +kernel
theorem dL_heardShare_6 : decode cL_heardShare 6 = .ok (.f2d, 1) := by decide +kernel
theorem dL_heardShare_7 : decode cL_heardShare 7 = .ok (.dastore, 1) := by decide +kernel
theorem dL_heardShare_8 : decode cL_heardShare 8 = .ok (.goto 6, 3) := by decide +kernel
theorem dL_heardShare_11 : decode cL_heardShare 11 = .ok (.astore_n 2, 1) := by decide +kernel
theorem dL_heardShare_12 : decode cL_heardShare 12 = .ok (.iconst 1, 1) := by decide +kernel
theorem dL_heardShare_13 : decode cL_heardShare 13 = .ok (.ireturn, 1) := by decide +kernel
theorem dL_heardShare_14 : decode cL_heardShare 14 = .ok (.iconst 0, 1) := by decide +kernel
theorem dL_heardShare_15 : decode cL_heardShare 15 = .ok (.ireturn, 1) := by decide +kernel
set_option maxRecDepth 20000 in
theorem ggL_meanLoud_X6_meanLoud : GoodIn wsL_meanLoud wsX6_meanLoud := goodIn_ca (goodIn_ca (goodIn_r _ [6, 7, 8, 9, 10, 11, 12, 13, 14, 15, 16, 17, 18, 19, 20, 21, 22, 23, 24, 25, 26, 27, 28, 29, 30, 31, 32, 33, 34] (by decide +kernel) (by decide +kernel)) (goodIn_sub (fun _ h => List.mem_cons_of_mem _ (List.mem_append_right _ h)) (by decide +kernel))) (goodIn_sub (fun _ h => List.mem_cons_of_mem _ (List.mem_append_left _ (List.mem_append_right _ h))) (by decide +kernel))
set_option maxRecDepth 20000 in
theorem gL_meanLoud_X6_meanLoud : GoodIn wsL_meanLoud (wsV RL 128 RX6 yX6_meanLoud wsX6_meanLoud) := goodIn_app (goodIn_of _ (by decide +kernel)) ggL_meanLoud_X6_meanLoud
theorem dL_meanLoud_0 : decode cL_meanLoud 0 = .ok (.aload_n 1, 1) := by decide +kernel
theorem dL_meanLoud_1 : decode cL_meanLoud 1 = .ok (.iconst 0, 1) := by decide +kernel
theorem dL_meanLoud_2 : decode cL_meanLoud 2 = .ok (.aload_n 0, 1) := by decide +kernel
theorem dL_meanLoud_3 : decode cL_meanLoud 3 = .ok (.invokevirtual 128, 3) := by decide +kernel
theorem dL_meanLoud_6 : decode cL_meanLoud 6 = .ok (.dastore, 1) := by decide +kernel
theorem dL_meanLoud_7 : decode cL_meanLoud 7 = .ok (.goto 6, 3) := by decide +kernel
theorem dL_meanLoud_10 : decode cL_meanLoud 10 = .ok (.astore_n 2, 1) := by decide +kernel
theorem dL_meanLoud_11 : decode cL_meanLoud 11 = .ok (.iconst 1, 1) := by decide +kernel
theorem dL_meanLoud_12 : decode cL_meanLoud 12 = .ok (.ireturn, 1) := by decide +kernel
theorem dL_meanLoud_13 : decode cL_meanLoud 13 = .ok (.iconst 0, 1) := by decide +kernel
theorem dL_meanLoud_14 : decode cL_meanLoud 14 = .ok (.ireturn, 1) := by decide +kernel
