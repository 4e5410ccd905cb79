set_option maxRecDepth 20000 in
theorem ggX8_init_Jx4a65c_init_da8c8 : GoodIn wsX8_init wsJx4a65c_init_da8c8 := goodIn_r _ [24, 25, 26, 27, 28, 29, 30, 31, 32, 33, 34, 35, 36, 2, 3, 43, 44, 45] (by decide +kernel) (by decide +kernel)
set_option maxRecDepth 20000 in
theorem gX8_init_Jx4a65c_init_da8c8 : GoodIn wsX8_init (wsJx4a65c_init_da8c8) := ggX8_init_Jx4a65c_init_da8c8
set_option maxRecDepth 20000 in
theorem ggX8_init_X7_init : GoodIn wsX8_init wsX7_init := goodIn_r _ [38, 39, 2, 3, 40, 41, 42, 64, 65, 66, 67, 68, 69, 70, 71, 72, 73] (by decide +kernel) (by decide +kernel)
set_option maxRecDepth 20000 in
theorem gX8_init_X7_init_n47 : GoodIn wsX8_init (wsX7_init) := ggX8_init_X7_init
set_option maxRecDepth 20000 in
theorem ggX8_isRoll_Jx4a65c_size_8abf5 : GoodIn wsX8_isRoll wsJx4a65c_size_8abf5 := goodIn_r _ [6, 7, 30, 31, 32] (by decide +kernel) (by decide +kernel)
set_option maxRecDepth 20000 in
theorem gX8_isRoll_Jx4a65c_size_8abf5_f54Jx4a65c : GoodIn wsX8_isRoll (va_wsF RX8 54 RJx4a65c ⟨"java/util/List", "size", "()I"⟩ yJx4a65c_size_8abf5 wsJx4a65c_size_8abf5) := goodIn_app (goodIn_of _ (by decide +kernel)) ggX8_isRoll_Jx4a65c_size_8abf5
set_option maxRecDepth 20000 in
theorem ggX8_isRoll_X8_isIn : GoodIn wsX8_isRoll wsX8_isIn := goodIn_r _ [11] (by decide +kernel) (by decide +kernel)
set_option maxRecDepth 20000 in
theorem gX8_isRoll_X8_isIn : GoodIn wsX8_isRoll (va_wsS RX8 60 yX8_isIn wsX8_isIn) := goodIn_app (goodIn_of _ (by decide +kernel)) ggX8_isRoll_X8_isIn
set_option maxRecDepth 20000 in
theorem ggX8_isNote_X8_isIn : GoodIn wsX8_isNote wsX8_isIn := goodIn_r _ [4] (by decide +kernel) (by decide +kernel)
set_option maxRecDepth 20000 in
theorem gX8_isNote_X8_isIn : GoodIn wsX8_isNote (va_wsS RX8 60 yX8_isIn wsX8_isIn) := goodIn_app (goodIn_of _ (by decide +kernel)) ggX8_isNote_X8_isIn
set_option maxRecDepth 20000 in
theorem ggX8_roll_Jx4a65c_size_8abf5 : GoodIn wsX8_roll wsJx4a65c_size_8abf5 := goodIn_r _ [8, 9, 88, 89, 90] (by decide +kernel) (by decide +kernel)
set_option maxRecDepth 20000 in
theorem gX8_roll_Jx4a65c_size_8abf5_f54Jx4a65c : GoodIn wsX8_roll (va_wsF RX8 54 RJx4a65c ⟨"java/util/List", "size", "()I"⟩ yJx4a65c_size_8abf5 wsJx4a65c_size_8abf5) := goodIn_app (goodIn_of _ (by decide +kernel)) ggX8_roll_Jx4a65c_size_8abf5
set_option maxRecDepth 20000 in
theorem ggX8_roll_X8_no : GoodIn wsX8_roll wsX8_no := goodIn_r _ [14, 15, 70, 71, 72, 73, 74, 75, 76, 77, 78, 79, 80, 81, 82, 83, 84, 85, 86, 87] (by decide +kernel) (by decide +kernel)
set_option maxRecDepth 20000 in
theorem gX8_roll_X8_no : GoodIn wsX8_roll (wsV RX8 64 RX8 yX8_no wsX8_no) := goodIn_app (goodIn_of _ (by decide +kernel)) ggX8_roll_X8_no
set_option maxRecDepth 20000 in
theorem ggX8_roll_Jx4a65c_add_9ea2d : GoodIn wsX8_roll wsJx4a65c_add_9ea2d := goodIn_r _ [19, 20, 21, 22, 9, 23, 24, 25, 7, 26, 27, 28, 29, 30, 31, 32, 33, 34, 35, 36, 37, 38, 39, 40, 41, 42, 43, 44, 45, 46, 47, 48, 49, 50, 51, 52, 53, 54, 55, 56, 57, 58, 59, 60, 61, 62, 63, 64, 65, 66, 67, 68, 69, 88, 89, 90] (by decide +kernel) (by decide +kernel)
set_option maxRecDepth 20000 in
theorem gX8_roll_Jx4a65c_add_9ea2d_f70Jx4a65c : GoodIn wsX8_roll (va_wsF RX8 70 RJx4a65c ⟨"java/util/List", "add", "(Ljava/lang/Object;)Z"⟩ yJx4a65c_add_9ea2d wsJx4a65c_add_9ea2d) := goodIn_app (goodIn_of _ (by decide +kernel)) ggX8_roll_Jx4a65c_add_9ea2d
set_option maxRecDepth 20000 in
theorem ggX8_noHole_X8_isRoll : GoodIn wsX8_noHole wsX8_isRoll := goodIn_r _ [5, 6, 7, 8, 9, 10, 11, 12, 13, 14, 4, 15, 21, 22, 23, 24, 25, 26, 27, 28, 29, 30, 31, 32, 33, 34, 35, 36, 37, 38, 39, 40, 41] (by decide +kernel) (by decide +kernel)
set_option maxRecDepth 20000 in
theorem gX8_noHole_X8_isRoll : GoodIn wsX8_noHole (wsV RX8 74 RX8 yX8_isRoll wsX8_isRoll) := goodIn_app (goodIn_of _ (by decide +kernel)) ggX8_noHole_X8_isRoll
set_option maxRecDepth 20000 in
theorem ggX8_noHole_X8_no : GoodIn wsX8_noHole wsX8_no := goodIn_r _ [19, 20, 21, 22, 23, 24, 25, 26, 27, 28, 29, 30, 31, 32, 33, 34, 35, 36, 37, 38] (by decide +kernel) (by decide +kernel)
set_option maxRecDepth 20000 in
theorem gX8_noHole_X8_no : GoodIn wsX8_noHole (wsV RX8 64 RX8 yX8_no wsX8_no) := goodIn_app (goodIn_of _ (by decide +kernel)) ggX8_noHole_X8_no
set_option maxRecDepth 20000 in
theorem ggX8_noHole_X8_isIn : GoodIn wsX8_noHole wsX8_isIn := goodIn_r _ [15] (by decide +kernel) (by decide +kernel)
set_option maxRecDepth 20000 in
theorem gX8_noHole_X8_isIn : GoodIn wsX8_noHole (va_wsS RX8 60 yX8_isIn wsX8_isIn) := goodIn_app (goodIn_of _ (by decide +kernel)) ggX8_noHole_X8_isIn
set_option maxRecDepth 20000 in
theorem ggX8_punch_X8_noHole : GoodIn wsX8_punch wsX8_noHole := goodIn_r _ [7, 8, 9, 10, 6, 11, 1, 12, 13, 14, 15, 16, 17, 18, 19, 20, 21, 22, 23, 24, 25, 43, 44, 45, 46, 47, 48, 49, 50, 51, 52, 53, 54, 55, 56, 57, 58, 59, 60, 61, 62, 63] (by decide +kernel) (by decide +kernel)
set_option maxRecDepth 20000 in
theorem gX8_punch_X8_noHole : GoodIn wsX8_punch (wsV RX8 78 RX8 yX8_noHole wsX8_noHole) := goodIn_app (goodIn_of _ (by decide +kernel)) ggX8_punch_X8_noHole
set_option maxRecDepth 20000 in
theorem ggX8_punch_Jx4a65c_get_915e3 : GoodIn wsX8_punch wsJx4a65c_get_915e3 := goodIn_r _ [29, 17, 30, 31, 32, 33, 34, 35, 36, 37, 38, 39, 40, 15, 41, 42, 61, 62, 63] (by decide +kernel) (by decide +kernel)
set_option maxRecDepth 20000 in
theorem gX8_punch_Jx4a65c_get_915e3_f81Jx4a65c : GoodIn wsX8_punch (va_wsF RX8 81 RJx4a65c ⟨"java/util/List", "get", "(I)Ljava/lang/Object;"⟩ yJx4a65c_get_915e3 wsJx4a65c_get_915e3) := goodIn_app (goodIn_of _ (by decide +kernel)) ggX8_punch_Jx4a65c_get_915e3
set_option maxRecDepth 20000 in
theorem ggX8_hole_X8_noHole : GoodIn wsX8_hole wsX8_noHole := goodIn_r _ [7, 8, 9, 10, 6, 11, 1, 12, 13, 14, 15, 16, 17, 18, 19, 20, 21, 22, 23, 24, 25, 43, 44, 45, 46, 47, 48, 49, 50, 51, 52, 53, 54, 55, 56, 57, 58, 59, 60, 61, 62, 63] (by decide +kernel) (by decide +kernel)
set_option maxRecDepth 20000 in
theorem gX8_hole_X8_noHole : GoodIn wsX8_hole (wsV RX8 78 RX8 yX8_noHole wsX8_noHole) := goodIn_app (goodIn_of _ (by decide +kernel)) ggX8_hole_X8_noHole
set_option maxRecDepth 20000 in
theorem ggX8_hole_Jx4a65c_get_915e3 : GoodIn wsX8_hole wsJx4a65c_get_915e3 := goodIn_r _ [29, 17, 30, 31, 32, 33, 34, 35, 36, 37, 38, 39, 40, 15, 41, 42, 61, 62, 63] (by decide +kernel) (by decide +kernel)
set_option maxRecDepth 20000 in
theorem gX8_hole_Jx4a65c_get_915e3_f81Jx4a65c : GoodIn wsX8_hole (va_wsF RX8 81 RJx4a65c ⟨"java/util/List", "get", "(I)Ljava/lang/Object;"⟩ yJx4a65c_get_915e3 wsJx4a65c_get_915e3) := goodIn_app (goodIn_of _ (by decide +kernel)) ggX8_hole_Jx4a65c_get_915e3
set_option maxRecDepth 20000 in
theorem ggX8_lengthOf_Jx4a65c_get_915e3 : GoodIn wsX8_lengthOf wsJx4a65c_get_915e3 := goodIn_r _ [7, 8, 9, 10, 11, 12, 13, 14, 15, 16, 17, 18, 19, 6, 20, 21, 40, 41, 42] (by decide +kernel) (by decide +kernel)
set_option maxRecDepth 20000 in
theorem gX8_lengthOf_Jx4a65c_get_915e3_f81Jx4a65c : GoodIn wsX8_lengthOf (va_wsF RX8 81 RJx4a65c ⟨"java/util/List", "get", "(I)Ljava/lang/Object;"⟩ yJx4a65c_get_915e3 wsJx4a65c_get_915e3) := goodIn_app (goodIn_of _ (by decide +kernel)) ggX8_lengthOf_Jx4a65c_get_915e3
set_option maxRecDepth 20000 in
theorem ggX8_length_X8_isRoll : GoodIn wsX8_length wsX8_isRoll := goodIn_r _ [5, 6, 7, 8, 9, 10, 11, 12, 13, 14, 4, 15, 43, 44, 45, 46, 47, 48, 49, 50, 51, 52, 53, 54, 55, 56, 57, 58, 59, 60, 61, 62, 63] (by decide +kernel) (by decide +kernel)
set_option maxRecDepth 20000 in
theorem gX8_length_X8_isRoll : GoodIn wsX8_length (wsV RX8 74 RX8 yX8_isRoll wsX8_isRoll) := goodIn_app (goodIn_of _ (by decide +kernel)) ggX8_length_X8_isRoll
set_option maxRecDepth 20000 in
theorem ggX8_length_X8_no : GoodIn wsX8_length wsX8_no := goodIn_r _ [19, 20, 43, 44, 45, 46, 47, 48, 49, 50, 51, 52, 53, 54, 55, 56, 57, 58, 59, 60] (by decide +kernel) (by decide +kernel)
set_option maxRecDepth 20000 in
theorem gX8_length_X8_no : GoodIn wsX8_length (wsV RX8 64 RX8 yX8_no wsX8_no) := goodIn_app (goodIn_of _ (by decide +kernel)) ggX8_length_X8_no
set_option maxRecDepth 20000 in
theorem ggX8_length_X8_lengthOf : GoodIn wsX8_length wsX8_lengthOf := goodIn_ca (goodIn_r _ [24, 6, 25, 26, 27, 28, 10, 29, 12, 30, 31, 32, 33, 34, 35, 36, 37, 38, 39, 40, 41, 42, 43, 44, 45, 46, 47, 48, 49, 50, 51, 52, 53, 54, 55, 56, 57, 58, 59, 60, 61, 62, 63] (by decide +kernel) (by decide +kernel)) (goodIn_sub (fun _ h => List.mem_cons_of_mem _ (List.mem_append_right _ h)) (by decide +kernel))
set_option maxRecDepth 20000 in
theorem gX8_length_X8_lengthOf : GoodIn wsX8_length (wsV RX8 85 RX8 yX8_lengthOf wsX8_lengthOf) := goodIn_app (goodIn_of _ (by decide +kernel)) ggX8_length_X8_lengthOf
set_option maxRecDepth 20000 in
theorem ggX8_holesAt_Jx4a65c_get_915e3 : GoodIn wsX8_holesAt wsJx4a65c_get_915e3 := goodIn_r _ [7, 8, 9, 10, 11, 12, 13, 14, 15, 16, 17, 18, 19, 6, 20, 21, 40, 41, 42] (by decide +kernel) (by decide +kernel)
set_option maxRecDepth 20000 in
theorem gX8_holesAt_Jx4a65c_get_915e3_f81Jx4a65c : GoodIn wsX8_holesAt (va_wsF RX8 81 RJx4a65c ⟨"java/util/List", "get", "(I)Ljava/lang/Object;"⟩ yJx4a65c_get_915e3 wsJx4a65c_get_915e3) := goodIn_app (goodIn_of _ (by decide +kernel)) ggX8_holesAt_Jx4a65c_get_915e3
set_option maxRecDepth 20000 in
theorem ggX8_holes_X8_isRoll : GoodIn wsX8_holes wsX8_isRoll := goodIn_r _ [5, 6, 7, 8, 9, 10, 11, 12, 13, 14, 4, 15, 43, 44, 45, 46, 47, 48, 49, 50, 51, 52, 53, 54, 55, 56, 57, 58, 59, 60, 61, 62, 63] (by decide +kernel) (by decide +kernel)
set_option maxRecDepth 20000 in
theorem gX8_holes_X8_isRoll : GoodIn wsX8_holes (wsV RX8 74 RX8 yX8_isRoll wsX8_isRoll) := goodIn_app (goodIn_of _ (by decide +kernel)) ggX8_holes_X8_isRoll
set_option maxRecDepth 20000 in
theorem ggX8_holes_X8_no : GoodIn wsX8_holes wsX8_no := goodIn_r _ [19, 20, 43, 44, 45, 46, 47, 48, 49, 50, 51, 52, 53, 54, 55, 56, 57, 58, 59, 60] (by decide +kernel) (by decide +kernel)
set_option maxRecDepth 20000 in
theorem gX8_holes_X8_no : GoodIn wsX8_holes (wsV RX8 64 RX8 yX8_no wsX8_no) := goodIn_app (goodIn_of _ (by decide +kernel)) ggX8_holes_X8_no
set_option maxRecDepth 20000 in
theorem ggX8_holes_X8_isIn : GoodIn wsX8_holes wsX8_isIn := goodIn_r _ [15] (by decide +kernel) (by decide +kernel)
set_option maxRecDepth 20000 in
theorem gX8_holes_X8_isIn : GoodIn wsX8_holes (va_wsS RX8 60 yX8_isIn wsX8_isIn) := goodIn_app (goodIn_of _ (by decide +kernel)) ggX8_holes_X8_isIn
set_option maxRecDepth 20000 in
theorem ggX8_holes_X8_holesAt : GoodIn wsX8_holes wsX8_holesAt := goodIn_ca (goodIn_r _ [24, 6, 25, 26, 27, 28, 10, 29, 12, 30, 31, 32, 33, 34, 35, 36, 37, 38, 39, 40, 41, 42, 43, 44, 45, 46, 47, 48, 49, 50, 51, 52, 53, 54, 55, 56, 57, 58, 59, 60, 61, 62, 63] (by decide +kernel) (by decide +kernel)) (goodIn_sub (fun _ h => List.mem_cons_of_mem _ (List.mem_append_right _ h)) (by decide +kernel))
set_option maxRecDepth 20000 in
theorem gX8_holes_X8_holesAt : GoodIn wsX8_holes (wsV RX8 89 RX8 yX8_holesAt wsX8_holesAt) := goodIn_app (goodIn_of _ (by decide +kernel)) ggX8_holes_X8_holesAt
set_option maxRecDepth 20000 in
theorem ggX8_copy_X8_isRoll : GoodIn wsX8_copy wsX8_isRoll := goodIn_r _ [13, 1, 14, 15, 16, 17, 18, 19, 20, 21, 12, 22, 98, 99, 100, 101, 102, 103, 104, 105, 106, 107, 108, 109, 110, 111, 112, 113, 114, 115, 116, 117, 118] (by decide +kernel) (by decide +kernel)
set_option maxRecDepth 20000 in
theorem gX8_copy_X8_isRoll : GoodIn wsX8_copy (wsV RX8 74 RX8 yX8_isRoll wsX8_isRoll) := goodIn_app (goodIn_of _ (by decide +kernel)) ggX8_copy_X8_isRoll
set_option maxRecDepth 20000 in
theorem ggX8_copy_X8_no : GoodIn wsX8_copy wsX8_no := goodIn_r _ [26, 27, 98, 99, 100, 101, 102, 103, 104, 105, 106, 107, 108, 109, 110, 111, 112, 113, 114, 115] (by decide +kernel) (by decide +kernel)
set_option maxRecDepth 20000 in
theorem gX8_copy_X8_no : GoodIn wsX8_copy (wsV RX8 64 RX8 yX8_no wsX8_no) := goodIn_app (goodIn_of _ (by decide +kernel)) ggX8_copy_X8_no
set_option maxRecDepth 20000 in
theorem ggX8_copy_Jx4a65c_size_8abf5 : GoodIn wsX8_copy wsJx4a65c_size_8abf5 := goodIn_r _ [18, 19, 116, 117, 118] (by decide +kernel) (by decide +kernel)
set_option maxRecDepth 20000 in
theorem gX8_copy_Jx4a65c_size_8abf5_f54Jx4a65c : GoodIn wsX8_copy (va_wsF RX8 54 RJx4a65c ⟨"java/util/List", "size", "()I"⟩ yJx4a65c_size_8abf5 wsJx4a65c_size_8abf5) := goodIn_app (goodIn_of _ (by decide +kernel)) ggX8_copy_Jx4a65c_size_8abf5
set_option maxRecDepth 20000 in
theorem ggX8_copy_Jx4a65c_get_915e3 : GoodIn wsX8_copy wsJx4a65c_get_915e3 := goodIn_r _ [31, 19, 32, 33, 34, 35, 36, 37, 38, 39, 40, 41, 42, 17, 43, 44, 116, 117, 118] (by decide +kernel) (by decide +kernel)
set_option maxRecDepth 20000 in
theorem gX8_copy_Jx4a65c_get_915e3_f81Jx4a65c : GoodIn wsX8_copy (va_wsF RX8 81 RJx4a65c ⟨"java/util/List", "get", "(I)Ljava/lang/Object;"⟩ yJx4a65c_get_915e3 wsJx4a65c_get_915e3) := goodIn_app (goodIn_of _ (by decide +kernel)) ggX8_copy_Jx4a65c_get_915e3
set_option maxRecDepth 20000 in
theorem ggX8_copy_Jx4a65c_add_9ea2d : GoodIn wsX8_copy wsJx4a65c_add_9ea2d := goodIn_r _ [48, 49, 50, 44, 19, 51, 52, 53, 17, 54, 55, 56, 57, 58, 59, 60, 61, 62, 63, 64, 65, 66, 67, 68, 69, 70, 71, 72, 73, 74, 75, 76, 77, 78, 79, 80, 81, 82, 83, 84, 85, 86, 87, 88, 89, 90, 91, 92, 93, 94, 95, 96, 97, 116, 117, 118] (by decide +kernel) (by decide +kernel)
set_option maxRecDepth 20000 in
theorem gX8_copy_Jx4a65c_add_9ea2d_f70Jx4a65c : GoodIn wsX8_copy (va_wsF RX8 70 RJx4a65c ⟨"java/util/List", "add", "(Ljava/lang/Object;)Z"⟩ yJx4a65c_add_9ea2d wsJx4a65c_add_9ea2d) := goodIn_app (goodIn_of _ (by decide +kernel)) ggX8_copy_Jx4a65c_add_9ea2d
set_option maxRecDepth 20000 in
theorem ggX8_apart_Jx4a65c_get_915e3 : GoodIn wsX8_apart wsJx4a65c_get_915e3 := goodIn_r _ [7, 8, 9, 10, 11, 12, 13, 14, 15, 16, 17, 18, 19, 6, 20, 21, 40, 41, 42] (by decide +kernel) (by decide +kernel)
set_option maxRecDepth 20000 in
theorem gX8_apart_Jx4a65c_get_915e3_f81Jx4a65c : GoodIn wsX8_apart (va_wsF RX8 81 RJx4a65c ⟨"java/util/List", "get", "(I)Ljava/lang/Object;"⟩ yJx4a65c_get_915e3 wsJx4a65c_get_915e3) := goodIn_app (goodIn_of _ (by decide +kernel)) ggX8_apart_Jx4a65c_get_915e3
set_option maxRecDepth 20000 in
theorem ggX8_unlike_X8_isRoll : GoodIn wsX8_unlike wsX8_isRoll := goodIn_r _ [5, 6, 7, 8, 9, 10, 11, 12, 13, 14, 4, 15, 43, 44, 45, 46, 47, 48, 49, 50, 51, 52, 53, 54, 55, 56, 57, 58, 59, 60, 61, 62, 63] (by decide +kernel) (by decide +kernel)
set_option maxRecDepth 20000 in
theorem gX8_unlike_X8_isRoll : GoodIn wsX8_unlike (wsV RX8 74 RX8 yX8_isRoll wsX8_isRoll) := goodIn_app (goodIn_of _ (by decide +kernel)) ggX8_unlike_X8_isRoll
set_option maxRecDepth 20000 in
theorem ggX8_unlike_X8_no : GoodIn wsX8_unlike wsX8_no := goodIn_r _ [19, 20, 43, 44, 45, 46, 47, 48, 49, 50, 51, 52, 53, 54, 55, 56, 57, 58, 59, 60] (by decide +kernel) (by decide +kernel)
set_option maxRecDepth 20000 in
theorem gX8_unlike_X8_no : GoodIn wsX8_unlike (wsV RX8 64 RX8 yX8_no wsX8_no) := goodIn_app (goodIn_of _ (by decide +kernel)) ggX8_unlike_X8_no
set_option maxRecDepth 20000 in
theorem ggX8_unlike_X8_apart : GoodIn wsX8_unlike wsX8_apart := goodIn_ca (goodIn_r _ [24, 6, 25, 26, 27, 28, 10, 29, 12, 30, 31, 32, 33, 34, 35, 36, 37, 38, 39, 40, 41, 42, 43, 44, 45, 46, 47, 48, 49, 50, 51, 52, 53, 54, 55, 56, 57, 58, 59, 60, 61, 62, 63] (by decide +kernel) (by decide +kernel)) (goodIn_sub (fun _ h => List.mem_cons_of_mem _ (List.mem_append_right _ h)) (by decide +kernel))
set_option maxRecDepth 20000 in
theorem gX8_unlike_X8_apart : GoodIn wsX8_unlike (wsV RX8 98 RX8 yX8_apart wsX8_apart) := goodIn_app (goodIn_of _ (by decide +kernel)) ggX8_unlike_X8_apart
set_option maxRecDepth 20000 in
theorem ggX8_parent_X8_isRoll : GoodIn wsX8_parent wsX8_isRoll := goodIn_r _ [5, 6, 7, 8, 9, 10, 11, 12, 13, 14, 4, 15, 43, 44, 45, 46, 47, 48, 49, 50, 51, 52, 53, 54, 55, 56, 57, 58, 59, 60, 61, 62, 63] (by decide +kernel) (by decide +kernel)
set_option maxRecDepth 20000 in
theorem gX8_parent_X8_isRoll : GoodIn wsX8_parent (wsV RX8 74 RX8 yX8_isRoll wsX8_isRoll) := goodIn_app (goodIn_of _ (by decide +kernel)) ggX8_parent_X8_isRoll
set_option maxRecDepth 20000 in
theorem ggX8_parent_X8_no : GoodIn wsX8_parent wsX8_no := goodIn_r _ [19, 20, 43, 44, 45, 46, 47, 48, 49, 50, 51, 52, 53, 54, 55, 56, 57, 58, 59, 60] (by decide +kernel) (by decide +kernel)
set_option maxRecDepth 20000 in
theorem gX8_parent_X8_no : GoodIn wsX8_parent (wsV RX8 64 RX8 yX8_no wsX8_no) := goodIn_app (goodIn_of _ (by decide +kernel)) ggX8_parent_X8_no
set_option maxRecDepth 20000 in
theorem ggX8_parent_X8_apart : GoodIn wsX8_parent wsX8_apart := goodIn_ca (goodIn_r _ [24, 6, 25, 26, 27, 28, 10, 29, 12, 30, 31, 32, 33, 34, 35, 36, 37, 38, 39, 40, 41, 42, 43, 44, 45, 46, 47, 48, 49, 50, 51, 52, 53, 54, 55, 56, 57, 58, 59, 60, 61, 62, 63] (by decide +kernel) (by decide +kernel)) (goodIn_sub (fun _ h => List.mem_cons_of_mem _ (List.mem_append_right _ h)) (by decide +kernel))
set_option maxRecDepth 20000 in
theorem gX8_parent_X8_apart : GoodIn wsX8_parent (wsV RX8 98 RX8 yX8_apart wsX8_apart) := goodIn_app (goodIn_of _ (by decide +kernel)) ggX8_parent_X8_apart
set_option maxRecDepth 20000 in
theorem ggX8_note_X8_isIn : GoodIn wsX8_note wsX8_isIn := goodIn_r _ [7] (by decide +kernel) (by decide +kernel)
set_option maxRecDepth 20000 in
theorem gX8_note_X8_isIn : GoodIn wsX8_note (va_wsS RX8 60 yX8_isIn wsX8_isIn) := goodIn_app (goodIn_of _ (by decide +kernel)) ggX8_note_X8_isIn
set_option maxRecDepth 20000 in
theorem ggX8_note_X8_isNote : GoodIn wsX8_note wsX8_isNote := goodIn_r _ [10, 4, 5, 6, 7] (by decide +kernel) (by decide +kernel)
set_option maxRecDepth 20000 in
theorem gX8_note_X8_isNote : GoodIn wsX8_note (va_wsS RX8 101 yX8_isNote wsX8_isNote) := goodIn_app (goodIn_of _ (by decide +kernel)) ggX8_note_X8_isNote
set_option maxRecDepth 20000 in
theorem ggX8_note_X8_no : GoodIn wsX8_note wsX8_no := goodIn_r _ [14, 15, 107, 108, 109, 110, 111, 112, 113, 114, 115, 116, 117, 118, 119, 120, 121, 122, 123, 124] (by decide +kernel) (by decide +kernel)
set_option maxRecDepth 20000 in
theorem gX8_note_X8_no : GoodIn wsX8_note (wsV RX8 64 RX8 yX8_no wsX8_no) := goodIn_app (goodIn_of _ (by decide +kernel)) ggX8_note_X8_no
set_option maxRecDepth 20000 in
theorem ggX8_note_Jx4a65c_iterator_32c93 : GoodIn wsX8_note wsJx4a65c_iterator_32c93 := goodIn_r _ [20, 21, 22, 23, 24, 25, 26, 27, 28, 29, 30, 31, 32, 33, 34, 125, 126, 127, 128, 129, 130, 131] (by decide +kernel) (by decide +kernel)
set_option maxRecDepth 20000 in
theorem gX8_note_Jx4a65c_iterator_32c93_f104Jx4a65c : GoodIn wsX8_note (va_wsF RX8 104 RJx4a65c ⟨"java/util/List", "iterator", "()Ljava/util/Iterator;"⟩ yJx4a65c_iterator_32c93 wsJx4a65c_iterator_32c93) := goodIn_app (goodIn_of _ (by decide +kernel)) ggX8_note_Jx4a65c_iterator_32c93
set_option maxRecDepth 20000 in
theorem ggX8_note_Jx35411_hasNext_aae02 : GoodIn wsX8_note wsJx35411_hasNext_aae02 := goodIn_r _ [38, 39, 27, 125, 126, 127, 128, 129, 130, 131] (by decide +kernel) (by decide +kernel)
set_option maxRecDepth 20000 in
theorem gX8_note_Jx35411_hasNext_aae02_f108Jx35411 : GoodIn wsX8_note (va_wsF RX8 108 RJx35411 ⟨"java/util/Iterator", "hasNext", "()Z"⟩ yJx35411_hasNext_aae02 wsJx35411_hasNext_aae02) := goodIn_app (goodIn_of _ (by decide +kernel)) ggX8_note_Jx35411_hasNext_aae02
set_option maxRecDepth 20000 in
theorem ggX8_note_Jx35411_next_0502b : GoodIn wsX8_note wsJx35411_next_0502b := goodIn_r _ [43, 39, 27, 44, 31, 45, 46, 47, 23, 48, 32, 33, 34, 125, 126, 127, 128, 129, 130, 131] (by decide +kernel) (by decide +kernel)
set_option maxRecDepth 20000 in
theorem gX8_note_Jx35411_next_0502b_f114Jx35411 : GoodIn wsX8_note (va_wsF RX8 114 RJx35411 ⟨"java/util/Iterator", "next", "()Ljava/lang/Object;"⟩ yJx35411_next_0502b wsJx35411_next_0502b) := goodIn_app (goodIn_of _ (by decide +kernel)) ggX8_note_Jx35411_next_0502b
set_option maxRecDepth 20000 in
theorem ggX8_note_Jx4a65c_size_8abf5 : GoodIn wsX8_note wsJx4a65c_size_8abf5 := goodIn_r _ [52, 53, 129, 130, 131] (by decide +kernel) (by decide +kernel)
set_option maxRecDepth 20000 in
theorem gX8_note_Jx4a65c_size_8abf5_f54Jx4a65c : GoodIn wsX8_note (va_wsF RX8 54 RJx4a65c ⟨"java/util/List", "size", "()I"⟩ yJx4a65c_size_8abf5 wsJx4a65c_size_8abf5) := goodIn_app (goodIn_of _ (by decide +kernel)) ggX8_note_Jx4a65c_size_8abf5
set_option maxRecDepth 20000 in
theorem ggX8_note_Jx4a65c_add_9ea2d : GoodIn wsX8_note wsJx4a65c_add_9ea2d := goodIn_r _ [57, 58, 33, 59, 53, 60, 61, 62, 19, 63, 64, 65, 66, 67, 68, 69, 70, 71, 72, 73, 74, 75, 76, 77, 78, 79, 80, 81, 82, 83, 84, 85, 86, 87, 88, 89, 90, 91, 92, 93, 94, 95, 96, 97, 98, 99, 100, 101, 102, 103, 104, 105, 106, 129, 130, 131] (by decide +kernel) (by decide +kernel)
set_option maxRecDepth 20000 in
theorem gX8_note_Jx4a65c_add_9ea2d_f70Jx4a65c : GoodIn wsX8_note (va_wsF RX8 70 RJx4a65c ⟨"java/util/List", "add", "(Ljava/lang/Object;)Z"⟩ yJx4a65c_add_9ea2d wsJx4a65c_add_9ea2d) := goodIn_app (goodIn_of _ (by decide +kernel)) ggX8_note_Jx4a65c_add_9ea2d
set_option maxRecDepth 20000 in
theorem ggX8_wipe_Jx4a65c_size_8abf5 : GoodIn wsX8_wipe wsJx4a65c_size_8abf5 := goodIn_r _ [6, 7, 33, 34, 35] (by decide +kernel) (by decide +kernel)
set_option maxRecDepth 20000 in
theorem gX8_wipe_Jx4a65c_size_8abf5_f54Jx4a65c : GoodIn wsX8_wipe (va_wsF RX8 54 RJx4a65c ⟨"java/util/List", "size", "()I"⟩ yJx4a65c_size_8abf5 wsJx4a65c_size_8abf5) := goodIn_app (goodIn_of _ (by decide +kernel)) ggX8_wipe_Jx4a65c_size_8abf5
set_option maxRecDepth 20000 in
theorem ggX8_wipe_Jx4a65c_clear_da8c8 : GoodIn wsX8_wipe wsJx4a65c_clear_da8c8 := goodIn_r _ [11, 12, 13, 14, 7, 33, 34, 35] (by decide +kernel) (by decide +kernel)
set_option maxRecDepth 20000 in
theorem gX8_wipe_Jx4a65c_clear_da8c8_f118Jx4a65c : GoodIn wsX8_wipe (va_wsF RX8 118 RJx4a65c ⟨"java/util/List", "clear", "()V"⟩ yJx4a65c_clear_da8c8 wsJx4a65c_clear_da8c8) := goodIn_app (goodIn_of _ (by decide +kernel)) ggX8_wipe_Jx4a65c_clear_da8c8
set_option maxRecDepth 20000 in
theorem ggX8_arrange_X8_isRoll : GoodIn wsX8_arrange wsX8_isRoll := goodIn_r _ [9, 1, 10, 11, 12, 13, 14, 15, 16, 17, 8, 18, 77, 78, 79, 80, 81, 82, 83, 84, 85, 86, 87, 88, 89, 90, 91, 92, 93, 94, 95, 96, 97] (by decide +kernel) (by decide +kernel)
set_option maxRecDepth 20000 in
theorem gX8_arrange_X8_isRoll : GoodIn wsX8_arrange (wsV RX8 74 RX8 yX8_isRoll wsX8_isRoll) := goodIn_app (goodIn_of _ (by decide +kernel)) ggX8_arrange_X8_isRoll
set_option maxRecDepth 20000 in
theorem ggX8_arrange_X8_no : GoodIn wsX8_arrange wsX8_no := goodIn_r _ [22, 23, 77, 78, 79, 80, 81, 82, 83, 84, 85, 86, 87, 88, 89, 90, 91, 92, 93, 94] (by decide +kernel) (by decide +kernel)
set_option maxRecDepth 20000 in
theorem gX8_arrange_X8_no : GoodIn wsX8_arrange (wsV RX8 64 RX8 yX8_no wsX8_no) := goodIn_app (goodIn_of _ (by decide +kernel)) ggX8_arrange_X8_no
set_option maxRecDepth 20000 in
theorem ggX8_arrange_Jx4a65c_get_915e3 : GoodIn wsX8_arrange wsJx4a65c_get_915e3 := goodIn_r _ [27, 15, 28, 29, 30, 31, 32, 33, 34, 35, 36, 37, 38, 13, 39, 40, 95, 96, 97] (by decide +kernel) (by decide +kernel)
set_option maxRecDepth 20000 in
theorem gX8_arrange_Jx4a65c_get_915e3_f81Jx4a65c : GoodIn wsX8_arrange (va_wsF RX8 81 RJx4a65c ⟨"java/util/List", "get", "(I)Ljava/lang/Object;"⟩ yJx4a65c_get_915e3 wsJx4a65c_get_915e3) := goodIn_app (goodIn_of _ (by decide +kernel)) ggX8_arrange_Jx4a65c_get_915e3
set_option maxRecDepth 20000 in
theorem ggX8_arrange_Jx4a65c_iterator_32c93 : GoodIn wsX8_arrange wsJx4a65c_iterator_32c93 := goodIn_r _ [44, 45, 46, 47, 48, 49, 50, 51, 52, 53, 54, 55, 56, 57, 58, 98, 99, 100, 101, 95, 96, 97] (by decide +kernel) (by decide +kernel)
set_option maxRecDepth 20000 in
theorem gX8_arrange_Jx4a65c_iterator_32c93_f104Jx4a65c : GoodIn wsX8_arrange (va_wsF RX8 104 RJx4a65c ⟨"java/util/List", "iterator", "()Ljava/util/Iterator;"⟩ yJx4a65c_iterator_32c93 wsJx4a65c_iterator_32c93) := goodIn_app (goodIn_of _ (by decide +kernel)) ggX8_arrange_Jx4a65c_iterator_32c93
set_option maxRecDepth 20000 in
theorem ggX8_arrange_Jx35411_hasNext_aae02 : GoodIn wsX8_arrange wsJx35411_hasNext_aae02 := goodIn_r _ [62, 63, 51, 98, 99, 100, 101, 95, 96, 97] (by decide +kernel) (by decide +kernel)
set_option maxRecDepth 20000 in
theorem gX8_arrange_Jx35411_hasNext_aae02_f108Jx35411 : GoodIn wsX8_arrange (va_wsF RX8 108 RJx35411 ⟨"java/util/Iterator", "hasNext", "()Z"⟩ yJx35411_hasNext_aae02 wsJx35411_hasNext_aae02) := goodIn_app (goodIn_of _ (by decide +kernel)) ggX8_arrange_Jx35411_hasNext_aae02
set_option maxRecDepth 20000 in
theorem ggX8_arrange_Jx35411_next_0502b : GoodIn wsX8_arrange wsJx35411_next_0502b := goodIn_r _ [67, 63, 51, 68, 55, 69, 70, 71, 47, 72, 56, 57, 58, 98, 99, 100, 101, 95, 96, 97] (by decide +kernel) (by decide +kernel)
set_option maxRecDepth 20000 in
theorem gX8_arrange_Jx35411_next_0502b_f114Jx35411 : GoodIn wsX8_arrange (va_wsF RX8 114 RJx35411 ⟨"java/util/Iterator", "next", "()Ljava/lang/Object;"⟩ yJx35411_next_0502b wsJx35411_next_0502b) := goodIn_app (goodIn_of _ (by decide +kernel)) ggX8_arrange_Jx35411_next_0502b
set_option maxRecDepth 20000 in
theorem ggX8_arrange_X8_holesAt : GoodIn wsX8_arrange wsX8_holesAt := goodIn_ca (goodIn_r _ [76, 1, 2, 24, 25, 26, 13, 27, 15, 28, 29, 30, 31, 32, 33, 34, 35, 36, 37, 38, 39, 40, 77, 78, 79, 80, 81, 82, 83, 84, 85, 86, 87, 88, 89, 90, 91, 92, 93, 94, 95, 96, 97] (by decide +kernel) (by decide +kernel)) (goodIn_sub (fun _ h => List.mem_cons_of_mem _ (List.mem_append_right _ h)) (by decide +kernel))
set_option maxRecDepth 20000 in
theorem gX8_arrange_X8_holesAt : GoodIn wsX8_arrange (wsV RX8 89 RX8 yX8_holesAt wsX8_holesAt) := goodIn_app (goodIn_of _ (by decide +kernel)) ggX8_arrange_X8_holesAt
set_option maxRecDepth 20000 in
theorem ggX8_scan_Jx4a65c_init_da8c8 : GoodIn wsX8_scan wsJx4a65c_init_da8c8 := goodIn_r _ [9, 10, 11, 12, 13, 14, 15, 16, 17, 18, 19, 20, 21, 22, 23, 93, 94, 95] (by decide +kernel) (by decide +kernel)
set_option maxRecDepth 20000 in
theorem gX8_scan_Jx4a65c_init_da8c8 : GoodIn wsX8_scan (wsJx4a65c_init_da8c8) := ggX8_scan_Jx4a65c_init_da8c8
set_option maxRecDepth 20000 in
theorem ggX8_scan_Jx4a65c_get_915e3 : GoodIn wsX8_scan wsJx4a65c_get_915e3 := goodIn_r _ [27, 28, 29, 30, 31, 32, 33, 34, 35, 36, 37, 38, 39, 3, 40, 11, 93, 94, 95] (by decide +kernel) (by decide +kernel)
set_option maxRecDepth 20000 in
theorem gX8_scan_Jx4a65c_get_915e3_f81Jx4a65c : GoodIn wsX8_scan (va_wsF RX8 81 RJx4a65c ⟨"java/util/List", "get", "(I)Ljava/lang/Object;"⟩ yJx4a65c_get_915e3 wsJx4a65c_get_915e3) := goodIn_app (goodIn_of _ (by decide +kernel)) ggX8_scan_Jx4a65c_get_915e3
set_option maxRecDepth 20000 in
theorem ggX8_scan_Jx4a65c_add_9ea2d : GoodIn wsX8_scan wsJx4a65c_add_9ea2d := goodIn_r _ [44, 45, 46, 11, 28, 47, 48, 49, 3, 50, 51, 52, 53, 54, 55, 56, 57, 58, 10, 59, 60, 61, 62, 63, 64, 65, 66, 67, 68, 69, 70, 71, 72, 73, 74, 75, 76, 77, 78, 79, 80, 81, 82, 83, 84, 85, 86, 87, 88, 89, 90, 91, 92, 93, 94, 95] (by decide +kernel) (by decide +kernel)
set_option maxRecDepth 20000 in
theorem gX8_scan_Jx4a65c_add_9ea2d_f70Jx4a65c : GoodIn wsX8_scan (va_wsF RX8 70 RJx4a65c ⟨"java/util/List", "add", "(Ljava/lang/Object;)Z"⟩ yJx4a65c_add_9ea2d wsJx4a65c_add_9ea2d) := goodIn_app (goodIn_of _ (by decide +kernel)) ggX8_scan_Jx4a65c_add_9ea2d
set_option maxRecDepth 20000 in
theorem ggX8_scanned_X8_isRoll : GoodIn wsX8_scanned wsX8_isRoll := goodIn_r _ [5, 6, 7, 8, 9, 10, 11, 12, 13, 14, 4, 15, 114, 115, 116, 117, 118, 119, 120, 121, 122, 123, 124, 125, 126, 127, 128, 129, 130, 131, 132, 133, 134] (by decide +kernel) (by decide +kernel)
set_option maxRecDepth 20000 in
theorem gX8_scanned_X8_isRoll : GoodIn wsX8_scanned (wsV RX8 74 RX8 yX8_isRoll wsX8_isRoll) := goodIn_app (goodIn_of _ (by decide +kernel)) ggX8_scanned_X8_isRoll
set_option maxRecDepth 20000 in
theorem ggX8_scanned_X8_no : GoodIn wsX8_scanned wsX8_no := goodIn_r _ [19, 20, 114, 115, 116, 117, 118, 119, 120, 121, 122, 123, 124, 125, 126, 127, 128, 129, 130, 131] (by decide +kernel) (by decide +kernel)
set_option maxRecDepth 20000 in
theorem gX8_scanned_X8_no : GoodIn wsX8_scanned (wsV RX8 64 RX8 yX8_no wsX8_no) := goodIn_app (goodIn_of _ (by decide +kernel)) ggX8_scanned_X8_no
set_option maxRecDepth 20000 in
theorem ggX8_scanned_X8_scan : GoodIn wsX8_scanned wsX8_scan := goodIn_ca (goodIn_r _ [24, 25, 26, 10, 6, 27, 28, 29, 30, 31, 32, 33, 34, 35, 36, 37, 38, 39, 40, 41, 42, 43, 44, 45, 46, 47, 48, 49, 12, 50, 51, 52, 53, 54, 55, 56, 57, 58, 59, 60, 61, 62, 63, 64, 65, 66, 67, 68, 69, 70, 71, 72, 73, 74, 75, 76, 77, 78, 79, 80, 81, 82, 83, 84, 85, 86, 87, 88, 89, 90, 91, 92, 93, 94, 95, 96, 97, 98, 99, 100, 101, 102, 103, 104, 105, 106, 107, 108, 109, 110, 111, 112, 113, 132, 133, 134, 114, 115, 116, 117, 118, 119, 120, 121, 122, 123, 124, 125, 126, 127, 128, 129, 130, 131] (by decide +kernel) (by decide +kernel)) (goodIn_sub (fun _ h => List.mem_cons_of_mem _ (List.mem_append_right _ h)) (by decide +kernel))
set_option maxRecDepth 20000 in
theorem gX8_scanned_X8_scan : GoodIn wsX8_scanned (wsV RX8 121 RX8 yX8_scan wsX8_scan) := goodIn_app (goodIn_of _ (by decide +kernel)) ggX8_scanned_X8_scan
set_option maxRecDepth 20000 in
theorem ggX8_scanned_Jx4a65c_size_8abf5 : GoodIn wsX8_scanned wsJx4a65c_size_8abf5 := goodIn_r _ [11, 12, 132, 133, 134] (by decide +kernel) (by decide +kernel)
set_option maxRecDepth 20000 in
theorem gX8_scanned_Jx4a65c_size_8abf5_f54Jx4a65c : GoodIn wsX8_scanned (va_wsF RX8 54 RJx4a65c ⟨"java/util/List", "size", "()I"⟩ yJx4a65c_size_8abf5 wsJx4a65c_size_8abf5) := goodIn_app (goodIn_of _ (by decide +kernel)) ggX8_scanned_Jx4a65c_size_8abf5
set_option maxRecDepth 20000 in
theorem ggX8_scan__X8_isRoll : GoodIn wsX8_scan_ wsX8_isRoll := goodIn_r _ [6, 7, 8, 9, 10, 11, 12, 13, 14, 15, 5, 16, 198, 199, 200, 201, 202, 203, 204, 205, 206, 207, 208, 209, 210, 211, 212, 213, 214, 215, 216, 217, 218] (by decide +kernel) (by decide +kernel)
set_option maxRecDepth 20000 in
theorem gX8_scan__X8_isRoll : GoodIn wsX8_scan_ (wsV RX8 74 RX8 yX8_isRoll wsX8_isRoll) := goodIn_app (goodIn_of _ (by decide +kernel)) ggX8_scan__X8_isRoll
set_option maxRecDepth 20000 in
theorem ggX8_scan__X8_no : GoodIn wsX8_scan_ wsX8_no := goodIn_r _ [20, 21, 198, 199, 200, 201, 202, 203, 204, 205, 206, 207, 208, 209, 210, 211, 212, 213, 214, 215] (by decide +kernel) (by decide +kernel)
set_option maxRecDepth 20000 in
theorem gX8_scan__X8_no : GoodIn wsX8_scan_ (wsV RX8 64 RX8 yX8_no wsX8_no) := goodIn_app (goodIn_of _ (by decide +kernel)) ggX8_scan__X8_no
set_option maxRecDepth 20000 in
theorem ggX8_scan__J0_indexOf_0f7a4 : GoodIn wsX8_scan_ wsJ0_indexOf_0f7a4 := goodIn_r _ [26, 27, 28, 29, 25, 30, 31, 32, 33, 34, 35, 36, 37, 38, 39, 40, 41, 42, 43, 44, 45, 46, 47, 48, 49, 50, 51, 52, 53, 54, 55, 56, 57, 58, 59, 60, 61, 62, 63, 64, 65, 66, 67, 68, 69, 70, 71, 72, 73, 74, 75, 76, 77, 78, 79, 80, 81, 82, 83, 84, 85, 86, 87, 88, 89, 90, 91, 92, 93, 94, 95, 96, 97, 98, 99, 100, 101, 102, 103, 104, 105, 106, 107, 108, 109, 110, 219, 220] (by decide +kernel) (by decide +kernel)
set_option maxRecDepth 20000 in
theorem gX8_scan__J0_indexOf_0f7a4 : GoodIn wsX8_scan_ (wsV RX8 127 RJ0 yJ0_indexOf_0f7a4 wsJ0_indexOf_0f7a4) := goodIn_app (goodIn_of _ (by decide +kernel)) ggX8_scan__J0_indexOf_0f7a4
set_option maxRecDepth 20000 in
theorem ggX8_scan__X8_scan : GoodIn wsX8_scan_ wsX8_scan := goodIn_ca (goodIn_r _ [114, 115, 116, 11, 7, 117, 118, 119, 120, 121, 122, 123, 124, 125, 126, 127, 128, 129, 130, 131, 132, 133, 134, 135, 136, 137, 138, 139, 13, 140, 141, 142, 143, 144, 145, 85, 146, 147, 148, 149, 150, 151, 152, 153, 154, 155, 156, 157, 158, 159, 160, 161, 162, 163, 164, 165, 166, 167, 168, 169, 51, 52, 53, 170, 171, 172, 173, 174, 175, 176, 177, 178, 179, 180, 181, 182, 183, 184, 185, 186, 187, 188, 189, 190, 191, 192, 193, 55, 56, 194, 195, 196, 197, 216, 217, 218, 198, 199, 200, 201, 202, 203, 204, 205, 206, 207, 208, 209, 210, 211, 212, 213, 214, 215] (by decide +kernel) (by decide +kernel)) (goodIn_sub (fun _ h => List.mem_cons_of_mem _ (List.mem_append_right _ h)) (by decide +kernel))
set_option maxRecDepth 20000 in
theorem gX8_scan__X8_scan : GoodIn wsX8_scan_ (wsV RX8 121 RX8 yX8_scan wsX8_scan) := goodIn_app (goodIn_of _ (by decide +kernel)) ggX8_scan__X8_scan
set_option maxRecDepth 20000 in
theorem ggX8_scan__Jx4a65c_size_8abf5 : GoodIn wsX8_scan_ wsJx4a65c_size_8abf5 := goodIn_r _ [12, 13, 216, 217, 218] (by decide +kernel) (by decide +kernel)
set_option maxRecDepth 20000 in
theorem gX8_scan__Jx4a65c_size_8abf5_f54Jx4a65c : GoodIn wsX8_scan_ (va_wsF RX8 54 RJx4a65c ⟨"java/util/List", "size", "()I"⟩ yJx4a65c_size_8abf5 wsJx4a65c_size_8abf5) := goodIn_app (goodIn_of _ (by decide +kernel)) ggX8_scan__Jx4a65c_size_8abf5
set_option maxRecDepth 20000 in
theorem ggX8_scan__X8_isIn : GoodIn wsX8_scan_ wsX8_isIn := goodIn_r _ [16] (by decide +kernel) (by decide +kernel)
set_option maxRecDepth 20000 in
theorem gX8_scan__X8_isIn : GoodIn wsX8_scan_ (va_wsS RX8 60 yX8_isIn wsX8_isIn) := goodIn_app (goodIn_of _ (by decide +kernel)) ggX8_scan__X8_isIn
set_option maxRecDepth 20000 in
theorem ggX8_scan__Jx4a65c_get_915e3 : GoodIn wsX8_scan_ wsJx4a65c_get_915e3 := goodIn_r _ [139, 13, 140, 141, 142, 143, 144, 145, 85, 146, 147, 148, 149, 11, 150, 123, 216, 217, 218] (by decide +kernel) (by decide +kernel)
set_option maxRecDepth 20000 in
theorem gX8_scan__Jx4a65c_get_915e3_f81Jx4a65c : GoodIn wsX8_scan_ (va_wsF RX8 81 RJx4a65c ⟨"java/util/List", "get", "(I)Ljava/lang/Object;"⟩ yJx4a65c_get_915e3 wsJx4a65c_get_915e3) := goodIn_app (goodIn_of _ (by decide +kernel)) ggX8_scan__Jx4a65c_get_915e3
set_option maxRecDepth 20000 in
theorem ggX8_isMusic_X8_isRoll : GoodIn wsX8_isMusic wsX8_isRoll := goodIn_r _ [7, 8, 9, 10, 11, 12, 13, 14, 15, 16, 6, 17, 148, 149, 150, 151, 152, 153, 154, 155, 156, 157, 158, 159, 160, 161, 162, 163, 164, 165, 166, 167, 168] (by decide +kernel) (by decide +kernel)
set_option maxRecDepth 20000 in
theorem gX8_isMusic_X8_isRoll : GoodIn wsX8_isMusic (wsV RX8 74 RX8 yX8_isRoll wsX8_isRoll) := goodIn_app (goodIn_of _ (by decide +kernel)) ggX8_isMusic_X8_isRoll
set_option maxRecDepth 20000 in
theorem ggX8_isMusic_X8_no : GoodIn wsX8_isMusic wsX8_no := goodIn_r _ [21, 22, 148, 149, 150, 151, 152, 153, 154, 155, 156, 157, 158, 159, 160, 161, 162, 163, 164, 165] (by decide +kernel) (by decide +kernel)
set_option maxRecDepth 20000 in
theorem gX8_isMusic_X8_no : GoodIn wsX8_isMusic (wsV RX8 64 RX8 yX8_no wsX8_no) := goodIn_app (goodIn_of _ (by decide +kernel)) ggX8_isMusic_X8_no
set_option maxRecDepth 20000 in
theorem ggX8_isMusic_X8_scan : GoodIn wsX8_isMusic wsX8_scan := goodIn_ca (goodIn_r _ [26, 27, 28, 12, 8, 29, 30, 31, 32, 33, 34, 35, 36, 37, 38, 39, 40, 41, 42, 43, 44, 45, 46, 47, 48, 49, 50, 51, 14, 52, 53, 54, 55, 56, 57, 58, 59, 60, 61, 62, 63, 64, 65, 66, 67, 68, 69, 70, 71, 72, 73, 74, 75, 76, 77, 78, 79, 80, 81, 82, 83, 84, 85, 86, 87, 88, 89, 90, 91, 92, 93, 94, 95, 96, 97, 98, 99, 100, 101, 102, 103, 104, 105, 106, 107, 108, 109, 110, 111, 112, 113, 114, 115, 166, 167, 168, 148, 149, 150, 151, 152, 153, 154, 155, 156, 157, 158, 159, 160, 161, 162, 163, 164, 165] (by decide +kernel) (by decide +kernel)) (goodIn_sub (fun _ h => List.mem_cons_of_mem _ (List.mem_append_right _ h)) (by decide +kernel))
set_option maxRecDepth 20000 in
theorem gX8_isMusic_X8_scan : GoodIn wsX8_isMusic (wsV RX8 121 RX8 yX8_scan wsX8_scan) := goodIn_app (goodIn_of _ (by decide +kernel)) ggX8_isMusic_X8_scan
set_option maxRecDepth 20000 in
theorem ggX8_isMusic_Jx4a65c_size_8abf5 : GoodIn wsX8_isMusic wsJx4a65c_size_8abf5 := goodIn_r _ [13, 14, 166, 167, 168] (by decide +kernel) (by decide +kernel)
set_option maxRecDepth 20000 in
theorem gX8_isMusic_Jx4a65c_size_8abf5_f54Jx4a65c : GoodIn wsX8_isMusic (va_wsF RX8 54 RJx4a65c ⟨"java/util/List", "size", "()I"⟩ yJx4a65c_size_8abf5 wsJx4a65c_size_8abf5) := goodIn_app (goodIn_of _ (by decide +kernel)) ggX8_isMusic_Jx4a65c_size_8abf5
set_option maxRecDepth 20000 in
theorem ggX8_isMusic_Jx4a65c_iterator_32c93 : GoodIn wsX8_isMusic wsJx4a65c_iterator_32c93 := goodIn_r _ [119, 120, 121, 122, 123, 124, 125, 126, 127, 46, 47, 128, 129, 69, 130, 169, 170, 171, 172, 166, 167, 168] (by decide +kernel) (by decide +kernel)
set_option maxRecDepth 20000 in
theorem gX8_isMusic_Jx4a65c_iterator_32c93_f104Jx4a65c : GoodIn wsX8_isMusic (va_wsF RX8 104 RJx4a65c ⟨"java/util/List", "iterator", "()Ljava/util/Iterator;"⟩ yJx4a65c_iterator_32c93 wsJx4a65c_iterator_32c93) := goodIn_app (goodIn_of _ (by decide +kernel)) ggX8_isMusic_Jx4a65c_iterator_32c93
set_option maxRecDepth 20000 in
theorem ggX8_isMusic_Jx35411_hasNext_aae02 : GoodIn wsX8_isMusic wsJx35411_hasNext_aae02 := goodIn_r _ [134, 135, 126, 169, 170, 171, 172, 166, 167, 168] (by decide +kernel) (by decide +kernel)
set_option maxRecDepth 20000 in
theorem gX8_isMusic_Jx35411_hasNext_aae02_f108Jx35411 : GoodIn wsX8_isMusic (va_wsF RX8 108 RJx35411 ⟨"java/util/Iterator", "hasNext", "()Z"⟩ yJx35411_hasNext_aae02 wsJx35411_hasNext_aae02) := goodIn_app (goodIn_of _ (by decide +kernel)) ggX8_isMusic_Jx35411_hasNext_aae02
set_option maxRecDepth 20000 in
theorem ggX8_isMusic_Jx35411_next_0502b : GoodIn wsX8_isMusic wsJx35411_next_0502b := goodIn_r _ [139, 135, 126, 140, 128, 141, 142, 143, 122, 144, 129, 69, 130, 169, 170, 171, 172, 166, 167, 168] (by decide +kernel) (by decide +kernel)
set_option maxRecDepth 20000 in
theorem gX8_isMusic_Jx35411_next_0502b_f114Jx35411 : GoodIn wsX8_isMusic (va_wsF RX8 114 RJx35411 ⟨"java/util/Iterator", "next", "()Ljava/lang/Object;"⟩ yJx35411_next_0502b wsJx35411_next_0502b) := goodIn_app (goodIn_of _ (by decide +kernel)) ggX8_isMusic_Jx35411_next_0502b
set_option maxRecDepth 20000 in
theorem ggX8_isMusic_X8_areSame : GoodIn wsX8_isMusic wsX8_areSame := goodIn_ca (goodIn_r _ [147] (by decide +kernel) (by decide +kernel)) (goodIn_sub (fun _ h => List.mem_cons_of_mem _ (List.mem_append_right _ h)) (by decide +kernel))
set_option maxRecDepth 20000 in
theorem gX8_isMusic_X8_areSame : GoodIn wsX8_isMusic (va_wsS RX8 132 yX8_areSame wsX8_areSame) := goodIn_app (goodIn_of _ (by decide +kernel)) ggX8_isMusic_X8_areSame
set_option maxRecDepth 20000 in
theorem ggX8_valve_X8_isNote : GoodIn wsX8_valve wsX8_isNote := goodIn_r _ [7, 8, 9, 6, 10] (by decide +kernel) (by decide +kernel)
set_option maxRecDepth 20000 in
theorem gX8_valve_X8_isNote : GoodIn wsX8_valve (va_wsS RX8 101 yX8_isNote wsX8_isNote) := goodIn_app (goodIn_of _ (by decide +kernel)) ggX8_valve_X8_isNote
set_option maxRecDepth 20000 in
theorem ggX8_valve_X8_no : GoodIn wsX8_valve wsX8_no := goodIn_r _ [14, 15, 16, 17, 18, 19, 20, 21, 22, 23, 24, 25, 26, 27, 28, 29, 30, 31, 32, 33] (by decide +kernel) (by decide +kernel)
set_option maxRecDepth 20000 in
theorem gX8_valve_X8_no : GoodIn wsX8_valve (wsV RX8 64 RX8 yX8_no wsX8_no) := goodIn_app (goodIn_of _ (by decide +kernel)) ggX8_valve_X8_no
set_option maxRecDepth 20000 in
theorem ggX8_valve_X8_isIn : GoodIn wsX8_valve wsX8_isIn := goodIn_r _ [10] (by decide +kernel) (by decide +kernel)
set_option maxRecDepth 20000 in
theorem gX8_valve_X8_isIn : GoodIn wsX8_valve (va_wsS RX8 60 yX8_isIn wsX8_isIn) := goodIn_app (goodIn_of _ (by decide +kernel)) ggX8_valve_X8_isIn
set_option maxRecDepth 20000 in
theorem ggX8_use_X8_isNote : GoodIn wsX8_use wsX8_isNote := goodIn_r _ [6, 7, 8, 5, 9] (by decide +kernel) (by decide +kernel)
set_option maxRecDepth 20000 in
theorem gX8_use_X8_isNote : GoodIn wsX8_use (va_wsS RX8 101 yX8_isNote wsX8_isNote) := goodIn_app (goodIn_of _ (by decide +kernel)) ggX8_use_X8_isNote
set_option maxRecDepth 20000 in
theorem ggX8_use_X8_no : GoodIn wsX8_use wsX8_no := goodIn_r _ [13, 14, 15, 16, 17, 18, 19, 20, 21, 22, 23, 24, 25, 26, 27, 28, 29, 30, 31, 32] (by decide +kernel) (by decide +kernel)
set_option maxRecDepth 20000 in
theorem gX8_use_X8_no : GoodIn wsX8_use (wsV RX8 64 RX8 yX8_no wsX8_no) := goodIn_app (goodIn_of _ (by decide +kernel)) ggX8_use_X8_no
set_option maxRecDepth 20000 in
theorem ggX8_use_X8_isIn : GoodIn wsX8_use wsX8_isIn := goodIn_r _ [9] (by decide +kernel) (by decide +kernel)
set_option maxRecDepth 20000 in
theorem gX8_use_X8_isIn : GoodIn wsX8_use (va_wsS RX8 60 yX8_isIn wsX8_isIn) := goodIn_app (goodIn_of _ (by decide +kernel)) ggX8_use_X8_isIn
set_option maxRecDepth 20000 in
theorem ggX8_borrow_X8_isNote : GoodIn wsX8_borrow wsX8_isNote := goodIn_r _ [6, 7, 8, 5, 9] (by decide +kernel) (by decide +kernel)
set_option maxRecDepth 20000 in
theorem gX8_borrow_X8_isNote : GoodIn wsX8_borrow (va_wsS RX8 101 yX8_isNote wsX8_isNote) := goodIn_app (goodIn_of _ (by decide +kernel)) ggX8_borrow_X8_isNote
set_option maxRecDepth 20000 in
theorem ggX8_borrow_X8_no : GoodIn wsX8_borrow wsX8_no := goodIn_r _ [13, 14, 15, 16, 17, 18, 19, 20, 21, 22, 23, 24, 25, 26, 27, 28, 29, 30, 31, 32] (by decide +kernel) (by decide +kernel)
set_option maxRecDepth 20000 in
theorem gX8_borrow_X8_no : GoodIn wsX8_borrow (wsV RX8 64 RX8 yX8_no wsX8_no) := goodIn_app (goodIn_of _ (by decide +kernel)) ggX8_borrow_X8_no
set_option maxRecDepth 20000 in
theorem ggX8_set_J0_indexOf_0f7a4 : GoodIn wsX8_set wsJ0_indexOf_0f7a4 := goodIn_r _ [11, 12, 13, 14, 10, 15, 16, 17, 18, 19, 20, 21, 22, 23, 24, 25, 26, 27, 28, 29, 30, 31, 32, 33, 34, 35, 3, 4, 5, 36, 37, 38, 39, 40, 41, 42, 43, 44, 45, 46, 47, 48, 49, 50, 51, 52, 53, 54, 55, 56, 57, 58, 59, 60, 61, 62, 63, 64, 65, 66, 67, 68, 69, 70, 71, 72, 73, 74, 75, 76, 77, 78, 79, 80, 81, 82, 83, 84, 85, 86, 87, 88, 89, 90, 91, 92, 120, 121] (by decide +kernel) (by decide +kernel)
set_option maxRecDepth 20000 in
theorem gX8_set_J0_indexOf_0f7a4 : GoodIn wsX8_set (wsV RX8 127 RJ0 yJ0_indexOf_0f7a4 wsJ0_indexOf_0f7a4) := goodIn_app (goodIn_of _ (by decide +kernel)) ggX8_set_J0_indexOf_0f7a4
set_option maxRecDepth 20000 in
theorem ggX8_set_X8_isIn : GoodIn wsX8_set wsX8_isIn := goodIn_r _ [96] (by decide +kernel) (by decide +kernel)
set_option maxRecDepth 20000 in
theorem gX8_set_X8_isIn : GoodIn wsX8_set (va_wsS RX8 60 yX8_isIn wsX8_isIn) := goodIn_app (goodIn_of _ (by decide +kernel)) ggX8_set_X8_isIn
set_option maxRecDepth 20000 in
theorem ggX8_set_X8_no : GoodIn wsX8_set wsX8_no := goodIn_r _ [100, 101, 102, 103, 104, 105, 106, 107, 108, 109, 110, 111, 112, 113, 114, 115, 116, 117, 118, 119] (by decide +kernel) (by decide +kernel)
set_option maxRecDepth 20000 in
theorem gX8_set_X8_no : GoodIn wsX8_set (wsV RX8 64 RX8 yX8_no wsX8_no) := goodIn_app (goodIn_of _ (by decide +kernel)) ggX8_set_X8_no
set_option maxRecDepth 20000 in
theorem ggX8_maker_X8_isIn : GoodIn wsX8_maker wsX8_isIn := goodIn_r _ [5] (by decide +kernel) (by decide +kernel)
set_option maxRecDepth 20000 in
theorem gX8_maker_X8_isIn : GoodIn wsX8_maker (va_wsS RX8 60 yX8_isIn wsX8_isIn) := goodIn_app (goodIn_of _ (by decide +kernel)) ggX8_maker_X8_isIn
set_option maxRecDepth 20000 in
theorem ggX8_maker_X8_no : GoodIn wsX8_maker wsX8_no := goodIn_r _ [9, 10, 11, 12, 13, 14, 15, 16, 17, 18, 19, 20, 21, 22, 23, 24, 25, 26, 27, 28] (by decide +kernel) (by decide +kernel)
set_option maxRecDepth 20000 in
theorem gX8_maker_X8_no : GoodIn wsX8_maker (wsV RX8 64 RX8 yX8_no wsX8_no) := goodIn_app (goodIn_of _ (by decide +kernel)) ggX8_maker_X8_no
set_option maxRecDepth 20000 in
theorem ggX8_load_X8_isRoll : GoodIn wsX8_load wsX8_isRoll := goodIn_r _ [20, 21, 22, 23, 24, 25, 26, 27, 28, 29, 19, 30, 64, 65, 66, 67, 68, 69, 70, 71, 72, 73, 74, 75, 76, 77, 78, 79, 80, 81, 92, 93, 94] (by decide +kernel) (by decide +kernel)
set_option maxRecDepth 20000 in
theorem gX8_load_X8_isRoll : GoodIn wsX8_load (wsV RX8 74 RX8 yX8_isRoll wsX8_isRoll) := goodIn_app (goodIn_of _ (by decide +kernel)) ggX8_load_X8_isRoll
set_option maxRecDepth 20000 in
theorem ggX8_load_X8_no : GoodIn wsX8_load wsX8_no := goodIn_r _ [34, 35, 64, 65, 66, 67, 68, 69, 70, 71, 72, 73, 74, 75, 76, 77, 78, 79, 80, 81] (by decide +kernel) (by decide +kernel)
set_option maxRecDepth 20000 in
theorem gX8_load_X8_no : GoodIn wsX8_load (wsV RX8 64 RX8 yX8_no wsX8_no) := goodIn_app (goodIn_of _ (by decide +kernel)) ggX8_load_X8_no
set_option maxRecDepth 20000 in
theorem ggX8_load_Jx4a65c_clear_da8c8 : GoodIn wsX8_load wsJx4a65c_clear_da8c8 := goodIn_r _ [39, 40, 41, 42, 27, 92, 93, 94] (by decide +kernel) (by decide +kernel)
set_option maxRecDepth 20000 in
theorem gX8_load_Jx4a65c_clear_da8c8_f118Jx4a65c : GoodIn wsX8_load (va_wsF RX8 118 RJx4a65c ⟨"java/util/List", "clear", "()V"⟩ yJx4a65c_clear_da8c8 wsJx4a65c_clear_da8c8) := goodIn_app (goodIn_of _ (by decide +kernel)) ggX8_load_Jx4a65c_clear_da8c8
set_option maxRecDepth 20000 in
theorem ggX8_load_X8_lengthOf : GoodIn wsX8_load wsX8_lengthOf := goodIn_ca (goodIn_r _ [46, 21, 47, 48, 49, 50, 25, 51, 27, 52, 53, 54, 55, 56, 57, 58, 59, 60, 61, 62, 63, 42, 64, 65, 66, 67, 68, 69, 70, 71, 72, 73, 74, 75, 76, 77, 78, 79, 80, 81, 92, 93, 94] (by decide +kernel) (by decide +kernel)) (goodIn_sub (fun _ h => List.mem_cons_of_mem _ (List.mem_append_right _ h)) (by decide +kernel))
set_option maxRecDepth 20000 in
theorem gX8_load_X8_lengthOf : GoodIn wsX8_load (wsV RX8 85 RX8 yX8_lengthOf wsX8_lengthOf) := goodIn_app (goodIn_of _ (by decide +kernel)) ggX8_load_X8_lengthOf
set_option maxRecDepth 20000 in
theorem ggX8_noPlay_X8_no : GoodIn wsX8_noPlay wsX8_no := goodIn_r _ [6, 7, 8, 9, 10, 11, 12, 13, 14, 15, 16, 17, 18, 19, 20, 21, 22, 23, 24, 25] (by decide +kernel) (by decide +kernel)
set_option maxRecDepth 20000 in
theorem gX8_noPlay_X8_no : GoodIn wsX8_noPlay (wsV RX8 64 RX8 yX8_no wsX8_no) := goodIn_app (goodIn_of _ (by decide +kernel)) ggX8_noPlay_X8_no
set_option maxRecDepth 20000 in
theorem ggX8_aside_X8_noPlay : GoodIn wsX8_aside wsX8_noPlay := goodIn_r _ [6, 7, 8, 9, 10, 5, 11, 12, 16, 17, 18, 19, 20, 21, 22, 23, 24, 25, 26, 27, 28, 29, 30, 31, 32, 33] (by decide +kernel) (by decide +kernel)
set_option maxRecDepth 20000 in
theorem gX8_aside_X8_noPlay : GoodIn wsX8_aside (wsV RX8 183 RX8 yX8_noPlay wsX8_noPlay) := goodIn_app (goodIn_of _ (by decide +kernel)) ggX8_aside_X8_noPlay
set_option maxRecDepth 20000 in
theorem ggX8_aside_X8_isIn : GoodIn wsX8_aside wsX8_isIn := goodIn_r _ [15] (by decide +kernel) (by decide +kernel)
set_option maxRecDepth 20000 in
theorem gX8_aside_X8_isIn : GoodIn wsX8_aside (va_wsS RX8 60 yX8_isIn wsX8_isIn) := goodIn_app (goodIn_of _ (by decide +kernel)) ggX8_aside_X8_isIn
set_option maxRecDepth 20000 in
theorem ggX8_aside_X8_no : GoodIn wsX8_aside wsX8_no := goodIn_r _ [11, 12, 16, 17, 18, 19, 20, 21, 22, 23, 24, 25, 26, 27, 28, 29, 30, 31, 32, 33] (by decide +kernel) (by decide +kernel)
set_option maxRecDepth 20000 in
theorem gX8_aside_X8_no : GoodIn wsX8_aside (wsV RX8 64 RX8 yX8_no wsX8_no) := goodIn_app (goodIn_of _ (by decide +kernel)) ggX8_aside_X8_no
set_option maxRecDepth 20000 in
theorem ggX8_codes_J6_compare_7cf53 : GoodIn wsX8_codes wsJ6_compare_7cf53 := goodIn_r _ [15] (by decide +kernel) (by decide +kernel)
set_option maxRecDepth 20000 in
theorem gX8_codes_J6_compare_7cf53 : GoodIn wsX8_codes (va_wsS RX8 186 yJ6_compare_7cf53 wsJ6_compare_7cf53) := goodIn_app (goodIn_of _ (by decide +kernel)) ggX8_codes_J6_compare_7cf53
set_option maxRecDepth 20000 in
theorem ggX8_ends_Jx4a65c_get_915e3 : GoodIn wsX8_ends wsJx4a65c_get_915e3 := goodIn_r _ [10, 11, 12, 13, 14, 15, 16, 17, 18, 19, 20, 21, 22, 9, 23, 24, 53, 54, 55] (by decide +kernel) (by decide +kernel)
set_option maxRecDepth 20000 in
theorem gX8_ends_Jx4a65c_get_915e3_f81Jx4a65c : GoodIn wsX8_ends (va_wsF RX8 81 RJx4a65c ⟨"java/util/List", "get", "(I)Ljava/lang/Object;"⟩ yJx4a65c_get_915e3 wsJx4a65c_get_915e3) := goodIn_app (goodIn_of _ (by decide +kernel)) ggX8_ends_Jx4a65c_get_915e3
set_option maxRecDepth 20000 in
theorem ggX8_begins_X8_ends : GoodIn wsX8_begins wsX8_ends := goodIn_ca (goodIn_r _ [15, 5, 4, 16, 8, 2, 17, 18, 19, 20, 21, 22, 23, 24, 25, 26, 27, 28, 29, 30, 31, 32, 33, 34, 35, 111, 112, 113, 114, 115, 116, 117, 118, 119, 120, 93, 94, 95, 96, 97, 98, 99, 100, 101, 102, 103, 104, 105, 106, 107, 108, 109, 110, 121, 122, 123] (by decide +kernel) (by decide +kernel)) (goodIn_sub (fun _ h => List.mem_cons_of_mem _ (List.mem_append_right _ h)) (by decide +kernel))
set_option maxRecDepth 20000 in
theorem gX8_begins_X8_ends : GoodIn wsX8_begins (wsV RX8 197 RX8 yX8_ends wsX8_ends) := goodIn_app (goodIn_of _ (by decide +kernel)) ggX8_begins_X8_ends
set_option maxRecDepth 20000 in
theorem ggX8_begins_Jx4a65c_size_8abf5 : GoodIn wsX8_begins wsJx4a65c_size_8abf5 := goodIn_r _ [39, 22, 121, 122, 123] (by decide +kernel) (by decide +kernel)
set_option maxRecDepth 20000 in
theorem gX8_begins_Jx4a65c_size_8abf5_f54Jx4a65c : GoodIn wsX8_begins (va_wsF RX8 54 RJx4a65c ⟨"java/util/List", "size", "()I"⟩ yJx4a65c_size_8abf5 wsJx4a65c_size_8abf5) := goodIn_app (goodIn_of _ (by decide +kernel)) ggX8_begins_Jx4a65c_size_8abf5
set_option maxRecDepth 20000 in
theorem ggX8_begins_Jx4a65c_add_9ea2d : GoodIn wsX8_begins wsJx4a65c_add_9ea2d := goodIn_r _ [43, 44, 45, 35, 22, 46, 47, 48, 20, 49, 50, 51, 52, 53, 54, 55, 56, 57, 58, 59, 60, 61, 62, 63, 64, 65, 66, 67, 68, 69, 70, 71, 72, 73, 74, 75, 76, 77, 78, 79, 80, 81, 82, 83, 84, 85, 86, 87, 88, 89, 90, 91, 92, 121, 122, 123] (by decide +kernel) (by decide +kernel)
set_option maxRecDepth 20000 in
theorem gX8_begins_Jx4a65c_add_9ea2d_f70Jx4a65c : GoodIn wsX8_begins (va_wsF RX8 70 RJx4a65c ⟨"java/util/List", "add", "(Ljava/lang/Object;)Z"⟩ yJx4a65c_add_9ea2d wsJx4a65c_add_9ea2d) := goodIn_app (goodIn_of _ (by decide +kernel)) ggX8_begins_Jx4a65c_add_9ea2d
set_option maxRecDepth 20000 in
theorem ggX8_moves_X8_ends : GoodIn wsX8_moves wsX8_ends := goodIn_ca (goodIn_r _ [17, 18, 19, 20, 4, 9, 21, 22, 23, 24, 25, 26, 27, 28, 29, 30, 31, 32, 33, 34, 35, 36, 37, 38, 39, 122, 123, 124, 125, 126, 127, 128, 129, 130, 131, 104, 105, 106, 107, 108, 109, 110, 111, 112, 113, 114, 115, 116, 117, 118, 119, 120, 121, 132, 133, 134] (by decide +kernel) (by decide +kernel)) (goodIn_sub (fun _ h => List.mem_cons_of_mem _ (List.mem_append_right _ h)) (by decide +kernel))
set_option maxRecDepth 20000 in
theorem gX8_moves_X8_ends : GoodIn wsX8_moves (wsV RX8 197 RX8 yX8_ends wsX8_ends) := goodIn_app (goodIn_of _ (by decide +kernel)) ggX8_moves_X8_ends
set_option maxRecDepth 20000 in
theorem ggX8_moves_X8_begins : GoodIn wsX8_moves wsX8_begins := goodIn_ca (goodIn_r _ [43, 1, 9, 44, 19, 18, 45, 5, 4, 12, 46, 13, 14, 15, 16, 17, 20, 21, 22, 23, 24, 25, 26, 27, 28, 29, 30, 31, 32, 33, 34, 35, 36, 37, 38, 39, 47, 48, 49, 50, 51, 52, 53, 54, 55, 56, 57, 58, 59, 60, 61, 62, 63, 64, 65, 66, 67, 68, 69, 70, 71, 72, 73, 74, 75, 76, 77, 78, 79, 80, 81, 82, 83, 84, 85, 86, 87, 88, 89, 90, 91, 92, 93, 94, 95, 96, 97, 98, 99, 100, 101, 102, 103, 104, 105, 106, 107, 108, 109, 110, 111, 112, 113, 114, 115, 116, 117, 118, 119, 120, 121, 122, 123, 124, 125, 126, 127, 128, 129, 130, 131, 132, 133, 134] (by decide +kernel) (by decide +kernel)) (goodIn_sub (fun _ h => List.mem_cons_of_mem _ (List.mem_append_right _ h)) (by decide +kernel))
set_option maxRecDepth 20000 in
theorem gX8_moves_X8_begins : GoodIn wsX8_moves (wsV RX8 207 RX8 yX8_begins wsX8_begins) := goodIn_app (goodIn_of _ (by decide +kernel)) ggX8_moves_X8_begins
set_option maxRecDepth 20000 in
theorem ggX8_plays_X8_isIn : GoodIn wsX8_plays wsX8_isIn := goodIn_r _ [24] (by decide +kernel) (by decide +kernel)
set_option maxRecDepth 20000 in
theorem gX8_plays_X8_isIn : GoodIn wsX8_plays (va_wsS RX8 60 yX8_isIn wsX8_isIn) := goodIn_app (goodIn_of _ (by decide +kernel)) ggX8_plays_X8_isIn
set_option maxRecDepth 20000 in
theorem ggX8_plays_Jx4a65c_get_915e3 : GoodIn wsX8_plays wsJx4a65c_get_915e3 := goodIn_r _ [29, 30, 31, 32, 33, 34, 35, 36, 37, 38, 39, 40, 41, 28, 42, 43, 159, 160, 161] (by decide +kernel) (by decide +kernel)
set_option maxRecDepth 20000 in
theorem gX8_plays_Jx4a65c_get_915e3_f81Jx4a65c : GoodIn wsX8_plays (va_wsF RX8 81 RJx4a65c ⟨"java/util/List", "get", "(I)Ljava/lang/Object;"⟩ yJx4a65c_get_915e3 wsJx4a65c_get_915e3) := goodIn_app (goodIn_of _ (by decide +kernel)) ggX8_plays_Jx4a65c_get_915e3
set_option maxRecDepth 20000 in
theorem ggX8_plays_X8_codes : GoodIn wsX8_plays wsX8_codes := goodIn_ca (goodIn_r _ [47, 48, 49, 20, 50, 13, 14, 15, 16, 17, 18, 19, 51, 52, 53, 54, 131, 132, 133, 134, 135, 136, 137, 138, 139, 140, 141, 142, 143, 144, 145, 146, 147, 148] (by decide +kernel) (by decide +kernel)) (goodIn_sub (fun _ h => List.mem_cons_of_mem _ (List.mem_append_right _ h)) (by decide +kernel))
set_option maxRecDepth 20000 in
theorem gX8_plays_X8_codes : GoodIn wsX8_plays (wsV RX8 211 RX8 yX8_codes wsX8_codes) := goodIn_app (goodIn_of _ (by decide +kernel)) ggX8_plays_X8_codes
set_option maxRecDepth 20000 in
theorem ggX8_plays_X8_moves : GoodIn wsX8_plays wsX8_moves := goodIn_ca (goodIn_r _ [58, 7, 59, 9, 6, 60, 61, 12, 62, 63, 64, 65, 11, 66, 67, 68, 23, 69, 70, 71, 72, 25, 26, 27, 28, 29, 30, 31, 32, 33, 34, 35, 36, 37, 38, 39, 40, 41, 42, 43, 73, 74, 75, 76, 77, 78, 50, 79, 80, 81, 82, 83, 84, 85, 86, 87, 88, 89, 90, 91, 92, 93, 94, 95, 96, 97, 98, 99, 100, 101, 102, 18, 15, 19, 103, 104, 105, 106, 107, 108, 109, 110, 111, 112, 113, 114, 115, 116, 117, 118, 119, 120, 121, 122, 123, 124, 125, 126, 14, 16, 127, 128, 129, 130, 131, 132, 133, 134, 135, 136, 137, 138, 139, 140, 141, 142, 143, 144, 145, 146, 147, 148, 149, 150, 151, 152, 153, 154, 155, 156, 157, 158, 159, 160, 161] (by decide +kernel) (by decide +kernel)) (goodIn_sub (fun _ h => List.mem_cons_of_mem _ (List.mem_append_right _ h)) (by decide +kernel))
set_option maxRecDepth 20000 in
theorem gX8_plays_X8_moves : GoodIn wsX8_plays (wsV RX8 215 RX8 yX8_moves wsX8_moves) := goodIn_app (goodIn_of _ (by decide +kernel)) ggX8_plays_X8_moves
set_option maxRecDepth 20000 in
theorem ggX8_tick_X8_noPlay : GoodIn wsX8_tick wsX8_noPlay := goodIn_r _ [10, 2, 11, 12, 13, 9, 14, 15, 148, 149, 150, 151, 152, 153, 154, 155, 156, 157, 158, 159, 160, 161, 162, 163, 164, 165] (by decide +kernel) (by decide +kernel)
set_option maxRecDepth 20000 in
theorem gX8_tick_X8_noPlay : GoodIn wsX8_tick (wsV RX8 183 RX8 yX8_noPlay wsX8_noPlay) := goodIn_app (goodIn_of _ (by decide +kernel)) ggX8_tick_X8_noPlay
set_option maxRecDepth 20000 in
theorem ggX8_tick_X8_isIn : GoodIn wsX8_tick wsX8_isIn := goodIn_r _ [18] (by decide +kernel) (by decide +kernel)
set_option maxRecDepth 20000 in
theorem gX8_tick_X8_isIn : GoodIn wsX8_tick (va_wsS RX8 60 yX8_isIn wsX8_isIn) := goodIn_app (goodIn_of _ (by decide +kernel)) ggX8_tick_X8_isIn
set_option maxRecDepth 20000 in
theorem ggX8_tick_X8_no : GoodIn wsX8_tick wsX8_no := goodIn_r _ [14, 15, 148, 149, 150, 151, 152, 153, 154, 155, 156, 157, 158, 159, 160, 161, 162, 163, 164, 165] (by decide +kernel) (by decide +kernel)
set_option maxRecDepth 20000 in
theorem gX8_tick_X8_no : GoodIn wsX8_tick (wsV RX8 64 RX8 yX8_no wsX8_no) := goodIn_app (goodIn_of _ (by decide +kernel)) ggX8_tick_X8_no
set_option maxRecDepth 20000 in
theorem ggX8_tick_X8_lengthOf : GoodIn wsX8_tick wsX8_lengthOf := goodIn_ca (goodIn_r _ [22, 23, 24, 25, 26, 27, 28, 29, 30, 31, 32, 33, 34, 35, 36, 37, 38, 39, 40, 41, 42, 43, 148, 149, 150, 151, 152, 153, 154, 155, 156, 157, 158, 159, 160, 161, 162, 163, 164, 165, 176, 177, 178] (by decide +kernel) (by decide +kernel)) (goodIn_sub (fun _ h => List.mem_cons_of_mem _ (List.mem_append_right _ h)) (by decide +kernel))
set_option maxRecDepth 20000 in
theorem gX8_tick_X8_lengthOf : GoodIn wsX8_tick (wsV RX8 85 RX8 yX8_lengthOf wsX8_lengthOf) := goodIn_app (goodIn_of _ (by decide +kernel)) ggX8_tick_X8_lengthOf
set_option maxRecDepth 20000 in
theorem ggX8_tick_X8_plays : GoodIn wsX8_tick wsX8_plays := goodIn_ca (goodIn_r _ [47, 48, 49, 23, 2, 24, 1, 3, 50, 4, 51, 52, 53, 54, 55, 56, 57, 58, 59, 60, 61, 16, 17, 9, 18, 25, 26, 27, 28, 29, 30, 31, 32, 33, 34, 35, 36, 37, 38, 39, 40, 41, 42, 43, 62, 63, 64, 65, 66, 67, 68, 69, 70, 71, 72, 73, 74, 75, 76, 77, 78, 79, 80, 5, 81, 82, 83, 84, 85, 86, 87, 88, 89, 90, 91, 92, 93, 94, 95, 96, 97, 98, 99, 100, 101, 102, 103, 104, 105, 106, 107, 108, 109, 110, 111, 112, 113, 114, 115, 116, 117, 118, 119, 120, 121, 122, 123, 124, 125, 126, 127, 128, 129, 130, 131, 132, 133, 134, 135, 136, 137, 138, 139, 140, 141, 142, 143, 144, 145, 146, 147, 148, 149, 150, 151, 152, 153, 154, 155, 156, 157, 158, 159, 160, 161, 162, 163, 164, 165, 166, 167, 168, 169, 170, 171, 172, 173, 174, 175, 176, 177, 178] (by decide +kernel) (by decide +kernel)) (goodIn_sub (fun _ h => List.mem_cons_of_mem _ (List.mem_append_right _ h)) (by decide +kernel))
set_option maxRecDepth 20000 in
theorem gX8_tick_X8_plays : GoodIn wsX8_tick (wsV RX8 219 RX8 yX8_plays wsX8_plays) := goodIn_app (goodIn_of _ (by decide +kernel)) ggX8_tick_X8_plays
set_option maxRecDepth 20000 in
theorem ggX8_tick_X8_ends : GoodIn wsX8_tick wsX8_ends := goodIn_ca (goodIn_r _ [86, 87, 88, 89, 1, 5, 25, 26, 27, 28, 29, 30, 31, 32, 33, 34, 35, 36, 37, 38, 39, 40, 41, 42, 43, 166, 167, 168, 169, 170, 171, 172, 173, 174, 175, 148, 149, 150, 151, 152, 153, 154, 155, 156, 157, 158, 159, 160, 161, 162, 163, 164, 165, 176, 177, 178] (by decide +kernel) (by decide +kernel)) (goodIn_sub (fun _ h => List.mem_cons_of_mem _ (List.mem_append_right _ h)) (by decide +kernel))
set_option maxRecDepth 20000 in
theorem gX8_tick_X8_ends : GoodIn wsX8_tick (wsV RX8 197 RX8 yX8_ends wsX8_ends) := goodIn_app (goodIn_of _ (by decide +kernel)) ggX8_tick_X8_ends
set_option maxRecDepth 20000 in
theorem ggX8_row_X8_noPlay : GoodIn wsX8_row wsX8_noPlay := goodIn_r _ [6, 7, 8, 9, 10, 5, 11, 12, 13, 14, 15, 16, 17, 18, 19, 20, 21, 22, 23, 24, 25, 26, 27, 28, 29, 30] (by decide +kernel) (by decide +kernel)
set_option maxRecDepth 20000 in
theorem gX8_row_X8_noPlay : GoodIn wsX8_row (wsV RX8 183 RX8 yX8_noPlay wsX8_noPlay) := goodIn_app (goodIn_of _ (by decide +kernel)) ggX8_row_X8_noPlay
set_option maxRecDepth 20000 in
theorem ggX8_suction_X8_noPlay : GoodIn wsX8_suction wsX8_noPlay := goodIn_r _ [6, 7, 8, 9, 10, 5, 11, 12, 13, 14, 15, 16, 17, 18, 19, 20, 21, 22, 23, 24, 25, 26, 27, 28, 29, 30] (by decide +kernel) (by decide +kernel)
set_option maxRecDepth 20000 in
theorem gX8_suction_X8_noPlay : GoodIn wsX8_suction (wsV RX8 183 RX8 yX8_noPlay wsX8_noPlay) := goodIn_app (goodIn_of _ (by decide +kernel)) ggX8_suction_X8_noPlay
set_option maxRecDepth 20000 in
theorem ggX8_level_X8_noPlay : GoodIn wsX8_level wsX8_noPlay := goodIn_r _ [6, 7, 8, 9, 10, 5, 11, 12, 13, 14, 15, 16, 17, 18, 19, 20, 21, 22, 23, 24, 25, 26, 27, 28, 29, 30] (by decide +kernel) (by decide +kernel)
set_option maxRecDepth 20000 in
theorem gX8_level_X8_noPlay : GoodIn wsX8_level (wsV RX8 183 RX8 yX8_noPlay wsX8_noPlay) := goodIn_app (goodIn_of _ (by decide +kernel)) ggX8_level_X8_noPlay
set_option maxRecDepth 20000 in
theorem ggX8_isOpen_X8_noPlay : GoodIn wsX8_isOpen wsX8_noPlay := goodIn_r _ [7, 8, 9, 10, 11, 6, 12, 13, 20, 21, 22, 23, 24, 25, 26, 27, 28, 29, 30, 31, 32, 33, 34, 35, 36, 37] (by decide +kernel) (by decide +kernel)
set_option maxRecDepth 20000 in
theorem gX8_isOpen_X8_noPlay : GoodIn wsX8_isOpen (wsV RX8 183 RX8 yX8_noPlay wsX8_noPlay) := goodIn_app (goodIn_of _ (by decide +kernel)) ggX8_isOpen_X8_noPlay
set_option maxRecDepth 20000 in
theorem ggX8_isOpen_X8_isNote : GoodIn wsX8_isOpen wsX8_isNote := goodIn_r _ [16, 17, 18, 6, 19] (by decide +kernel) (by decide +kernel)
set_option maxRecDepth 20000 in
theorem gX8_isOpen_X8_isNote : GoodIn wsX8_isOpen (va_wsS RX8 101 yX8_isNote wsX8_isNote) := goodIn_app (goodIn_of _ (by decide +kernel)) ggX8_isOpen_X8_isNote
set_option maxRecDepth 20000 in
theorem ggX8_isOpen_X8_no : GoodIn wsX8_isOpen wsX8_no := goodIn_r _ [12, 13, 20, 21, 22, 23, 24, 25, 26, 27, 28, 29, 30, 31, 32, 33, 34, 35, 36, 37] (by decide +kernel) (by decide +kernel)
set_option maxRecDepth 20000 in
theorem gX8_isOpen_X8_no : GoodIn wsX8_isOpen (wsV RX8 64 RX8 yX8_no wsX8_no) := goodIn_app (goodIn_of _ (by decide +kernel)) ggX8_isOpen_X8_no
set_option maxRecDepth 20000 in
theorem ggX8_isHeard_X8_noPlay : GoodIn wsX8_isHeard wsX8_noPlay := goodIn_r _ [7, 8, 9, 10, 11, 6, 12, 13, 20, 21, 22, 23, 24, 25, 26, 27, 28, 29, 30, 31, 32, 33, 34, 35, 36, 37] (by decide +kernel) (by decide +kernel)
set_option maxRecDepth 20000 in
theorem gX8_isHeard_X8_noPlay : GoodIn wsX8_isHeard (wsV RX8 183 RX8 yX8_noPlay wsX8_noPlay) := goodIn_app (goodIn_of _ (by decide +kernel)) ggX8_isHeard_X8_noPlay
set_option maxRecDepth 20000 in
theorem ggX8_isHeard_X8_isNote : GoodIn wsX8_isHeard wsX8_isNote := goodIn_r _ [16, 17, 18, 6, 19] (by decide +kernel) (by decide +kernel)
set_option maxRecDepth 20000 in
theorem gX8_isHeard_X8_isNote : GoodIn wsX8_isHeard (va_wsS RX8 101 yX8_isNote wsX8_isNote) := goodIn_app (goodIn_of _ (by decide +kernel)) ggX8_isHeard_X8_isNote
set_option maxRecDepth 20000 in
theorem ggX8_isHeard_X8_no : GoodIn wsX8_isHeard wsX8_no := goodIn_r _ [12, 13, 20, 21, 22, 23, 24, 25, 26, 27, 28, 29, 30, 31, 32, 33, 34, 35, 36, 37] (by decide +kernel) (by decide +kernel)
set_option maxRecDepth 20000 in
theorem gX8_isHeard_X8_no : GoodIn wsX8_isHeard (wsV RX8 64 RX8 yX8_no wsX8_no) := goodIn_app (goodIn_of _ (by decide +kernel)) ggX8_isHeard_X8_no
set_option maxRecDepth 20000 in
theorem ggX8_soundings_Jx4a65c_size_8abf5 : GoodIn wsX8_soundings wsJx4a65c_size_8abf5 := goodIn_r _ [6, 7, 26, 27, 28] (by decide +kernel) (by decide +kernel)
set_option maxRecDepth 20000 in
theorem gX8_soundings_Jx4a65c_size_8abf5_f54Jx4a65c : GoodIn wsX8_soundings (va_wsF RX8 54 RJx4a65c ⟨"java/util/List", "size", "()I"⟩ yJx4a65c_size_8abf5 wsJx4a65c_size_8abf5) := goodIn_app (goodIn_of _ (by decide +kernel)) ggX8_soundings_Jx4a65c_size_8abf5
set_option maxRecDepth 20000 in
theorem ggX8_sounding_J0_indexOf_0f7a4 : GoodIn wsX8_sounding wsJ0_indexOf_0f7a4 := goodIn_r _ [7, 8, 9, 10, 6, 11, 12, 13, 14, 15, 16, 17, 18, 19, 20, 21, 22, 23, 24, 25, 26, 27, 28, 29, 30, 31, 32, 33, 34, 35, 36, 37, 38, 39, 40, 41, 42, 43, 44, 45, 46, 47, 48, 49, 50, 51, 52, 53, 54, 55, 56, 57, 58, 59, 60, 61, 62, 63, 64, 65, 66, 67, 68, 69, 70, 71, 72, 73, 74, 75, 76, 77, 78, 79, 80, 81, 82, 83, 84, 85, 86, 87, 88, 89, 90, 91, 141, 142] (by decide +kernel) (by decide +kernel)
set_option maxRecDepth 20000 in
theorem gX8_sounding_J0_indexOf_0f7a4 : GoodIn wsX8_sounding (wsV RX8 127 RJ0 yJ0_indexOf_0f7a4 wsJ0_indexOf_0f7a4) := goodIn_app (goodIn_of _ (by decide +kernel)) ggX8_sounding_J0_indexOf_0f7a4
set_option maxRecDepth 20000 in
theorem ggX8_sounding_X8_no : GoodIn wsX8_sounding wsX8_no := goodIn_r _ [96, 97, 123, 124, 125, 126, 127, 128, 129, 130, 131, 132, 133, 134, 135, 136, 137, 138, 139, 140] (by decide +kernel) (by decide +kernel)
set_option maxRecDepth 20000 in
theorem gX8_sounding_X8_no : GoodIn wsX8_sounding (wsV RX8 64 RX8 yX8_no wsX8_no) := goodIn_app (goodIn_of _ (by decide +kernel)) ggX8_sounding_X8_no
set_option maxRecDepth 20000 in
theorem ggX8_sounding_Jx4a65c_size_8abf5 : GoodIn wsX8_sounding wsJx4a65c_size_8abf5 := goodIn_r _ [102, 103, 143, 144, 145] (by decide +kernel) (by decide +kernel)
set_option maxRecDepth 20000 in
theorem gX8_sounding_Jx4a65c_size_8abf5_f54Jx4a65c : GoodIn wsX8_sounding (va_wsF RX8 54 RJx4a65c ⟨"java/util/List", "size", "()I"⟩ yJx4a65c_size_8abf5 wsJx4a65c_size_8abf5) := goodIn_app (goodIn_of _ (by decide +kernel)) ggX8_sounding_Jx4a65c_size_8abf5
set_option maxRecDepth 20000 in
theorem ggX8_sounding_X8_isIn : GoodIn wsX8_sounding wsX8_isIn := goodIn_r _ [106] (by decide +kernel) (by decide +kernel)
set_option maxRecDepth 20000 in
theorem gX8_sounding_X8_isIn : GoodIn wsX8_sounding (va_wsS RX8 60 yX8_isIn wsX8_isIn) := goodIn_app (goodIn_of _ (by decide +kernel)) ggX8_sounding_X8_isIn
set_option maxRecDepth 20000 in
theorem ggX8_sounding_Jx4a65c_get_915e3 : GoodIn wsX8_sounding wsJx4a65c_get_915e3 := goodIn_r _ [110, 103, 111, 112, 113, 114, 115, 116, 66, 117, 118, 119, 120, 101, 121, 122, 143, 144, 145] (by decide +kernel) (by decide +kernel)
set_option maxRecDepth 20000 in
theorem gX8_sounding_Jx4a65c_get_915e3_f81Jx4a65c : GoodIn wsX8_sounding (va_wsF RX8 81 RJx4a65c ⟨"java/util/List", "get", "(I)Ljava/lang/Object;"⟩ yJx4a65c_get_915e3 wsJx4a65c_get_915e3) := goodIn_app (goodIn_of _ (by decide +kernel)) ggX8_sounding_Jx4a65c_get_915e3
set_option maxRecDepth 20000 in
theorem ggX8_loudest_Jx4a65c_size_8abf5 : GoodIn wsX8_loudest wsJx4a65c_size_8abf5 := goodIn_r _ [7, 8, 54, 55, 56] (by decide +kernel) (by decide +kernel)
set_option maxRecDepth 20000 in
theorem gX8_loudest_Jx4a65c_size_8abf5_f54Jx4a65c : GoodIn wsX8_loudest (va_wsF RX8 54 RJx4a65c ⟨"java/util/List", "size", "()I"⟩ yJx4a65c_size_8abf5 wsJx4a65c_size_8abf5) := goodIn_app (goodIn_of _ (by decide +kernel)) ggX8_loudest_Jx4a65c_size_8abf5
set_option maxRecDepth 20000 in
theorem ggX8_loudest_Jx4a65c_get_915e3 : GoodIn wsX8_loudest wsJx4a65c_get_915e3 := goodIn_r _ [12, 8, 13, 14, 15, 16, 17, 18, 19, 20, 21, 22, 23, 6, 24, 25, 54, 55, 56] (by decide +kernel) (by decide +kernel)
set_option maxRecDepth 20000 in
theorem gX8_loudest_Jx4a65c_get_915e3_f81Jx4a65c : GoodIn wsX8_loudest (va_wsF RX8 81 RJx4a65c ⟨"java/util/List", "get", "(I)Ljava/lang/Object;"⟩ yJx4a65c_get_915e3 wsJx4a65c_get_915e3) := goodIn_app (goodIn_of _ (by decide +kernel)) ggX8_loudest_Jx4a65c_get_915e3
set_option maxRecDepth 20000 in
theorem ggX8_loudest_Jx4a65c_isEmpty_aae02 : GoodIn wsX8_loudest wsJx4a65c_isEmpty_aae02 := goodIn_r _ [29, 8, 54, 55, 56] (by decide +kernel) (by decide +kernel)
set_option maxRecDepth 20000 in
theorem gX8_loudest_Jx4a65c_isEmpty_aae02_f224Jx4a65c : GoodIn wsX8_loudest (va_wsF RX8 224 RJx4a65c ⟨"java/util/List", "isEmpty", "()Z"⟩ yJx4a65c_isEmpty_aae02 wsJx4a65c_isEmpty_aae02) := goodIn_app (goodIn_of _ (by decide +kernel)) ggX8_loudest_Jx4a65c_isEmpty_aae02
set_option maxRecDepth 20000 in
theorem ggX8_loudest_X8_no : GoodIn wsX8_loudest wsX8_no := goodIn_r _ [34, 35, 36, 37, 38, 39, 40, 41, 42, 43, 44, 45, 46, 47, 48, 49, 50, 51, 52, 53] (by decide +kernel) (by decide +kernel)
set_option maxRecDepth 20000 in
theorem gX8_loudest_X8_no : GoodIn wsX8_loudest (wsV RX8 64 RX8 yX8_no wsX8_no) := goodIn_app (goodIn_of _ (by decide +kernel)) ggX8_loudest_X8_no
set_option maxRecDepth 20000 in
theorem ggX8_speed_X8_isIn : GoodIn wsX8_speed wsX8_isIn := goodIn_r _ [6] (by decide +kernel) (by decide +kernel)
set_option maxRecDepth 20000 in
theorem gX8_speed_X8_isIn : GoodIn wsX8_speed (va_wsS RX8 60 yX8_isIn wsX8_isIn) := goodIn_app (goodIn_of _ (by decide +kernel)) ggX8_speed_X8_isIn
set_option maxRecDepth 20000 in
theorem ggX8_speed_X8_no : GoodIn wsX8_speed wsX8_no := goodIn_r _ [10, 11, 12, 13, 14, 15, 16, 17, 18, 19, 20, 21, 22, 23, 24, 25, 26, 27, 28, 29] (by decide +kernel) (by decide +kernel)
set_option maxRecDepth 20000 in
theorem gX8_speed_X8_no : GoodIn wsX8_speed (wsV RX8 64 RX8 yX8_no wsX8_no) := goodIn_app (goodIn_of _ (by decide +kernel)) ggX8_speed_X8_no
set_option maxRecDepth 20000 in
theorem ggX8_time_X8_isIn : GoodIn wsX8_time wsX8_isIn := goodIn_r _ [11] (by decide +kernel) (by decide +kernel)
set_option maxRecDepth 20000 in
theorem gX8_time_X8_isIn : GoodIn wsX8_time (va_wsS RX8 60 yX8_isIn wsX8_isIn) := goodIn_app (goodIn_of _ (by decide +kernel)) ggX8_time_X8_isIn
set_option maxRecDepth 20000 in
theorem ggX8_time_X8_no : GoodIn wsX8_time wsX8_no := goodIn_r _ [15, 16, 17, 18, 19, 20, 21, 22, 23, 24, 25, 26, 27, 28, 29, 30, 31, 32, 33, 34] (by decide +kernel) (by decide +kernel)
set_option maxRecDepth 20000 in
theorem gX8_time_X8_no : GoodIn wsX8_time (wsV RX8 64 RX8 yX8_no wsX8_no) := goodIn_app (goodIn_of _ (by decide +kernel)) ggX8_time_X8_no
set_option maxRecDepth 20000 in
theorem ggX8_checksum_Jx4a65c_iterator_32c93 : GoodIn wsX8_checksum wsJx4a65c_iterator_32c93 := goodIn_r _ [11, 12, 13, 14, 15, 16, 17, 18, 19, 20, 21, 22, 23, 24, 25, 58, 59, 60, 61, 62, 63, 64] (by decide +kernel) (by decide +kernel)
set_option maxRecDepth 20000 in
theorem gX8_checksum_Jx4a65c_iterator_32c93_f104Jx4a65c : GoodIn wsX8_checksum (va_wsF RX8 104 RJx4a65c ⟨"java/util/List", "iterator", "()Ljava/util/Iterator;"⟩ yJx4a65c_iterator_32c93 wsJx4a65c_iterator_32c93) := goodIn_app (goodIn_of _ (by decide +kernel)) ggX8_checksum_Jx4a65c_iterator_32c93
set_option maxRecDepth 20000 in
theorem ggX8_checksum_Jx35411_hasNext_aae02 : GoodIn wsX8_checksum wsJx35411_hasNext_aae02 := goodIn_r _ [29, 30, 18, 58, 59, 60, 61, 62, 63, 64] (by decide +kernel) (by decide +kernel)
set_option maxRecDepth 20000 in
theorem gX8_checksum_Jx35411_hasNext_aae02_f108Jx35411 : GoodIn wsX8_checksum (va_wsF RX8 108 RJx35411 ⟨"java/util/Iterator", "hasNext", "()Z"⟩ yJx35411_hasNext_aae02 wsJx35411_hasNext_aae02) := goodIn_app (goodIn_of _ (by decide +kernel)) ggX8_checksum_Jx35411_hasNext_aae02
set_option maxRecDepth 20000 in
theorem ggX8_checksum_Jx35411_next_0502b : GoodIn wsX8_checksum wsJx35411_next_0502b := goodIn_r _ [34, 30, 18, 35, 22, 36, 37, 38, 14, 39, 23, 24, 25, 58, 59, 60, 61, 62, 63, 64] (by decide +kernel) (by decide +kernel)
set_option maxRecDepth 20000 in
theorem gX8_checksum_Jx35411_next_0502b_f114Jx35411 : GoodIn wsX8_checksum (va_wsF RX8 114 RJx35411 ⟨"java/util/Iterator", "next", "()Ljava/lang/Object;"⟩ yJx35411_next_0502b wsJx35411_next_0502b) := goodIn_app (goodIn_of _ (by decide +kernel)) ggX8_checksum_Jx35411_next_0502b
set_option maxRecDepth 20000 in
theorem ggX8_heardShare_X8_no : GoodIn wsX8_heardShare wsX8_no := goodIn_r _ [7, 8, 9, 10, 11, 12, 13, 14, 15, 16, 17, 18, 19, 20, 21, 22, 23, 24, 25, 26] (by decide +kernel) (by decide +kernel)
set_option maxRecDepth 20000 in
theorem gX8_heardShare_X8_no : GoodIn wsX8_heardShare (wsV RX8 64 RX8 yX8_no wsX8_no) := goodIn_app (goodIn_of _ (by decide +kernel)) ggX8_heardShare_X8_no
set_option maxRecDepth 20000 in
theorem ggX8_meanLoud_Jx4a65c_iterator_32c93 : GoodIn wsX8_meanLoud wsJx4a65c_iterator_32c93 := goodIn_r _ [7, 8, 9, 10, 11, 12, 13, 14, 15, 16, 17, 18, 19, 20, 21, 69, 70, 71, 72, 73, 74, 75] (by decide +kernel) (by decide +kernel)
set_option maxRecDepth 20000 in
theorem gX8_meanLoud_Jx4a65c_iterator_32c93_f104Jx4a65c : GoodIn wsX8_meanLoud (va_wsF RX8 104 RJx4a65c ⟨"java/util/List", "iterator", "()Ljava/util/Iterator;"⟩ yJx4a65c_iterator_32c93 wsJx4a65c_iterator_32c93) := goodIn_app (goodIn_of _ (by decide +kernel)) ggX8_meanLoud_Jx4a65c_iterator_32c93
set_option maxRecDepth 20000 in
theorem ggX8_meanLoud_Jx35411_hasNext_aae02 : GoodIn wsX8_meanLoud wsJx35411_hasNext_aae02 := goodIn_r _ [25, 26, 14, 69, 70, 71, 72, 73, 74, 75] (by decide +kernel) (by decide +kernel)
set_option maxRecDepth 20000 in
theorem gX8_meanLoud_Jx35411_hasNext_aae02_f108Jx35411 : GoodIn wsX8_meanLoud (va_wsF RX8 108 RJx35411 ⟨"java/util/Iterator", "hasNext", "()Z"⟩ yJx35411_hasNext_aae02 wsJx35411_hasNext_aae02) := goodIn_app (goodIn_of _ (by decide +kernel)) ggX8_meanLoud_Jx35411_hasNext_aae02
set_option maxRecDepth 20000 in
theorem ggX8_meanLoud_Jx35411_next_0502b : GoodIn wsX8_meanLoud wsJx35411_next_0502b := goodIn_r _ [30, 26, 14, 31, 18, 32, 33, 34, 10, 35, 19, 20, 21, 69, 70, 71, 72, 73, 74, 75] (by decide +kernel) (by decide +kernel)
set_option maxRecDepth 20000 in
theorem gX8_meanLoud_Jx35411_next_0502b_f114Jx35411 : GoodIn wsX8_meanLoud (va_wsF RX8 114 RJx35411 ⟨"java/util/Iterator", "next", "()Ljava/lang/Object;"⟩ yJx35411_next_0502b wsJx35411_next_0502b) := goodIn_app (goodIn_of _ (by decide +kernel)) ggX8_meanLoud_Jx35411_next_0502b
set_option maxRecDepth 20000 in
theorem ggX8_meanLoud_Jx4a65c_isEmpty_aae02 : GoodIn wsX8_meanLoud wsJx4a65c_isEmpty_aae02 := goodIn_r _ [39, 40, 73, 74, 75] (by decide +kernel) (by decide +kernel)
set_option maxRecDepth 20000 in
theorem gX8_meanLoud_Jx4a65c_isEmpty_aae02_f224Jx4a65c : GoodIn wsX8_meanLoud (va_wsF RX8 224 RJx4a65c ⟨"java/util/List", "isEmpty", "()Z"⟩ yJx4a65c_isEmpty_aae02 wsJx4a65c_isEmpty_aae02) := goodIn_app (goodIn_of _ (by decide +kernel)) ggX8_meanLoud_Jx4a65c_isEmpty_aae02
set_option maxRecDepth 20000 in
theorem ggX8_meanLoud_X8_no : GoodIn wsX8_meanLoud wsX8_no := goodIn_r _ [45, 46, 51, 52, 53, 54, 55, 56, 57, 58, 59, 60, 61, 62, 63, 64, 65, 66, 67, 68] (by decide +kernel) (by decide +kernel)
set_option maxRecDepth 20000 in
theorem gX8_meanLoud_X8_no : GoodIn wsX8_meanLoud (wsV RX8 64 RX8 yX8_no wsX8_no) := goodIn_app (goodIn_of _ (by decide +kernel)) ggX8_meanLoud_X8_no
set_option maxRecDepth 20000 in
theorem ggX8_meanLoud_Jx4a65c_size_8abf5 : GoodIn wsX8_meanLoud wsJx4a65c_size_8abf5 := goodIn_r _ [50, 40, 73, 74, 75] (by decide +kernel) (by decide +kernel)
set_option maxRecDepth 20000 in
theorem gX8_meanLoud_Jx4a65c_size_8abf5_f54Jx4a65c : GoodIn wsX8_meanLoud (va_wsF RX8 54 RJx4a65c ⟨"java/util/List", "size", "()I"⟩ yJx4a65c_size_8abf5 wsJx4a65c_size_8abf5) := goodIn_app (goodIn_of _ (by decide +kernel)) ggX8_meanLoud_Jx4a65c_size_8abf5
