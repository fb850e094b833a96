set_option maxRecDepth 20000 in
theorem ggX4_hasRoomFor_X4_heightOver : GoodIn wsX4_hasRoomFor wsX4_heightOver := goodIn_r _ [7, 8, 9, 10, 11, 12, 18, 19, 20, 21, 22, 23, 24, 25] (by decide +kernel) (by decide +kernel)
set_option maxRecDepth 20000 in
theorem gX4_hasRoomFor_X4_heightOver : GoodIn wsX4_hasRoomFor (wsV RX4 44 RX4 yX4_heightOver wsX4_heightOver) := goodIn_app (goodIn_of _ (by decide +kernel)) ggX4_hasRoomFor_X4_heightOver
set_option maxRecDepth 20000 in
theorem ggX4_hasRoomFor_X4_sizeOver : GoodIn wsX4_hasRoomFor wsX4_sizeOver := goodIn_r _ [16, 17, 18, 19, 20, 21, 22, 23, 24, 25] (by decide +kernel) (by decide +kernel)
set_option maxRecDepth 20000 in
theorem gX4_hasRoomFor_X4_sizeOver : GoodIn wsX4_hasRoomFor (wsV RX4 48 RX4 yX4_sizeOver wsX4_sizeOver) := goodIn_app (goodIn_of _ (by decide +kernel)) ggX4_hasRoomFor_X4_sizeOver
set_option maxRecDepth 20000 in
theorem ggX4_add_X4_heightOver : GoodIn wsX4_add wsX4_heightOver := goodIn_r _ [14, 7, 15, 16, 17, 18, 28, 29, 30, 31, 32, 33, 34, 35] (by decide +kernel) (by decide +kernel)
set_option maxRecDepth 20000 in
theorem gX4_add_X4_heightOver : GoodIn wsX4_add (wsV RX4 44 RX4 yX4_heightOver wsX4_heightOver) := goodIn_app (goodIn_of _ (by decide +kernel)) ggX4_add_X4_heightOver
set_option maxRecDepth 20000 in
theorem ggX4_add_X4_sizeOver : GoodIn wsX4_add wsX4_sizeOver := goodIn_r _ [22, 8, 28, 29, 30, 31, 32, 33, 34, 35] (by decide +kernel) (by decide +kernel)
set_option maxRecDepth 20000 in
theorem gX4_add_X4_sizeOver : GoodIn wsX4_add (wsV RX4 48 RX4 yX4_sizeOver wsX4_sizeOver) := goodIn_app (goodIn_of _ (by decide +kernel)) ggX4_add_X4_sizeOver
set_option maxRecDepth 20000 in
theorem ggX4_add_X4_neededOver : GoodIn wsX4_add wsX4_neededOver := goodIn_r _ [26, 27, 1, 9, 15, 16, 17, 18, 28, 29, 30, 31, 32, 33, 34, 35] (by decide +kernel) (by decide +kernel)
set_option maxRecDepth 20000 in
theorem gX4_add_X4_neededOver : GoodIn wsX4_add (wsV RX4 51 RX4 yX4_neededOver wsX4_neededOver) := goodIn_app (goodIn_of _ (by decide +kernel)) ggX4_add_X4_neededOver
set_option maxRecDepth 20000 in
theorem ggX5_clear_X5_addNode : GoodIn wsX5_clear wsX5_addNode := goodIn_r _ [6, 7, 1, 8, 9, 10, 11, 12, 13, 14, 15, 16, 17, 18, 19] (by decide +kernel) (by decide +kernel)
set_option maxRecDepth 20000 in
theorem gX5_clear_X5_addNode : GoodIn wsX5_clear (wsV RX5 39 RX5 yX5_addNode wsX5_addNode) := goodIn_app (goodIn_of _ (by decide +kernel)) ggX5_clear_X5_addNode
set_option maxRecDepth 20000 in
theorem ggX5_letter_X5_addNode : GoodIn wsX5_letter wsX5_addNode := goodIn_r _ [5, 6, 7, 8, 9, 10, 11, 12, 13, 14, 15, 16, 17, 18, 19] (by decide +kernel) (by decide +kernel)
set_option maxRecDepth 20000 in
theorem gX5_letter_X5_addNode : GoodIn wsX5_letter (wsV RX5 39 RX5 yX5_addNode wsX5_addNode) := goodIn_app (goodIn_of _ (by decide +kernel)) ggX5_letter_X5_addNode
set_option maxRecDepth 20000 in
theorem ggX5_function_X5_addNode : GoodIn wsX5_function wsX5_addNode := goodIn_r _ [6, 7, 8, 9, 10, 11, 12, 13, 14, 15, 16, 17, 18, 19, 20] (by decide +kernel) (by decide +kernel)
set_option maxRecDepth 20000 in
theorem gX5_function_X5_addNode : GoodIn wsX5_function (wsV RX5 39 RX5 yX5_addNode wsX5_addNode) := goodIn_app (goodIn_of _ (by decide +kernel)) ggX5_function_X5_addNode
set_option maxRecDepth 20000 in
theorem ggX5_chosenPart_X5_chosen : GoodIn wsX5_chosenPart wsX5_chosen := goodIn_r _ [6, 7, 8, 9, 10, 11, 12, 13, 14, 15, 16, 17] (by decide +kernel) (by decide +kernel)
set_option maxRecDepth 20000 in
theorem gX5_chosenPart_X5_chosen : GoodIn wsX5_chosenPart (wsV RX5 43 RX5 yX5_chosen wsX5_chosen) := goodIn_app (goodIn_of _ (by decide +kernel)) ggX5_chosenPart_X5_chosen
set_option maxRecDepth 20000 in
theorem ggX5_makeSame_X5_addPair : GoodIn wsX5_makeSame wsX5_addPair := goodIn_r _ [7, 2, 1, 20, 21, 22, 23, 24, 25, 26, 27, 28] (by decide +kernel) (by decide +kernel)
set_option maxRecDepth 20000 in
theorem gX5_makeSame_X5_addPair : GoodIn wsX5_makeSame (wsV RX5 49 RX5 yX5_addPair wsX5_addPair) := goodIn_app (goodIn_of _ (by decide +kernel)) ggX5_makeSame_X5_addPair
set_option maxRecDepth 20000 in
theorem ggX5_makeSame_X5_chosen : GoodIn wsX5_makeSame wsX5_chosen := goodIn_r _ [11, 12, 13, 20, 21, 22, 23, 24, 25, 26, 27, 28] (by decide +kernel) (by decide +kernel)
set_option maxRecDepth 20000 in
theorem gX5_makeSame_X5_chosen : GoodIn wsX5_makeSame (wsV RX5 43 RX5 yX5_chosen wsX5_chosen) := goodIn_app (goodIn_of _ (by decide +kernel)) ggX5_makeSame_X5_chosen
set_option maxRecDepth 20000 in
theorem ggX5_makeSame_X5_join : GoodIn wsX5_makeSame wsX5_join := goodIn_r _ [17, 18, 13, 19, 3, 4, 5, 6, 7, 2, 1, 20, 21, 22, 23, 24, 25, 26, 27, 28] (by decide +kernel) (by decide +kernel)
set_option maxRecDepth 20000 in
theorem gX5_makeSame_X5_join : GoodIn wsX5_makeSame (wsV RX5 53 RX5 yX5_join wsX5_join) := goodIn_app (goodIn_of _ (by decide +kernel)) ggX5_makeSame_X5_join
set_option maxRecDepth 20000 in
theorem ggX5_noneContainsItself_X5_chosen : GoodIn wsX5_noneContainsItself wsX5_chosen := goodIn_r _ [8, 1, 9, 21, 22, 23, 24, 25, 26, 27, 28, 29] (by decide +kernel) (by decide +kernel)
set_option maxRecDepth 20000 in
theorem gX5_noneContainsItself_X5_chosen : GoodIn wsX5_noneContainsItself (wsV RX5 43 RX5 yX5_chosen wsX5_chosen) := goodIn_app (goodIn_of _ (by decide +kernel)) ggX5_noneContainsItself_X5_chosen
set_option maxRecDepth 20000 in
theorem ggX5_noneContainsItself_X5_endsEverywhere : GoodIn wsX5_noneContainsItself wsX5_endsEverywhere := goodIn_r _ [13, 14, 3, 15, 2, 16, 17, 18, 7, 19, 20, 4, 5, 6, 8, 1, 9, 21, 22, 23, 24, 25, 26, 27, 28, 29] (by decide +kernel) (by decide +kernel)
set_option maxRecDepth 20000 in
theorem gX5_noneContainsItself_X5_endsEverywhere : GoodIn wsX5_noneContainsItself (wsV RX5 57 RX5 yX5_endsEverywhere wsX5_endsEverywhere) := goodIn_app (goodIn_of _ (by decide +kernel)) ggX5_noneContainsItself_X5_endsEverywhere
set_option maxRecDepth 20000 in
theorem ggX5_join_X5_addPair : GoodIn wsX5_join wsX5_addPair := goodIn_r _ [8, 9, 10, 11, 12, 13, 14, 15, 16, 17, 18, 19] (by decide +kernel) (by decide +kernel)
set_option maxRecDepth 20000 in
theorem gX5_join_X5_addPair : GoodIn wsX5_join (wsV RX5 49 RX5 yX5_addPair wsX5_addPair) := goodIn_app (goodIn_of _ (by decide +kernel)) ggX5_join_X5_addPair
set_option maxRecDepth 20000 in
theorem ggX5_endsEverywhere_X5_chosenPart : GoodIn wsX5_endsEverywhere wsX5_chosenPart := goodIn_r _ [9, 10, 11, 12, 13, 8, 14, 15, 16, 17, 18, 19, 20, 21, 22, 23, 24, 25] (by decide +kernel) (by decide +kernel)
set_option maxRecDepth 20000 in
theorem gX5_endsEverywhere_X5_chosenPart : GoodIn wsX5_endsEverywhere (wsV RX5 61 RX5 yX5_chosenPart wsX5_chosenPart) := goodIn_app (goodIn_of _ (by decide +kernel)) ggX5_endsEverywhere_X5_chosenPart
set_option maxRecDepth 20000 in
theorem ggX9_init_X4_init : GoodIn wsX9_init wsX4_init := goodIn_r _ [21, 22, 2, 3, 23, 24, 25, 26, 27, 28, 29, 30, 95, 96, 97, 98, 99, 100, 101, 102] (by decide +kernel) (by decide +kernel)
set_option maxRecDepth 20000 in
theorem gX9_init_X4_init_n9 : GoodIn wsX9_init (wsX4_init) := ggX9_init_X4_init
set_option maxRecDepth 20000 in
theorem ggX9_init_X2_init : GoodIn wsX9_init wsX2_init := goodIn_r _ [33, 34, 2, 3, 35, 36, 37, 38, 39, 40, 41, 42, 43, 44, 45, 46, 23, 47, 48, 49, 50, 51, 52, 53, 54, 55, 56, 57, 58, 59, 60, 61, 62, 63, 64, 65, 66, 138, 139, 140, 141, 115, 116, 117, 118, 119, 120, 121, 122, 123, 124, 125, 126, 127, 142, 143, 144, 145, 146, 147, 148, 149] (by decide +kernel) (by decide +kernel)
set_option maxRecDepth 20000 in
theorem gX9_init_X2_init : GoodIn wsX9_init (wsX2_init) := ggX9_init_X2_init
set_option maxRecDepth 20000 in
theorem ggX9_init_X6_init : GoodIn wsX9_init wsX6_init := goodIn_r _ [69, 70, 2, 3, 71, 72, 73, 74, 23, 75, 76, 77, 78, 79, 80, 81, 82, 83, 84, 85, 86, 87, 150, 151, 152, 153, 154, 155, 156, 157, 158, 128, 129, 130, 131, 132] (by decide +kernel) (by decide +kernel)
set_option maxRecDepth 20000 in
theorem gX9_init_X6_init : GoodIn wsX9_init (wsX6_init) := ggX9_init_X6_init
set_option maxRecDepth 20000 in
theorem ggX9_init_X1_init : GoodIn wsX9_init wsX1_init := goodIn_r _ [89, 90, 2, 3, 23, 91, 92, 93, 94, 133, 134, 135, 136, 137] (by decide +kernel) (by decide +kernel)
set_option maxRecDepth 20000 in
theorem gX9_init_X1_init_n34 : GoodIn wsX9_init (wsX1_init) := ggX9_init_X1_init
set_option maxRecDepth 20000 in
theorem ggX9_make_X4_wordsFit : GoodIn wsX9_make wsX4_wordsFit := goodIn_r _ [10, 11, 12, 13, 14, 9, 15, 16, 61, 62, 63, 64, 65, 66, 67, 68] (by decide +kernel) (by decide +kernel)
set_option maxRecDepth 20000 in
theorem gX9_make_X4_wordsFit : GoodIn wsX9_make (wsV RX9 39 RX4 yX4_wordsFit wsX4_wordsFit) := goodIn_app (goodIn_of _ (by decide +kernel)) ggX9_make_X4_wordsFit
set_option maxRecDepth 20000 in
theorem ggX9_make_X4_hasRoomFor : GoodIn wsX9_make wsX4_hasRoomFor := goodIn_r _ [20, 11, 16, 21, 22, 23, 9, 24, 25, 26, 27, 28, 29, 30, 31, 32, 33, 34, 61, 62, 63, 64, 65, 66, 67, 68] (by decide +kernel) (by decide +kernel)
set_option maxRecDepth 20000 in
theorem gX9_make_X4_hasRoomFor : GoodIn wsX9_make (wsV RX9 46 RX4 yX4_hasRoomFor wsX4_hasRoomFor) := goodIn_app (goodIn_of _ (by decide +kernel)) ggX9_make_X4_hasRoomFor
set_option maxRecDepth 20000 in
theorem ggX9_make_X4_add : GoodIn wsX9_make wsX4_add := goodIn_r _ [38, 11, 16, 39, 40, 41, 42, 25, 34, 43, 21, 22, 23, 9, 24, 26, 27, 28, 29, 30, 31, 32, 33, 44, 45, 46, 47, 48, 61, 62, 63, 64, 65, 66, 67, 68] (by decide +kernel) (by decide +kernel)
set_option maxRecDepth 20000 in
theorem gX9_make_X4_add : GoodIn wsX9_make (wsV RX9 52 RX4 yX4_add wsX4_add) := goodIn_app (goodIn_of _ (by decide +kernel)) ggX9_make_X4_add
set_option maxRecDepth 20000 in
theorem ggX9_open_X4_has : GoodIn wsX9_open wsX4_has := goodIn_r _ [9, 10, 23, 24, 25, 26, 27, 28, 29, 30] (by decide +kernel) (by decide +kernel)
set_option maxRecDepth 20000 in
theorem gX9_open_X4_has : GoodIn wsX9_open (wsV RX9 56 RX4 yX4_has wsX4_has) := goodIn_app (goodIn_of _ (by decide +kernel)) ggX9_open_X4_has
set_option maxRecDepth 20000 in
theorem ggX9_work_X4_hasClosed : GoodIn wsX9_work wsX4_hasClosed := goodIn_r _ [17, 18, 19, 20, 21, 16, 22, 23, 167, 168, 169, 170, 171, 172, 173, 174] (by decide +kernel) (by decide +kernel)
set_option maxRecDepth 20000 in
theorem gX9_work_X4_hasClosed : GoodIn wsX9_work (wsV RX9 67 RX4 yX4_hasClosed wsX4_hasClosed) := goodIn_app (goodIn_of _ (by decide +kernel)) ggX9_work_X4_hasClosed
set_option maxRecDepth 20000 in
theorem ggX9_work_X2_workOut : GoodIn wsX9_work wsX2_workOut := goodIn_r _ [28, 29, 30, 31, 32, 33, 34, 35, 36, 37, 38, 39, 40, 41, 42, 43, 44, 45, 46, 47, 48, 49, 50, 51, 52, 53, 54, 55, 56, 57, 27, 58, 59, 60, 61, 62, 63, 64, 65, 66, 67, 68, 69, 70, 71, 72, 73, 74, 75, 76, 77, 78, 79, 80, 81, 82, 83, 84, 85, 86, 87, 88, 89, 90, 91, 92, 93, 94, 95, 96, 97, 98, 99, 100, 101, 102, 103, 104, 105, 106, 107, 108, 109, 110, 111, 112, 113, 114, 115, 116, 117, 118, 119, 120, 121, 122, 123, 124, 125, 126, 127, 128, 129, 130, 131, 175, 176, 177, 178, 179, 180, 181, 182, 183, 184, 185, 186, 187, 188, 189, 190, 191, 192, 193, 194, 195, 196, 197, 198, 199, 167, 168, 169, 170, 171, 172, 173, 174] (by decide +kernel) (by decide +kernel)
set_option maxRecDepth 20000 in
theorem gX9_work_X2_workOut : GoodIn wsX9_work (wsV RX9 73 RX2 yX2_workOut wsX2_workOut) := goodIn_app (goodIn_of _ (by decide +kernel)) ggX9_work_X2_workOut
set_option maxRecDepth 20000 in
theorem ggX9_work_X9_keepValue : GoodIn wsX9_work wsX9_keepValue := goodIn_r _ [136, 10, 137, 138, 139, 140, 141, 142, 143, 144, 27, 145, 29, 121, 61, 146, 147, 148, 149, 120, 150, 151, 152, 153, 154, 155, 156, 157, 158, 159, 160, 161, 162, 163, 164, 165, 166, 175, 176, 177, 178, 179, 180, 181, 182, 183, 184, 185, 186, 187, 188, 189, 190, 191] (by decide +kernel) (by decide +kernel)
set_option maxRecDepth 20000 in
theorem gX9_work_X9_keepValue : GoodIn wsX9_work (wsV RX9 84 RX9 yX9_keepValue wsX9_keepValue) := goodIn_app (goodIn_of _ (by decide +kernel)) ggX9_work_X9_keepValue
set_option maxRecDepth 20000 in
theorem ggX9_type_X4_hasClosed : GoodIn wsX9_type wsX4_hasClosed := goodIn_r _ [15, 16, 17, 18, 19, 14, 20, 21, 172, 173, 174, 175, 176, 177, 178, 179] (by decide +kernel) (by decide +kernel)
set_option maxRecDepth 20000 in
theorem gX9_type_X4_hasClosed : GoodIn wsX9_type (wsV RX9 67 RX4 yX4_hasClosed wsX4_hasClosed) := goodIn_app (goodIn_of _ (by decide +kernel)) ggX9_type_X4_hasClosed
set_option maxRecDepth 20000 in
theorem ggX9_type_X6_typeOfWhole : GoodIn wsX9_type wsX6_typeOfWhole := goodIn_r _ [26, 27, 28, 29, 30, 31, 32, 33, 34, 35, 36, 37, 38, 39, 40, 41, 42, 43, 44, 45, 46, 47, 48, 49, 25, 50, 51, 52, 53, 54, 55, 56, 57, 58, 59, 60, 61, 62, 63, 64, 65, 66, 67, 68, 69, 70, 71, 72, 73, 74, 75, 76, 77, 78, 79, 80, 81, 82, 83, 84, 85, 86, 87, 88, 89, 90, 91, 92, 93, 94, 95, 96, 97, 98, 99, 100, 101, 102, 103, 104, 105, 106, 107, 108, 109, 110, 111, 112, 113, 114, 115, 116, 117, 118, 119, 120, 121, 122, 123, 124, 125, 126, 127, 128, 129, 167, 168, 169, 170, 171, 180, 181, 182, 183, 184, 185, 186, 187, 188, 172, 173, 174, 175, 176, 177, 178, 179] (by decide +kernel) (by decide +kernel)
set_option maxRecDepth 20000 in
theorem gX9_type_X6_typeOfWhole : GoodIn wsX9_type (wsV RX9 94 RX6 yX6_typeOfWhole wsX6_typeOfWhole) := goodIn_app (goodIn_of _ (by decide +kernel)) ggX9_type_X6_typeOfWhole
set_option maxRecDepth 20000 in
theorem ggX9_type_X1_keep : GoodIn wsX9_type wsX1_keep := goodIn_r _ [134, 135, 136, 137, 138, 139, 65, 66, 32, 67, 34, 40, 140, 141, 142, 143, 144, 145, 146, 133, 147, 148, 149, 150, 127, 128, 129, 72, 64, 189, 190, 191, 192, 193, 180, 181, 182, 183, 184, 185, 186, 187, 188] (by decide +kernel) (by decide +kernel)
set_option maxRecDepth 20000 in
theorem gX9_type_X1_keep : GoodIn wsX9_type (wsV RX9 108 RX1 yX1_keep wsX1_keep) := goodIn_app (goodIn_of _ (by decide +kernel)) ggX9_type_X1_keep
set_option maxRecDepth 20000 in
theorem ggX9_type_X1_at : GoodIn wsX9_type wsX1_at := goodIn_r _ [154, 135, 137, 149, 189, 190, 191, 192, 193] (by decide +kernel) (by decide +kernel)
set_option maxRecDepth 20000 in
theorem gX9_type_X1_at : GoodIn wsX9_type (wsV RX9 112 RX1 yX1_at wsX1_at) := goodIn_app (goodIn_of _ (by decide +kernel)) ggX9_type_X1_at
set_option maxRecDepth 20000 in
theorem ggX9_part_X1_at : GoodIn wsX9_part wsX1_at := goodIn_r _ [6, 7, 8, 9, 22, 23, 24, 25, 26] (by decide +kernel) (by decide +kernel)
set_option maxRecDepth 20000 in
theorem gX9_part_X1_at : GoodIn wsX9_part (wsV RX9 112 RX1 yX1_at wsX1_at) := goodIn_app (goodIn_of _ (by decide +kernel)) ggX9_part_X1_at
set_option maxRecDepth 20000 in
theorem ggX9_keepValue_X2_plainResult : GoodIn wsX9_keepValue wsX2_plainResult := goodIn_r _ [11, 12, 13, 14, 15, 16, 17, 10, 18, 19, 20, 21, 22, 23, 37, 38, 39, 40, 41, 42, 43, 44, 45, 46, 47, 48, 49, 50, 51, 52, 53] (by decide +kernel) (by decide +kernel)
set_option maxRecDepth 20000 in
theorem gX9_keepValue_X2_plainResult : GoodIn wsX9_keepValue (wsV RX9 125 RX2 yX2_plainResult wsX2_plainResult) := goodIn_app (goodIn_of _ (by decide +kernel)) ggX9_keepValue_X2_plainResult
set_option maxRecDepth 20000 in
theorem ggX9_keepValue_X2_resultForm : GoodIn wsX9_keepValue wsX2_resultForm := goodIn_r _ [18, 12, 19, 14, 20, 21, 22, 23, 37, 38, 39, 40, 41, 42, 43, 44, 45, 46, 47, 48, 49, 50, 51, 52, 53] (by decide +kernel) (by decide +kernel)
set_option maxRecDepth 20000 in
theorem gX9_keepValue_X2_resultForm : GoodIn wsX9_keepValue (wsV RX9 131 RX2 yX2_resultForm wsX2_resultForm) := goodIn_app (goodIn_of _ (by decide +kernel)) ggX9_keepValue_X2_resultForm
