set_option maxRecDepth 20000 in
theorem ggX6_init_X5_init : GoodIn wsX6_init wsX5_init := goodIn_r _ [13, 14, 2, 3, 8, 15, 16, 17, 18, 19, 20, 21, 22, 23, 24, 25, 26, 27, 28, 29, 30] (by decide +kernel) (by decide +kernel)
set_option maxRecDepth 20000 in
theorem gX6_init_X5_init_n13 : GoodIn wsX6_init (wsX5_init) := ggX6_init_X5_init
set_option maxRecDepth 20000 in
theorem ggX6_typeOfWhole_X5_clear : GoodIn wsX6_typeOfWhole wsX5_clear := goodIn_r _ [7, 8, 9, 10, 11, 6, 12, 13, 14, 15, 16, 110, 111, 112, 113, 114, 115, 116, 117, 118] (by decide +kernel) (by decide +kernel)
set_option maxRecDepth 20000 in
theorem gX6_typeOfWhole_X5_clear : GoodIn wsX6_typeOfWhole (wsV RX6 31 RX5 yX5_clear wsX5_clear) := goodIn_app (goodIn_of _ (by decide +kernel)) ggX6_typeOfWhole_X5_clear
set_option maxRecDepth 20000 in
theorem ggX6_typeOfWhole_X5_letter : GoodIn wsX6_typeOfWhole wsX5_letter := goodIn_r _ [20, 9, 10, 11, 6, 12, 13, 8, 14, 15, 16, 110, 111, 112, 113, 114, 115, 116, 117, 118] (by decide +kernel) (by decide +kernel)
set_option maxRecDepth 20000 in
theorem gX6_typeOfWhole_X5_letter : GoodIn wsX6_typeOfWhole (wsV RX6 38 RX5 yX5_letter wsX5_letter) := goodIn_app (goodIn_of _ (by decide +kernel)) ggX6_typeOfWhole_X5_letter
set_option maxRecDepth 20000 in
theorem ggX6_typeOfWhole_X6_holds : GoodIn wsX6_typeOfWhole wsX6_holds := goodIn_r _ [25, 26, 27, 28, 1, 29, 30, 31, 6, 32, 33, 34, 35, 36, 37, 38, 39, 40, 41, 42, 8, 14, 43, 44, 45, 46, 13, 47, 48, 49, 50, 24, 51, 2, 52, 53, 17, 18, 19, 20, 9, 10, 11, 12, 15, 16, 54, 55, 56, 57, 58, 59, 60, 61, 62, 63, 64, 65, 66, 67, 68, 69, 70, 71, 72, 73, 74, 75, 76, 77, 78, 79, 80, 21, 22, 23, 81, 82, 83, 84, 85, 86, 87, 88, 89, 90, 91, 105, 106, 107, 108, 109, 119, 120, 121, 122, 123, 124, 125, 126, 110, 111, 112, 113, 114, 115, 116, 117, 118] (by decide +kernel) (by decide +kernel)
set_option maxRecDepth 20000 in
theorem gX6_typeOfWhole_X6_holds : GoodIn wsX6_typeOfWhole (wsV RX6 42 RX6 yX6_holds wsX6_holds) := goodIn_app (goodIn_of _ (by decide +kernel)) ggX6_typeOfWhole_X6_holds
set_option maxRecDepth 20000 in
theorem ggX6_typeOfWhole_X5_noneContainsItself : GoodIn wsX6_typeOfWhole wsX5_noneContainsItself := goodIn_r _ [95, 8, 13, 15, 39, 40, 41, 6, 42, 14, 96, 97, 98, 99, 100, 16, 101, 102, 103, 104, 47, 110, 111, 112, 113, 114, 115, 116, 117, 118] (by decide +kernel) (by decide +kernel)
set_option maxRecDepth 20000 in
theorem gX6_typeOfWhole_X5_noneContainsItself : GoodIn wsX6_typeOfWhole (wsV RX6 46 RX5 yX5_noneContainsItself wsX5_noneContainsItself) := goodIn_app (goodIn_of _ (by decide +kernel)) ggX6_typeOfWhole_X5_noneContainsItself
set_option maxRecDepth 20000 in
theorem ggX6_holds_X5_makeSame : GoodIn wsX6_holds wsX5_makeSame := goodIn_r _ [9, 10, 11, 12, 13, 14, 8, 15, 16, 17, 18, 19, 20, 21, 22, 23, 24, 25, 26, 27, 100, 101, 102, 103, 104, 105, 106, 107, 108] (by decide +kernel) (by decide +kernel)
set_option maxRecDepth 20000 in
theorem gX6_holds_X5_makeSame : GoodIn wsX6_holds (wsV RX6 56 RX5 yX5_makeSame wsX5_makeSame) := goodIn_app (goodIn_of _ (by decide +kernel)) ggX6_holds_X5_makeSame
set_option maxRecDepth 20000 in
theorem ggX6_holds_X6_typeOfVariable : GoodIn wsX6_holds wsX6_typeOfVariable := goodIn_r _ [32, 33, 4, 34, 35, 36, 37, 38, 8, 39, 40, 41, 42, 43, 26, 20, 21, 44, 45, 46, 47, 48, 49, 27, 87, 88, 89, 90, 91, 100, 101, 102, 103, 104, 105, 106, 107, 108] (by decide +kernel) (by decide +kernel)
set_option maxRecDepth 20000 in
theorem gX6_holds_X6_typeOfVariable : GoodIn wsX6_holds (wsV RX6 60 RX6 yX6_typeOfVariable wsX6_typeOfVariable) := goodIn_app (goodIn_of _ (by decide +kernel)) ggX6_holds_X6_typeOfVariable
set_option maxRecDepth 20000 in
theorem ggX6_holds_X6_functionHolds : GoodIn wsX6_holds wsX6_functionHolds := goodIn_r _ [76, 4, 33, 1, 3, 2, 36, 37, 38, 8, 39, 40, 41, 42, 43, 26, 20, 21, 44, 45, 46, 47, 48, 49, 27, 77, 78, 79, 31, 80, 35, 34, 73, 74, 75, 5, 6, 7, 9, 10, 11, 12, 13, 14, 15, 16, 17, 18, 19, 22, 23, 24, 25, 71, 72, 0, 28, 29, 30, 32, 50, 51, 52, 53, 54, 55, 56, 57, 58, 59, 60, 61, 62, 63, 64, 65, 66, 67, 68, 69, 70, 81, 82, 83, 84, 85, 86, 87, 88, 89, 90, 91, 92, 93, 94, 95, 96, 97, 98, 99, 100, 101, 102, 103, 104, 105, 106, 107, 108] (by decide +kernel) (by decide +kernel)
set_option maxRecDepth 20000 in
theorem gX6_holds_X6_functionHolds : GoodIn wsX6_holds (wsV RX6 64 RX6 yX6_functionHolds wsX6_functionHolds) := goodIn_app (goodIn_of _ (by decide +kernel)) ggX6_holds_X6_functionHolds
set_option maxRecDepth 20000 in
theorem ggX6_holds_X6_callHolds : GoodIn wsX6_holds wsX6_callHolds := goodIn_r _ [71, 4, 1, 2, 72, 36, 37, 38, 8, 39, 40, 41, 42, 43, 26, 20, 21, 44, 45, 46, 47, 48, 49, 27, 73, 74, 75, 31, 76, 33, 3, 77, 78, 79, 80, 35, 34, 5, 6, 7, 9, 10, 11, 12, 13, 14, 15, 16, 17, 18, 19, 22, 23, 24, 25, 0, 28, 29, 30, 32, 50, 51, 52, 53, 54, 55, 56, 57, 58, 59, 60, 61, 62, 63, 64, 65, 66, 67, 68, 69, 70, 81, 82, 83, 84, 85, 86, 87, 88, 89, 90, 91, 92, 93, 94, 95, 96, 97, 98, 99, 100, 101, 102, 103, 104, 105, 106, 107, 108] (by decide +kernel) (by decide +kernel)
set_option maxRecDepth 20000 in
theorem gX6_holds_X6_callHolds : GoodIn wsX6_holds (wsV RX6 68 RX6 yX6_callHolds wsX6_callHolds) := goodIn_app (goodIn_of _ (by decide +kernel)) ggX6_holds_X6_callHolds
set_option maxRecDepth 20000 in
theorem ggX6_holds_X6_numbersHold : GoodIn wsX6_holds wsX6_numbersHold := goodIn_r _ [84, 4, 1, 2, 72, 36, 37, 38, 8, 39, 40, 41, 42, 43, 26, 20, 21, 44, 45, 73, 74, 75, 31, 71, 46, 47, 48, 49, 27, 76, 33, 3, 77, 78, 79, 80, 35, 34, 5, 6, 7, 9, 10, 11, 12, 13, 14, 15, 16, 17, 18, 19, 22, 23, 24, 25, 0, 28, 29, 30, 32, 50, 51, 52, 53, 54, 55, 56, 57, 58, 59, 60, 61, 62, 63, 64, 65, 66, 67, 68, 69, 70, 81, 82, 83, 85, 86, 87, 88, 89, 90, 91, 92, 93, 94, 95, 96, 97, 98, 99, 100, 101, 102, 103, 104, 105, 106, 107, 108] (by decide +kernel) (by decide +kernel)
set_option maxRecDepth 20000 in
theorem gX6_holds_X6_numbersHold : GoodIn wsX6_holds (wsV RX6 71 RX6 yX6_numbersHold wsX6_numbersHold) := goodIn_app (goodIn_of _ (by decide +kernel)) ggX6_holds_X6_numbersHold
set_option maxRecDepth 20000 in
theorem ggX6_holds_X6_ifHolds : GoodIn wsX6_holds wsX6_ifHolds := goodIn_r _ [81, 4, 1, 2, 72, 82, 36, 37, 38, 8, 39, 40, 41, 42, 43, 26, 20, 21, 44, 45, 73, 74, 75, 31, 71, 46, 47, 48, 49, 27, 76, 33, 3, 77, 78, 79, 80, 35, 34, 5, 6, 7, 9, 10, 11, 12, 13, 14, 15, 16, 17, 18, 19, 22, 23, 24, 25, 0, 28, 29, 30, 32, 50, 51, 52, 53, 54, 55, 56, 57, 58, 59, 60, 61, 62, 63, 64, 65, 66, 67, 68, 69, 70, 83, 84, 85, 86, 87, 88, 89, 90, 91, 92, 93, 94, 95, 96, 97, 98, 99, 100, 101, 102, 103, 104, 105, 106, 107, 108] (by decide +kernel) (by decide +kernel)
set_option maxRecDepth 20000 in
theorem gX6_holds_X6_ifHolds : GoodIn wsX6_holds (wsV RX6 75 RX6 yX6_ifHolds wsX6_ifHolds) := goodIn_app (goodIn_of _ (by decide +kernel)) ggX6_holds_X6_ifHolds
set_option maxRecDepth 20000 in
theorem ggX6_holds_X6_letHolds : GoodIn wsX6_holds wsX6_letHolds := goodIn_r _ [83, 4, 1, 2, 72, 33, 36, 37, 38, 8, 39, 40, 41, 42, 43, 26, 20, 21, 44, 45, 73, 74, 75, 31, 77, 78, 79, 80, 35, 34, 71, 46, 47, 48, 49, 27, 76, 3, 5, 6, 7, 9, 10, 11, 12, 13, 14, 15, 16, 17, 18, 19, 22, 23, 24, 25, 0, 28, 29, 30, 32, 50, 51, 52, 53, 54, 55, 56, 57, 58, 59, 60, 61, 62, 63, 64, 65, 66, 67, 68, 69, 70, 81, 82, 84, 85, 86, 87, 88, 89, 90, 91, 92, 93, 94, 95, 96, 97, 98, 99, 100, 101, 102, 103, 104, 105, 106, 107, 108] (by decide +kernel) (by decide +kernel)
