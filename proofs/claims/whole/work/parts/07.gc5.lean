set_option maxRecDepth 20000 in
theorem ggX6_callHolds_X6_holds : GoodIn wsX6_callHolds wsX6_holds := goodIn_r _ [55, 2, 3, 30, 1, 37, 38, 39, 8, 40, 41, 42, 43, 44, 45, 46, 47, 48, 49, 50, 15, 16, 51, 52, 53, 54, 14, 23, 56, 57, 58, 27, 59, 29, 36, 35, 5, 6, 7, 9, 10, 11, 12, 13, 17, 18, 19, 20, 21, 22, 60, 61, 62, 63, 64, 65, 66, 67, 68, 69, 70, 71, 72, 73, 74, 75, 76, 77, 78, 79, 80, 0, 4, 24, 25, 26, 28, 31, 32, 33, 34, 81, 82, 83, 84, 85, 86, 87, 88, 89, 90, 91, 92, 93, 94, 95, 96, 97, 98, 99, 100, 101, 102, 103, 104, 105, 106, 107, 108] (by decide +kernel) (by decide +kernel)
set_option maxRecDepth 20000 in
theorem gX6_callHolds_X6_holds : GoodIn wsX6_callHolds (wsV RX6 42 RX6 yX6_holds wsX6_holds) := goodIn_app (goodIn_of _ (by decide +kernel)) ggX6_callHolds_X6_holds
set_option maxRecDepth 20000 in
theorem ggX6_numbersHold_X5_letter : GoodIn wsX6_numbersHold wsX5_letter := goodIn_r _ [9, 10, 11, 12, 8, 13, 14, 15, 16, 17, 18, 100, 101, 102, 103, 104, 105, 106, 107, 108] (by decide +kernel) (by decide +kernel)
set_option maxRecDepth 20000 in
theorem gX6_numbersHold_X5_letter : GoodIn wsX6_numbersHold (wsV RX6 38 RX5 yX5_letter wsX5_letter) := goodIn_app (goodIn_of _ (by decide +kernel)) ggX6_numbersHold_X5_letter
set_option maxRecDepth 20000 in
theorem ggX6_numbersHold_X6_holds : GoodIn wsX6_numbersHold wsX6_holds := goodIn_r _ [56, 2, 3, 31, 1, 38, 39, 40, 8, 41, 42, 43, 44, 45, 46, 47, 48, 49, 50, 51, 15, 16, 52, 53, 54, 55, 14, 28, 57, 58, 59, 22, 60, 30, 37, 36, 5, 6, 7, 9, 10, 11, 12, 13, 17, 18, 24, 25, 26, 27, 61, 62, 63, 64, 65, 66, 67, 68, 69, 70, 71, 72, 73, 74, 75, 76, 77, 78, 79, 80, 81, 23, 4, 19, 20, 21, 29, 32, 33, 34, 35, 82, 83, 84, 0, 85, 86, 87, 88, 89, 90, 91, 92, 93, 94, 95, 96, 97, 98, 99, 100, 101, 102, 103, 104, 105, 106, 107, 108] (by decide +kernel) (by decide +kernel)
set_option maxRecDepth 20000 in
theorem gX6_numbersHold_X6_holds : GoodIn wsX6_numbersHold (wsV RX6 42 RX6 yX6_holds wsX6_holds) := goodIn_app (goodIn_of _ (by decide +kernel)) ggX6_numbersHold_X6_holds
set_option maxRecDepth 20000 in
theorem ggX6_ifHolds_X5_letter : GoodIn wsX6_ifHolds wsX5_letter := goodIn_r _ [10, 11, 12, 13, 9, 14, 15, 16, 17, 18, 19, 100, 101, 102, 103, 104, 105, 106, 107, 108] (by decide +kernel) (by decide +kernel)
set_option maxRecDepth 20000 in
theorem gX6_ifHolds_X5_letter : GoodIn wsX6_ifHolds (wsV RX6 38 RX5 yX5_letter wsX5_letter) := goodIn_app (goodIn_of _ (by decide +kernel)) ggX6_ifHolds_X5_letter
set_option maxRecDepth 20000 in
theorem ggX6_ifHolds_X6_holds : GoodIn wsX6_ifHolds wsX6_holds := goodIn_r _ [57, 2, 3, 32, 1, 39, 40, 41, 9, 42, 43, 44, 45, 46, 47, 48, 49, 50, 51, 52, 16, 17, 53, 54, 55, 56, 15, 29, 58, 59, 60, 23, 61, 31, 38, 37, 6, 7, 8, 10, 11, 12, 13, 14, 18, 19, 25, 26, 27, 28, 62, 63, 64, 65, 66, 67, 68, 69, 70, 71, 72, 73, 74, 75, 76, 77, 78, 79, 80, 81, 82, 24, 4, 20, 21, 22, 30, 33, 34, 35, 36, 0, 5, 83, 84, 85, 86, 87, 88, 89, 90, 91, 92, 93, 94, 95, 96, 97, 98, 99, 100, 101, 102, 103, 104, 105, 106, 107, 108] (by decide +kernel) (by decide +kernel)
set_option maxRecDepth 20000 in
theorem gX6_ifHolds_X6_holds : GoodIn wsX6_ifHolds (wsV RX6 42 RX6 yX6_holds wsX6_holds) := goodIn_app (goodIn_of _ (by decide +kernel)) ggX6_ifHolds_X6_holds
set_option maxRecDepth 20000 in
theorem ggX6_letHolds_X5_letter : GoodIn wsX6_letHolds wsX5_letter := goodIn_r _ [10, 11, 12, 13, 9, 14, 15, 16, 17, 18, 19, 100, 101, 102, 103, 104, 105, 106, 107, 108] (by decide +kernel) (by decide +kernel)
set_option maxRecDepth 20000 in
theorem gX6_letHolds_X5_letter : GoodIn wsX6_letHolds (wsV RX6 38 RX5 yX5_letter wsX5_letter) := goodIn_app (goodIn_of _ (by decide +kernel)) ggX6_letHolds_X5_letter
set_option maxRecDepth 20000 in
theorem ggX6_letHolds_X6_holds : GoodIn wsX6_letHolds wsX6_holds := goodIn_r _ [56, 2, 3, 37, 1, 38, 39, 40, 9, 41, 42, 43, 44, 45, 46, 47, 48, 49, 50, 51, 16, 17, 52, 53, 54, 55, 15, 35, 57, 58, 59, 23, 60, 5, 29, 28, 6, 7, 8, 10, 11, 12, 13, 14, 18, 19, 31, 32, 33, 34, 61, 62, 63, 64, 65, 66, 67, 68, 69, 70, 71, 72, 73, 74, 75, 76, 77, 78, 79, 80, 81, 30, 4, 20, 21, 22, 36, 24, 25, 26, 27, 82, 83, 0, 84, 85, 86, 87, 88, 89, 90, 91, 92, 93, 94, 95, 96, 97, 98, 99, 100, 101, 102, 103, 104, 105, 106, 107, 108] (by decide +kernel) (by decide +kernel)
set_option maxRecDepth 20000 in
theorem gX6_letHolds_X6_holds : GoodIn wsX6_letHolds (wsV RX6 42 RX6 yX6_holds wsX6_holds) := goodIn_app (goodIn_of _ (by decide +kernel)) ggX6_letHolds_X6_holds
set_option maxRecDepth 20000 in
theorem ggX6_letHolds_X6_bind : GoodIn wsX6_letHolds wsX6_bind := goodIn_r _ [27, 28, 5, 29, 87, 88, 89, 90, 91] (by decide +kernel) (by decide +kernel)
set_option maxRecDepth 20000 in
theorem gX6_letHolds_X6_bind : GoodIn wsX6_letHolds (wsV RX6 93 RX6 yX6_bind wsX6_bind) := goodIn_app (goodIn_of _ (by decide +kernel)) ggX6_letHolds_X6_bind
set_option maxRecDepth 20000 in
theorem ggX6_takeHolds_X6_bind : GoodIn wsX6_takeHolds wsX6_bind := goodIn_r _ [6, 7, 1, 8, 87, 88, 89, 90, 91] (by decide +kernel) (by decide +kernel)
set_option maxRecDepth 20000 in
theorem gX6_takeHolds_X6_bind : GoodIn wsX6_takeHolds (wsV RX6 93 RX6 yX6_bind wsX6_bind) := goodIn_app (goodIn_of _ (by decide +kernel)) ggX6_takeHolds_X6_bind
set_option maxRecDepth 20000 in
theorem ggX6_takeHolds_X6_wholeHolds : GoodIn wsX6_takeHolds wsX6_wholeHolds := goodIn_r _ [86, 13, 17, 18, 19, 20, 21, 22, 23, 24, 25, 26, 27, 28, 29, 30, 36, 37, 38, 5, 12, 14, 15, 16, 31, 32, 33, 34, 35, 39, 1, 40, 2, 3, 4, 6, 7, 8, 41, 42, 43, 44, 45, 46, 47, 48, 49, 50, 51, 52, 53, 54, 55, 56, 57, 58, 59, 60, 61, 62, 63, 64, 65, 66, 67, 68, 69, 70, 71, 72, 73, 74, 75, 76, 77, 78, 9, 10, 11, 79, 80, 81, 82, 83, 84, 85, 0, 87, 88, 89, 90, 91, 92, 93, 94, 95, 96, 97, 98, 99, 100, 101, 102, 103, 104, 105, 106, 107, 108] (by decide +kernel) (by decide +kernel)
set_option maxRecDepth 20000 in
theorem gX6_takeHolds_X6_wholeHolds : GoodIn wsX6_takeHolds (wsV RX6 81 RX6 yX6_wholeHolds wsX6_wholeHolds) := goodIn_app (goodIn_of _ (by decide +kernel)) ggX6_takeHolds_X6_wholeHolds
set_option maxRecDepth 20000 in
theorem ggX6_wholeHolds_X5_letter : GoodIn wsX6_wholeHolds wsX5_letter := goodIn_r _ [6, 7, 8, 9, 5, 10, 11, 12, 13, 14, 15, 100, 101, 102, 103, 104, 105, 106, 107, 108] (by decide +kernel) (by decide +kernel)
set_option maxRecDepth 20000 in
theorem gX6_wholeHolds_X5_letter : GoodIn wsX6_wholeHolds (wsV RX6 38 RX5 yX5_letter wsX5_letter) := goodIn_app (goodIn_of _ (by decide +kernel)) ggX6_wholeHolds_X5_letter
set_option maxRecDepth 20000 in
theorem ggX6_wholeHolds_X6_holds : GoodIn wsX6_wholeHolds wsX6_holds := goodIn_r _ [56, 21, 22, 31, 1, 38, 39, 40, 5, 41, 42, 43, 44, 45, 46, 47, 48, 49, 50, 51, 12, 13, 52, 53, 54, 55, 11, 28, 57, 58, 59, 19, 60, 30, 37, 36, 2, 3, 4, 6, 7, 8, 9, 10, 14, 15, 24, 25, 26, 27, 61, 62, 63, 64, 65, 66, 67, 68, 69, 70, 71, 72, 73, 74, 75, 76, 77, 78, 79, 80, 81, 20, 23, 16, 17, 18, 29, 32, 33, 34, 35, 82, 83, 84, 85, 86, 0, 87, 88, 89, 90, 91, 92, 93, 94, 95, 96, 97, 98, 99, 100, 101, 102, 103, 104, 105, 106, 107, 108] (by decide +kernel) (by decide +kernel)
set_option maxRecDepth 20000 in
theorem gX6_wholeHolds_X6_holds : GoodIn wsX6_wholeHolds (wsV RX6 42 RX6 yX6_holds wsX6_holds) := goodIn_app (goodIn_of _ (by decide +kernel)) ggX6_wholeHolds_X6_holds
