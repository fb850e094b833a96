set_option maxRecDepth 20000 in
theorem gX6_holds_X6_letHolds : GoodIn wsX6_holds (wsV RX6 78 RX6 yX6_letHolds wsX6_letHolds) := goodIn_app (goodIn_of _ (by decide +kernel)) ggX6_holds_X6_letHolds
set_option maxRecDepth 20000 in
theorem ggX6_holds_X6_wholeHolds : GoodIn wsX6_holds wsX6_wholeHolds := goodIn_r _ [86, 4, 36, 37, 38, 8, 39, 40, 41, 42, 43, 26, 20, 21, 44, 45, 73, 74, 75, 31, 71, 1, 2, 72, 46, 47, 48, 49, 27, 76, 33, 3, 77, 78, 79, 80, 35, 34, 5, 6, 7, 9, 10, 11, 12, 13, 14, 15, 16, 17, 18, 19, 22, 23, 24, 25, 0, 28, 29, 30, 32, 50, 51, 52, 53, 54, 55, 56, 57, 58, 59, 60, 61, 62, 63, 64, 65, 66, 67, 68, 69, 70, 81, 82, 83, 84, 85, 87, 88, 89, 90, 91, 92, 93, 94, 95, 96, 97, 98, 99, 100, 101, 102, 103, 104, 105, 106, 107, 108] (by decide +kernel) (by decide +kernel)
set_option maxRecDepth 20000 in
theorem gX6_holds_X6_wholeHolds : GoodIn wsX6_holds (wsV RX6 81 RX6 yX6_wholeHolds wsX6_wholeHolds) := goodIn_app (goodIn_of _ (by decide +kernel)) ggX6_holds_X6_wholeHolds
set_option maxRecDepth 20000 in
theorem ggX6_holds_X6_takeHolds : GoodIn wsX6_holds wsX6_takeHolds := goodIn_r _ [85, 33, 77, 78, 79, 31, 80, 35, 34, 65, 66, 67, 71, 4, 1, 2, 72, 36, 37, 38, 8, 39, 40, 41, 42, 43, 26, 20, 21, 44, 45, 46, 47, 48, 49, 27, 73, 74, 75, 76, 3, 5, 6, 7, 9, 10, 11, 12, 13, 14, 15, 16, 17, 18, 19, 22, 23, 24, 25, 0, 28, 29, 30, 32, 50, 51, 52, 53, 54, 55, 56, 57, 58, 59, 60, 61, 62, 63, 64, 68, 69, 70, 81, 82, 83, 84, 86, 87, 88, 89, 90, 91, 92, 93, 94, 95, 96, 97, 98, 99, 100, 101, 102, 103, 104, 105, 106, 107, 108] (by decide +kernel) (by decide +kernel)
set_option maxRecDepth 20000 in
theorem gX6_holds_X6_takeHolds : GoodIn wsX6_holds (wsV RX6 84 RX6 yX6_takeHolds wsX6_takeHolds) := goodIn_app (goodIn_of _ (by decide +kernel)) ggX6_holds_X6_takeHolds
set_option maxRecDepth 20000 in
theorem ggX6_typeOfVariable_X5_letter : GoodIn wsX6_typeOfVariable wsX5_letter := goodIn_r _ [9, 10, 11, 12, 8, 13, 14, 15, 16, 17, 18, 29, 30, 31, 32, 33, 34, 35, 36, 37] (by decide +kernel) (by decide +kernel)
set_option maxRecDepth 20000 in
theorem gX6_typeOfVariable_X5_letter : GoodIn wsX6_typeOfVariable (wsV RX6 38 RX5 yX5_letter wsX5_letter) := goodIn_app (goodIn_of _ (by decide +kernel)) ggX6_typeOfVariable_X5_letter
set_option maxRecDepth 20000 in
theorem ggX6_typeOfVariable_X5_function : GoodIn wsX6_typeOfVariable wsX5_function := goodIn_r _ [22, 23, 10, 11, 12, 8, 13, 14, 15, 16, 17, 18, 29, 30, 31, 32, 33, 34, 35, 36, 37] (by decide +kernel) (by decide +kernel)
set_option maxRecDepth 20000 in
theorem gX6_typeOfVariable_X5_function : GoodIn wsX6_typeOfVariable (wsV RX6 87 RX5 yX5_function wsX5_function) := goodIn_app (goodIn_of _ (by decide +kernel)) ggX6_typeOfVariable_X5_function
set_option maxRecDepth 20000 in
theorem ggX6_functionHolds_X5_letter : GoodIn wsX6_functionHolds wsX5_letter := goodIn_r _ [10, 11, 12, 13, 9, 14, 15, 16, 17, 18, 19, 100, 101, 102, 103, 104, 105, 106, 107, 108] (by decide +kernel) (by decide +kernel)
set_option maxRecDepth 20000 in
theorem gX6_functionHolds_X5_letter : GoodIn wsX6_functionHolds (wsV RX6 38 RX5 yX5_letter wsX5_letter) := goodIn_app (goodIn_of _ (by decide +kernel)) ggX6_functionHolds_X5_letter
set_option maxRecDepth 20000 in
theorem ggX6_functionHolds_X5_function : GoodIn wsX6_functionHolds wsX5_function := goodIn_r _ [23, 24, 11, 12, 13, 9, 14, 15, 16, 17, 18, 19, 100, 101, 102, 103, 104, 105, 106, 107, 108] (by decide +kernel) (by decide +kernel)
set_option maxRecDepth 20000 in
theorem gX6_functionHolds_X5_function : GoodIn wsX6_functionHolds (wsV RX6 87 RX5 yX5_function wsX5_function) := goodIn_app (goodIn_of _ (by decide +kernel)) ggX6_functionHolds_X5_function
set_option maxRecDepth 20000 in
theorem ggX6_functionHolds_X6_bind : GoodIn wsX6_functionHolds wsX6_bind := goodIn_r _ [29, 30, 2, 31, 87, 88, 89, 90, 91] (by decide +kernel) (by decide +kernel)
set_option maxRecDepth 20000 in
theorem gX6_functionHolds_X6_bind : GoodIn wsX6_functionHolds (wsV RX6 93 RX6 yX6_bind wsX6_bind) := goodIn_app (goodIn_of _ (by decide +kernel)) ggX6_functionHolds_X6_bind
set_option maxRecDepth 20000 in
theorem ggX6_functionHolds_X6_holds : GoodIn wsX6_functionHolds wsX6_holds := goodIn_r _ [55, 3, 5, 4, 1, 35, 36, 37, 9, 38, 39, 40, 41, 42, 43, 44, 45, 46, 47, 48, 16, 17, 49, 50, 51, 52, 15, 24, 56, 57, 58, 28, 59, 2, 31, 30, 6, 7, 8, 10, 11, 12, 13, 14, 18, 19, 20, 21, 22, 23, 60, 61, 62, 63, 64, 65, 66, 67, 68, 69, 70, 71, 72, 73, 74, 75, 76, 77, 78, 79, 80, 53, 54, 32, 33, 34, 0, 25, 26, 27, 29, 81, 82, 83, 84, 85, 86, 87, 88, 89, 90, 91, 92, 93, 94, 95, 96, 97, 98, 99, 100, 101, 102, 103, 104, 105, 106, 107, 108] (by decide +kernel) (by decide +kernel)
set_option maxRecDepth 20000 in
theorem gX6_functionHolds_X6_holds : GoodIn wsX6_functionHolds (wsV RX6 42 RX6 yX6_holds wsX6_holds) := goodIn_app (goodIn_of _ (by decide +kernel)) ggX6_functionHolds_X6_holds
set_option maxRecDepth 20000 in
theorem ggX6_functionHolds_X5_makeSame : GoodIn wsX6_functionHolds wsX5_makeSame := goodIn_r _ [38, 39, 40, 41, 42, 43, 9, 44, 45, 46, 47, 48, 16, 17, 49, 50, 51, 52, 15, 24, 100, 101, 102, 103, 104, 105, 106, 107, 108] (by decide +kernel) (by decide +kernel)
set_option maxRecDepth 20000 in
theorem gX6_functionHolds_X5_makeSame : GoodIn wsX6_functionHolds (wsV RX6 56 RX5 yX5_makeSame wsX5_makeSame) := goodIn_app (goodIn_of _ (by decide +kernel)) ggX6_functionHolds_X5_makeSame
set_option maxRecDepth 20000 in
theorem ggX6_callHolds_X5_letter : GoodIn wsX6_callHolds wsX5_letter := goodIn_r _ [9, 10, 11, 12, 8, 13, 14, 15, 16, 17, 18, 100, 101, 102, 103, 104, 105, 106, 107, 108] (by decide +kernel) (by decide +kernel)
set_option maxRecDepth 20000 in
theorem gX6_callHolds_X5_letter : GoodIn wsX6_callHolds (wsV RX6 38 RX5 yX5_letter wsX5_letter) := goodIn_app (goodIn_of _ (by decide +kernel)) ggX6_callHolds_X5_letter
set_option maxRecDepth 20000 in
theorem ggX6_callHolds_X5_function : GoodIn wsX6_callHolds wsX5_function := goodIn_r _ [22, 23, 10, 11, 12, 8, 13, 14, 15, 16, 17, 18, 100, 101, 102, 103, 104, 105, 106, 107, 108] (by decide +kernel) (by decide +kernel)
set_option maxRecDepth 20000 in
theorem gX6_callHolds_X5_function : GoodIn wsX6_callHolds (wsV RX6 87 RX5 yX5_function wsX5_function) := goodIn_app (goodIn_of _ (by decide +kernel)) ggX6_callHolds_X5_function
