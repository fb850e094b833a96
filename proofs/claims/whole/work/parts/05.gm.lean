set_option maxRecDepth 20000 in
theorem ggX10_isTerm_X10_in : GoodIn wsX10_isTerm wsX10_in := goodIn_r _ [5] (by decide +kernel) (by decide +kernel)
set_option maxRecDepth 20000 in
theorem gX10_isTerm_X10_in : GoodIn wsX10_isTerm (va_wsS RX10 123 yX10_in wsX10_in) := goodIn_app (goodIn_of _ (by decide +kernel)) ggX10_isTerm_X10_in
set_option maxRecDepth 20000 in
theorem ggX10_hasB_X10_in : GoodIn wsX10_hasB wsX10_in := goodIn_r _ [4] (by decide +kernel) (by decide +kernel)
set_option maxRecDepth 20000 in
theorem gX10_hasB_X10_in : GoodIn wsX10_hasB (va_wsS RX10 123 yX10_in wsX10_in) := goodIn_app (goodIn_of _ (by decide +kernel)) ggX10_hasB_X10_in
set_option maxRecDepth 20000 in
theorem ggX10_hasA_X10_in : GoodIn wsX10_hasA wsX10_in := goodIn_r _ [4] (by decide +kernel) (by decide +kernel)
set_option maxRecDepth 20000 in
theorem gX10_hasA_X10_in : GoodIn wsX10_hasA (va_wsS RX10 123 yX10_in wsX10_in) := goodIn_app (goodIn_of _ (by decide +kernel)) ggX10_hasA_X10_in
set_option maxRecDepth 20000 in
theorem ggX10_fits_X10_in : GoodIn wsX10_fits wsX10_in := goodIn_r _ [4] (by decide +kernel) (by decide +kernel)
set_option maxRecDepth 20000 in
theorem gX10_fits_X10_in : GoodIn wsX10_fits (va_wsS RX10 123 yX10_in wsX10_in) := goodIn_app (goodIn_of _ (by decide +kernel)) ggX10_fits_X10_in
set_option maxRecDepth 20000 in
theorem ggX10_fits_X10_isTerm : GoodIn wsX10_fits wsX10_isTerm := goodIn_r _ [8, 9, 1, 2, 3, 4, 13, 14, 15, 16, 17, 18, 19, 20, 21, 22, 23, 24, 25, 26, 27, 28, 29, 30, 31, 32, 33, 34, 35, 36, 37, 38, 39, 40, 41, 42, 43, 44, 45, 46, 47, 48, 49, 50, 51, 52, 53, 54, 55, 56, 57, 58, 59, 60, 61, 62, 63, 64, 65, 66, 67, 68, 69, 70, 71, 72] (by decide +kernel) (by decide +kernel)
set_option maxRecDepth 20000 in
theorem gX10_fits_X10_isTerm : GoodIn wsX10_fits (wsV RX10 127 RX10 yX10_isTerm wsX10_isTerm) := goodIn_app (goodIn_of _ (by decide +kernel)) ggX10_fits_X10_isTerm
set_option maxRecDepth 20000 in
theorem ggX10_fits_X10_hasB : GoodIn wsX10_fits wsX10_hasB := goodIn_r _ [12, 1, 2, 3, 4] (by decide +kernel) (by decide +kernel)
set_option maxRecDepth 20000 in
theorem gX10_fits_X10_hasB : GoodIn wsX10_fits (va_wsS RX10 131 yX10_hasB wsX10_hasB) := goodIn_app (goodIn_of _ (by decide +kernel)) ggX10_fits_X10_hasB
set_option maxRecDepth 20000 in
theorem ggX10_make_X10_in : GoodIn wsX10_make wsX10_in := goodIn_r _ [13] (by decide +kernel) (by decide +kernel)
set_option maxRecDepth 20000 in
theorem gX10_make_X10_in : GoodIn wsX10_make (va_wsS RX10 123 yX10_in wsX10_in) := goodIn_app (goodIn_of _ (by decide +kernel)) ggX10_make_X10_in
set_option maxRecDepth 20000 in
theorem ggX10_make_X10_fits : GoodIn wsX10_make wsX10_fits := goodIn_r _ [17, 10, 11, 12, 13, 18, 19, 20, 21, 4, 22, 23, 24, 39, 40, 41, 42, 43, 44, 45, 46, 47, 48, 49, 50, 51, 52, 53, 54, 55, 56, 57, 58, 59, 60, 61, 62, 63, 64, 65, 66, 67, 68, 69, 70, 71, 72, 73, 74, 75, 76, 77, 78, 79, 80, 81, 82, 83, 84, 85, 86, 87, 88, 89, 90, 91, 92, 93, 94, 95, 96, 97, 98] (by decide +kernel) (by decide +kernel)
set_option maxRecDepth 20000 in
theorem gX10_make_X10_fits : GoodIn wsX10_make (wsV RX10 134 RX10 yX10_fits wsX10_fits) := goodIn_app (goodIn_of _ (by decide +kernel)) ggX10_make_X10_fits
set_option maxRecDepth 20000 in
theorem ggX10_make_X10_fail : GoodIn wsX10_make wsX10_fail := goodIn_r _ [28, 1, 39, 40, 41, 42, 43, 44, 45, 46, 47, 48, 49, 50, 51, 52, 53, 54, 55, 56, 57, 58, 59, 60, 61, 62, 63, 64, 65, 66, 67, 68, 69, 70, 71, 72, 73, 74, 75, 76, 77, 78, 79, 80, 81, 82, 83, 84, 85, 86, 87, 88, 89, 90, 91, 92, 93, 94, 95, 96, 97, 98] (by decide +kernel) (by decide +kernel)
set_option maxRecDepth 20000 in
theorem gX10_make_X10_fail : GoodIn wsX10_make (wsV RX10 138 RX10 yX10_fail wsX10_fail) := goodIn_app (goodIn_of _ (by decide +kernel)) ggX10_make_X10_fail
set_option maxRecDepth 20000 in
theorem ggX10_make_X10_hasA : GoodIn wsX10_make wsX10_hasA := goodIn_r _ [31, 10, 11, 12, 13] (by decide +kernel) (by decide +kernel)
set_option maxRecDepth 20000 in
theorem gX10_make_X10_hasA : GoodIn wsX10_make (va_wsS RX10 142 yX10_hasA wsX10_hasA) := goodIn_app (goodIn_of _ (by decide +kernel)) ggX10_make_X10_hasA
set_option maxRecDepth 20000 in
theorem ggX10_make_X10_hasB : GoodIn wsX10_make wsX10_hasB := goodIn_r _ [24, 10, 11, 12, 13] (by decide +kernel) (by decide +kernel)
set_option maxRecDepth 20000 in
theorem gX10_make_X10_hasB : GoodIn wsX10_make (va_wsS RX10 131 yX10_hasB wsX10_hasB) := goodIn_app (goodIn_of _ (by decide +kernel)) ggX10_make_X10_hasB
set_option maxRecDepth 20000 in
theorem ggX10_make_X10_greater : GoodIn wsX10_make wsX10_greater := goodIn_r _ [34] (by decide +kernel) (by decide +kernel)
set_option maxRecDepth 20000 in
theorem gX10_make_X10_greater : GoodIn wsX10_make (va_wsS RX10 145 yX10_greater wsX10_greater) := goodIn_app (goodIn_of _ (by decide +kernel)) ggX10_make_X10_greater
set_option maxRecDepth 20000 in
theorem ggX10_make_X10_needs : GoodIn wsX10_make wsX10_needs := goodIn_r _ [38, 9, 32, 33, 12, 34, 39, 40, 41, 42, 43, 44, 45, 46, 47, 48, 49, 50, 51, 52, 53, 54, 55, 56, 57, 58, 59, 60, 61, 62, 63, 64, 65, 66, 67, 68, 69, 70, 71, 72, 73, 74, 75, 76, 77, 78, 79, 80, 81, 82, 83, 84, 85, 86, 87, 88, 89, 90, 91, 92, 93, 94, 95, 96, 97, 98] (by decide +kernel) (by decide +kernel)
set_option maxRecDepth 20000 in
theorem gX10_make_X10_needs : GoodIn wsX10_make (wsV RX10 149 RX10 yX10_needs wsX10_needs) := goodIn_app (goodIn_of _ (by decide +kernel)) ggX10_make_X10_needs
set_option maxRecDepth 20000 in
theorem ggX10_needs_X10_greater : GoodIn wsX10_needs wsX10_greater := goodIn_r _ [5] (by decide +kernel) (by decide +kernel)
set_option maxRecDepth 20000 in
theorem gX10_needs_X10_greater : GoodIn wsX10_needs (va_wsS RX10 145 yX10_greater wsX10_greater) := goodIn_app (goodIn_of _ (by decide +kernel)) ggX10_needs_X10_greater
set_option maxRecDepth 20000 in
theorem ggX10_open_X10_isTerm : GoodIn wsX10_open wsX10_isTerm := goodIn_r _ [7, 8, 9, 10, 6, 11, 12, 13, 14, 15, 16, 17, 18, 19, 20, 21, 22, 23, 24, 25, 26, 27, 28, 29, 30, 31, 32, 33, 34, 35, 36, 37, 38, 39, 40, 41, 42, 43, 44, 45, 46, 47, 48, 49, 50, 51, 52, 53, 54, 55, 56, 57, 58, 59, 60, 61, 62, 63, 64, 65, 66, 67, 68, 69, 70, 71] (by decide +kernel) (by decide +kernel)
set_option maxRecDepth 20000 in
theorem gX10_open_X10_isTerm : GoodIn wsX10_open (wsV RX10 127 RX10 yX10_isTerm wsX10_isTerm) := goodIn_app (goodIn_of _ (by decide +kernel)) ggX10_open_X10_isTerm
set_option maxRecDepth 20000 in
theorem ggX10_begin_X10_give : GoodIn wsX10_begin wsX10_give := goodIn_r _ [14, 15, 16, 40, 41, 42, 43, 44, 45, 46, 47, 48, 49, 50, 51, 52, 53, 54, 55, 56, 57, 58, 59, 60, 61, 62, 63, 64, 65, 66, 67, 68, 69, 70, 71, 72, 73, 74, 75, 76, 77, 78, 79, 80, 81, 82, 83, 84, 85, 86, 87, 88, 89, 90, 91, 92, 93, 94, 95, 96, 97, 98, 99] (by decide +kernel) (by decide +kernel)
set_option maxRecDepth 20000 in
theorem gX10_begin_X10_give : GoodIn wsX10_begin (wsV RX10 174 RX10 yX10_give wsX10_give) := goodIn_app (goodIn_of _ (by decide +kernel)) ggX10_begin_X10_give
set_option maxRecDepth 20000 in
theorem ggX10_begin_X10_closure : GoodIn wsX10_begin wsX10_closure := goodIn_r _ [20, 21, 22, 23, 40, 41, 42, 43, 44, 45, 46, 47, 48, 49, 50, 51, 52, 53, 54, 55, 56, 57, 58, 59, 60, 61, 62, 63, 64, 65, 66, 67, 68, 69, 70, 71, 72, 73, 74, 75, 76, 77, 78, 79, 80, 81, 82, 83, 84, 85, 86, 87, 88, 89, 90, 91, 92, 93, 94, 95, 96, 97, 98, 99] (by decide +kernel) (by decide +kernel)
set_option maxRecDepth 20000 in
theorem gX10_begin_X10_closure : GoodIn wsX10_begin (wsV RX10 178 RX10 yX10_closure wsX10_closure) := goodIn_app (goodIn_of _ (by decide +kernel)) ggX10_begin_X10_closure
set_option maxRecDepth 20000 in
theorem ggX10_begin_X10_bind : GoodIn wsX10_begin wsX10_bind := goodIn_r _ [27, 28, 5, 6, 4, 40, 41, 42, 43, 44, 45, 46, 47, 48, 49, 50, 51, 52, 53, 54, 55, 56, 57, 58, 59, 60, 61, 62, 63, 64, 65, 66, 67, 68, 69, 70, 71, 72, 73, 74, 75, 76, 77, 78, 79, 80, 81, 82, 83, 84, 85, 86, 87, 88, 89, 90, 91, 92, 93, 94, 95, 96, 97, 98, 99] (by decide +kernel) (by decide +kernel)
set_option maxRecDepth 20000 in
theorem gX10_begin_X10_bind : GoodIn wsX10_begin (wsV RX10 184 RX10 yX10_bind wsX10_bind) := goodIn_app (goodIn_of _ (by decide +kernel)) ggX10_begin_X10_bind
set_option maxRecDepth 20000 in
theorem ggX10_begin_X10_then : GoodIn wsX10_begin wsX10_then := goodIn_r _ [32, 33, 34, 35, 36, 37, 38, 39, 9, 40, 41, 42, 43, 44, 45, 46, 47, 48, 49, 50, 51, 52, 53, 54, 55, 56, 57, 58, 59, 60, 61, 62, 63, 64, 65, 66, 67, 68, 69, 70, 71, 72, 73, 74, 75, 76, 77, 78, 79, 80, 81, 82, 83, 84, 85, 86, 87, 88, 89, 90, 91, 92, 93, 94, 95, 96, 97, 98, 99] (by decide +kernel) (by decide +kernel)
set_option maxRecDepth 20000 in
theorem gX10_begin_X10_then : GoodIn wsX10_begin (wsV RX10 188 RX10 yX10_then wsX10_then) := goodIn_app (goodIn_of _ (by decide +kernel)) ggX10_begin_X10_then
set_option maxRecDepth 20000 in
theorem ggX10_call_X10_bind : GoodIn wsX10_call wsX10_bind := goodIn_r _ [16, 17, 18, 19, 20, 21, 22, 23, 24, 25, 26, 27, 28, 29, 30, 31, 32, 33, 34, 35, 36, 37, 38, 39, 40, 41, 42, 43, 44, 45, 46, 47, 48, 49, 50, 51, 52, 53, 54, 55, 56, 57, 58, 59, 60, 61, 62, 63, 64, 65, 66, 67, 68, 69, 70, 71, 72, 73, 74, 75, 76, 77, 78, 79, 80] (by decide +kernel) (by decide +kernel)
set_option maxRecDepth 20000 in
theorem gX10_call_X10_bind : GoodIn wsX10_call (wsV RX10 184 RX10 yX10_bind wsX10_bind) := goodIn_app (goodIn_of _ (by decide +kernel)) ggX10_call_X10_bind
set_option maxRecDepth 20000 in
theorem ggX10_goOn_X10_bind : GoodIn wsX10_goOn wsX10_bind := goodIn_r _ [18, 19, 20, 21, 22, 42, 43, 44, 45, 46, 47, 48, 49, 50, 51, 52, 53, 54, 55, 56, 57, 58, 59, 60, 61, 62, 63, 64, 65, 66, 67, 68, 69, 70, 71, 72, 73, 74, 75, 76, 77, 78, 79, 80, 81, 82, 83, 84, 85, 86, 87, 88, 89, 90, 91, 92, 93, 94, 95, 96, 97, 98, 99, 100, 101] (by decide +kernel) (by decide +kernel)
set_option maxRecDepth 20000 in
theorem gX10_goOn_X10_bind : GoodIn wsX10_goOn (wsV RX10 184 RX10 yX10_bind wsX10_bind) := goodIn_app (goodIn_of _ (by decide +kernel)) ggX10_goOn_X10_bind
set_option maxRecDepth 20000 in
theorem ggX10_goOn_X10_then : GoodIn wsX10_goOn wsX10_then := goodIn_r _ [26, 27, 3, 2, 6, 4, 13, 5, 1, 42, 43, 44, 45, 46, 47, 48, 49, 50, 51, 52, 53, 54, 55, 56, 57, 58, 59, 60, 61, 62, 63, 64, 65, 66, 67, 68, 69, 70, 71, 72, 73, 74, 75, 76, 77, 78, 79, 80, 81, 82, 83, 84, 85, 86, 87, 88, 89, 90, 91, 92, 93, 94, 95, 96, 97, 98, 99, 100, 101] (by decide +kernel) (by decide +kernel)
set_option maxRecDepth 20000 in
theorem gX10_goOn_X10_then : GoodIn wsX10_goOn (wsV RX10 188 RX10 yX10_then wsX10_then) := goodIn_app (goodIn_of _ (by decide +kernel)) ggX10_goOn_X10_then
set_option maxRecDepth 20000 in
theorem ggX10_goOn_X10_call : GoodIn wsX10_goOn wsX10_call := goodIn_r _ [31, 32, 33, 1, 9, 34, 35, 36, 8, 10, 7, 37, 14, 15, 16, 17, 18, 19, 20, 21, 22, 42, 43, 44, 45, 46, 47, 48, 49, 50, 51, 52, 53, 54, 55, 56, 57, 58, 59, 60, 61, 62, 63, 64, 65, 66, 67, 68, 69, 70, 71, 72, 73, 74, 75, 76, 77, 78, 79, 80, 81, 82, 83, 84, 85, 86, 87, 88, 89, 90, 91, 92, 93, 94, 95, 96, 97, 98, 99, 100, 101] (by decide +kernel) (by decide +kernel)
set_option maxRecDepth 20000 in
theorem gX10_goOn_X10_call : GoodIn wsX10_goOn (wsV RX10 196 RX10 yX10_call wsX10_call) := goodIn_app (goodIn_of _ (by decide +kernel)) ggX10_goOn_X10_call
set_option maxRecDepth 20000 in
theorem ggX10_goOn_X10_give : GoodIn wsX10_goOn wsX10_give := goodIn_r _ [41, 8, 10, 42, 43, 44, 45, 46, 47, 48, 49, 50, 51, 52, 53, 54, 55, 56, 57, 58, 59, 60, 61, 62, 63, 64, 65, 66, 67, 68, 69, 70, 71, 72, 73, 74, 75, 76, 77, 78, 79, 80, 81, 82, 83, 84, 85, 86, 87, 88, 89, 90, 91, 92, 93, 94, 95, 96, 97, 98, 99, 100, 101] (by decide +kernel) (by decide +kernel)
set_option maxRecDepth 20000 in
theorem gX10_goOn_X10_give : GoodIn wsX10_goOn (wsV RX10 174 RX10 yX10_give wsX10_give) := goodIn_app (goodIn_of _ (by decide +kernel)) ggX10_goOn_X10_give
set_option maxRecDepth 20000 in
theorem ggX10_run_X10_begin : GoodIn wsX10_run wsX10_begin := goodIn_r _ [13, 14, 7, 15, 16, 17, 18, 8, 4, 5, 19, 20, 21, 12, 22, 23, 24, 25, 26, 27, 28, 2, 29, 30, 31, 32, 33, 34, 1, 35, 36, 37, 38, 3, 39, 40, 41, 42, 43, 44, 55, 56, 57, 58, 59, 60, 61, 62, 63, 64, 65, 66, 67, 68, 69, 70, 71, 72, 73, 74, 75, 76, 77, 78, 79, 80, 81, 82, 83, 84, 85, 86, 87, 88, 89, 90, 91, 92, 93, 94, 95, 96, 97, 98, 99, 100, 101, 102, 103, 104, 105, 106, 107, 108, 109, 110, 111, 112, 113, 114] (by decide +kernel) (by decide +kernel)
set_option maxRecDepth 20000 in
theorem gX10_run_X10_begin : GoodIn wsX10_run (wsV RX10 199 RX10 yX10_begin wsX10_begin) := goodIn_app (goodIn_of _ (by decide +kernel)) ggX10_run_X10_begin
set_option maxRecDepth 20000 in
theorem ggX10_run_X10_goOn : GoodIn wsX10_run wsX10_goOn := goodIn_r _ [48, 5, 40, 39, 42, 44, 41, 7, 23, 6, 24, 49, 50, 43, 31, 32, 33, 12, 34, 1, 17, 18, 16, 35, 36, 37, 38, 3, 51, 52, 53, 54, 8, 4, 29, 14, 30, 15, 19, 20, 21, 22, 55, 56, 57, 58, 59, 60, 61, 62, 63, 64, 65, 66, 67, 68, 69, 70, 71, 72, 73, 74, 75, 76, 77, 78, 79, 80, 81, 82, 83, 84, 85, 86, 87, 88, 89, 90, 91, 92, 93, 94, 95, 96, 97, 98, 99, 100, 101, 102, 103, 104, 105, 106, 107, 108, 109, 110, 111, 112, 113, 114] (by decide +kernel) (by decide +kernel)
set_option maxRecDepth 20000 in
theorem gX10_run_X10_goOn : GoodIn wsX10_run (wsV RX10 202 RX10 yX10_goOn wsX10_goOn) := goodIn_app (goodIn_of _ (by decide +kernel)) ggX10_run_X10_goOn
set_option maxRecDepth 20000 in
theorem ggX10_work_X10_isTerm : GoodIn wsX10_work wsX10_isTerm := goodIn_r _ [16, 17, 18, 19, 15, 20, 80, 81, 82, 83, 84, 85, 86, 87, 88, 89, 90, 91, 92, 93, 94, 95, 96, 97, 98, 99, 100, 101, 102, 103, 104, 105, 106, 107, 108, 109, 110, 111, 112, 113, 114, 115, 116, 117, 118, 119, 120, 121, 122, 123, 124, 125, 126, 127, 128, 129, 130, 131, 132, 133, 134, 135, 136, 137, 138, 139] (by decide +kernel) (by decide +kernel)
set_option maxRecDepth 20000 in
theorem gX10_work_X10_isTerm : GoodIn wsX10_work (wsV RX10 127 RX10 yX10_isTerm wsX10_isTerm) := goodIn_app (goodIn_of _ (by decide +kernel)) ggX10_work_X10_isTerm
set_option maxRecDepth 20000 in
theorem ggX10_work_X10_fail : GoodIn wsX10_work wsX10_fail := goodIn_r _ [24, 1, 80, 81, 82, 83, 84, 85, 86, 87, 88, 89, 90, 91, 92, 93, 94, 95, 96, 97, 98, 99, 100, 101, 102, 103, 104, 105, 106, 107, 108, 109, 110, 111, 112, 113, 114, 115, 116, 117, 118, 119, 120, 121, 122, 123, 124, 125, 126, 127, 128, 129, 130, 131, 132, 133, 134, 135, 136, 137, 138, 139] (by decide +kernel) (by decide +kernel)
set_option maxRecDepth 20000 in
theorem gX10_work_X10_fail : GoodIn wsX10_work (wsV RX10 138 RX10 yX10_fail wsX10_fail) := goodIn_app (goodIn_of _ (by decide +kernel)) ggX10_work_X10_fail
set_option maxRecDepth 20000 in
theorem ggX10_work_X10_in : GoodIn wsX10_work wsX10_in := goodIn_r _ [20] (by decide +kernel) (by decide +kernel)
set_option maxRecDepth 20000 in
theorem gX10_work_X10_in : GoodIn wsX10_work (va_wsS RX10 123 yX10_in wsX10_in) := goodIn_app (goodIn_of _ (by decide +kernel)) ggX10_work_X10_in
set_option maxRecDepth 20000 in
theorem ggX10_work_X10_run : GoodIn wsX10_work wsX10_run := goodIn_r _ [28, 29, 30, 31, 32, 33, 34, 35, 36, 37, 38, 39, 15, 40, 41, 42, 43, 44, 45, 46, 47, 48, 49, 5, 7, 50, 51, 52, 53, 54, 55, 56, 57, 58, 59, 60, 61, 62, 63, 64, 65, 66, 67, 68, 69, 70, 71, 72, 73, 74, 75, 76, 77, 78, 79, 80, 81, 82, 83, 84, 85, 86, 87, 88, 89, 90, 91, 92, 93, 94, 95, 96, 97, 98, 99, 100, 101, 102, 103, 104, 105, 106, 107, 108, 109, 110, 111, 112, 113, 114, 115, 116, 117, 118, 119, 120, 121, 122, 123, 124, 125, 126, 127, 128, 129, 130, 131, 132, 133, 134, 135, 136, 137, 138, 139] (by decide +kernel) (by decide +kernel)
set_option maxRecDepth 20000 in
theorem gX10_work_X10_run : GoodIn wsX10_work (wsV RX10 206 RX10 yX10_run wsX10_run) := goodIn_app (goodIn_of _ (by decide +kernel)) ggX10_work_X10_run
set_option maxRecDepth 20000 in
theorem ggX10_letterCell_X10_cell : GoodIn wsX10_letterCell wsX10_cell := goodIn_r _ [5, 6, 7, 8, 9, 10, 11, 12, 13, 14, 15, 16, 17, 18, 19, 20, 21, 22, 23, 24, 25, 26, 27, 28, 29, 30, 31, 32, 33, 34, 35, 36, 37, 38, 39, 40, 41, 42, 43, 44, 45, 46, 47, 48, 49, 50, 51, 52, 53, 54, 55, 56, 57, 58, 59, 60, 61, 62, 63, 64, 65, 66, 67, 68, 69] (by decide +kernel) (by decide +kernel)
set_option maxRecDepth 20000 in
theorem gX10_letterCell_X10_cell : GoodIn wsX10_letterCell (wsV RX10 236 RX10 yX10_cell wsX10_cell) := goodIn_app (goodIn_of _ (by decide +kernel)) ggX10_letterCell_X10_cell
set_option maxRecDepth 20000 in
theorem ggX10_functionCell_X10_cell : GoodIn wsX10_functionCell wsX10_cell := goodIn_r _ [6, 7, 8, 9, 10, 11, 12, 13, 14, 15, 16, 17, 18, 19, 20, 21, 22, 23, 24, 25, 26, 27, 28, 29, 30, 31, 32, 33, 34, 35, 36, 37, 38, 39, 40, 41, 42, 43, 44, 45, 46, 47, 48, 49, 50, 51, 52, 53, 54, 55, 56, 57, 58, 59, 60, 61, 62, 63, 64, 65, 66, 67, 68, 69, 70] (by decide +kernel) (by decide +kernel)
set_option maxRecDepth 20000 in
theorem gX10_functionCell_X10_cell : GoodIn wsX10_functionCell (wsV RX10 236 RX10 yX10_cell wsX10_cell) := goodIn_app (goodIn_of _ (by decide +kernel)) ggX10_functionCell_X10_cell
set_option maxRecDepth 20000 in
theorem ggX10_contains_X10_end : GoodIn wsX10_contains wsX10_end := goodIn_r _ [11, 12, 13, 14, 15, 16, 17, 18, 19, 20, 21, 22, 23, 24, 25, 26, 27, 28, 29, 30, 31, 32, 33, 34, 35, 36, 37, 38, 39, 40, 41, 42, 43, 44, 45, 46, 47, 48, 49, 50, 51, 52, 53, 54, 55, 56, 57, 58, 59, 60, 61, 62, 63, 64, 65, 66, 67, 68, 69, 70, 71, 72] (by decide +kernel) (by decide +kernel)
set_option maxRecDepth 20000 in
theorem gX10_contains_X10_end : GoodIn wsX10_contains (wsV RX10 239 RX10 yX10_end wsX10_end) := goodIn_app (goodIn_of _ (by decide +kernel)) ggX10_contains_X10_end
set_option maxRecDepth 20000 in
theorem ggX10_equal_X10_end : GoodIn wsX10_equal wsX10_end := goodIn_r _ [10, 4, 19, 20, 21, 22, 23, 24, 25, 26, 27, 28, 29, 30, 31, 32, 33, 34, 35, 36, 37, 38, 39, 40, 41, 42, 43, 44, 45, 46, 47, 48, 49, 50, 51, 52, 53, 54, 55, 56, 57, 58, 59, 60, 61, 62, 63, 64, 65, 66, 67, 68, 69, 70, 71, 72, 73, 74, 75, 76, 77, 78] (by decide +kernel) (by decide +kernel)
set_option maxRecDepth 20000 in
theorem gX10_equal_X10_end : GoodIn wsX10_equal (wsV RX10 239 RX10 yX10_end wsX10_end) := goodIn_app (goodIn_of _ (by decide +kernel)) ggX10_equal_X10_end
set_option maxRecDepth 20000 in
theorem ggX10_equal_X10_contains : GoodIn wsX10_equal wsX10_contains := goodIn_r _ [14, 15, 16, 17, 18, 3, 5, 6, 7, 8, 9, 10, 4, 19, 20, 21, 22, 23, 24, 25, 26, 27, 28, 29, 30, 31, 32, 33, 34, 35, 36, 37, 38, 39, 40, 41, 42, 43, 44, 45, 46, 47, 48, 49, 50, 51, 52, 53, 54, 55, 56, 57, 58, 59, 60, 61, 62, 63, 64, 65, 66, 67, 68, 69, 70, 71, 72, 73, 74, 75, 76, 77, 78] (by decide +kernel) (by decide +kernel)
set_option maxRecDepth 20000 in
theorem gX10_equal_X10_contains : GoodIn wsX10_equal (wsV RX10 245 RX10 yX10_contains wsX10_contains) := goodIn_app (goodIn_of _ (by decide +kernel)) ggX10_equal_X10_contains
set_option maxRecDepth 20000 in
theorem ggX10_endless_X10_end : GoodIn wsX10_endless wsX10_end := goodIn_r _ [11, 5, 12, 13, 14, 15, 16, 17, 18, 19, 20, 21, 22, 23, 24, 25, 26, 27, 28, 29, 30, 31, 32, 33, 34, 35, 36, 37, 38, 39, 40, 41, 42, 43, 44, 45, 46, 47, 48, 49, 50, 51, 52, 53, 54, 55, 56, 57, 58, 59, 60, 61, 62, 63, 64, 65, 66, 67, 68, 69, 70, 71] (by decide +kernel) (by decide +kernel)
set_option maxRecDepth 20000 in
theorem gX10_endless_X10_end : GoodIn wsX10_endless (wsV RX10 239 RX10 yX10_end wsX10_end) := goodIn_app (goodIn_of _ (by decide +kernel)) ggX10_endless_X10_end
set_option maxRecDepth 20000 in
theorem ggX10_variable_X10_equal : GoodIn wsX10_variable wsX10_equal := goodIn_r _ [8, 9, 10, 11, 12, 13, 14, 15, 16, 7, 17, 18, 19, 20, 21, 22, 23, 24, 25, 38, 39, 40, 41, 42, 43, 44, 45, 46, 47, 48, 49, 50, 51, 52, 53, 54, 55, 56, 57, 58, 59, 60, 61, 62, 63, 64, 65, 66, 67, 68, 69, 70, 71, 72, 73, 74, 75, 76, 77, 78, 79, 80, 81, 82, 83, 84, 85, 86, 87, 88, 89, 90, 91, 92, 93, 94, 95, 96, 97] (by decide +kernel) (by decide +kernel)
set_option maxRecDepth 20000 in
theorem gX10_variable_X10_equal : GoodIn wsX10_variable (wsV RX10 255 RX10 yX10_equal wsX10_equal) := goodIn_app (goodIn_of _ (by decide +kernel)) ggX10_variable_X10_equal
set_option maxRecDepth 20000 in
theorem ggX10_variable_X10_letterCell : GoodIn wsX10_variable wsX10_letterCell := goodIn_r _ [29, 30, 31, 32, 7, 33, 22, 23, 11, 12, 38, 39, 40, 41, 42, 43, 44, 45, 46, 47, 48, 49, 50, 51, 52, 53, 54, 55, 56, 57, 58, 59, 60, 61, 62, 63, 64, 65, 66, 67, 68, 69, 70, 71, 72, 73, 74, 75, 76, 77, 78, 79, 80, 81, 82, 83, 84, 85, 86, 87, 88, 89, 90, 91, 92, 93, 94, 95, 96, 97] (by decide +kernel) (by decide +kernel)
set_option maxRecDepth 20000 in
theorem gX10_variable_X10_letterCell : GoodIn wsX10_variable (wsV RX10 258 RX10 yX10_letterCell wsX10_letterCell) := goodIn_app (goodIn_of _ (by decide +kernel)) ggX10_variable_X10_letterCell
set_option maxRecDepth 20000 in
theorem ggX10_variable_X10_functionCell : GoodIn wsX10_variable wsX10_functionCell := goodIn_r _ [37, 13, 30, 31, 32, 7, 33, 22, 23, 11, 12, 38, 39, 40, 41, 42, 43, 44, 45, 46, 47, 48, 49, 50, 51, 52, 53, 54, 55, 56, 57, 58, 59, 60, 61, 62, 63, 64, 65, 66, 67, 68, 69, 70, 71, 72, 73, 74, 75, 76, 77, 78, 79, 80, 81, 82, 83, 84, 85, 86, 87, 88, 89, 90, 91, 92, 93, 94, 95, 96, 97] (by decide +kernel) (by decide +kernel)
set_option maxRecDepth 20000 in
theorem gX10_variable_X10_functionCell : GoodIn wsX10_variable (wsV RX10 261 RX10 yX10_functionCell wsX10_functionCell) := goodIn_app (goodIn_of _ (by decide +kernel)) ggX10_variable_X10_functionCell
set_option maxRecDepth 20000 in
theorem ggX10_function_X10_letterCell : GoodIn wsX10_function wsX10_letterCell := goodIn_r _ [6, 7, 8, 9, 5, 10, 11, 12, 13, 14, 54, 55, 56, 57, 58, 59, 60, 61, 62, 63, 64, 65, 66, 67, 68, 69, 70, 71, 72, 73, 74, 75, 76, 77, 78, 79, 80, 81, 82, 83, 84, 85, 86, 87, 88, 89, 90, 91, 92, 93, 94, 95, 96, 97, 98, 99, 100, 101, 102, 103, 104, 105, 106, 107, 108, 109, 110, 111, 112, 113] (by decide +kernel) (by decide +kernel)
set_option maxRecDepth 20000 in
theorem gX10_function_X10_letterCell : GoodIn wsX10_function (wsV RX10 258 RX10 yX10_letterCell wsX10_letterCell) := goodIn_app (goodIn_of _ (by decide +kernel)) ggX10_function_X10_letterCell
set_option maxRecDepth 20000 in
theorem ggX10_function_X10_functionCell : GoodIn wsX10_function wsX10_functionCell := goodIn_r _ [18, 19, 7, 8, 9, 5, 10, 11, 12, 13, 14, 54, 55, 56, 57, 58, 59, 60, 61, 62, 63, 64, 65, 66, 67, 68, 69, 70, 71, 72, 73, 74, 75, 76, 77, 78, 79, 80, 81, 82, 83, 84, 85, 86, 87, 88, 89, 90, 91, 92, 93, 94, 95, 96, 97, 98, 99, 100, 101, 102, 103, 104, 105, 106, 107, 108, 109, 110, 111, 112, 113] (by decide +kernel) (by decide +kernel)
set_option maxRecDepth 20000 in
theorem gX10_function_X10_functionCell : GoodIn wsX10_function (wsV RX10 261 RX10 yX10_functionCell wsX10_functionCell) := goodIn_app (goodIn_of _ (by decide +kernel)) ggX10_function_X10_functionCell
set_option maxRecDepth 20000 in
theorem ggX10_function_X10_equal : GoodIn wsX10_function wsX10_equal := goodIn_r _ [23, 24, 25, 13, 14, 19, 26, 27, 28, 5, 29, 30, 31, 32, 33, 11, 12, 34, 35, 54, 55, 56, 57, 58, 59, 60, 61, 62, 63, 64, 65, 66, 67, 68, 69, 70, 71, 72, 73, 74, 75, 76, 77, 78, 79, 80, 81, 82, 83, 84, 85, 86, 87, 88, 89, 90, 91, 92, 93, 94, 95, 96, 97, 98, 99, 100, 101, 102, 103, 104, 105, 106, 107, 108, 109, 110, 111, 112, 113] (by decide +kernel) (by decide +kernel)
set_option maxRecDepth 20000 in
theorem gX10_function_X10_equal : GoodIn wsX10_function (wsV RX10 255 RX10 yX10_equal wsX10_equal) := goodIn_app (goodIn_of _ (by decide +kernel)) ggX10_function_X10_equal
set_option maxRecDepth 20000 in
theorem ggX10_function_X10_place : GoodIn wsX10_function wsX10_place := goodIn_r _ [39, 40, 41, 42, 43, 54, 55, 56, 57, 58, 59, 60, 61, 62, 63, 64, 65, 66, 67, 68, 69, 70, 71, 72, 73, 74, 75, 76, 77, 78, 79, 80, 81, 82, 83, 84, 85, 86, 87, 88, 89, 90, 91, 92, 93, 94, 95, 96, 97, 98, 99, 100, 101, 102, 103, 104, 105, 106, 107, 108, 109, 110, 111, 112, 113] (by decide +kernel) (by decide +kernel)
set_option maxRecDepth 20000 in
theorem gX10_function_X10_place : GoodIn wsX10_function (wsV RX10 264 RX10 yX10_place wsX10_place) := goodIn_app (goodIn_of _ (by decide +kernel)) ggX10_function_X10_place
set_option maxRecDepth 20000 in
theorem ggX10_function_X10_goal : GoodIn wsX10_function wsX10_goal := goodIn_r _ [47, 48, 49, 50, 51, 52, 53, 54, 55, 56, 57, 58, 59, 60, 61, 62, 63, 64, 65, 66, 67, 68, 69, 70, 71, 72, 73, 74, 75, 76, 77, 78, 79, 80, 81, 82, 83, 84, 85, 86, 87, 88, 89, 90, 91, 92, 93, 94, 95, 96, 97, 98, 99, 100, 101, 102, 103, 104, 105, 106, 107, 108, 109, 110, 111, 112, 113] (by decide +kernel) (by decide +kernel)
set_option maxRecDepth 20000 in
theorem gX10_function_X10_goal : GoodIn wsX10_function (wsV RX10 267 RX10 yX10_goal wsX10_goal) := goodIn_app (goodIn_of _ (by decide +kernel)) ggX10_function_X10_goal
set_option maxRecDepth 20000 in
theorem ggX10_solve_X10_in : GoodIn wsX10_solve wsX10_in := goodIn_r _ [12] (by decide +kernel) (by decide +kernel)
set_option maxRecDepth 20000 in
theorem gX10_solve_X10_in : GoodIn wsX10_solve (va_wsS RX10 123 yX10_in wsX10_in) := goodIn_app (goodIn_of _ (by decide +kernel)) ggX10_solve_X10_in
set_option maxRecDepth 20000 in
theorem ggX10_solve_X10_equal : GoodIn wsX10_solve wsX10_equal := goodIn_r _ [16, 17, 18, 19, 20, 21, 22, 23, 24, 11, 25, 26, 27, 28, 29, 30, 31, 32, 33, 72, 73, 74, 75, 76, 77, 78, 79, 80, 81, 82, 83, 84, 85, 86, 87, 88, 89, 90, 91, 92, 93, 94, 95, 96, 97, 98, 99, 100, 101, 102, 103, 104, 105, 106, 107, 108, 109, 110, 111, 112, 113, 114, 115, 116, 117, 118, 119, 120, 121, 122, 123, 124, 125, 126, 127, 128, 129, 130, 131] (by decide +kernel) (by decide +kernel)
set_option maxRecDepth 20000 in
theorem gX10_solve_X10_equal : GoodIn wsX10_solve (wsV RX10 255 RX10 yX10_equal wsX10_equal) := goodIn_app (goodIn_of _ (by decide +kernel)) ggX10_solve_X10_equal
set_option maxRecDepth 20000 in
theorem ggX10_solve_X10_cell : GoodIn wsX10_solve wsX10_cell := goodIn_r _ [37, 30, 31, 19, 20, 72, 73, 74, 75, 76, 77, 78, 79, 80, 81, 82, 83, 84, 85, 86, 87, 88, 89, 90, 91, 92, 93, 94, 95, 96, 97, 98, 99, 100, 101, 102, 103, 104, 105, 106, 107, 108, 109, 110, 111, 112, 113, 114, 115, 116, 117, 118, 119, 120, 121, 122, 123, 124, 125, 126, 127, 128, 129, 130, 131] (by decide +kernel) (by decide +kernel)
set_option maxRecDepth 20000 in
theorem gX10_solve_X10_cell : GoodIn wsX10_solve (wsV RX10 236 RX10 yX10_cell wsX10_cell) := goodIn_app (goodIn_of _ (by decide +kernel)) ggX10_solve_X10_cell
set_option maxRecDepth 20000 in
theorem ggX10_solve_X10_variable : GoodIn wsX10_solve wsX10_variable := goodIn_r _ [41, 42, 43, 44, 13, 14, 15, 11, 16, 17, 18, 19, 20, 21, 22, 23, 24, 25, 26, 27, 28, 29, 30, 31, 32, 33, 45, 46, 47, 48, 34, 35, 36, 37, 49, 50, 51, 52, 72, 73, 74, 75, 76, 77, 78, 79, 80, 81, 82, 83, 84, 85, 86, 87, 88, 89, 90, 91, 92, 93, 94, 95, 96, 97, 98, 99, 100, 101, 102, 103, 104, 105, 106, 107, 108, 109, 110, 111, 112, 113, 114, 115, 116, 117, 118, 119, 120, 121, 122, 123, 124, 125, 126, 127, 128, 129, 130, 131] (by decide +kernel) (by decide +kernel)
set_option maxRecDepth 20000 in
theorem gX10_solve_X10_variable : GoodIn wsX10_solve (wsV RX10 270 RX10 yX10_variable wsX10_variable) := goodIn_app (goodIn_of _ (by decide +kernel)) ggX10_solve_X10_variable
set_option maxRecDepth 20000 in
theorem ggX10_solve_X10_function : GoodIn wsX10_solve wsX10_function := goodIn_r _ [56, 8, 45, 46, 47, 11, 48, 34, 35, 36, 37, 30, 31, 19, 20, 49, 50, 51, 52, 21, 13, 14, 15, 16, 17, 18, 22, 23, 24, 25, 26, 27, 28, 29, 32, 33, 57, 58, 59, 60, 61, 44, 43, 42, 62, 63, 64, 65, 2, 1, 3, 4, 5, 6, 72, 73, 74, 75, 76, 77, 78, 79, 80, 81, 82, 83, 84, 85, 86, 87, 88, 89, 90, 91, 92, 93, 94, 95, 96, 97, 98, 99, 100, 101, 102, 103, 104, 105, 106, 107, 108, 109, 110, 111, 112, 113, 114, 115, 116, 117, 118, 119, 120, 121, 122, 123, 124, 125, 126, 127, 128, 129, 130, 131] (by decide +kernel) (by decide +kernel)
set_option maxRecDepth 20000 in
theorem gX10_solve_X10_function : GoodIn wsX10_solve (wsV RX10 274 RX10 yX10_function wsX10_function) := goodIn_app (goodIn_of _ (by decide +kernel)) ggX10_solve_X10_function
set_option maxRecDepth 20000 in
theorem ggX10_solve_X10_letterCell : GoodIn wsX10_solve wsX10_letterCell := goodIn_r _ [48, 34, 35, 36, 11, 37, 30, 31, 19, 20, 72, 73, 74, 75, 76, 77, 78, 79, 80, 81, 82, 83, 84, 85, 86, 87, 88, 89, 90, 91, 92, 93, 94, 95, 96, 97, 98, 99, 100, 101, 102, 103, 104, 105, 106, 107, 108, 109, 110, 111, 112, 113, 114, 115, 116, 117, 118, 119, 120, 121, 122, 123, 124, 125, 126, 127, 128, 129, 130, 131] (by decide +kernel) (by decide +kernel)
set_option maxRecDepth 20000 in
theorem gX10_solve_X10_letterCell : GoodIn wsX10_solve (wsV RX10 258 RX10 yX10_letterCell wsX10_letterCell) := goodIn_app (goodIn_of _ (by decide +kernel)) ggX10_solve_X10_letterCell
set_option maxRecDepth 20000 in
theorem ggX10_solve_X10_goal : GoodIn wsX10_solve wsX10_goal := goodIn_r _ [65, 2, 1, 3, 4, 5, 6, 72, 73, 74, 75, 76, 77, 78, 79, 80, 81, 82, 83, 84, 85, 86, 87, 88, 89, 90, 91, 92, 93, 94, 95, 96, 97, 98, 99, 100, 101, 102, 103, 104, 105, 106, 107, 108, 109, 110, 111, 112, 113, 114, 115, 116, 117, 118, 119, 120, 121, 122, 123, 124, 125, 126, 127, 128, 129, 130, 131] (by decide +kernel) (by decide +kernel)
set_option maxRecDepth 20000 in
theorem gX10_solve_X10_goal : GoodIn wsX10_solve (wsV RX10 267 RX10 yX10_goal wsX10_goal) := goodIn_app (goodIn_of _ (by decide +kernel)) ggX10_solve_X10_goal
set_option maxRecDepth 20000 in
theorem ggX10_solve_X10_place : GoodIn wsX10_solve wsX10_place := goodIn_r _ [60, 61, 44, 43, 42, 72, 73, 74, 75, 76, 77, 78, 79, 80, 81, 82, 83, 84, 85, 86, 87, 88, 89, 90, 91, 92, 93, 94, 95, 96, 97, 98, 99, 100, 101, 102, 103, 104, 105, 106, 107, 108, 109, 110, 111, 112, 113, 114, 115, 116, 117, 118, 119, 120, 121, 122, 123, 124, 125, 126, 127, 128, 129, 130, 131] (by decide +kernel) (by decide +kernel)
set_option maxRecDepth 20000 in
theorem gX10_solve_X10_place : GoodIn wsX10_solve (wsV RX10 264 RX10 yX10_place wsX10_place) := goodIn_app (goodIn_of _ (by decide +kernel)) ggX10_solve_X10_place
set_option maxRecDepth 20000 in
theorem ggX10_solve_X10_solveTwo : GoodIn wsX10_solve wsX10_solveTwo := goodIn_r _ [69, 4, 1, 5, 6, 8, 70, 71, 45, 46, 47, 11, 48, 34, 35, 36, 37, 30, 31, 19, 20, 49, 50, 51, 52, 21, 62, 63, 64, 65, 2, 3, 57, 58, 59, 60, 61, 44, 43, 42, 13, 14, 15, 16, 17, 18, 22, 23, 24, 25, 26, 27, 28, 29, 32, 33, 72, 73, 74, 75, 76, 77, 78, 79, 80, 81, 82, 83, 84, 85, 86, 87, 88, 89, 90, 91, 92, 93, 94, 95, 96, 97, 98, 99, 100, 101, 102, 103, 104, 105, 106, 107, 108, 109, 110, 111, 112, 113, 114, 115, 116, 117, 118, 119, 120, 121, 122, 123, 124, 125, 126, 127, 128, 129, 130, 131] (by decide +kernel) (by decide +kernel)
set_option maxRecDepth 20000 in
theorem gX10_solve_X10_solveTwo : GoodIn wsX10_solve (wsV RX10 278 RX10 yX10_solveTwo wsX10_solveTwo) := goodIn_app (goodIn_of _ (by decide +kernel)) ggX10_solve_X10_solveTwo
set_option maxRecDepth 20000 in
theorem ggX10_solveTwo_X10_letterCell : GoodIn wsX10_solveTwo wsX10_letterCell := goodIn_r _ [12, 13, 14, 15, 11, 16, 17, 18, 19, 20, 56, 57, 58, 59, 60, 61, 62, 63, 64, 65, 66, 67, 68, 69, 70, 71, 72, 73, 74, 75, 76, 77, 78, 79, 80, 81, 82, 83, 84, 85, 86, 87, 88, 89, 90, 91, 92, 93, 94, 95, 96, 97, 98, 99, 100, 101, 102, 103, 104, 105, 106, 107, 108, 109, 110, 111, 112, 113, 114, 115] (by decide +kernel) (by decide +kernel)
set_option maxRecDepth 20000 in
theorem gX10_solveTwo_X10_letterCell : GoodIn wsX10_solveTwo (wsV RX10 258 RX10 yX10_letterCell wsX10_letterCell) := goodIn_app (goodIn_of _ (by decide +kernel)) ggX10_solveTwo_X10_letterCell
set_option maxRecDepth 20000 in
theorem ggX10_solveTwo_X10_functionCell : GoodIn wsX10_solveTwo wsX10_functionCell := goodIn_r _ [24, 25, 13, 14, 15, 11, 16, 17, 18, 19, 20, 56, 57, 58, 59, 60, 61, 62, 63, 64, 65, 66, 67, 68, 69, 70, 71, 72, 73, 74, 75, 76, 77, 78, 79, 80, 81, 82, 83, 84, 85, 86, 87, 88, 89, 90, 91, 92, 93, 94, 95, 96, 97, 98, 99, 100, 101, 102, 103, 104, 105, 106, 107, 108, 109, 110, 111, 112, 113, 114, 115] (by decide +kernel) (by decide +kernel)
set_option maxRecDepth 20000 in
theorem gX10_solveTwo_X10_functionCell : GoodIn wsX10_solveTwo (wsV RX10 261 RX10 yX10_functionCell wsX10_functionCell) := goodIn_app (goodIn_of _ (by decide +kernel)) ggX10_solveTwo_X10_functionCell
set_option maxRecDepth 20000 in
theorem ggX10_solveTwo_X10_goal : GoodIn wsX10_solveTwo wsX10_goal := goodIn_r _ [29, 30, 2, 31, 1, 3, 4, 56, 57, 58, 59, 60, 61, 62, 63, 64, 65, 66, 67, 68, 69, 70, 71, 72, 73, 74, 75, 76, 77, 78, 79, 80, 81, 82, 83, 84, 85, 86, 87, 88, 89, 90, 91, 92, 93, 94, 95, 96, 97, 98, 99, 100, 101, 102, 103, 104, 105, 106, 107, 108, 109, 110, 111, 112, 113, 114, 115] (by decide +kernel) (by decide +kernel)
set_option maxRecDepth 20000 in
theorem gX10_solveTwo_X10_goal : GoodIn wsX10_solveTwo (wsV RX10 267 RX10 yX10_goal wsX10_goal) := goodIn_app (goodIn_of _ (by decide +kernel)) ggX10_solveTwo_X10_goal
set_option maxRecDepth 20000 in
theorem ggX10_solveTwo_X10_place : GoodIn wsX10_solveTwo wsX10_place := goodIn_r _ [35, 36, 37, 38, 39, 56, 57, 58, 59, 60, 61, 62, 63, 64, 65, 66, 67, 68, 69, 70, 71, 72, 73, 74, 75, 76, 77, 78, 79, 80, 81, 82, 83, 84, 85, 86, 87, 88, 89, 90, 91, 92, 93, 94, 95, 96, 97, 98, 99, 100, 101, 102, 103, 104, 105, 106, 107, 108, 109, 110, 111, 112, 113, 114, 115] (by decide +kernel) (by decide +kernel)
set_option maxRecDepth 20000 in
theorem gX10_solveTwo_X10_place : GoodIn wsX10_solveTwo (wsV RX10 264 RX10 yX10_place wsX10_place) := goodIn_app (goodIn_of _ (by decide +kernel)) ggX10_solveTwo_X10_place
set_option maxRecDepth 20000 in
theorem ggX10_solveTwo_X10_cell : GoodIn wsX10_solveTwo wsX10_cell := goodIn_r _ [16, 17, 18, 19, 20, 56, 57, 58, 59, 60, 61, 62, 63, 64, 65, 66, 67, 68, 69, 70, 71, 72, 73, 74, 75, 76, 77, 78, 79, 80, 81, 82, 83, 84, 85, 86, 87, 88, 89, 90, 91, 92, 93, 94, 95, 96, 97, 98, 99, 100, 101, 102, 103, 104, 105, 106, 107, 108, 109, 110, 111, 112, 113, 114, 115] (by decide +kernel) (by decide +kernel)
set_option maxRecDepth 20000 in
theorem gX10_solveTwo_X10_cell : GoodIn wsX10_solveTwo (wsV RX10 236 RX10 yX10_cell wsX10_cell) := goodIn_app (goodIn_of _ (by decide +kernel)) ggX10_solveTwo_X10_cell
set_option maxRecDepth 20000 in
theorem ggX10_solveTwo_X10_equal : GoodIn wsX10_solveTwo wsX10_equal := goodIn_r _ [43, 44, 45, 19, 20, 25, 46, 47, 48, 11, 49, 50, 51, 52, 53, 17, 18, 54, 55, 56, 57, 58, 59, 60, 61, 62, 63, 64, 65, 66, 67, 68, 69, 70, 71, 72, 73, 74, 75, 76, 77, 78, 79, 80, 81, 82, 83, 84, 85, 86, 87, 88, 89, 90, 91, 92, 93, 94, 95, 96, 97, 98, 99, 100, 101, 102, 103, 104, 105, 106, 107, 108, 109, 110, 111, 112, 113, 114, 115] (by decide +kernel) (by decide +kernel)
set_option maxRecDepth 20000 in
theorem gX10_solveTwo_X10_equal : GoodIn wsX10_solveTwo (wsV RX10 255 RX10 yX10_equal wsX10_equal) := goodIn_app (goodIn_of _ (by decide +kernel)) ggX10_solveTwo_X10_equal
set_option maxRecDepth 20000 in
theorem ggX10_numberLetters_X10_end : GoodIn wsX10_numberLetters wsX10_end := goodIn_r _ [12, 13, 14, 15, 16, 17, 18, 19, 20, 21, 22, 23, 24, 25, 26, 27, 28, 29, 30, 31, 32, 33, 34, 35, 36, 37, 38, 39, 40, 41, 42, 43, 44, 45, 46, 47, 48, 49, 50, 51, 52, 53, 54, 55, 56, 57, 58, 59, 60, 61, 62, 63, 64, 65, 66, 67, 68, 69, 70, 71, 72, 73] (by decide +kernel) (by decide +kernel)
set_option maxRecDepth 20000 in
theorem gX10_numberLetters_X10_end : GoodIn wsX10_numberLetters (wsV RX10 239 RX10 yX10_end wsX10_end) := goodIn_app (goodIn_of _ (by decide +kernel)) ggX10_numberLetters_X10_end
set_option maxRecDepth 20000 in
theorem ggX10_type_X10_isTerm : GoodIn wsX10_type wsX10_isTerm := goodIn_r _ [16, 17, 18, 19, 15, 20, 99, 100, 101, 102, 103, 104, 105, 106, 107, 108, 109, 110, 111, 112, 113, 114, 115, 116, 117, 118, 119, 120, 121, 122, 123, 124, 125, 126, 127, 128, 129, 130, 131, 132, 133, 134, 135, 136, 137, 138, 139, 140, 141, 142, 143, 144, 145, 146, 147, 148, 149, 150, 151, 152, 153, 154, 155, 156, 157, 158] (by decide +kernel) (by decide +kernel)
set_option maxRecDepth 20000 in
theorem gX10_type_X10_isTerm : GoodIn wsX10_type (wsV RX10 127 RX10 yX10_isTerm wsX10_isTerm) := goodIn_app (goodIn_of _ (by decide +kernel)) ggX10_type_X10_isTerm
set_option maxRecDepth 20000 in
theorem ggX10_type_X10_fail : GoodIn wsX10_type wsX10_fail := goodIn_r _ [24, 1, 99, 100, 101, 102, 103, 104, 105, 106, 107, 108, 109, 110, 111, 112, 113, 114, 115, 116, 117, 118, 119, 120, 121, 122, 123, 124, 125, 126, 127, 128, 129, 130, 131, 132, 133, 134, 135, 136, 137, 138, 139, 140, 141, 142, 143, 144, 145, 146, 147, 148, 149, 150, 151, 152, 153, 154, 155, 156, 157, 158] (by decide +kernel) (by decide +kernel)
set_option maxRecDepth 20000 in
theorem gX10_type_X10_fail : GoodIn wsX10_type (wsV RX10 138 RX10 yX10_fail wsX10_fail) := goodIn_app (goodIn_of _ (by decide +kernel)) ggX10_type_X10_fail
set_option maxRecDepth 20000 in
theorem ggX10_type_X10_letterCell : GoodIn wsX10_type wsX10_letterCell := goodIn_r _ [28, 29, 30, 31, 15, 32, 8, 3, 11, 33, 99, 100, 101, 102, 103, 104, 105, 106, 107, 108, 109, 110, 111, 112, 113, 114, 115, 116, 117, 118, 119, 120, 121, 122, 123, 124, 125, 126, 127, 128, 129, 130, 131, 132, 133, 134, 135, 136, 137, 138, 139, 140, 141, 142, 143, 144, 145, 146, 147, 148, 149, 150, 151, 152, 153, 154, 155, 156, 157, 158] (by decide +kernel) (by decide +kernel)
set_option maxRecDepth 20000 in
theorem gX10_type_X10_letterCell : GoodIn wsX10_type (wsV RX10 258 RX10 yX10_letterCell wsX10_letterCell) := goodIn_app (goodIn_of _ (by decide +kernel)) ggX10_type_X10_letterCell
set_option maxRecDepth 20000 in
theorem ggX10_type_X10_goal : GoodIn wsX10_type wsX10_goal := goodIn_r _ [37, 38, 4, 39, 40, 41, 42, 99, 100, 101, 102, 103, 104, 105, 106, 107, 108, 109, 110, 111, 112, 113, 114, 115, 116, 117, 118, 119, 120, 121, 122, 123, 124, 125, 126, 127, 128, 129, 130, 131, 132, 133, 134, 135, 136, 137, 138, 139, 140, 141, 142, 143, 144, 145, 146, 147, 148, 149, 150, 151, 152, 153, 154, 155, 156, 157, 158] (by decide +kernel) (by decide +kernel)
set_option maxRecDepth 20000 in
theorem gX10_type_X10_goal : GoodIn wsX10_type (wsV RX10 267 RX10 yX10_goal wsX10_goal) := goodIn_app (goodIn_of _ (by decide +kernel)) ggX10_type_X10_goal
set_option maxRecDepth 20000 in
theorem ggX10_type_X10_solve : GoodIn wsX10_type wsX10_solve := goodIn_r _ [46, 4, 38, 39, 40, 41, 42, 47, 48, 18, 19, 15, 20, 49, 50, 51, 52, 53, 6, 11, 33, 54, 55, 56, 57, 58, 59, 60, 61, 62, 8, 3, 63, 64, 29, 30, 31, 32, 65, 66, 67, 68, 69, 70, 71, 25, 26, 27, 28, 72, 73, 74, 75, 76, 77, 78, 79, 80, 81, 82, 83, 5, 34, 35, 36, 37, 84, 85, 86, 87, 88, 89, 99, 100, 101, 102, 103, 104, 105, 106, 107, 108, 109, 110, 111, 112, 113, 114, 115, 116, 117, 118, 119, 120, 121, 122, 123, 124, 125, 126, 127, 128, 129, 130, 131, 132, 133, 134, 135, 136, 137, 138, 139, 140, 141, 142, 143, 144, 145, 146, 147, 148, 149, 150, 151, 152, 153, 154, 155, 156, 157, 158] (by decide +kernel) (by decide +kernel)
set_option maxRecDepth 20000 in
theorem gX10_type_X10_solve : GoodIn wsX10_type (wsV RX10 281 RX10 yX10_solve wsX10_solve) := goodIn_app (goodIn_of _ (by decide +kernel)) ggX10_type_X10_solve
set_option maxRecDepth 20000 in
theorem ggX10_type_X10_endless : GoodIn wsX10_type wsX10_endless := goodIn_r _ [93, 8, 3, 63, 11, 33, 54, 55, 56, 57, 15, 58, 99, 100, 101, 102, 103, 104, 105, 106, 107, 108, 109, 110, 111, 112, 113, 114, 115, 116, 117, 118, 119, 120, 121, 122, 123, 124, 125, 126, 127, 128, 129, 130, 131, 132, 133, 134, 135, 136, 137, 138, 139, 140, 141, 142, 143, 144, 145, 146, 147, 148, 149, 150, 151, 152, 153, 154, 155, 156, 157, 158] (by decide +kernel) (by decide +kernel)
set_option maxRecDepth 20000 in
theorem gX10_type_X10_endless : GoodIn wsX10_type (wsV RX10 284 RX10 yX10_endless wsX10_endless) := goodIn_app (goodIn_of _ (by decide +kernel)) ggX10_type_X10_endless
set_option maxRecDepth 20000 in
theorem ggX10_type_X10_numberLetters : GoodIn wsX10_type wsX10_numberLetters := goodIn_r _ [97, 8, 3, 63, 64, 11, 98, 54, 55, 56, 57, 15, 58, 33, 99, 100, 101, 102, 103, 104, 105, 106, 107, 108, 109, 110, 111, 112, 113, 114, 115, 116, 117, 118, 119, 120, 121, 122, 123, 124, 125, 126, 127, 128, 129, 130, 131, 132, 133, 134, 135, 136, 137, 138, 139, 140, 141, 142, 143, 144, 145, 146, 147, 148, 149, 150, 151, 152, 153, 154, 155, 156, 157, 158] (by decide +kernel) (by decide +kernel)
set_option maxRecDepth 20000 in
theorem gX10_type_X10_numberLetters : GoodIn wsX10_type (wsV RX10 291 RX10 yX10_numberLetters wsX10_numberLetters) := goodIn_app (goodIn_of _ (by decide +kernel)) ggX10_type_X10_numberLetters
set_option maxRecDepth 20000 in
theorem ggX10_type_X10_end : GoodIn wsX10_type wsX10_end := goodIn_r _ [58, 33, 99, 100, 101, 102, 103, 104, 105, 106, 107, 108, 109, 110, 111, 112, 113, 114, 115, 116, 117, 118, 119, 120, 121, 122, 123, 124, 125, 126, 127, 128, 129, 130, 131, 132, 133, 134, 135, 136, 137, 138, 139, 140, 141, 142, 143, 144, 145, 146, 147, 148, 149, 150, 151, 152, 153, 154, 155, 156, 157, 158] (by decide +kernel) (by decide +kernel)
set_option maxRecDepth 20000 in
theorem gX10_type_X10_end : GoodIn wsX10_type (wsV RX10 239 RX10 yX10_end wsX10_end) := goodIn_app (goodIn_of _ (by decide +kernel)) ggX10_type_X10_end
set_option maxRecDepth 20000 in
theorem ggX10_part_X10_in : GoodIn wsX10_part wsX10_in := goodIn_r _ [9] (by decide +kernel) (by decide +kernel)
set_option maxRecDepth 20000 in
theorem gX10_part_X10_in : GoodIn wsX10_part (va_wsS RX10 123 yX10_in wsX10_in) := goodIn_app (goodIn_of _ (by decide +kernel)) ggX10_part_X10_in
set_option maxRecDepth 20000 in
theorem ggX10_part_X10_end : GoodIn wsX10_part wsX10_end := goodIn_r _ [13, 14, 18, 19, 20, 21, 22, 23, 24, 25, 26, 27, 28, 29, 30, 31, 32, 33, 34, 35, 36, 37, 38, 39, 40, 41, 42, 43, 44, 45, 46, 47, 48, 49, 50, 51, 52, 53, 54, 55, 56, 57, 58, 59, 60, 61, 62, 63, 64, 65, 66, 67, 68, 69, 70, 71, 72, 73, 74, 75, 76, 77] (by decide +kernel) (by decide +kernel)
set_option maxRecDepth 20000 in
theorem gX10_part_X10_end : GoodIn wsX10_part (wsV RX10 239 RX10 yX10_end wsX10_end) := goodIn_app (goodIn_of _ (by decide +kernel)) ggX10_part_X10_end
set_option maxRecDepth 20000 in
theorem ggX10_part_X10_told : GoodIn wsX10_part wsX10_told := goodIn_r _ [17] (by decide +kernel) (by decide +kernel)
set_option maxRecDepth 20000 in
theorem gX10_part_X10_told : GoodIn wsX10_part (va_wsS RX10 298 yX10_told wsX10_told) := goodIn_app (goodIn_of _ (by decide +kernel)) ggX10_part_X10_told
