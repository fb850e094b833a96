set_option maxRecDepth 20000 in
theorem ggX1_keep_X5_chosen : GoodIn wsX1_keep wsX5_chosen := goodIn_r _ [9, 10, 11, 34, 35, 36, 37, 38, 39, 40, 41, 42] (by decide +kernel) (by decide +kernel)
set_option maxRecDepth 20000 in
theorem gX1_keep_X5_chosen : GoodIn wsX1_keep (wsV RX1 29 RX5 yX5_chosen wsX5_chosen) := goodIn_app (goodIn_of _ (by decide +kernel)) ggX1_keep_X5_chosen
set_option maxRecDepth 20000 in
theorem ggX1_keep_J7_fill_53178 : GoodIn wsX1_keep wsJ7_fill_53178 := goodIn_r _ [15] (by decide +kernel) (by decide +kernel)
set_option maxRecDepth 20000 in
theorem gX1_keep_J7_fill_53178 : GoodIn wsX1_keep (va_wsS RX1 36 yJ7_fill_53178 wsJ7_fill_53178) := goodIn_app (goodIn_of _ (by decide +kernel)) ggX1_keep_J7_fill_53178
set_option maxRecDepth 20000 in
theorem ggX1_keep_X1_keepNode : GoodIn wsX1_keep wsX1_keepNode := goodIn_r _ [20, 3, 21, 2, 22, 4, 23, 24, 25, 8, 26, 27, 28, 6, 7, 9, 10, 11, 29, 30, 31, 32, 33, 34, 35, 36, 37, 38, 39, 40, 41, 42] (by decide +kernel) (by decide +kernel)
set_option maxRecDepth 20000 in
theorem gX1_keep_X1_keepNode : GoodIn wsX1_keep (wsV RX1 42 RX1 yX1_keepNode wsX1_keepNode) := goodIn_app (goodIn_of _ (by decide +kernel)) ggX1_keep_X1_keepNode
set_option maxRecDepth 20000 in
theorem ggX1_keepNode_X5_chosenPart : GoodIn wsX1_keepNode wsX5_chosenPart := goodIn_r _ [10, 11, 12, 13, 14, 9, 15, 16, 17, 23, 24, 25, 26, 27, 28, 29, 30, 31] (by decide +kernel) (by decide +kernel)
set_option maxRecDepth 20000 in
theorem gX1_keepNode_X5_chosenPart : GoodIn wsX1_keepNode (wsV RX1 49 RX5 yX5_chosenPart wsX5_chosenPart) := goodIn_app (goodIn_of _ (by decide +kernel)) ggX1_keepNode_X5_chosenPart
set_option maxRecDepth 20000 in
theorem ggX2_init_X7_init : GoodIn wsX2_init wsX7_init := goodIn_r _ [20, 21, 2, 3, 16, 22, 23, 24, 37, 38, 39, 40] (by decide +kernel) (by decide +kernel)
set_option maxRecDepth 20000 in
theorem gX2_init_X7_init_n13 : GoodIn wsX2_init (wsX7_init) := ggX2_init_X7_init
set_option maxRecDepth 20000 in
theorem ggX2_init_X3_init : GoodIn wsX2_init wsX3_init := goodIn_r _ [26, 27, 2, 3, 16, 28, 29, 54, 55, 56] (by decide +kernel) (by decide +kernel)
set_option maxRecDepth 20000 in
theorem gX2_init_X3_init_n20 : GoodIn wsX2_init (wsX3_init) := ggX2_init_X3_init
set_option maxRecDepth 20000 in
theorem ggX2_init_X8_init : GoodIn wsX2_init wsX8_init := goodIn_r _ [31, 32, 2, 3, 16, 33, 34, 35, 36, 57, 58, 59, 60, 61] (by decide +kernel) (by decide +kernel)
set_option maxRecDepth 20000 in
theorem gX2_init_X8_init_n27 : GoodIn wsX2_init (wsX8_init) := ggX2_init_X8_init
set_option maxRecDepth 20000 in
theorem ggX2_workOut_X7_clear : GoodIn wsX2_workOut wsX7_clear := goodIn_r _ [13, 14, 118, 119, 120, 121] (by decide +kernel) (by decide +kernel)
set_option maxRecDepth 20000 in
theorem gX2_workOut_X7_clear : GoodIn wsX2_workOut (wsV RX2 40 RX7 yX7_clear wsX7_clear) := goodIn_app (goodIn_of _ (by decide +kernel)) ggX2_workOut_X7_clear
set_option maxRecDepth 20000 in
theorem ggX2_workOut_X3_clear : GoodIn wsX2_workOut wsX3_clear := goodIn_r _ [19, 20, 122, 123, 124] (by decide +kernel) (by decide +kernel)
set_option maxRecDepth 20000 in
theorem gX2_workOut_X3_clear : GoodIn wsX2_workOut (wsV RX2 43 RX3 yX3_clear wsX3_clear) := goodIn_app (goodIn_of _ (by decide +kernel)) ggX2_workOut_X3_clear
set_option maxRecDepth 20000 in
theorem ggX2_workOut_X8_clear : GoodIn wsX2_workOut wsX8_clear := goodIn_r _ [25, 26, 125, 126, 127, 128, 129] (by decide +kernel) (by decide +kernel)
set_option maxRecDepth 20000 in
theorem gX2_workOut_X8_clear : GoodIn wsX2_workOut (wsV RX2 44 RX8 yX8_clear wsX8_clear) := goodIn_app (goodIn_of _ (by decide +kernel)) ggX2_workOut_X8_clear
set_option maxRecDepth 20000 in
theorem ggX2_workOut_X2_goTo : GoodIn wsX2_workOut wsX2_goTo := goodIn_r _ [31, 32, 33, 34, 105, 106, 107, 108, 109, 110, 111, 112, 113, 114, 115, 116, 117] (by decide +kernel) (by decide +kernel)
set_option maxRecDepth 20000 in
theorem gX2_workOut_X2_goTo : GoodIn wsX2_workOut (wsV RX2 61 RX2 yX2_goTo wsX2_goTo) := goodIn_app (goodIn_of _ (by decide +kernel)) ggX2_workOut_X2_goTo
set_option maxRecDepth 20000 in
theorem ggX2_workOut_X2_doRound : GoodIn wsX2_workOut wsX2_doRound := goodIn_r _ [38, 34, 5, 6, 8, 7, 39, 40, 41, 30, 42, 4, 43, 44, 45, 46, 47, 48, 49, 32, 50, 1, 2, 33, 3, 51, 52, 53, 12, 54, 55, 14, 56, 57, 58, 59, 60, 18, 61, 62, 63, 64, 65, 66, 67, 68, 69, 70, 71, 20, 72, 73, 74, 24, 75, 76, 26, 77, 78, 79, 80, 81, 82, 83, 84, 85, 86, 87, 88, 89, 90, 91, 92, 93, 94, 95, 27, 28, 29, 31, 96, 97, 98, 99, 100, 101, 102, 103, 104, 105, 106, 107, 108, 109, 110, 111, 112, 113, 114, 115, 116, 117, 130, 131, 132, 133, 134, 135, 136, 137, 118, 119, 120, 121, 122, 123, 124, 125, 126, 127, 128, 129] (by decide +kernel) (by decide +kernel)
set_option maxRecDepth 20000 in
theorem gX2_workOut_X2_doRound : GoodIn wsX2_workOut (wsV RX2 65 RX2 yX2_doRound wsX2_doRound) := goodIn_app (goodIn_of _ (by decide +kernel)) ggX2_workOut_X2_doRound
set_option maxRecDepth 20000 in
theorem ggX2_plainResult_X2_resultForm : GoodIn wsX2_plainResult wsX2_resultForm := goodIn_r _ [8, 1, 9, 3, 10, 11, 12, 13, 14, 15, 16, 17, 18, 19, 20, 21, 22, 23, 24, 25, 26, 27, 28, 29, 30] (by decide +kernel) (by decide +kernel)
set_option maxRecDepth 20000 in
theorem gX2_plainResult_X2_resultForm : GoodIn wsX2_plainResult (wsV RX2 80 RX2 yX2_resultForm wsX2_resultForm) := goodIn_app (goodIn_of _ (by decide +kernel)) ggX2_plainResult_X2_resultForm
set_option maxRecDepth 20000 in
theorem ggX2_doRound_X2_leaveMark : GoodIn wsX2_doRound wsX2_leaveMark := goodIn_r _ [10, 11, 4, 12, 2, 89, 90, 91, 92, 93, 94, 95, 96, 97, 98, 99, 100, 101] (by decide +kernel) (by decide +kernel)
set_option maxRecDepth 20000 in
theorem gX2_doRound_X2_leaveMark : GoodIn wsX2_doRound (wsV RX2 87 RX2 yX2_leaveMark wsX2_leaveMark) := goodIn_app (goodIn_of _ (by decide +kernel)) ggX2_doRound_X2_leaveMark
set_option maxRecDepth 20000 in
theorem ggX2_doRound_X2_beginTerm : GoodIn wsX2_doRound wsX2_beginTerm := goodIn_r _ [16, 17, 18, 19, 20, 21, 1, 22, 23, 2, 24, 25, 26, 27, 28, 29, 30, 31, 32, 33, 34, 35, 36, 37, 38, 39, 40, 41, 42, 43, 9, 44, 12, 11, 45, 46, 47, 48, 49, 50, 51, 52, 53, 54, 55, 56, 57, 58, 59, 89, 90, 91, 92, 93, 94, 95, 96, 97, 98, 99, 100, 101, 102, 103, 104, 105, 106, 107, 108, 109, 110, 111, 112, 113, 114, 115, 116, 117, 118, 119, 120, 121] (by decide +kernel) (by decide +kernel)
set_option maxRecDepth 20000 in
theorem gX2_doRound_X2_beginTerm : GoodIn wsX2_doRound (wsV RX2 90 RX2 yX2_beginTerm wsX2_beginTerm) := goodIn_app (goodIn_of _ (by decide +kernel)) ggX2_doRound_X2_beginTerm
set_option maxRecDepth 20000 in
theorem ggX2_doRound_X2_bringValue : GoodIn wsX2_doRound wsX2_bringValue := goodIn_r _ [63, 2, 24, 64, 17, 20, 65, 66, 67, 22, 1, 68, 69, 70, 71, 9, 72, 21, 73, 4, 74, 75, 76, 77, 78, 79, 19, 23, 45, 46, 47, 37, 48, 40, 49, 39, 50, 51, 52, 53, 54, 55, 56, 57, 58, 59, 80, 81, 82, 83, 84, 18, 41, 42, 43, 44, 12, 11, 85, 86, 87, 88, 25, 26, 27, 28, 29, 30, 31, 32, 33, 89, 90, 91, 92, 93, 94, 95, 96, 97, 98, 99, 100, 101, 117, 118, 119, 120, 121, 102, 103, 104, 105, 106, 107, 108, 109, 110, 111, 112, 113, 114, 115, 116] (by decide +kernel) (by decide +kernel)
set_option maxRecDepth 20000 in
theorem gX2_doRound_X2_bringValue : GoodIn wsX2_doRound (wsV RX2 93 RX2 yX2_bringValue wsX2_bringValue) := goodIn_app (goodIn_of _ (by decide +kernel)) ggX2_doRound_X2_bringValue
set_option maxRecDepth 20000 in
theorem ggX2_beginTerm_X7_add : GoodIn wsX2_beginTerm wsX7_add := goodIn_r _ [15, 16, 17, 18, 19, 70, 71, 72, 73] (by decide +kernel) (by decide +kernel)
set_option maxRecDepth 20000 in
theorem gX2_beginTerm_X7_add : GoodIn wsX2_beginTerm (wsV RX2 110 RX7 yX7_add wsX7_add) := goodIn_app (goodIn_of _ (by decide +kernel)) ggX2_beginTerm_X7_add
set_option maxRecDepth 20000 in
theorem ggX2_beginTerm_X3_look : GoodIn wsX2_beginTerm wsX3_look := goodIn_r _ [24, 25, 26, 74, 75, 76] (by decide +kernel) (by decide +kernel)
set_option maxRecDepth 20000 in
theorem gX2_beginTerm_X3_look : GoodIn wsX2_beginTerm (wsV RX2 114 RX3 yX3_look wsX3_look) := goodIn_app (goodIn_of _ (by decide +kernel)) ggX2_beginTerm_X3_look
set_option maxRecDepth 20000 in
theorem ggX2_beginTerm_X2_enterMark : GoodIn wsX2_beginTerm wsX2_enterMark := goodIn_r _ [31, 32, 33, 9, 49, 50, 51, 52, 53, 54, 55, 56, 57, 58, 59, 60, 61] (by decide +kernel) (by decide +kernel)
set_option maxRecDepth 20000 in
theorem gX2_beginTerm_X2_enterMark : GoodIn wsX2_beginTerm (wsV RX2 117 RX2 yX2_enterMark wsX2_enterMark) := goodIn_app (goodIn_of _ (by decide +kernel)) ggX2_beginTerm_X2_enterMark
set_option maxRecDepth 20000 in
theorem ggX2_beginTerm_X3_bind : GoodIn wsX2_beginTerm wsX3_bind := goodIn_r _ [37, 26, 38, 25, 74, 75, 76] (by decide +kernel) (by decide +kernel)
set_option maxRecDepth 20000 in
theorem gX2_beginTerm_X3_bind : GoodIn wsX2_beginTerm (wsV RX2 121 RX3 yX3_bind wsX3_bind) := goodIn_app (goodIn_of _ (by decide +kernel)) ggX2_beginTerm_X3_bind
set_option maxRecDepth 20000 in
theorem ggX2_beginTerm_X8_add : GoodIn wsX2_beginTerm wsX8_add := goodIn_r _ [43, 44, 45, 46, 47, 48, 77, 78, 79, 80, 81] (by decide +kernel) (by decide +kernel)
set_option maxRecDepth 20000 in
theorem gX2_beginTerm_X8_add : GoodIn wsX2_beginTerm (wsV RX2 124 RX8 yX8_add wsX8_add) := goodIn_app (goodIn_of _ (by decide +kernel)) ggX2_beginTerm_X8_add
set_option maxRecDepth 20000 in
theorem ggX2_bringValue_X2_choose : GoodIn wsX2_bringValue wsX2_choose := goodIn_r _ [16, 17, 18, 10, 19, 20, 4, 8, 21, 22, 23, 24, 15, 25, 26, 27, 71, 72, 73, 74, 75, 76, 77, 78, 79, 80, 81, 82, 83, 97, 98, 99, 100, 89, 90, 91, 92, 93, 94, 95, 96] (by decide +kernel) (by decide +kernel)
set_option maxRecDepth 20000 in
theorem gX2_bringValue_X2_choose : GoodIn wsX2_bringValue (wsV RX2 136 RX2 yX2_choose wsX2_choose) := goodIn_app (goodIn_of _ (by decide +kernel)) ggX2_bringValue_X2_choose
set_option maxRecDepth 20000 in
theorem ggX2_bringValue_X3_bind : GoodIn wsX2_bringValue wsX3_bind := goodIn_r _ [32, 33, 34, 35, 101, 102, 103] (by decide +kernel) (by decide +kernel)
set_option maxRecDepth 20000 in
theorem gX2_bringValue_X3_bind : GoodIn wsX2_bringValue (wsV RX2 121 RX3 yX3_bind wsX3_bind) := goodIn_app (goodIn_of _ (by decide +kernel)) ggX2_bringValue_X3_bind
set_option maxRecDepth 20000 in
theorem ggX2_bringValue_X2_goTo : GoodIn wsX2_bringValue wsX2_goTo := goodIn_r _ [25, 26, 27, 10, 71, 72, 73, 74, 75, 76, 77, 78, 79, 80, 81, 82, 83] (by decide +kernel) (by decide +kernel)
set_option maxRecDepth 20000 in
theorem gX2_bringValue_X2_goTo : GoodIn wsX2_bringValue (wsV RX2 61 RX2 yX2_goTo wsX2_goTo) := goodIn_app (goodIn_of _ (by decide +kernel)) ggX2_bringValue_X2_goTo
set_option maxRecDepth 20000 in
theorem ggX2_bringValue_X8_add : GoodIn wsX2_bringValue wsX8_add := goodIn_r _ [40, 41, 42, 43, 44, 45, 84, 85, 86, 87, 88] (by decide +kernel) (by decide +kernel)
set_option maxRecDepth 20000 in
theorem gX2_bringValue_X8_add : GoodIn wsX2_bringValue (wsV RX2 124 RX8 yX8_add wsX8_add) := goodIn_app (goodIn_of _ (by decide +kernel)) ggX2_bringValue_X8_add
set_option maxRecDepth 20000 in
theorem ggX2_bringValue_X2_callWith : GoodIn wsX2_bringValue wsX2_callWith := goodIn_r _ [49, 17, 18, 20, 50, 4, 5, 9, 51, 19, 52, 53, 54, 15, 55, 56, 57, 1, 28, 29, 30, 31, 32, 33, 34, 35, 22, 23, 24, 25, 26, 27, 10, 71, 72, 73, 74, 75, 76, 77, 78, 79, 80, 81, 82, 83, 97, 98, 99, 100, 89, 90, 91, 92, 93, 94, 95, 96, 101, 102, 103] (by decide +kernel) (by decide +kernel)
set_option maxRecDepth 20000 in
theorem gX2_bringValue_X2_callWith : GoodIn wsX2_bringValue (wsV RX2 145 RX2 yX2_callWith wsX2_callWith) := goodIn_app (goodIn_of _ (by decide +kernel)) ggX2_bringValue_X2_callWith
set_option maxRecDepth 20000 in
theorem ggX2_bringValue_X2_joinNumbers : GoodIn wsX2_bringValue wsX2_joinNumbers := goodIn_r _ [61, 17, 18, 19, 20, 10, 62, 63, 64, 65, 66, 67, 68, 69, 70, 71, 72, 73, 74, 75, 76, 77, 78, 79, 80, 81, 82, 83, 97, 98, 99, 100] (by decide +kernel) (by decide +kernel)
set_option maxRecDepth 20000 in
theorem gX2_bringValue_X2_joinNumbers : GoodIn wsX2_bringValue (wsV RX2 148 RX2 yX2_joinNumbers wsX2_joinNumbers) := goodIn_app (goodIn_of _ (by decide +kernel)) ggX2_bringValue_X2_joinNumbers
set_option maxRecDepth 20000 in
theorem ggX2_choose_X2_goTo : GoodIn wsX2_choose wsX2_goTo := goodIn_r _ [13, 14, 15, 3, 16, 17, 18, 19, 20, 21, 22, 23, 24, 25, 26, 27, 28] (by decide +kernel) (by decide +kernel)
set_option maxRecDepth 20000 in
theorem gX2_choose_X2_goTo : GoodIn wsX2_choose (wsV RX2 61 RX2 yX2_goTo wsX2_goTo) := goodIn_app (goodIn_of _ (by decide +kernel)) ggX2_choose_X2_goTo
set_option maxRecDepth 20000 in
theorem ggX2_callWith_X2_enterMark : GoodIn wsX2_callWith wsX2_enterMark := goodIn_r _ [14, 15, 16, 17, 33, 34, 35, 36, 37, 38, 39, 40, 41, 42, 43, 44, 45] (by decide +kernel) (by decide +kernel)
set_option maxRecDepth 20000 in
theorem gX2_callWith_X2_enterMark : GoodIn wsX2_callWith (wsV RX2 117 RX2 yX2_enterMark wsX2_enterMark) := goodIn_app (goodIn_of _ (by decide +kernel)) ggX2_callWith_X2_enterMark
set_option maxRecDepth 20000 in
theorem ggX2_callWith_X3_bind : GoodIn wsX2_callWith wsX3_bind := goodIn_r _ [22, 23, 24, 25, 58, 59, 60] (by decide +kernel) (by decide +kernel)
set_option maxRecDepth 20000 in
theorem gX2_callWith_X3_bind : GoodIn wsX2_callWith (wsV RX2 121 RX3 yX3_bind wsX3_bind) := goodIn_app (goodIn_of _ (by decide +kernel)) ggX2_callWith_X3_bind
set_option maxRecDepth 20000 in
theorem ggX2_callWith_X2_goTo : GoodIn wsX2_callWith wsX2_goTo := goodIn_r _ [29, 30, 31, 32, 33, 34, 35, 36, 37, 38, 39, 40, 41, 42, 43, 44, 45] (by decide +kernel) (by decide +kernel)
set_option maxRecDepth 20000 in
theorem gX2_callWith_X2_goTo : GoodIn wsX2_callWith (wsV RX2 61 RX2 yX2_goTo wsX2_goTo) := goodIn_app (goodIn_of _ (by decide +kernel)) ggX2_callWith_X2_goTo
set_option maxRecDepth 20000 in
theorem ggX2_joinNumbers_X7_add : GoodIn wsX2_joinNumbers wsX7_add := goodIn_r _ [10, 11, 12, 13, 14, 28, 29, 30, 31] (by decide +kernel) (by decide +kernel)
set_option maxRecDepth 20000 in
theorem gX2_joinNumbers_X7_add : GoodIn wsX2_joinNumbers (wsV RX2 110 RX7 yX7_add wsX7_add) := goodIn_app (goodIn_of _ (by decide +kernel)) ggX2_joinNumbers_X7_add
set_option maxRecDepth 20000 in
theorem ggX4_hasClosed_X4_has : GoodIn wsX4_hasClosed wsX4_has := goodIn_r _ [6, 7, 8, 9, 10, 11, 12, 13, 14, 15] (by decide +kernel) (by decide +kernel)
set_option maxRecDepth 20000 in
theorem gX4_hasClosed_X4_has : GoodIn wsX4_hasClosed (wsV RX4 35 RX4 yX4_has wsX4_has) := goodIn_app (goodIn_of _ (by decide +kernel)) ggX4_hasClosed_X4_has
set_option maxRecDepth 20000 in
theorem ggX4_wordsFit_X4_has : GoodIn wsX4_wordsFit wsX4_has := goodIn_r _ [6, 7, 8, 9, 10, 11, 12, 13, 14, 15] (by decide +kernel) (by decide +kernel)
set_option maxRecDepth 20000 in
theorem gX4_wordsFit_X4_has : GoodIn wsX4_wordsFit (wsV RX4 35 RX4 yX4_has wsX4_has) := goodIn_app (goodIn_of _ (by decide +kernel)) ggX4_wordsFit_X4_has
