set_option maxRecDepth 20000 in
theorem ggT3 : GoodIn wsL_law wsX10_type_r3 := goodIn_r _ [594, 595, 596, 597, 133, 129, 598, 599, 600, 601, 602, 603, 604, 605, 135, 132, 606, 607, 608, 609, 143, 142, 141, 610] (by decide +kernel) (by decide +kernel)
