set_option maxRecDepth 20000 in
theorem ggT1 : GoodIn wsL_law wsX10_type_r1 := goodIn_r _ [197, 114, 571, 572, 573, 574, 575, 576, 131, 577, 127, 206, 207, 208, 5, 209, 198, 199, 200, 201, 213, 214, 215, 216] (by decide +kernel) (by decide +kernel)
