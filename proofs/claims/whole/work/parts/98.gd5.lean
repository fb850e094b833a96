set_option maxRecDepth 20000 in
theorem ggT5 : GoodIn wsL_law wsX10_type_r5 := goodIn_r _ [633, 130] (by decide +kernel) (by decide +kernel)
