set_option maxRecDepth 20000 in
theorem ggT4 : GoodIn wsL_law wsX10_type_r4 := goodIn_r _ [611, 612, 613, 614, 615, 616, 617, 618, 619, 620, 621, 622, 623, 624, 625, 110, 111, 626, 627, 628, 629, 630, 631, 632] (by decide +kernel) (by decide +kernel)
