theorem ggL_law_X10_type : GoodIn wsL_law wsX10_type := goodIn_app ggT0 (goodIn_app (goodIn_app ggT1 (goodIn_app ggT2 (goodIn_app ggT3 (goodIn_app ggT4 ggT5)))) ggT6)
