set_option maxRecDepth 20000 in
theorem ggT2 : GoodIn wsL_law wsX10_type_r2 := goodIn_r _ [578, 579, 580, 581, 582, 583, 584, 585, 128, 586, 587, 588, 589, 136, 137, 138, 139, 140, 590, 591, 592, 593, 108, 109] (by decide +kernel) (by decide +kernel)
