set_option maxRecDepth 20000 in
theorem gL_law_X10_steps : GoodIn wsL_law (wsV RL 61 RX10 yX10_steps wsX10_steps) := goodIn_app (goodIn_of _ (by decide +kernel)) ggL_law_X10_steps
