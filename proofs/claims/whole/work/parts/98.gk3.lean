set_option maxRecDepth 20000 in
theorem wil9 : ∀ w ∈ wsL_law0_r9, w ∈ lw_tbl := fun w h => (goodIn_p wsL_law0_r9 [939, 942, 946, 950, 953] (by decide +kernel) (by decide +kernel) w h).1
set_option maxRecDepth 20000 in
theorem wil10 : ∀ w ∈ wsL_law0_r10, w ∈ lw_tbl := fun w h => (goodIn_p wsL_law0_r10 [957, 960, 963, 967, 935, 508] (by decide +kernel) (by decide +kernel) w h).1
set_option maxRecDepth 20000 in
theorem wil11 : ∀ w ∈ wsL_law0_r11, w ∈ lw_tbl := fun w h => (goodIn_p wsL_law0_r11 [971, 532, 536] (by decide +kernel) (by decide +kernel) w h).1
set_option maxRecDepth 20000 in
theorem wil12 : ∀ w ∈ wsL_law0_r12, w ∈ lw_tbl := fun w h => (goodIn_p wsL_law0_r12 [555, 559, 563, 567] (by decide +kernel) (by decide +kernel) w h).1
