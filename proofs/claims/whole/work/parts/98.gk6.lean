set_option maxRecDepth 20000 in
theorem wil21 : ∀ w ∈ wsL_law0_r21, w ∈ lw_tbl := fun w h => (goodIn_p wsL_law0_r21 [670, 674, 678, 682, 686] (by decide +kernel) (by decide +kernel) w h).1
set_option maxRecDepth 20000 in
theorem wil22 : ∀ w ∈ wsL_law0_r22, w ∈ lw_tbl := fun w h => (goodIn_p wsL_law0_r22 [698, 690] (by decide +kernel) (by decide +kernel) w h).1
set_option maxRecDepth 20000 in
theorem wil23 : ∀ w ∈ wsL_law0_r23, w ∈ lw_tbl := fun w h => (goodIn_p wsL_law0_r23 [694, 706, 710, 702, 718, 714, 722, 726, 730, 734] (by decide +kernel) (by decide +kernel) w h).1
set_option maxRecDepth 20000 in
theorem wil24 : ∀ w ∈ wsL_law0_r24, w ∈ lw_tbl := fun w h => (goodIn_p wsL_law0_r24 [738, 742, 369, 1019] (by decide +kernel) (by decide +kernel) w h).1
