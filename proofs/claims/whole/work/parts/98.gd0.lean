set_option maxRecDepth 20000 in
theorem ggT0 : GoodIn wsL_law [Cond.code yX10_type cX10_type 4 (some .int)] := goodIn_r _ [570] (by decide +kernel) (by decide +kernel)
set_option maxRecDepth 20000 in
theorem ggT6 : GoodIn wsL_law wsX100 := goodIn_r _ [674, 675, 676, 677, 678, 679, 680, 681, 682, 683, 684, 685, 686, 687, 688, 689, 690, 691, 692, 693, 694, 695, 696, 697, 698, 699, 700, 701, 702, 703, 704, 705, 706, 707, 708, 709, 710, 711, 712, 713, 714, 715, 716, 717, 718, 719, 720, 721, 722, 723, 724, 725, 726, 727, 728, 729, 730, 731, 732, 733] (by decide +kernel) (by decide +kernel)
