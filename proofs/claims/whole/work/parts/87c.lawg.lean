set_option maxRecDepth 20000 in
theorem ggL_law_X6_tells : GoodIn wsL_law wsX6_tells := goodIn_r _ [709, 22, 35, 710, 354, 355, 356, 21, 357, 65, 176, 2, 177, 175, 711, 712, 713, 34, 714, 102, 104, 103, 850, 851, 852, 853, 854, 855, 856, 857, 858, 859, 860, 861, 928, 929, 930, 931, 932, 933, 906, 907, 908, 909, 910, 911, 912, 913, 914, 915, 916, 917] rfl (by decide +kernel)
set_option maxRecDepth 20000 in
theorem gL_law_X6_tells : GoodIn wsL_law (wsV RL 94 RX6 yX6_tells wsX6_tells) := goodIn_app (goodIn_of _ (by decide +kernel)) ggL_law_X6_tells
set_option maxRecDepth 20000 in
theorem ggL_law_X7_tells : GoodIn wsL_law wsX7_tells := goodIn_r _ [718, 182, 151, 136, 137, 138, 375, 376, 377, 5, 378, 122, 183, 184, 185, 862, 863, 864, 865, 866, 867, 868, 869, 870, 871, 872, 873, 874, 875, 876, 877, 878, 879, 880, 881, 882, 883, 884, 885, 886, 887, 888, 889, 890, 891, 892, 893, 894, 895, 896] rfl (by decide +kernel)
set_option maxRecDepth 20000 in
theorem gL_law_X7_tells : GoodIn wsL_law (wsV RL 97 RX7 yX7_tells wsX7_tells) := goodIn_app (goodIn_of _ (by decide +kernel)) ggL_law_X7_tells
set_option maxRecDepth 20000 in
theorem ggL_law_X6_downhill : GoodIn wsL_law wsX6_downhill := goodIn_r _ [722, 35, 723, 724, 850, 851, 852, 853, 854, 855, 856, 857, 858, 859, 860, 861, 928, 929, 930, 931, 932, 933] rfl (by decide +kernel)
set_option maxRecDepth 20000 in
theorem gL_law_X6_downhill : GoodIn wsL_law (wsV RL 98 RX6 yX6_downhill wsX6_downhill) := goodIn_app (goodIn_of _ (by decide +kernel)) ggL_law_X6_downhill
set_option maxRecDepth 20000 in
theorem ggL_law_X7_downhill : GoodIn wsL_law wsX7_downhill := goodIn_r _ [728, 182, 151, 138, 137, 136, 183, 184, 5, 185, 862, 863, 864, 865, 866, 867, 868, 869, 870, 871, 872, 873, 874, 875, 876, 877, 878, 879, 880, 881, 882, 883, 884, 885, 886, 887, 888, 889, 890, 891, 892, 893, 894, 895, 896] rfl (by decide +kernel)
set_option maxRecDepth 20000 in
theorem gL_law_X7_downhill : GoodIn wsL_law (wsV RL 101 RX7 yX7_downhill wsX7_downhill) := goodIn_app (goodIn_of _ (by decide +kernel)) ggL_law_X7_downhill
set_option maxRecDepth 20000 in
theorem ggL_law_X6_felt : GoodIn wsL_law wsX6_felt := goodIn_r _ [732, 35, 733, 175, 176, 2, 177, 734, 735, 736, 34, 737, 105, 106, 107, 850, 851, 852, 853, 854, 855, 856, 857, 858, 859, 860, 861, 928, 929, 930, 931, 932, 933] rfl (by decide +kernel)
set_option maxRecDepth 20000 in
theorem gL_law_X6_felt : GoodIn wsL_law (wsV RL 102 RX6 yX6_felt wsX6_felt) := goodIn_app (goodIn_of _ (by decide +kernel)) ggL_law_X6_felt
set_option maxRecDepth 20000 in
theorem ggL_law_X7_felt : GoodIn wsL_law wsX7_felt := goodIn_r _ [741, 182, 152, 139, 140, 183, 184, 5, 185, 862, 863, 864, 865, 866, 867, 868, 869, 870, 871, 872, 873, 874, 875, 876, 877, 878, 879, 880, 881, 882, 883, 884, 885, 886, 887, 888, 889, 890, 891, 892, 893, 894, 895, 896] rfl (by decide +kernel)
set_option maxRecDepth 20000 in
theorem gL_law_X7_felt : GoodIn wsL_law (wsV RL 105 RX7 yX7_felt wsX7_felt) := goodIn_app (goodIn_of _ (by decide +kernel)) ggL_law_X7_felt
set_option maxRecDepth 20000 in
theorem ggL_law_X6_rain : GoodIn wsL_law wsX6_rain := goodIn_r _ [745, 22, 35, 445, 206, 207, 208, 175, 176, 2, 177, 564, 565, 566, 21, 567, 65, 746, 747, 748, 749, 362, 27, 332, 330, 338, 268, 269, 750, 751, 752, 34, 753, 106, 107, 499, 500, 501, 502, 503, 504, 505, 850, 851, 852, 853, 854, 855, 856, 857, 858, 859, 860, 861, 906, 907, 908, 909, 910, 911, 912, 913, 914, 915, 916, 917, 918, 919, 920, 921, 922, 923, 924, 928, 929, 930, 931, 932, 933] rfl (by decide +kernel)
set_option maxRecDepth 20000 in
theorem gL_law_X6_rain : GoodIn wsL_law (wsV RL 106 RX6 yX6_rain wsX6_rain) := goodIn_app (goodIn_of _ (by decide +kernel)) ggL_law_X6_rain
set_option maxRecDepth 20000 in
theorem ggL_law_X7_rain : GoodIn wsL_law wsX7_rain := goodIn_r _ [757, 182, 626, 122, 152, 139, 140, 183, 184, 5, 185, 758, 759, 760, 761, 124, 132, 510, 511, 512, 862, 863, 864, 865, 866, 867, 868, 869, 870, 871, 872, 873, 874, 875, 876, 877, 878, 879, 880, 881, 882, 883, 884, 885, 886, 887, 888, 889, 890, 891, 892, 893, 894, 895, 896] rfl (by decide +kernel)
set_option maxRecDepth 20000 in
theorem gL_law_X7_rain : GoodIn wsL_law (wsV RL 109 RX7 yX7_rain wsX7_rain) := goodIn_app (goodIn_of _ (by decide +kernel)) ggL_law_X7_rain
set_option maxRecDepth 20000 in
theorem ggL_law_X6_forget : GoodIn wsL_law wsX6_forget := goodIn_r _ [765, 35, 710, 733, 280, 281, 282, 34, 283, 102, 103, 104, 105, 106, 107, 850, 851, 852, 853, 854, 855, 856, 857, 858, 859, 860, 861, 928, 929, 930, 931, 932, 933] rfl (by decide +kernel)
set_option maxRecDepth 20000 in
theorem gL_law_X6_forget : GoodIn wsL_law (wsV RL 110 RX6 yX6_forget wsX6_forget) := goodIn_app (goodIn_of _ (by decide +kernel)) ggL_law_X6_forget
set_option maxRecDepth 20000 in
theorem ggL_law_X7_forget : GoodIn wsL_law wsX7_forget := goodIn_r _ [769, 182, 151, 152, 862, 863, 864, 865, 866, 867, 868, 869, 870, 871, 872, 873, 874, 875, 876, 877, 878, 879, 880, 881, 882, 883, 884, 885, 886, 887, 888, 889, 890, 891, 892, 893, 894, 895, 896] rfl (by decide +kernel)
set_option maxRecDepth 20000 in
theorem gL_law_X7_forget : GoodIn wsL_law (wsV RL 113 RX7 yX7_forget wsX7_forget) := goodIn_app (goodIn_of _ (by decide +kernel)) ggL_law_X7_forget
set_option maxRecDepth 20000 in
theorem ggL_law_X6_rate : GoodIn wsL_law wsX6_rate := goodIn_r _ [773, 22, 774, 334, 335, 336, 21, 337, 61, 176, 2, 177, 775, 776, 777, 778, 43, 27, 331, 779, 780, 781, 782, 783, 395, 330, 784, 785, 786, 787, 788, 789, 790, 791, 792, 793, 794, 795, 796, 797, 798, 799, 800, 801, 802, 803, 804, 409, 850, 851, 852, 853, 854, 855, 856, 857, 858, 859, 860, 861, 906, 907, 908, 909, 910, 911, 912, 913, 914, 915, 916, 917, 918, 919, 920, 921, 922, 923, 924] rfl (by decide +kernel)
set_option maxRecDepth 20000 in
theorem gL_law_X6_rate : GoodIn wsL_law (wsV RL 114 RX6 yX6_rate wsX6_rate) := goodIn_app (goodIn_of _ (by decide +kernel)) ggL_law_X6_rate
set_option maxRecDepth 20000 in
theorem ggL_law_X7_rate : GoodIn wsL_law wsX7_rate := goodIn_r _ [808, 182, 809, 132, 130, 124, 125, 810, 811, 812, 813, 814, 815, 183, 184, 5, 185, 343, 344, 345, 346, 122, 862, 863, 864, 865, 866, 867, 868, 869, 870, 871, 872, 873, 874, 875, 876, 877, 878, 879, 880, 881, 882, 883, 884, 885, 886, 887, 888, 889, 890, 891, 892, 893, 894, 895, 896] rfl (by decide +kernel)
set_option maxRecDepth 20000 in
theorem gL_law_X7_rate : GoodIn wsL_law (wsV RL 117 RX7 yX7_rate wsX7_rate) := goodIn_app (goodIn_of _ (by decide +kernel)) ggL_law_X7_rate
set_option maxRecDepth 20000 in
theorem ggL_law_X6_keep : GoodIn wsL_law wsX6_keep := goodIn_r _ [819, 40, 27, 42, 407, 175, 176, 2, 177, 820, 460, 461, 26, 462, 84, 85, 86, 87, 88, 89, 275, 276, 277, 278, 90, 850, 851, 852, 853, 854, 855, 856, 857, 858, 859, 860, 861, 918, 919, 920, 921, 922, 923, 924] rfl (by decide +kernel)
set_option maxRecDepth 20000 in
theorem gL_law_X6_keep : GoodIn wsL_law (wsV RL 118 RX6 yX6_keep wsX6_keep) := goodIn_app (goodIn_of _ (by decide +kernel)) ggL_law_X6_keep
set_option maxRecDepth 20000 in
theorem ggL_law_X7_keep : GoodIn wsL_law wsX7_keep := goodIn_r _ [824, 182, 133, 132, 134, 183, 184, 5, 185, 862, 863, 864, 865, 866, 867, 868, 869, 870, 871, 872, 873, 874, 875, 876, 877, 878, 879, 880, 881, 882, 883, 884, 885, 886, 887, 888, 889, 890, 891, 892, 893, 894, 895, 896] rfl (by decide +kernel)
set_option maxRecDepth 20000 in
theorem gL_law_X7_keep : GoodIn wsL_law (wsV RL 121 RX7 yX7_keep wsX7_keep) := goodIn_app (goodIn_of _ (by decide +kernel)) ggL_law_X7_keep
set_option maxRecDepth 20000 in
theorem ggL_law_X6_back : GoodIn wsL_law wsX6_back := goodIn_r _ [828, 42, 27, 40, 31, 199, 407, 175, 176, 2, 177, 820, 460, 461, 26, 462, 84, 85, 86, 87, 88, 89, 275, 276, 277, 278, 90, 850, 851, 852, 853, 854, 855, 856, 857, 858, 859, 860, 861, 925, 926, 927, 918, 919, 920, 921, 922, 923, 924] rfl (by decide +kernel)
set_option maxRecDepth 20000 in
theorem gL_law_X6_back : GoodIn wsL_law (wsV RL 122 RX6 yX6_back wsX6_back) := goodIn_app (goodIn_of _ (by decide +kernel)) ggL_law_X6_back
set_option maxRecDepth 20000 in
theorem ggL_law_X7_back : GoodIn wsL_law wsX7_back := goodIn_r _ [832, 182, 134, 132, 133, 153, 183, 184, 5, 185, 862, 863, 864, 865, 866, 867, 868, 869, 870, 871, 872, 873, 874, 875, 876, 877, 878, 879, 880, 881, 882, 883, 884, 885, 886, 887, 888, 889, 890, 891, 892, 893, 894, 895, 896] rfl (by decide +kernel)
set_option maxRecDepth 20000 in
theorem gL_law_X7_back : GoodIn wsL_law (wsV RL 125 RX7 yX7_back wsX7_back) := goodIn_app (goodIn_of _ (by decide +kernel)) ggL_law_X7_back
set_option maxRecDepth 20000 in
theorem ggL_law_X6_count : GoodIn wsL_law wsX6_count := goodIn_r _ [836, 22, 362, 837, 35, 710, 733, 14, 850, 851, 852, 853, 854, 855, 856, 857, 858, 859, 860, 861, 906, 907, 908, 909, 910, 911, 912, 913, 914, 915, 916, 917, 928, 929, 930, 931, 932, 933] rfl (by decide +kernel)
set_option maxRecDepth 20000 in
theorem gL_law_X6_count : GoodIn wsL_law (wsV RL 126 RX6 yX6_count wsX6_count) := goodIn_app (goodIn_of _ (by decide +kernel)) ggL_law_X6_count
set_option maxRecDepth 20000 in
theorem ggL_law_X7_count : GoodIn wsL_law wsX7_count := goodIn_r _ [841, 182, 122, 151, 152, 150, 183, 184, 5, 185, 862, 863, 864, 865, 866, 867, 868, 869, 870, 871, 872, 873, 874, 875, 876, 877, 878, 879, 880, 881, 882, 883, 884, 885, 886, 887, 888, 889, 890, 891, 892, 893, 894, 895, 896] rfl (by decide +kernel)
set_option maxRecDepth 20000 in
theorem gL_law_X7_count : GoodIn wsL_law (wsV RL 129 RX7 yX7_count wsX7_count) := goodIn_app (goodIn_of _ (by decide +kernel)) ggL_law_X7_count
set_option maxRecDepth 20000 in
theorem ggL_law_X6_trace : GoodIn wsL_law wsX6_trace := goodIn_r _ [845, 43, 850, 851, 852, 853, 854, 855, 856, 857, 858, 859, 860, 861] rfl (by decide +kernel)
set_option maxRecDepth 20000 in
theorem gL_law_X6_trace : GoodIn wsL_law (wsV RL 130 RX6 yX6_trace wsX6_trace) := goodIn_app (goodIn_of _ (by decide +kernel)) ggL_law_X6_trace
set_option maxRecDepth 20000 in
theorem ggL_law_X7_trace : GoodIn wsL_law wsX7_trace := goodIn_r _ [849, 182, 810, 862, 863, 864, 865, 866, 867, 868, 869, 870, 871, 872, 873, 874, 875, 876, 877, 878, 879, 880, 881, 882, 883, 884, 885, 886, 887, 888, 889, 890, 891, 892, 893, 894, 895, 896] rfl (by decide +kernel)
set_option maxRecDepth 20000 in
theorem gL_law_X7_trace : GoodIn wsL_law (wsV RL 134 RX7 yX7_trace wsX7_trace) := goodIn_app (goodIn_of _ (by decide +kernel)) ggL_law_X7_trace
