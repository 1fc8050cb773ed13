set_option maxRecDepth 20000 in
theorem ggL_law_X6_init : GoodIn wsL_law wsX6_init := goodIn_r _ [8, 9, 10, 11, 12, 13, 14, 15, 16, 17, 18, 19, 20, 21, 22, 23, 24, 25, 26, 27, 28, 29, 30, 31, 32, 33, 34, 35, 36, 37, 38, 39, 40, 41, 42, 43, 44, 45, 46, 47, 48, 49, 50, 51, 52, 53, 54, 55, 56, 57, 58, 59, 60, 61, 62, 63, 64, 65, 66, 67, 68, 69, 70, 71, 72, 73, 74, 75, 76, 77, 78, 79, 80, 81, 82, 83, 84, 85, 86, 87, 88, 89, 90, 91, 92, 93, 94, 95, 96, 97, 98, 99, 100, 101, 102, 103, 104, 105, 106, 107, 108, 109, 110, 111, 112, 113, 114, 115, 116, 850, 851, 852, 853, 854, 855, 856, 857, 858, 859, 860, 861, 897, 898, 899, 900, 901, 902, 903, 904, 905, 906, 907, 908, 909, 910, 911, 912, 913, 914, 915, 916, 917, 918, 919, 920, 921, 922, 923, 924, 925, 926, 927, 928, 929, 930, 931, 932, 933, 934, 935, 936, 937, 938, 939] rfl (by decide +kernel)
set_option maxRecDepth 20000 in
theorem gL_law_X6_init : GoodIn wsL_law (wsX6_init) := ggL_law_X6_init
set_option maxRecDepth 20000 in
theorem ggL_law_X7_init : GoodIn wsL_law wsX7_init := goodIn_r _ [119, 120, 10, 11, 51, 121, 122, 123, 124, 125, 126, 127, 128, 129, 130, 131, 132, 133, 41, 134, 135, 136, 137, 138, 139, 140, 141, 142, 143, 144, 5, 145, 146, 147, 148, 149, 150, 151, 152, 153, 154, 155, 156, 157, 158, 159, 160, 161, 162, 163, 164, 165, 166, 167, 168, 169, 170, 862, 863, 864, 865, 866, 867, 868, 869, 870, 871, 872, 873, 874, 875, 876, 877, 878, 879, 880, 881, 882, 883, 884, 885, 886, 887, 888, 889, 890, 891, 892, 893, 894, 895, 896] rfl (by decide +kernel)
set_option maxRecDepth 20000 in
theorem gL_law_X7_init : GoodIn wsL_law (wsX7_init) := ggL_law_X7_init
set_option maxRecDepth 20000 in
theorem ggL_law_X6_type : GoodIn wsL_law wsX6_type := goodIn_r _ [174, 14, 13, 175, 176, 2, 177, 850, 851, 852, 853, 854, 855, 856, 857, 858, 859, 860, 861] rfl (by decide +kernel)
set_option maxRecDepth 20000 in
theorem gL_law_X6_type : GoodIn wsL_law (wsV RL 13 RX6 yX6_type wsX6_type) := goodIn_app (goodIn_of _ (by decide +kernel)) ggL_law_X6_type
set_option maxRecDepth 20000 in
theorem ggL_law_X7_type : GoodIn wsL_law wsX7_type := goodIn_r _ [181, 182, 150, 121, 183, 184, 5, 185, 862, 863, 864, 865, 866, 867, 868, 869, 870, 871, 872, 873, 874, 875, 876, 877, 878, 879, 880, 881, 882, 883, 884, 885, 886, 887, 888, 889, 890, 891, 892, 893, 894, 895, 896] rfl (by decide +kernel)
set_option maxRecDepth 20000 in
theorem gL_law_X7_type : GoodIn wsL_law (wsV RL 17 RX7 yX7_type wsX7_type) := goodIn_app (goodIn_of _ (by decide +kernel)) ggL_law_X7_type
set_option maxRecDepth 20000 in
theorem ggL_law_X6_clear : GoodIn wsL_law wsX6_clear := goodIn_r _ [189, 14, 850, 851, 852, 853, 854, 855, 856, 857, 858, 859, 860, 861] rfl (by decide +kernel)
set_option maxRecDepth 20000 in
theorem gL_law_X6_clear : GoodIn wsL_law (wsV RL 18 RX6 yX6_clear wsX6_clear) := goodIn_app (goodIn_of _ (by decide +kernel)) ggL_law_X6_clear
set_option maxRecDepth 20000 in
theorem ggL_law_X7_clear : GoodIn wsL_law wsX7_clear := goodIn_r _ [193, 182, 150, 862, 863, 864, 865, 866, 867, 868, 869, 870, 871, 872, 873, 874, 875, 876, 877, 878, 879, 880, 881, 882, 883, 884, 885, 886, 887, 888, 889, 890, 891, 892, 893, 894, 895, 896] rfl (by decide +kernel)
set_option maxRecDepth 20000 in
theorem gL_law_X7_clear : GoodIn wsL_law (wsV RL 22 RX7 yX7_clear wsX7_clear) := goodIn_app (goodIn_of _ (by decide +kernel)) ggL_law_X7_clear
set_option maxRecDepth 20000 in
theorem ggL_law_X6_parish : GoodIn wsL_law wsX6_parish := goodIn_r _ [197, 18, 13, 14, 23, 198, 22, 27, 31, 199, 35, 42, 200, 201, 202, 203, 17, 204, 47, 205, 206, 207, 208, 48, 49, 56, 50, 53, 209, 74, 75, 21, 76, 61, 65, 69, 70, 77, 78, 79, 80, 210, 211, 212, 213, 55, 214, 215, 216, 217, 218, 219, 220, 54, 221, 222, 223, 224, 225, 226, 227, 52, 228, 229, 230, 231, 232, 233, 234, 235, 236, 237, 238, 239, 176, 2, 177, 240, 241, 242, 243, 62, 63, 64, 244, 245, 246, 247, 66, 67, 68, 248, 249, 250, 251, 252, 253, 254, 255, 72, 256, 257, 258, 259, 71, 260, 261, 262, 263, 264, 265, 266, 267, 268, 269, 270, 271, 272, 26, 273, 84, 85, 86, 87, 88, 89, 274, 90, 275, 276, 277, 278, 279, 280, 281, 282, 34, 283, 102, 103, 104, 105, 106, 107, 850, 851, 852, 853, 854, 855, 856, 857, 858, 859, 860, 861, 897, 898, 899, 900, 901, 902, 903, 904, 905, 925, 926, 927, 906, 907, 908, 909, 910, 911, 912, 913, 914, 915, 916, 917, 918, 919, 920, 921, 922, 923, 924, 928, 929, 930, 931, 932, 933] rfl (by decide +kernel)
set_option maxRecDepth 20000 in
theorem gL_law_X6_parish : GoodIn wsL_law (wsV RL 23 RX6 yX6_parish wsX6_parish) := goodIn_app (goodIn_of _ (by decide +kernel)) ggL_law_X6_parish
set_option maxRecDepth 20000 in
theorem ggL_law_X7_parish : GoodIn wsL_law wsX7_parish := goodIn_r _ [287, 182, 288, 289, 290, 142, 143, 144, 5, 145, 122, 129, 130, 291, 292, 293, 294, 295, 296, 297, 298, 299, 300, 150, 121, 183, 184, 185, 301, 302, 303, 304, 305, 306, 307, 308, 309, 310, 311, 312, 313, 314, 315, 316, 123, 124, 125, 126, 127, 128, 317, 318, 319, 320, 321, 322, 323, 324, 146, 147, 148, 149, 132, 151, 152, 153, 134, 154, 155, 156, 157, 158, 159, 160, 161, 162, 131, 163, 164, 165, 166, 167, 168, 169, 170, 862, 863, 864, 865, 866, 867, 868, 869, 870, 871, 872, 873, 874, 875, 876, 877, 878, 879, 880, 881, 882, 883, 884, 885, 886, 887, 888, 889, 890, 891, 892, 893, 894, 895, 896] rfl (by decide +kernel)
set_option maxRecDepth 20000 in
theorem gL_law_X7_parish : GoodIn wsL_law (wsV RL 26 RX7 yX7_parish wsX7_parish) := goodIn_app (goodIn_of _ (by decide +kernel)) ggL_law_X7_parish
set_option maxRecDepth 20000 in
theorem ggL_law_X6_knee : GoodIn wsL_law wsX6_knee := goodIn_r _ [328, 22, 329, 330, 27, 331, 332, 333, 334, 335, 336, 21, 337, 61, 176, 2, 177, 338, 268, 269, 850, 851, 852, 853, 854, 855, 856, 857, 858, 859, 860, 861, 906, 907, 908, 909, 910, 911, 912, 913, 914, 915, 916, 917, 918, 919, 920, 921, 922, 923, 924] rfl (by decide +kernel)
set_option maxRecDepth 20000 in
theorem gL_law_X6_knee : GoodIn wsL_law (wsV RL 27 RX6 yX6_knee wsX6_knee) := goodIn_app (goodIn_of _ (by decide +kernel)) ggL_law_X6_knee
set_option maxRecDepth 20000 in
theorem ggL_law_X7_knee : GoodIn wsL_law wsX7_knee := goodIn_r _ [342, 182, 123, 124, 132, 343, 344, 345, 5, 346, 122, 183, 184, 185, 862, 863, 864, 865, 866, 867, 868, 869, 870, 871, 872, 873, 874, 875, 876, 877, 878, 879, 880, 881, 882, 883, 884, 885, 886, 887, 888, 889, 890, 891, 892, 893, 894, 895, 896] rfl (by decide +kernel)
set_option maxRecDepth 20000 in
theorem gL_law_X7_knee : GoodIn wsL_law (wsV RL 31 RX7 yX7_knee wsX7_knee) := goodIn_app (goodIn_of _ (by decide +kernel)) ggL_law_X7_knee
set_option maxRecDepth 20000 in
theorem ggL_law_X6_person : GoodIn wsL_law wsX6_person := goodIn_r _ [350, 22, 351, 352, 353, 354, 355, 356, 21, 357, 65, 176, 2, 177, 358, 359, 360, 361, 362, 27, 332, 329, 363, 364, 365, 366, 367, 368, 369, 370, 66, 268, 269, 850, 851, 852, 853, 854, 855, 856, 857, 858, 859, 860, 861, 906, 907, 908, 909, 910, 911, 912, 913, 914, 915, 916, 917, 918, 919, 920, 921, 922, 923, 924] rfl (by decide +kernel)
set_option maxRecDepth 20000 in
theorem gL_law_X6_person : GoodIn wsL_law (wsV RL 32 RX6 yX6_person wsX6_person) := goodIn_app (goodIn_of _ (by decide +kernel)) ggL_law_X6_person
set_option maxRecDepth 20000 in
theorem ggL_law_X7_person : GoodIn wsL_law wsX7_person := goodIn_r _ [374, 182, 126, 127, 128, 375, 376, 377, 5, 378, 122, 183, 184, 185, 379, 380, 381, 382, 383, 384, 385, 386, 387, 388, 389, 390, 132, 123, 862, 863, 864, 865, 866, 867, 868, 869, 870, 871, 872, 873, 874, 875, 876, 877, 878, 879, 880, 881, 882, 883, 884, 885, 886, 887, 888, 889, 890, 891, 892, 893, 894, 895, 896] rfl (by decide +kernel)
set_option maxRecDepth 20000 in
theorem gL_law_X7_person : GoodIn wsL_law (wsV RL 35 RX7 yX7_person wsX7_person) := goodIn_app (goodIn_of _ (by decide +kernel)) ggL_law_X7_person
set_option maxRecDepth 20000 in
theorem ggL_law_X6_farm : GoodIn wsL_law wsX6_farm := goodIn_r _ [394, 22, 395, 396, 397, 175, 176, 2, 177, 398, 261, 262, 21, 263, 61, 63, 850, 851, 852, 853, 854, 855, 856, 857, 858, 859, 860, 861, 906, 907, 908, 909, 910, 911, 912, 913, 914, 915, 916, 917] rfl (by decide +kernel)
set_option maxRecDepth 20000 in
theorem gL_law_X6_farm : GoodIn wsL_law (wsV RL 36 RX6 yX6_farm wsX6_farm) := goodIn_app (goodIn_of _ (by decide +kernel)) ggL_law_X6_farm
set_option maxRecDepth 20000 in
theorem ggL_law_X7_farm : GoodIn wsL_law wsX7_farm := goodIn_r _ [402, 182, 130, 129, 131, 183, 184, 5, 185, 163, 164, 165, 166, 122, 124, 862, 863, 864, 865, 866, 867, 868, 869, 870, 871, 872, 873, 874, 875, 876, 877, 878, 879, 880, 881, 882, 883, 884, 885, 886, 887, 888, 889, 890, 891, 892, 893, 894, 895, 896] rfl (by decide +kernel)
set_option maxRecDepth 20000 in
theorem gL_law_X7_farm : GoodIn wsL_law (wsV RL 39 RX7 yX7_farm wsX7_farm) := goodIn_app (goodIn_of _ (by decide +kernel)) ggL_law_X7_farm
set_option maxRecDepth 20000 in
theorem ggL_law_X6_now : GoodIn wsL_law wsX6_now := goodIn_r _ [406, 27, 407, 408, 409, 410, 22, 411, 31, 199, 412, 413, 414, 2, 415, 362, 332, 416, 417, 418, 419, 331, 420, 421, 422, 26, 423, 89, 88, 268, 269, 850, 851, 852, 853, 854, 855, 856, 857, 858, 859, 860, 861, 918, 919, 920, 921, 922, 923, 924, 906, 907, 908, 909, 910, 911, 912, 913, 914, 915, 916, 917, 925, 926, 927] rfl (by decide +kernel)
set_option maxRecDepth 20000 in
theorem gL_law_X6_now : GoodIn wsL_law (wsV RL 40 RX6 yX6_now wsX6_now) := goodIn_app (goodIn_of _ (by decide +kernel)) ggL_law_X6_now
set_option maxRecDepth 20000 in
theorem ggL_law_X7_now : GoodIn wsL_law wsX7_now := goodIn_r _ [427, 182, 122, 132, 158, 153, 183, 184, 5, 185, 428, 429, 430, 431, 432, 433, 434, 435, 436, 437, 438, 439, 862, 863, 864, 865, 866, 867, 868, 869, 870, 871, 872, 873, 874, 875, 876, 877, 878, 879, 880, 881, 882, 883, 884, 885, 886, 887, 888, 889, 890, 891, 892, 893, 894, 895, 896] rfl (by decide +kernel)
set_option maxRecDepth 20000 in
theorem gL_law_X7_now : GoodIn wsL_law (wsV RL 43 RX7 yX7_now wsX7_now) := goodIn_app (goodIn_of _ (by decide +kernel)) ggL_law_X7_now
set_option maxRecDepth 20000 in
theorem ggL_law_X6_lends : GoodIn wsL_law wsX6_lends := goodIn_r _ [443, 22, 31, 27, 332, 444, 408, 395, 330, 445, 206, 207, 208, 334, 335, 336, 21, 337, 61, 176, 2, 177, 354, 355, 356, 357, 65, 446, 447, 448, 449, 329, 331, 420, 421, 422, 26, 423, 89, 88, 268, 269, 367, 368, 369, 370, 66, 358, 359, 360, 361, 362, 450, 451, 452, 453, 69, 63, 454, 455, 456, 30, 457, 96, 97, 98, 458, 459, 460, 461, 462, 84, 85, 86, 87, 275, 276, 277, 278, 90, 850, 851, 852, 853, 854, 855, 856, 857, 858, 859, 860, 861, 918, 919, 920, 921, 922, 923, 924, 906, 907, 908, 909, 910, 911, 912, 913, 914, 915, 916, 917, 925, 926, 927] rfl (by decide +kernel)
set_option maxRecDepth 20000 in
theorem gL_law_X6_lends : GoodIn wsL_law (wsV RL 44 RX6 yX6_lends wsX6_lends) := goodIn_app (goodIn_of _ (by decide +kernel)) ggL_law_X6_lends
set_option maxRecDepth 20000 in
theorem ggL_law_X7_lends : GoodIn wsL_law wsX7_lends := goodIn_r _ [466, 182, 123, 132, 124, 130, 467, 343, 344, 345, 5, 346, 122, 183, 184, 185, 375, 376, 377, 378, 387, 388, 389, 390, 432, 433, 434, 435, 436, 437, 438, 439, 383, 384, 385, 386, 126, 167, 168, 169, 170, 129, 468, 469, 470, 471, 153, 135, 862, 863, 864, 865, 866, 867, 868, 869, 870, 871, 872, 873, 874, 875, 876, 877, 878, 879, 880, 881, 882, 883, 884, 885, 886, 887, 888, 889, 890, 891, 892, 893, 894, 895, 896] rfl (by decide +kernel)
set_option maxRecDepth 20000 in
theorem gL_law_X7_lends : GoodIn wsL_law (wsV RL 47 RX7 yX7_lends wsX7_lends) := goodIn_app (goodIn_of _ (by decide +kernel)) ggL_law_X7_lends
set_option maxRecDepth 20000 in
theorem ggL_law_X6_walks : GoodIn wsL_law wsX6_walks := goodIn_r _ [475, 22, 31, 27, 362, 332, 410, 445, 206, 207, 208, 354, 355, 356, 21, 357, 65, 176, 2, 177, 175, 363, 364, 365, 366, 367, 368, 369, 370, 66, 268, 269, 358, 359, 360, 361, 329, 454, 455, 456, 30, 457, 96, 97, 98, 458, 459, 460, 461, 26, 462, 84, 85, 86, 87, 88, 89, 275, 276, 277, 278, 90, 476, 477, 478, 479, 480, 481, 482, 850, 851, 852, 853, 854, 855, 856, 857, 858, 859, 860, 861, 906, 907, 908, 909, 910, 911, 912, 913, 914, 915, 916, 917, 918, 919, 920, 921, 922, 923, 924, 925, 926, 927] rfl (by decide +kernel)
set_option maxRecDepth 20000 in
theorem gL_law_X6_walks : GoodIn wsL_law (wsV RL 48 RX6 yX6_walks wsX6_walks) := goodIn_app (goodIn_of _ (by decide +kernel)) ggL_law_X6_walks
set_option maxRecDepth 20000 in
theorem ggL_law_X7_walks : GoodIn wsL_law wsX7_walks := goodIn_r _ [486, 182, 122, 132, 375, 376, 377, 5, 378, 183, 184, 185, 379, 380, 381, 382, 383, 384, 385, 386, 126, 387, 388, 389, 390, 123, 468, 469, 470, 471, 153, 135, 862, 863, 864, 865, 866, 867, 868, 869, 870, 871, 872, 873, 874, 875, 876, 877, 878, 879, 880, 881, 882, 883, 884, 885, 886, 887, 888, 889, 890, 891, 892, 893, 894, 895, 896] rfl (by decide +kernel)
set_option maxRecDepth 20000 in
theorem gL_law_X7_walks : GoodIn wsL_law (wsV RL 52 RX7 yX7_walks wsX7_walks) := goodIn_app (goodIn_of _ (by decide +kernel)) ggL_law_X7_walks
