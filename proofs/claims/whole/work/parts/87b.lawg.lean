set_option maxRecDepth 20000 in
theorem ggL_law_X6_brings : GoodIn wsL_law wsX6_brings := goodIn_r _ [490, 22, 27, 332, 31, 334, 335, 336, 21, 337, 61, 176, 2, 177, 454, 455, 456, 30, 457, 96, 97, 98, 458, 206, 207, 208, 459, 460, 461, 26, 462, 84, 85, 86, 87, 88, 89, 275, 276, 277, 278, 90, 850, 851, 852, 853, 854, 855, 856, 857, 858, 859, 860, 861, 918, 919, 920, 921, 922, 923, 924, 906, 907, 908, 909, 910, 911, 912, 913, 914, 915, 916, 917, 925, 926, 927] rfl (by decide +kernel)
set_option maxRecDepth 20000 in
theorem gL_law_X6_brings : GoodIn wsL_law (wsV RL 53 RX6 yX6_brings wsX6_brings) := goodIn_app (goodIn_of _ (by decide +kernel)) ggL_law_X6_brings
set_option maxRecDepth 20000 in
theorem ggL_law_X7_brings : GoodIn wsL_law wsX7_brings := goodIn_r _ [494, 182, 132, 343, 344, 345, 5, 346, 122, 183, 184, 185, 468, 469, 470, 471, 153, 135, 862, 863, 864, 865, 866, 867, 868, 869, 870, 871, 872, 873, 874, 875, 876, 877, 878, 879, 880, 881, 882, 883, 884, 885, 886, 887, 888, 889, 890, 891, 892, 893, 894, 895, 896] rfl (by decide +kernel)
set_option maxRecDepth 20000 in
theorem gL_law_X7_brings : GoodIn wsL_law (wsV RL 56 RX7 yX7_brings wsX7_brings) := goodIn_app (goodIn_of _ (by decide +kernel)) ggL_law_X7_brings
set_option maxRecDepth 20000 in
theorem ggL_law_X6_pledges : GoodIn wsL_law wsX6_pledges := goodIn_r _ [498, 22, 27, 333, 332, 31, 334, 335, 336, 21, 337, 61, 176, 2, 177, 175, 338, 268, 269, 454, 455, 456, 30, 457, 96, 97, 98, 458, 206, 207, 208, 459, 460, 461, 26, 462, 84, 85, 86, 87, 88, 89, 275, 276, 277, 278, 90, 499, 500, 501, 502, 503, 504, 505, 850, 851, 852, 853, 854, 855, 856, 857, 858, 859, 860, 861, 918, 919, 920, 921, 922, 923, 924, 906, 907, 908, 909, 910, 911, 912, 913, 914, 915, 916, 917, 925, 926, 927] rfl (by decide +kernel)
set_option maxRecDepth 20000 in
theorem gL_law_X6_pledges : GoodIn wsL_law (wsV RL 57 RX6 yX6_pledges wsX6_pledges) := goodIn_app (goodIn_of _ (by decide +kernel)) ggL_law_X6_pledges
set_option maxRecDepth 20000 in
theorem ggL_law_X7_pledges : GoodIn wsL_law wsX7_pledges := goodIn_r _ [509, 182, 132, 343, 344, 345, 5, 346, 122, 183, 184, 185, 468, 469, 470, 471, 153, 135, 510, 511, 512, 862, 863, 864, 865, 866, 867, 868, 869, 870, 871, 872, 873, 874, 875, 876, 877, 878, 879, 880, 881, 882, 883, 884, 885, 886, 887, 888, 889, 890, 891, 892, 893, 894, 895, 896] rfl (by decide +kernel)
set_option maxRecDepth 20000 in
theorem gL_law_X7_pledges : GoodIn wsL_law (wsV RL 60 RX7 yX7_pledges wsX7_pledges) := goodIn_app (goodIn_of _ (by decide +kernel)) ggL_law_X7_pledges
set_option maxRecDepth 20000 in
theorem ggL_law_X6_bell : GoodIn wsL_law wsX6_bell := goodIn_r _ [516, 27, 407, 31, 22, 362, 409, 445, 206, 207, 208, 454, 455, 456, 30, 457, 96, 97, 98, 458, 459, 460, 461, 26, 462, 84, 85, 86, 87, 88, 89, 275, 276, 277, 278, 90, 412, 413, 414, 2, 415, 332, 499, 500, 501, 502, 503, 504, 505, 850, 851, 852, 853, 854, 855, 856, 857, 858, 859, 860, 861, 918, 919, 920, 921, 922, 923, 924, 906, 907, 908, 909, 910, 911, 912, 913, 914, 915, 916, 917, 925, 926, 927] rfl (by decide +kernel)
set_option maxRecDepth 20000 in
theorem gL_law_X6_bell : GoodIn wsL_law (wsV RL 61 RX6 yX6_bell wsX6_bell) := goodIn_app (goodIn_of _ (by decide +kernel)) ggL_law_X6_bell
set_option maxRecDepth 20000 in
theorem ggL_law_X7_bell : GoodIn wsL_law wsX7_bell := goodIn_r _ [520, 182, 132, 468, 469, 470, 5, 471, 153, 135, 521, 522, 523, 524, 862, 863, 864, 865, 866, 867, 868, 869, 870, 871, 872, 873, 874, 875, 876, 877, 878, 879, 880, 881, 882, 883, 884, 885, 886, 887, 888, 889, 890, 891, 892, 893, 894, 895, 896] rfl (by decide +kernel)
set_option maxRecDepth 20000 in
theorem gL_law_X7_bell : GoodIn wsL_law (wsV RL 64 RX7 yX7_bell wsX7_bell) := goodIn_app (goodIn_of _ (by decide +kernel)) ggL_law_X7_bell
set_option maxRecDepth 20000 in
theorem ggL_law_X6_undo : GoodIn wsL_law wsX6_undo := goodIn_r _ [528, 31, 199, 27, 529, 530, 531, 30, 532, 97, 96, 98, 459, 460, 461, 26, 462, 84, 85, 86, 87, 88, 89, 275, 276, 277, 278, 90, 850, 851, 852, 853, 854, 855, 856, 857, 858, 859, 860, 861, 925, 926, 927, 918, 919, 920, 921, 922, 923, 924] rfl (by decide +kernel)
set_option maxRecDepth 20000 in
theorem gL_law_X6_undo : GoodIn wsL_law (wsV RL 65 RX6 yX6_undo wsX6_undo) := goodIn_app (goodIn_of _ (by decide +kernel)) ggL_law_X6_undo
set_option maxRecDepth 20000 in
theorem ggL_law_X7_undo : GoodIn wsL_law wsX7_undo := goodIn_r _ [536, 182, 153, 132, 135, 862, 863, 864, 865, 866, 867, 868, 869, 870, 871, 872, 873, 874, 875, 876, 877, 878, 879, 880, 881, 882, 883, 884, 885, 886, 887, 888, 889, 890, 891, 892, 893, 894, 895, 896] rfl (by decide +kernel)
set_option maxRecDepth 20000 in
theorem gL_law_X7_undo : GoodIn wsL_law (wsV RL 68 RX7 yX7_undo wsX7_undo) := goodIn_app (goodIn_of _ (by decide +kernel)) ggL_law_X7_undo
set_option maxRecDepth 20000 in
theorem ggL_law_X6_canGo : GoodIn wsL_law wsX6_canGo := goodIn_r _ [540, 22, 27, 334, 335, 336, 21, 337, 61, 176, 2, 177, 354, 355, 356, 357, 65, 541, 542, 543, 26, 544, 545, 90, 546, 421, 422, 423, 89, 88, 268, 269, 547, 368, 369, 370, 66, 548, 549, 550, 551, 67, 68, 477, 478, 850, 851, 852, 853, 854, 855, 856, 857, 858, 859, 860, 861, 906, 907, 908, 909, 910, 911, 912, 913, 914, 915, 916, 917, 918, 919, 920, 921, 922, 923, 924] rfl (by decide +kernel)
set_option maxRecDepth 20000 in
theorem gL_law_X6_canGo : GoodIn wsL_law (wsV RL 69 RX6 yX6_canGo wsX6_canGo) := goodIn_app (goodIn_of _ (by decide +kernel)) ggL_law_X6_canGo
set_option maxRecDepth 20000 in
theorem ggL_law_X7_canGo : GoodIn wsL_law wsX7_canGo := goodIn_r _ [555, 182, 343, 344, 345, 5, 346, 122, 183, 184, 185, 375, 376, 377, 378, 556, 557, 558, 559, 123, 132, 127, 128, 383, 384, 385, 386, 126, 432, 433, 434, 435, 436, 437, 438, 439, 862, 863, 864, 865, 866, 867, 868, 869, 870, 871, 872, 873, 874, 875, 876, 877, 878, 879, 880, 881, 882, 883, 884, 885, 886, 887, 888, 889, 890, 891, 892, 893, 894, 895, 896] rfl (by decide +kernel)
set_option maxRecDepth 20000 in
theorem gL_law_X7_canGo : GoodIn wsL_law (wsV RL 72 RX7 yX7_canGo wsX7_canGo) := goodIn_app (goodIn_of _ (by decide +kernel)) ggL_law_X7_canGo
set_option maxRecDepth 20000 in
theorem ggL_law_X6_lending : GoodIn wsL_law wsX6_lending := goodIn_r _ [563, 22, 39, 27, 564, 565, 566, 21, 567, 65, 175, 176, 2, 177, 568, 569, 570, 38, 571, 114, 115, 111, 572, 112, 113, 116, 573, 574, 79, 575, 576, 577, 578, 579, 580, 581, 582, 583, 584, 585, 368, 369, 370, 66, 268, 269, 586, 542, 543, 26, 544, 545, 90, 546, 421, 422, 423, 89, 88, 547, 548, 549, 550, 551, 67, 68, 477, 478, 587, 588, 589, 590, 591, 592, 593, 594, 595, 206, 207, 208, 596, 597, 598, 599, 600, 451, 452, 453, 69, 63, 601, 602, 603, 604, 605, 606, 607, 608, 609, 610, 611, 612, 613, 614, 615, 616, 617, 618, 619, 620, 621, 850, 851, 852, 853, 854, 855, 856, 857, 858, 859, 860, 861, 906, 907, 908, 909, 910, 911, 912, 913, 914, 915, 916, 917, 934, 935, 936, 937, 938, 939, 918, 919, 920, 921, 922, 923, 924] rfl (by decide +kernel)
set_option maxRecDepth 20000 in
theorem gL_law_X6_lending : GoodIn wsL_law (wsV RL 73 RX6 yX6_lending wsX6_lending) := goodIn_app (goodIn_of _ (by decide +kernel)) ggL_law_X6_lending
set_option maxRecDepth 20000 in
theorem ggL_law_X7_lending : GoodIn wsL_law wsX7_lending := goodIn_r _ [625, 182, 626, 627, 628, 629, 5, 630, 122, 183, 184, 185, 631, 632, 633, 634, 141, 635, 636, 637, 638, 124, 639, 640, 641, 642, 643, 644, 123, 383, 384, 385, 386, 126, 556, 557, 558, 559, 132, 127, 128, 432, 433, 434, 435, 436, 437, 438, 439, 167, 168, 169, 170, 129, 645, 646, 647, 648, 130, 649, 650, 651, 862, 863, 864, 865, 866, 867, 868, 869, 870, 871, 872, 873, 874, 875, 876, 877, 878, 879, 880, 881, 882, 883, 884, 885, 886, 887, 888, 889, 890, 891, 892, 893, 894, 895, 896] rfl (by decide +kernel)
set_option maxRecDepth 20000 in
theorem gL_law_X7_lending : GoodIn wsL_law (wsV RL 76 RX7 yX7_lending wsX7_lending) := goodIn_app (goodIn_of _ (by decide +kernel)) ggL_law_X7_lending
set_option maxRecDepth 20000 in
theorem ggL_law_X6_kneeFor : GoodIn wsL_law wsX6_kneeFor := goodIn_r _ [655, 22, 39, 27, 564, 565, 566, 21, 567, 65, 175, 176, 2, 177, 354, 355, 356, 357, 338, 268, 269, 568, 569, 570, 38, 571, 114, 115, 111, 572, 112, 113, 116, 573, 574, 79, 575, 576, 577, 578, 579, 580, 581, 582, 583, 584, 585, 368, 369, 370, 66, 586, 542, 543, 26, 544, 545, 90, 546, 421, 422, 423, 89, 88, 547, 548, 549, 550, 551, 67, 68, 477, 478, 587, 588, 589, 590, 591, 592, 593, 594, 595, 206, 207, 208, 596, 597, 598, 599, 600, 451, 452, 453, 69, 63, 601, 602, 603, 604, 605, 606, 607, 608, 609, 610, 611, 612, 613, 614, 615, 616, 617, 656, 657, 658, 659, 660, 661, 662, 663, 664, 665, 666, 667, 850, 851, 852, 853, 854, 855, 856, 857, 858, 859, 860, 861, 906, 907, 908, 909, 910, 911, 912, 913, 914, 915, 916, 917, 934, 935, 936, 937, 938, 939, 918, 919, 920, 921, 922, 923, 924] rfl (by decide +kernel)
set_option maxRecDepth 20000 in
theorem gL_law_X6_kneeFor : GoodIn wsL_law (wsV RL 77 RX6 yX6_kneeFor wsX6_kneeFor) := goodIn_app (goodIn_of _ (by decide +kernel)) ggL_law_X6_kneeFor
set_option maxRecDepth 20000 in
theorem ggL_law_X7_kneeFor : GoodIn wsL_law wsX7_kneeFor := goodIn_r _ [671, 182, 626, 639, 640, 627, 628, 629, 5, 630, 122, 183, 184, 185, 375, 376, 377, 378, 631, 632, 633, 634, 141, 635, 636, 637, 638, 124, 641, 642, 643, 644, 123, 383, 384, 385, 386, 126, 556, 557, 558, 559, 132, 127, 128, 432, 433, 434, 435, 436, 437, 438, 439, 167, 168, 169, 170, 129, 645, 646, 647, 648, 130, 649, 650, 651, 862, 863, 864, 865, 866, 867, 868, 869, 870, 871, 872, 873, 874, 875, 876, 877, 878, 879, 880, 881, 882, 883, 884, 885, 886, 887, 888, 889, 890, 891, 892, 893, 894, 895, 896] rfl (by decide +kernel)
set_option maxRecDepth 20000 in
theorem gL_law_X7_kneeFor : GoodIn wsL_law (wsV RL 80 RX7 yX7_kneeFor wsX7_kneeFor) := goodIn_app (goodIn_of _ (by decide +kernel)) ggL_law_X7_kneeFor
set_option maxRecDepth 20000 in
theorem ggL_law_X6_most : GoodIn wsL_law wsX6_most := goodIn_r _ [675, 39, 22, 27, 175, 176, 2, 177, 564, 565, 566, 21, 567, 65, 568, 569, 570, 38, 571, 114, 115, 111, 572, 112, 113, 116, 573, 574, 79, 575, 576, 577, 578, 579, 580, 581, 582, 583, 584, 585, 368, 369, 370, 66, 268, 269, 586, 542, 543, 26, 544, 545, 90, 546, 421, 422, 423, 89, 88, 547, 548, 549, 550, 551, 67, 68, 477, 478, 587, 588, 589, 590, 591, 592, 593, 594, 595, 206, 207, 208, 596, 597, 598, 599, 600, 451, 452, 453, 69, 63, 601, 602, 603, 604, 605, 606, 607, 608, 609, 610, 611, 612, 613, 614, 615, 616, 617, 499, 500, 501, 502, 503, 504, 505, 618, 619, 620, 621, 850, 851, 852, 853, 854, 855, 856, 857, 858, 859, 860, 861, 906, 907, 908, 909, 910, 911, 912, 913, 914, 915, 916, 917, 934, 935, 936, 937, 938, 939, 918, 919, 920, 921, 922, 923, 924] rfl (by decide +kernel)
set_option maxRecDepth 20000 in
theorem gL_law_X6_most : GoodIn wsL_law (wsV RL 81 RX6 yX6_most wsX6_most) := goodIn_app (goodIn_of _ (by decide +kernel)) ggL_law_X6_most
set_option maxRecDepth 20000 in
theorem ggL_law_X7_most : GoodIn wsL_law wsX7_most := goodIn_r _ [679, 182, 626, 122, 183, 184, 5, 185, 510, 511, 512, 631, 632, 633, 634, 141, 635, 636, 637, 638, 124, 639, 640, 641, 642, 643, 644, 123, 383, 384, 385, 386, 126, 556, 557, 558, 559, 132, 127, 128, 432, 433, 434, 435, 436, 437, 438, 439, 167, 168, 169, 170, 129, 645, 646, 647, 648, 130, 649, 650, 651, 862, 863, 864, 865, 866, 867, 868, 869, 870, 871, 872, 873, 874, 875, 876, 877, 878, 879, 880, 881, 882, 883, 884, 885, 886, 887, 888, 889, 890, 891, 892, 893, 894, 895, 896] rfl (by decide +kernel)
set_option maxRecDepth 20000 in
theorem gL_law_X7_most : GoodIn wsL_law (wsV RL 84 RX7 yX7_most wsX7_most) := goodIn_app (goodIn_of _ (by decide +kernel)) ggL_law_X7_most
set_option maxRecDepth 20000 in
theorem ggL_law_X6_span : GoodIn wsL_law wsX6_span := goodIn_r _ [683, 22, 27, 331, 334, 335, 336, 21, 337, 61, 176, 2, 177, 354, 355, 356, 357, 65, 684, 549, 550, 551, 67, 68, 477, 478, 850, 851, 852, 853, 854, 855, 856, 857, 858, 859, 860, 861, 918, 919, 920, 921, 922, 923, 924, 906, 907, 908, 909, 910, 911, 912, 913, 914, 915, 916, 917] rfl (by decide +kernel)
set_option maxRecDepth 20000 in
theorem gL_law_X6_span : GoodIn wsL_law (wsV RL 85 RX6 yX6_span wsX6_span) := goodIn_app (goodIn_of _ (by decide +kernel)) ggL_law_X6_span
set_option maxRecDepth 20000 in
theorem ggL_law_X7_span : GoodIn wsL_law wsX7_span := goodIn_r _ [688, 182, 127, 128, 132, 343, 344, 345, 5, 346, 122, 183, 184, 185, 375, 376, 377, 378, 862, 863, 864, 865, 866, 867, 868, 869, 870, 871, 872, 873, 874, 875, 876, 877, 878, 879, 880, 881, 882, 883, 884, 885, 886, 887, 888, 889, 890, 891, 892, 893, 894, 895, 896] rfl (by decide +kernel)
set_option maxRecDepth 20000 in
theorem gL_law_X7_span : GoodIn wsL_law (wsV RL 88 RX7 yX7_span wsX7_span) := goodIn_app (goodIn_of _ (by decide +kernel)) ggL_law_X7_span
set_option maxRecDepth 20000 in
theorem ggL_law_X6_gives : GoodIn wsL_law wsX6_gives := goodIn_r _ [692, 22, 27, 331, 334, 335, 336, 21, 337, 61, 176, 2, 177, 175, 693, 694, 695, 696, 697, 698, 850, 851, 852, 853, 854, 855, 856, 857, 858, 859, 860, 861, 918, 919, 920, 921, 922, 923, 924, 906, 907, 908, 909, 910, 911, 912, 913, 914, 915, 916, 917] rfl (by decide +kernel)
set_option maxRecDepth 20000 in
theorem gL_law_X6_gives : GoodIn wsL_law (wsV RL 89 RX6 yX6_gives wsX6_gives) := goodIn_app (goodIn_of _ (by decide +kernel)) ggL_law_X6_gives
set_option maxRecDepth 20000 in
theorem ggL_law_X7_gives : GoodIn wsL_law wsX7_gives := goodIn_r _ [702, 182, 132, 343, 344, 345, 5, 346, 122, 183, 184, 185, 703, 704, 705, 862, 863, 864, 865, 866, 867, 868, 869, 870, 871, 872, 873, 874, 875, 876, 877, 878, 879, 880, 881, 882, 883, 884, 885, 886, 887, 888, 889, 890, 891, 892, 893, 894, 895, 896] rfl (by decide +kernel)
set_option maxRecDepth 20000 in
theorem gL_law_X7_gives : GoodIn wsL_law (wsV RL 93 RX7 yX7_gives wsX7_gives) := goodIn_app (goodIn_of _ (by decide +kernel)) ggL_law_X7_gives
