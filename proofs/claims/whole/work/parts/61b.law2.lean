set_option maxRecDepth 20000 in
theorem gL_law_X11_hides : GoodIn wsL_law (wsV RL 93 RX11 yX11_hides wsX11_hides) := goodIn_app (goodIn_of _ (by decide +kernel)) ggL_law_X11_hides
set_option maxRecDepth 20000 in
theorem ggL_law_X12_hides : GoodIn wsL_law wsX12_hides := goodIn_r _ [750, 370, 415, 137, 182, 183, 5, 184, 431, 432, 433, 434, 371, 511, 512, 513, 514, 373, 374, 375, 376, 664, 665, 666, 667, 372, 523, 524, 525, 526, 135, 527, 528, 529, 530, 133, 981, 982, 983, 984, 985, 986, 987, 988, 989, 990, 991, 992, 993, 994, 995, 996, 997, 998, 999, 1000, 1001, 1002, 1003, 1004, 1005, 1006, 1007, 1008, 1009, 1010, 1011, 1012, 1013, 1014, 1015] (by decide +kernel) (by decide +kernel)
set_option maxRecDepth 20000 in
theorem gL_law_X12_hides : GoodIn wsL_law (wsV RL 96 RX12 yX12_hides wsX12_hides) := goodIn_app (goodIn_of _ (by decide +kernel)) ggL_law_X12_hides
set_option maxRecDepth 20000 in
theorem ggL_law_X11_midwife : GoodIn wsL_law wsX11_midwife := goodIn_r _ [754, 162, 165, 166, 2, 167] (by decide +kernel) (by decide +kernel)
set_option maxRecDepth 20000 in
theorem gL_law_X11_midwife : GoodIn wsL_law (wsV RL 97 RX11 yX11_midwife wsX11_midwife) := goodIn_app (goodIn_of _ (by decide +kernel)) ggL_law_X11_midwife
set_option maxRecDepth 20000 in
theorem ggL_law_X12_midwife : GoodIn wsL_law wsX12_midwife := goodIn_r _ [758, 759, 760, 179, 182, 183, 5, 184] (by decide +kernel) (by decide +kernel)
set_option maxRecDepth 20000 in
theorem gL_law_X12_midwife : GoodIn wsL_law (wsV RL 101 RX12 yX12_midwife wsX12_midwife) := goodIn_app (goodIn_of _ (by decide +kernel)) ggL_law_X12_midwife
set_option maxRecDepth 20000 in
theorem ggL_law_X11_bargain : GoodIn wsL_law wsX11_bargain := goodIn_r _ [764, 765, 162, 766, 767, 497, 239, 498, 768, 238, 240, 165, 166, 2, 167] (by decide +kernel) (by decide +kernel)
set_option maxRecDepth 20000 in
theorem gL_law_X11_bargain : GoodIn wsL_law (wsV RL 102 RX11 yX11_bargain wsX11_bargain) := goodIn_app (goodIn_of _ (by decide +kernel)) ggL_law_X11_bargain
set_option maxRecDepth 20000 in
theorem ggL_law_X12_bargain : GoodIn wsL_law wsX12_bargain := goodIn_r _ [772, 759, 773, 774, 179, 182, 183, 5, 184] (by decide +kernel) (by decide +kernel)
set_option maxRecDepth 20000 in
theorem gL_law_X12_bargain : GoodIn wsL_law (wsV RL 106 RX12 yX12_bargain wsX12_bargain) := goodIn_app (goodIn_of _ (by decide +kernel)) ggL_law_X12_bargain
set_option maxRecDepth 20000 in
theorem ggL_law_X11_found : GoodIn wsL_law wsX11_found := goodIn_r _ [778, 19, 41, 406, 672, 673, 674, 18, 675, 461, 311, 312, 313, 205, 779, 780, 781, 40, 782, 106, 720, 783, 682, 683, 684, 685, 686, 687, 688, 784, 656, 657, 658, 108, 640, 659, 480, 481, 36, 482, 99, 483, 484, 485, 486, 487, 100, 488, 489, 490, 285, 89, 286, 491, 492, 493, 494, 495, 238, 239, 240, 496, 497, 498, 499, 970, 971, 972, 973, 974, 975, 976, 977, 978, 979, 980, 1018, 1019, 1020, 1021, 1022, 1023, 1024, 1025, 1026, 1027, 1040, 1041, 1042, 1043, 1038, 1039, 1034] (by decide +kernel) (by decide +kernel)
set_option maxRecDepth 20000 in
theorem gL_law_X11_found : GoodIn wsL_law (wsV RL 107 RX11 yX11_found wsX11_found) := goodIn_app (goodIn_of _ (by decide +kernel)) ggL_law_X11_found
set_option maxRecDepth 20000 in
theorem ggL_law_X12_found : GoodIn wsL_law wsX12_found := goodIn_r _ [788, 415, 371, 773, 698, 699, 700, 5, 701, 373, 374, 375, 376, 370, 182, 183, 184, 709, 710, 711, 664, 665, 666, 667, 372, 523, 524, 525, 526, 137, 135, 527, 528, 529, 530, 133, 981, 982, 983, 984, 985, 986, 987, 988, 989, 990, 991, 992, 993, 994, 995, 996, 997, 998, 999, 1000, 1001, 1002, 1003, 1004, 1005, 1006, 1007, 1008, 1009, 1010, 1011, 1012, 1013, 1014, 1015] (by decide +kernel) (by decide +kernel)
set_option maxRecDepth 20000 in
theorem gL_law_X12_found : GoodIn wsL_law (wsV RL 110 RX12 yX12_found wsX12_found) := goodIn_app (goodIn_of _ (by decide +kernel)) ggL_law_X12_found
set_option maxRecDepth 20000 in
theorem ggL_law_X11_say : GoodIn wsL_law wsX11_say := goodIn_r _ [792, 19, 406, 162, 45, 191, 164, 441, 442, 443, 18, 444, 208, 165, 166, 2, 167, 793, 794, 795, 44, 796, 797, 113, 114, 798, 88, 89, 90, 970, 971, 972, 973, 974, 975, 976, 977, 978, 979, 980, 1044, 1045, 1046, 1047, 1048, 1049, 1050, 1051, 1018, 1019, 1020, 1021, 1022, 1023, 1024, 1025, 1026, 1027] (by decide +kernel) (by decide +kernel)
set_option maxRecDepth 20000 in
theorem gL_law_X11_say : GoodIn wsL_law (wsV RL 111 RX11 yX11_say wsX11_say) := goodIn_app (goodIn_of _ (by decide +kernel)) ggL_law_X11_say
set_option maxRecDepth 20000 in
theorem ggL_law_X12_say : GoodIn wsL_law wsX12_say := goodIn_r _ [802, 415, 803, 179, 323, 181, 147, 148, 449, 450, 451, 5, 452, 372, 182, 183, 184, 981, 982, 983, 984, 985, 986, 987, 988, 989, 990, 991, 992, 993, 994, 995, 996, 997, 998, 999, 1000, 1001, 1002, 1003, 1004, 1005, 1006, 1007, 1008, 1009, 1010, 1011, 1012, 1013, 1014, 1015] (by decide +kernel) (by decide +kernel)
set_option maxRecDepth 20000 in
theorem gL_law_X12_say : GoodIn wsL_law (wsV RL 114 RX12 yX12_say wsX12_say) := goodIn_app (goodIn_of _ (by decide +kernel)) ggL_law_X12_say
set_option maxRecDepth 20000 in
theorem ggL_law_X11_births : GoodIn wsL_law wsX11_births := goodIn_r _ [807, 19, 568, 45, 808, 569, 222, 223, 18, 224, 205, 809, 810, 811, 44, 812, 813, 115, 814, 815, 816, 817, 117, 818, 819, 311, 312, 313, 820, 821, 822, 823, 824, 825, 826, 827, 797, 118, 113, 114, 828, 829, 830, 831, 285, 89, 286, 832, 501, 502, 36, 503, 99, 504, 505, 506, 490, 484, 485, 486, 487, 100, 488, 489, 491, 492, 493, 494, 495, 238, 239, 240, 496, 497, 498, 499, 798, 88, 90, 833, 834, 835, 836, 970, 971, 972, 973, 974, 975, 976, 977, 978, 979, 980, 1044, 1045, 1046, 1047, 1048, 1049, 1050, 1051, 1018, 1019, 1020, 1021, 1022, 1023, 1024, 1025, 1026, 1027, 1038, 1039, 1034] (by decide +kernel) (by decide +kernel)
set_option maxRecDepth 20000 in
theorem gL_law_X11_births : GoodIn wsL_law (wsV RL 115 RX11 yX11_births wsX11_births) := goodIn_app (goodIn_of _ (by decide +kernel)) ggL_law_X11_births
set_option maxRecDepth 20000 in
theorem ggL_law_X12_births : GoodIn wsL_law wsX12_births := goodIn_r _ [840, 370, 575, 841, 842, 843, 5, 844, 431, 432, 433, 434, 371, 182, 183, 184, 511, 512, 513, 514, 373, 374, 375, 376, 845, 846, 847, 848, 323, 147, 148, 849, 850, 851, 852, 136, 535, 536, 537, 538, 134, 539, 540, 541, 542, 531, 532, 533, 534, 137, 135, 527, 528, 529, 530, 133, 523, 524, 525, 526, 981, 982, 983, 984, 985, 986, 987, 988, 989, 990, 991, 992, 993, 994, 995, 996, 997, 998, 999, 1000, 1001, 1002, 1003, 1004, 1005, 1006, 1007, 1008, 1009, 1010, 1011, 1012, 1013, 1014, 1015] (by decide +kernel) (by decide +kernel)
set_option maxRecDepth 20000 in
theorem gL_law_X12_births : GoodIn wsL_law (wsV RL 118 RX12 yX12_births wsX12_births) := goodIn_app (goodIn_of _ (by decide +kernel)) ggL_law_X12_births
set_option maxRecDepth 20000 in
theorem ggL_law_X11_liars : GoodIn wsL_law wsX11_liars := goodIn_r _ [856, 19, 406, 45, 568, 857, 858, 859, 18, 860, 861, 423, 424, 425, 207, 862, 458, 459, 460, 461, 311, 312, 313, 205, 569, 222, 223, 224, 863, 825, 826, 44, 827, 797, 118, 113, 114, 828, 829, 830, 831, 285, 89, 286, 832, 501, 502, 36, 503, 99, 504, 505, 506, 490, 484, 485, 486, 487, 100, 488, 489, 491, 492, 493, 494, 495, 238, 239, 240, 496, 497, 498, 499, 970, 971, 972, 973, 974, 975, 976, 977, 978, 979, 980, 1018, 1019, 1020, 1021, 1022, 1023, 1024, 1025, 1026, 1027, 1044, 1045, 1046, 1047, 1048, 1049, 1050, 1051, 1038, 1039, 1034] (by decide +kernel) (by decide +kernel)
set_option maxRecDepth 20000 in
theorem gL_law_X11_liars : GoodIn wsL_law (wsV RL 119 RX11 yX11_liars wsX11_liars) := goodIn_app (goodIn_of _ (by decide +kernel)) ggL_law_X11_liars
set_option maxRecDepth 20000 in
theorem ggL_law_X12_liars : GoodIn wsL_law wsX12_liars := goodIn_r _ [867, 415, 370, 575, 841, 842, 843, 5, 844, 431, 432, 433, 434, 371, 182, 183, 184, 511, 512, 513, 514, 373, 374, 375, 376, 845, 846, 847, 848, 323, 147, 148, 849, 850, 851, 852, 136, 535, 536, 537, 538, 134, 539, 540, 541, 542, 531, 532, 533, 534, 137, 135, 527, 528, 529, 530, 133, 523, 524, 525, 526, 981, 982, 983, 984, 985, 986, 987, 988, 989, 990, 991, 992, 993, 994, 995, 996, 997, 998, 999, 1000, 1001, 1002, 1003, 1004, 1005, 1006, 1007, 1008, 1009, 1010, 1011, 1012, 1013, 1014, 1015] (by decide +kernel) (by decide +kernel)
set_option maxRecDepth 20000 in
theorem gL_law_X12_liars : GoodIn wsL_law (wsV RL 122 RX12 yX12_liars wsX12_liars) := goodIn_app (goodIn_of _ (by decide +kernel)) ggL_law_X12_liars
set_option maxRecDepth 20000 in
theorem ggL_law_X11_leastLiars : GoodIn wsL_law wsX11_leastLiars := goodIn_r _ [871, 162, 19, 568, 45, 165, 166, 2, 167, 569, 222, 223, 18, 224, 205, 872, 873, 874, 44, 875, 820, 821, 822, 823, 117, 818, 819, 311, 312, 313, 824, 825, 826, 827, 797, 118, 113, 114, 828, 829, 830, 831, 285, 89, 286, 832, 501, 502, 36, 503, 99, 504, 505, 506, 490, 484, 485, 486, 487, 100, 488, 489, 491, 492, 493, 494, 495, 238, 239, 240, 496, 497, 498, 499, 814, 815, 816, 817, 863, 970, 971, 972, 973, 974, 975, 976, 977, 978, 979, 980, 1018, 1019, 1020, 1021, 1022, 1023, 1024, 1025, 1026, 1027, 1044, 1045, 1046, 1047, 1048, 1049, 1050, 1051, 1038, 1039, 1034] (by decide +kernel) (by decide +kernel)
set_option maxRecDepth 20000 in
theorem gL_law_X11_leastLiars : GoodIn wsL_law (wsV RL 123 RX11 yX11_leastLiars wsX11_leastLiars) := goodIn_app (goodIn_of _ (by decide +kernel)) ggL_law_X11_leastLiars
set_option maxRecDepth 20000 in
theorem ggL_law_X12_leastLiars : GoodIn wsL_law wsX12_leastLiars := goodIn_r _ [879, 179, 370, 575, 182, 183, 5, 184, 841, 842, 843, 844, 431, 432, 433, 434, 371, 511, 512, 513, 514, 373, 374, 375, 376, 845, 846, 847, 848, 323, 147, 148, 849, 850, 851, 852, 136, 535, 536, 537, 538, 134, 539, 540, 541, 542, 531, 532, 533, 534, 137, 135, 527, 528, 529, 530, 133, 523, 524, 525, 526, 981, 982, 983, 984, 985, 986, 987, 988, 989, 990, 991, 992, 993, 994, 995, 996, 997, 998, 999, 1000, 1001, 1002, 1003, 1004, 1005, 1006, 1007, 1008, 1009, 1010, 1011, 1012, 1013, 1014, 1015] (by decide +kernel) (by decide +kernel)
set_option maxRecDepth 20000 in
theorem gL_law_X12_leastLiars : GoodIn wsL_law (wsV RL 126 RX12 yX12_leastLiars wsX12_leastLiars) := goodIn_app (goodIn_of _ (by decide +kernel)) ggL_law_X12_leastLiars
set_option maxRecDepth 20000 in
theorem ggL_law_X11_ask : GoodIn wsL_law wsX11_ask := goodIn_r _ [883, 19, 568, 45, 569, 222, 223, 18, 224, 205, 809, 810, 811, 44, 812, 813, 115, 814, 815, 816, 817, 117, 818, 819, 311, 312, 313, 820, 821, 822, 823, 824, 825, 826, 827, 797, 118, 113, 114, 828, 829, 830, 831, 285, 89, 286, 832, 501, 502, 36, 503, 99, 504, 505, 506, 490, 484, 485, 486, 487, 100, 488, 489, 491, 492, 493, 494, 495, 238, 239, 240, 496, 497, 498, 499, 798, 88, 90, 884, 885, 886, 887, 888, 889, 890, 891, 892, 116, 893, 970, 971, 972, 973, 974, 975, 976, 977, 978, 979, 980, 1018, 1019, 1020, 1021, 1022, 1023, 1024, 1025, 1026, 1027, 1044, 1045, 1046, 1047, 1048, 1049, 1050, 1051, 1038, 1039, 1034] (by decide +kernel) (by decide +kernel)
set_option maxRecDepth 20000 in
theorem gL_law_X11_ask : GoodIn wsL_law (wsV RL 127 RX11 yX11_ask wsX11_ask) := goodIn_app (goodIn_of _ (by decide +kernel)) ggL_law_X11_ask
set_option maxRecDepth 20000 in
theorem ggL_law_X12_ask : GoodIn wsL_law wsX12_ask := goodIn_r _ [897, 370, 575, 372, 898, 838, 839, 5, 840, 841, 842, 843, 844, 431, 432, 433, 434, 371, 182, 183, 184, 511, 512, 513, 514, 373, 374, 375, 376, 845, 846, 847, 848, 323, 147, 148, 849, 850, 851, 852, 136, 535, 536, 537, 538, 134, 539, 540, 541, 542, 531, 532, 533, 534, 137, 135, 527, 528, 529, 530, 133, 523, 524, 525, 526, 899, 900, 901, 902, 149, 981, 982, 983, 984, 985, 986, 987, 988, 989, 990, 991, 992, 993, 994, 995, 996, 997, 998, 999, 1000, 1001, 1002, 1003, 1004, 1005, 1006, 1007, 1008, 1009, 1010, 1011, 1012, 1013, 1014, 1015] (by decide +kernel) (by decide +kernel)
set_option maxRecDepth 20000 in
theorem gL_law_X12_ask : GoodIn wsL_law (wsV RL 130 RX12 yX12_ask wsX12_ask) := goodIn_app (goodIn_of _ (by decide +kernel)) ggL_law_X12_ask
set_option maxRecDepth 20000 in
theorem ggL_law_X11_write : GoodIn wsL_law wsX11_write := goodIn_r _ [906, 162, 49, 192, 164, 165, 166, 2, 167, 907, 908, 909, 48, 910, 911, 122, 912, 88, 89, 90, 970, 971, 972, 973, 974, 975, 976, 977, 978, 979, 980, 1052, 1053] (by decide +kernel) (by decide +kernel)
set_option maxRecDepth 20000 in
theorem gL_law_X11_write : GoodIn wsL_law (wsV RL 131 RX11 yX11_write wsX11_write) := goodIn_app (goodIn_of _ (by decide +kernel)) ggL_law_X11_write
set_option maxRecDepth 20000 in
theorem ggL_law_X12_write : GoodIn wsL_law wsX12_write := goodIn_r _ [916, 917, 179, 324, 181, 150, 182, 183, 5, 184, 981, 982, 983, 984, 985, 986, 987, 988, 989, 990, 991, 992, 993, 994, 995, 996, 997, 998, 999, 1000, 1001, 1002, 1003, 1004, 1005, 1006, 1007, 1008, 1009, 1010, 1011, 1012, 1013, 1014, 1015] (by decide +kernel) (by decide +kernel)
set_option maxRecDepth 20000 in
theorem gL_law_X12_write : GoodIn wsL_law (wsV RL 134 RX12 yX12_write wsX12_write) := goodIn_app (goodIn_of _ (by decide +kernel)) ggL_law_X12_write
set_option maxRecDepth 20000 in
theorem ggL_law_X11_tear : GoodIn wsL_law wsX11_tear := goodIn_r _ [921, 45, 191, 49, 192, 970, 971, 972, 973, 974, 975, 976, 977, 978, 979, 980, 1044, 1045, 1046, 1047, 1048, 1049, 1050, 1051, 1052, 1053] (by decide +kernel) (by decide +kernel)
set_option maxRecDepth 20000 in
theorem gL_law_X11_tear : GoodIn wsL_law (wsV RL 135 RX11 yX11_tear wsX11_tear) := goodIn_app (goodIn_of _ (by decide +kernel)) ggL_law_X11_tear
set_option maxRecDepth 20000 in
theorem ggL_law_X12_tear : GoodIn wsL_law wsX12_tear := goodIn_r _ [925, 323, 324, 981, 982, 983, 984, 985, 986, 987, 988, 989, 990, 991, 992, 993, 994, 995, 996, 997, 998, 999, 1000, 1001, 1002, 1003, 1004, 1005, 1006, 1007, 1008, 1009, 1010, 1011, 1012, 1013, 1014, 1015] (by decide +kernel) (by decide +kernel)
set_option maxRecDepth 20000 in
theorem gL_law_X12_tear : GoodIn wsL_law (wsV RL 138 RX12 yX12_tear wsX12_tear) := goodIn_app (goodIn_of _ (by decide +kernel)) ggL_law_X12_tear
set_option maxRecDepth 20000 in
theorem ggL_law_X11_judge : GoodIn wsL_law wsX11_judge := goodIn_r _ [929, 49, 27, 393, 394, 395, 26, 396, 78, 397, 285, 89, 286, 930, 683, 684, 685, 686, 687, 688, 931, 932, 933, 48, 934, 911, 122, 935, 970, 971, 972, 973, 974, 975, 976, 977, 978, 979, 980, 1034, 1052, 1053] (by decide +kernel) (by decide +kernel)
set_option maxRecDepth 20000 in
theorem gL_law_X11_judge : GoodIn wsL_law (wsV RL 139 RX11 yX11_judge wsX11_judge) := goodIn_app (goodIn_of _ (by decide +kernel)) ggL_law_X11_judge
set_option maxRecDepth 20000 in
theorem ggL_law_X12_judge : GoodIn wsL_law wsX12_judge := goodIn_r _ [939, 324, 137, 150, 702, 703, 5, 704, 981, 982, 983, 984, 985, 986, 987, 988, 989, 990, 991, 992, 993, 994, 995, 996, 997, 998, 999, 1000, 1001, 1002, 1003, 1004, 1005, 1006, 1007, 1008, 1009, 1010, 1011, 1012, 1013, 1014, 1015] (by decide +kernel) (by decide +kernel)
set_option maxRecDepth 20000 in
theorem gL_law_X12_judge : GoodIn wsL_law (wsV RL 142 RX12 yX12_judge wsX12_judge) := goodIn_app (goodIn_of _ (by decide +kernel)) ggL_law_X12_judge
set_option maxRecDepth 20000 in
theorem ggL_law_X11_seed : GoodIn wsL_law wsX11_seed := goodIn_r _ [943, 162, 584, 970, 971, 972, 973, 974, 975, 976, 977, 978, 979, 980] (by decide +kernel) (by decide +kernel)
set_option maxRecDepth 20000 in
theorem gL_law_X11_seed : GoodIn wsL_law (wsV RL 143 RX11 yX11_seed wsX11_seed) := goodIn_app (goodIn_of _ (by decide +kernel)) ggL_law_X11_seed
set_option maxRecDepth 20000 in
theorem ggL_law_X12_seed : GoodIn wsL_law wsX12_seed := goodIn_r _ [947, 179, 598, 981, 982, 983, 984, 985, 986, 987, 988, 989, 990, 991, 992, 993, 994, 995, 996, 997, 998, 999, 1000, 1001, 1002, 1003, 1004, 1005, 1006, 1007, 1008, 1009, 1010, 1011, 1012, 1013, 1014, 1015] (by decide +kernel) (by decide +kernel)
set_option maxRecDepth 20000 in
theorem gL_law_X12_seed : GoodIn wsL_law (wsV RL 146 RX12 yX12_seed wsX12_seed) := goodIn_app (goodIn_of _ (by decide +kernel)) ggL_law_X12_seed
set_option maxRecDepth 20000 in
theorem ggL_law_X11_keep : GoodIn wsL_law wsX11_keep := goodIn_r _ [951, 406, 952, 27, 584, 953, 305, 31, 306, 307, 308, 2, 309, 33, 954, 955, 956, 26, 957, 78, 295, 282, 89, 283, 284, 285, 286, 287, 88, 90, 296, 297, 298, 30, 299, 300, 1054, 1055, 1056, 970, 971, 972, 973, 974, 975, 976, 977, 978, 979, 980, 1034, 1035, 1036, 1037] (by decide +kernel) (by decide +kernel)
set_option maxRecDepth 20000 in
theorem gL_law_X11_keep : GoodIn wsL_law (wsV RL 147 RX11 yX11_keep wsX11_keep) := goodIn_app (goodIn_of _ (by decide +kernel)) ggL_law_X11_keep
set_option maxRecDepth 20000 in
theorem ggL_law_X12_keep : GoodIn wsL_law wsX12_keep := goodIn_r _ [961, 415, 151, 137, 598, 153, 325, 182, 183, 5, 184, 981, 982, 983, 984, 985, 986, 987, 988, 989, 990, 991, 992, 993, 994, 995, 996, 997, 998, 999, 1000, 1001, 1002, 1003, 1004, 1005, 1006, 1007, 1008, 1009, 1010, 1011, 1012, 1013, 1014, 1015] (by decide +kernel) (by decide +kernel)
set_option maxRecDepth 20000 in
theorem gL_law_X12_keep : GoodIn wsL_law (wsV RL 150 RX12 yX12_keep wsX12_keep) := goodIn_app (goodIn_of _ (by decide +kernel)) ggL_law_X12_keep
set_option maxRecDepth 20000 in
theorem ggL_law_X11_goBack : GoodIn wsL_law wsX11_goBack := goodIn_r _ [965, 406, 305, 568, 27, 952, 953, 584, 31, 306, 307, 308, 2, 309, 33, 954, 955, 956, 26, 957, 78, 295, 282, 89, 283, 284, 285, 286, 287, 88, 90, 296, 297, 298, 30, 299, 300, 1054, 1055, 1056, 970, 971, 972, 973, 974, 975, 976, 977, 978, 979, 980, 1034, 1035, 1036, 1037] (by decide +kernel) (by decide +kernel)
set_option maxRecDepth 20000 in
theorem gL_law_X11_goBack : GoodIn wsL_law (wsV RL 151 RX11 yX11_goBack wsX11_goBack) := goodIn_app (goodIn_of _ (by decide +kernel)) ggL_law_X11_goBack
set_option maxRecDepth 20000 in
theorem ggL_law_X12_goBack : GoodIn wsL_law wsX12_goBack := goodIn_r _ [969, 415, 153, 575, 137, 151, 598, 325, 182, 183, 5, 184, 981, 982, 983, 984, 985, 986, 987, 988, 989, 990, 991, 992, 993, 994, 995, 996, 997, 998, 999, 1000, 1001, 1002, 1003, 1004, 1005, 1006, 1007, 1008, 1009, 1010, 1011, 1012, 1013, 1014, 1015] (by decide +kernel) (by decide +kernel)
set_option maxRecDepth 20000 in
theorem gL_law_X12_goBack : GoodIn wsL_law (wsV RL 154 RX12 yX12_goBack wsX12_goBack) := goodIn_app (goodIn_of _ (by decide +kernel)) ggL_law_X12_goBack
theorem dL_law_0 : decode cL_law 0 = .ok (.new 7, 3) := by decide +kernel
theorem dL_law_3 : decode cL_law 3 = .ok (.dup, 1) := by decide +kernel
theorem dL_law_4 : decode cL_law 4 = .ok (.invokespecial 9, 3) := by decide +kernel
theorem dL_law_7 : decode cL_law 7 = .ok (.astore_n 1, 1) := by decide +kernel
theorem dL_law_8 : decode cL_law 8 = .ok (.new 10, 3) := by decide +kernel
theorem dL_law_11 : decode cL_law 11 = .ok (.dup, 1) := by decide +kernel
theorem dL_law_12 : decode cL_law 12 = .ok (.invokespecial 12, 3) := by decide +kernel
theorem dL_law_15 : decode cL_law 15 = .ok (.astore_n 2, 1) := by decide +kernel
theorem dL_law_16 : decode cL_law 16 = .ok (.iconst 0, 1) := by decide +kernel
theorem dL_law_17 : decode cL_law 17 = .ok (.istore_n 3, 1) := by decide +kernel
theorem dL_law_18 : decode cL_law 18 = .ok (.iload_n 3, 1) := by decide +kernel
theorem dL_law_19 : decode cL_law 19 = .ok (.aload_n 0, 1) := by decide +kernel
theorem dL_law_20 : decode cL_law 20 = .ok (.arraylength, 1) := by decide +kernel
theorem dL_law_21 : decode cL_law 21 = .ok (.bipush 6, 2) := by decide +kernel
theorem dL_law_23 : decode cL_law 23 = .ok (.isub, 1) := by decide +kernel
theorem dL_law_24 : decode cL_law 24 = .ok (.if_icmp .gt 1144, 3) := by decide +kernel
theorem dL_law_27 : decode cL_law 27 = .ok (.aload_n 0, 1) := by decide +kernel
theorem dL_law_28 : decode cL_law 28 = .ok (.iload_n 3, 1) := by decide +kernel
theorem dL_law_29 : decode cL_law 29 = .ok (.iaload, 1) := by decide +kernel
theorem dL_law_30 : decode cL_law 30 = .ok (.bipush 63, 2) := by decide +kernel
theorem dL_law_32 : decode cL_law 32 = .ok (.iand, 1) := by decide +kernel
theorem dL_law_33 : decode cL_law 33 = .ok (.tableswitch 1129 0 33 #[151, 174, 187, 200, 223, 246, 279, 312, 345, 378, 411, 434, 457, 470, 513, 556, 599, 622, 665, 698, 741, 820, 873, 896, 929, 952, 975, 998, 1011, 1034, 1047, 1060, 1083, 1106], 151) := by decide +kernel
theorem dL_law_184 : decode cL_law 184 = .ok (.aload_n 1, 1) := by decide +kernel
theorem dL_law_185 : decode cL_law 185 = .ok (.aload_n 0, 1) := by decide +kernel
theorem dL_law_186 : decode cL_law 186 = .ok (.iload_n 3, 1) := by decide +kernel
theorem dL_law_187 : decode cL_law 187 = .ok (.iconst 1, 1) := by decide +kernel
theorem dL_law_188 : decode cL_law 188 = .ok (.iadd, 1) := by decide +kernel
theorem dL_law_189 : decode cL_law 189 = .ok (.iaload, 1) := by decide +kernel
theorem dL_law_190 : decode cL_law 190 = .ok (.invokevirtual 13, 3) := by decide +kernel
theorem dL_law_193 : decode cL_law 193 = .ok (.aload_n 2, 1) := by decide +kernel
theorem dL_law_194 : decode cL_law 194 = .ok (.aload_n 0, 1) := by decide +kernel
theorem dL_law_195 : decode cL_law 195 = .ok (.iload_n 3, 1) := by decide +kernel
theorem dL_law_196 : decode cL_law 196 = .ok (.iconst 1, 1) := by decide +kernel
theorem dL_law_197 : decode cL_law 197 = .ok (.iadd, 1) := by decide +kernel
theorem dL_law_198 : decode cL_law 198 = .ok (.iaload, 1) := by decide +kernel
theorem dL_law_199 : decode cL_law 199 = .ok (.invokevirtual 17, 3) := by decide +kernel
theorem dL_law_202 : decode cL_law 202 = .ok (.if_icmp .eq 960, 3) := by decide +kernel
theorem dL_law_205 : decode cL_law 205 = .ok (.iconst 0, 1) := by decide +kernel
theorem dL_law_206 : decode cL_law 206 = .ok (.ireturn, 1) := by decide +kernel
theorem dL_law_207 : decode cL_law 207 = .ok (.aload_n 1, 1) := by decide +kernel
theorem dL_law_208 : decode cL_law 208 = .ok (.invokevirtual 18, 3) := by decide +kernel
theorem dL_law_211 : decode cL_law 211 = .ok (.aload_n 2, 1) := by decide +kernel
theorem dL_law_212 : decode cL_law 212 = .ok (.invokevirtual 22, 3) := by decide +kernel
theorem dL_law_215 : decode cL_law 215 = .ok (.if_icmp .eq 947, 3) := by decide +kernel
theorem dL_law_218 : decode cL_law 218 = .ok (.iconst 0, 1) := by decide +kernel
theorem dL_law_219 : decode cL_law 219 = .ok (.ireturn, 1) := by decide +kernel
theorem dL_law_220 : decode cL_law 220 = .ok (.aload_n 1, 1) := by decide +kernel
theorem dL_law_221 : decode cL_law 221 = .ok (.invokevirtual 23, 3) := by decide +kernel
theorem dL_law_224 : decode cL_law 224 = .ok (.aload_n 2, 1) := by decide +kernel
theorem dL_law_225 : decode cL_law 225 = .ok (.invokevirtual 26, 3) := by decide +kernel
theorem dL_law_228 : decode cL_law 228 = .ok (.if_icmp .eq 934, 3) := by decide +kernel
theorem dL_law_231 : decode cL_law 231 = .ok (.iconst 0, 1) := by decide +kernel
theorem dL_law_232 : decode cL_law 232 = .ok (.ireturn, 1) := by decide +kernel
theorem dL_law_233 : decode cL_law 233 = .ok (.aload_n 1, 1) := by decide +kernel
theorem dL_law_234 : decode cL_law 234 = .ok (.aload_n 0, 1) := by decide +kernel
theorem dL_law_235 : decode cL_law 235 = .ok (.iload_n 3, 1) := by decide +kernel
theorem dL_law_236 : decode cL_law 236 = .ok (.iconst 1, 1) := by decide +kernel
theorem dL_law_237 : decode cL_law 237 = .ok (.iadd, 1) := by decide +kernel
theorem dL_law_238 : decode cL_law 238 = .ok (.iaload, 1) := by decide +kernel
theorem dL_law_239 : decode cL_law 239 = .ok (.invokevirtual 27, 3) := by decide +kernel
theorem dL_law_242 : decode cL_law 242 = .ok (.aload_n 2, 1) := by decide +kernel
theorem dL_law_243 : decode cL_law 243 = .ok (.aload_n 0, 1) := by decide +kernel
theorem dL_law_244 : decode cL_law 244 = .ok (.iload_n 3, 1) := by decide +kernel
theorem dL_law_245 : decode cL_law 245 = .ok (.iconst 1, 1) := by decide +kernel
theorem dL_law_246 : decode cL_law 246 = .ok (.iadd, 1) := by decide +kernel
theorem dL_law_247 : decode cL_law 247 = .ok (.iaload, 1) := by decide +kernel
theorem dL_law_248 : decode cL_law 248 = .ok (.invokevirtual 30, 3) := by decide +kernel
theorem dL_law_251 : decode cL_law 251 = .ok (.if_icmp .eq 911, 3) := by decide +kernel
theorem dL_law_254 : decode cL_law 254 = .ok (.iconst 0, 1) := by decide +kernel
theorem dL_law_255 : decode cL_law 255 = .ok (.ireturn, 1) := by decide +kernel
theorem dL_law_256 : decode cL_law 256 = .ok (.aload_n 1, 1) := by decide +kernel
theorem dL_law_257 : decode cL_law 257 = .ok (.aload_n 0, 1) := by decide +kernel
theorem dL_law_258 : decode cL_law 258 = .ok (.iload_n 3, 1) := by decide +kernel
theorem dL_law_259 : decode cL_law 259 = .ok (.iconst 1, 1) := by decide +kernel
theorem dL_law_260 : decode cL_law 260 = .ok (.iadd, 1) := by decide +kernel
theorem dL_law_261 : decode cL_law 261 = .ok (.iaload, 1) := by decide +kernel
theorem dL_law_262 : decode cL_law 262 = .ok (.invokevirtual 31, 3) := by decide +kernel
theorem dL_law_265 : decode cL_law 265 = .ok (.aload_n 2, 1) := by decide +kernel
theorem dL_law_266 : decode cL_law 266 = .ok (.aload_n 0, 1) := by decide +kernel
theorem dL_law_267 : decode cL_law 267 = .ok (.iload_n 3, 1) := by decide +kernel
theorem dL_law_268 : decode cL_law 268 = .ok (.iconst 1, 1) := by decide +kernel
theorem dL_law_269 : decode cL_law 269 = .ok (.iadd, 1) := by decide +kernel
theorem dL_law_270 : decode cL_law 270 = .ok (.iaload, 1) := by decide +kernel
theorem dL_law_271 : decode cL_law 271 = .ok (.invokevirtual 34, 3) := by decide +kernel
theorem dL_law_274 : decode cL_law 274 = .ok (.if_icmp .eq 888, 3) := by decide +kernel
theorem dL_law_277 : decode cL_law 277 = .ok (.iconst 0, 1) := by decide +kernel
theorem dL_law_278 : decode cL_law 278 = .ok (.ireturn, 1) := by decide +kernel
theorem dL_law_279 : decode cL_law 279 = .ok (.aload_n 1, 1) := by decide +kernel
theorem dL_law_280 : decode cL_law 280 = .ok (.aload_n 0, 1) := by decide +kernel
theorem dL_law_281 : decode cL_law 281 = .ok (.iload_n 3, 1) := by decide +kernel
theorem dL_law_282 : decode cL_law 282 = .ok (.iconst 1, 1) := by decide +kernel
theorem dL_law_283 : decode cL_law 283 = .ok (.iadd, 1) := by decide +kernel
theorem dL_law_284 : decode cL_law 284 = .ok (.iaload, 1) := by decide +kernel
theorem dL_law_285 : decode cL_law 285 = .ok (.aload_n 0, 1) := by decide +kernel
theorem dL_law_286 : decode cL_law 286 = .ok (.iload_n 3, 1) := by decide +kernel
theorem dL_law_287 : decode cL_law 287 = .ok (.iconst 2, 1) := by decide +kernel
theorem dL_law_288 : decode cL_law 288 = .ok (.iadd, 1) := by decide +kernel
theorem dL_law_289 : decode cL_law 289 = .ok (.iaload, 1) := by decide +kernel
theorem dL_law_290 : decode cL_law 290 = .ok (.invokevirtual 35, 3) := by decide +kernel
theorem dL_law_293 : decode cL_law 293 = .ok (.aload_n 2, 1) := by decide +kernel
theorem dL_law_294 : decode cL_law 294 = .ok (.aload_n 0, 1) := by decide +kernel
theorem dL_law_295 : decode cL_law 295 = .ok (.iload_n 3, 1) := by decide +kernel
theorem dL_law_296 : decode cL_law 296 = .ok (.iconst 1, 1) := by decide +kernel
theorem dL_law_297 : decode cL_law 297 = .ok (.iadd, 1) := by decide +kernel
theorem dL_law_298 : decode cL_law 298 = .ok (.iaload, 1) := by decide +kernel
theorem dL_law_299 : decode cL_law 299 = .ok (.aload_n 0, 1) := by decide +kernel
theorem dL_law_300 : decode cL_law 300 = .ok (.iload_n 3, 1) := by decide +kernel
theorem dL_law_301 : decode cL_law 301 = .ok (.iconst 2, 1) := by decide +kernel
theorem dL_law_302 : decode cL_law 302 = .ok (.iadd, 1) := by decide +kernel
theorem dL_law_303 : decode cL_law 303 = .ok (.iaload, 1) := by decide +kernel
