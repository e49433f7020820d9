set_option maxRecDepth 20000 in
theorem ggL_law_X11_init : GoodIn wsL_law wsX11_init := goodIn_r _ [8, 9, 10, 11, 12, 13, 14, 15, 16, 17, 18, 19, 20, 21, 22, 23, 24, 25, 26, 27, 28, 29, 30, 31, 32, 33, 34, 35, 36, 37, 38, 39, 40, 41, 42, 43, 44, 45, 46, 47, 48, 49, 50, 51, 52, 53, 54, 55, 56, 57, 58, 59, 60, 61, 62, 63, 64, 65, 66, 67, 68, 69, 70, 71, 72, 73, 74, 75, 76, 77, 78, 79, 80, 81, 82, 83, 84, 85, 86, 87, 88, 89, 90, 91, 92, 93, 94, 95, 96, 97, 98, 99, 100, 101, 102, 103, 104, 105, 106, 107, 108, 109, 110, 111, 112, 113, 114, 115, 116, 117, 118, 119, 120, 121, 122, 123, 124, 125, 126, 127, 128, 1016, 1017, 970, 971, 972, 973, 974, 975, 976, 977, 978, 979, 980, 1018, 1019, 1020, 1021, 1022, 1023, 1024, 1025, 1026, 1027, 1028, 1029, 1030, 1031, 1032, 1033, 1034, 1035, 1036, 1037, 1038, 1039, 1040, 1041, 1042, 1043, 1044, 1045, 1046, 1047, 1048, 1049, 1050, 1051, 1052, 1053, 1054, 1055, 1056] (by decide +kernel) (by decide +kernel)
set_option maxRecDepth 20000 in
theorem gL_law_X11_init : GoodIn wsL_law (wsX11_init) := ggL_law_X11_init
set_option maxRecDepth 20000 in
theorem ggL_law_X12_init : GoodIn wsL_law wsX12_init := goodIn_r _ [131, 132, 10, 11, 55, 133, 134, 135, 136, 137, 138, 139, 140, 141, 142, 143, 144, 145, 146, 147, 148, 149, 150, 151, 152, 153, 154, 155, 156, 5, 157, 981, 982, 983, 984, 985, 986, 987, 988, 989, 990, 991, 992, 993, 994, 995, 996, 997, 998, 999, 1000, 1001, 1002, 1003, 1004, 1005, 1006, 1007, 1008, 1009, 1010, 1011, 1012, 1013, 1014, 1015] (by decide +kernel) (by decide +kernel)
set_option maxRecDepth 20000 in
theorem gL_law_X12_init : GoodIn wsL_law (wsX12_init) := ggL_law_X12_init
set_option maxRecDepth 20000 in
theorem ggL_law_X11_feed : GoodIn wsL_law wsX11_feed := goodIn_r _ [161, 162, 15, 163, 164, 165, 166, 2, 167, 168, 169, 170, 14, 171, 172, 56, 173, 88, 89, 90, 970, 971, 972, 973, 974, 975, 976, 977, 978, 979, 980, 1016, 1017] (by decide +kernel) (by decide +kernel)
set_option maxRecDepth 20000 in
theorem gL_law_X11_feed : GoodIn wsL_law (wsV RL 13 RX11 yX11_feed wsX11_feed) := goodIn_app (goodIn_of _ (by decide +kernel)) ggL_law_X11_feed
set_option maxRecDepth 20000 in
theorem ggL_law_X12_feed : GoodIn wsL_law wsX12_feed := goodIn_r _ [177, 178, 179, 180, 181, 138, 182, 183, 5, 184, 981, 982, 983, 984, 985, 986, 987, 988, 989, 990, 991, 992, 993, 994, 995, 996, 997, 998, 999, 1000, 1001, 1002, 1003, 1004, 1005, 1006, 1007, 1008, 1009, 1010, 1011, 1012, 1013, 1014, 1015] (by decide +kernel) (by decide +kernel)
set_option maxRecDepth 20000 in
theorem gL_law_X12_feed : GoodIn wsL_law (wsV RL 17 RX12 yX12_feed wsX12_feed) := goodIn_app (goodIn_of _ (by decide +kernel)) ggL_law_X12_feed
set_option maxRecDepth 20000 in
theorem ggL_law_X11_house : GoodIn wsL_law wsX11_house := goodIn_r _ [188, 23, 15, 163, 189, 19, 190, 27, 31, 45, 191, 49, 192, 193, 194, 195, 22, 196, 71, 197, 72, 198, 199, 73, 200, 201, 202, 203, 18, 204, 205, 206, 207, 208, 209, 210, 211, 212, 213, 214, 215, 14, 216, 172, 56, 217, 218, 219, 220, 221, 222, 223, 224, 225, 226, 227, 228, 229, 230, 231, 232, 233, 234, 235, 236, 237, 238, 239, 240, 241, 242, 243, 244, 245, 246, 247, 60, 248, 88, 89, 90, 249, 250, 251, 252, 253, 254, 255, 256, 257, 258, 259, 260, 261, 262, 263, 264, 265, 266, 61, 62, 267, 268, 269, 270, 271, 272, 273, 274, 275, 276, 63, 64, 65, 277, 278, 279, 280, 281, 282, 283, 284, 285, 286, 287, 288, 289, 290, 26, 291, 292, 293, 78, 294, 79, 80, 81, 82, 83, 84, 85, 86, 87, 295, 296, 297, 298, 30, 299, 300, 301, 302, 303, 2, 304, 33, 305, 306, 307, 308, 309, 310, 311, 312, 313, 970, 971, 972, 973, 974, 975, 976, 977, 978, 979, 980, 1016, 1017, 1028, 1029, 1030, 1031, 1032, 1033, 1044, 1045, 1046, 1047, 1048, 1049, 1050, 1051, 1052, 1053, 1018, 1019, 1020, 1021, 1022, 1023, 1024, 1025, 1026, 1027, 1034, 1035, 1036, 1037, 1054, 1055, 1056] (by decide +kernel) (by decide +kernel)
set_option maxRecDepth 20000 in
theorem gL_law_X11_house : GoodIn wsL_law (wsV RL 18 RX11 yX11_house wsX11_house) := goodIn_app (goodIn_of _ (by decide +kernel)) ggL_law_X11_house
set_option maxRecDepth 20000 in
theorem ggL_law_X12_house : GoodIn wsL_law wsX12_house := goodIn_r _ [317, 139, 318, 319, 320, 321, 322, 180, 323, 324, 325, 153, 326, 327, 328, 5, 329, 138, 330, 331, 332, 333, 334, 335, 336, 337, 338, 339, 340, 341, 140, 342, 343, 344, 345, 346, 347, 348, 349, 350, 351, 352, 353, 182, 183, 184, 354, 355, 356, 357, 358, 359, 360, 361, 141, 142, 362, 363, 364, 365, 143, 144, 145, 366, 367, 368, 369, 370, 371, 372, 137, 133, 134, 135, 136, 154, 155, 156, 157, 373, 374, 375, 376, 981, 982, 983, 984, 985, 986, 987, 988, 989, 990, 991, 992, 993, 994, 995, 996, 997, 998, 999, 1000, 1001, 1002, 1003, 1004, 1005, 1006, 1007, 1008, 1009, 1010, 1011, 1012, 1013, 1014, 1015] (by decide +kernel) (by decide +kernel)
set_option maxRecDepth 20000 in
theorem gL_law_X12_house : GoodIn wsL_law (wsV RL 22 RX12 yX12_house wsX12_house) := goodIn_app (goodIn_of _ (by decide +kernel)) ggL_law_X12_house
set_option maxRecDepth 20000 in
theorem ggL_law_X11_fault : GoodIn wsL_law wsX11_fault := goodIn_r _ [380, 23, 381, 970, 971, 972, 973, 974, 975, 976, 977, 978, 979, 980, 1028, 1029, 1030, 1031, 1032, 1033] (by decide +kernel) (by decide +kernel)
set_option maxRecDepth 20000 in
theorem gL_law_X11_fault : GoodIn wsL_law (wsV RL 23 RX11 yX11_fault wsX11_fault) := goodIn_app (goodIn_of _ (by decide +kernel)) ggL_law_X11_fault
set_option maxRecDepth 20000 in
theorem ggL_law_X12_fault : GoodIn wsL_law wsX12_fault := goodIn_r _ [385, 139, 981, 982, 983, 984, 985, 986, 987, 988, 989, 990, 991, 992, 993, 994, 995, 996, 997, 998, 999, 1000, 1001, 1002, 1003, 1004, 1005, 1006, 1007, 1008, 1009, 1010, 1011, 1012, 1013, 1014, 1015] (by decide +kernel) (by decide +kernel)
set_option maxRecDepth 20000 in
theorem gL_law_X12_fault : GoodIn wsL_law (wsV RL 26 RX12 yX12_fault wsX12_fault) := goodIn_app (goodIn_of _ (by decide +kernel)) ggL_law_X12_fault
set_option maxRecDepth 20000 in
theorem ggL_law_X11_told : GoodIn wsL_law wsX11_told := goodIn_r _ [389, 19, 390, 391, 15, 163, 27, 45, 191, 49, 192, 31, 392, 162, 310, 311, 312, 18, 313, 205, 393, 394, 395, 26, 396, 78, 397, 285, 89, 286, 970, 971, 972, 973, 974, 975, 976, 977, 978, 979, 980, 1018, 1019, 1020, 1021, 1022, 1023, 1024, 1025, 1026, 1027, 1016, 1017, 1044, 1045, 1046, 1047, 1048, 1049, 1050, 1051, 1052, 1053, 1035, 1036, 1037, 1034] (by decide +kernel) (by decide +kernel)
set_option maxRecDepth 20000 in
theorem gL_law_X11_told : GoodIn wsL_law (wsV RL 27 RX11 yX11_told wsX11_told) := goodIn_app (goodIn_of _ (by decide +kernel)) ggL_law_X11_told
set_option maxRecDepth 20000 in
theorem ggL_law_X12_told : GoodIn wsL_law wsX12_told := goodIn_r _ [401, 371, 372, 180, 137, 323, 324, 325, 179, 373, 374, 375, 5, 376, 370, 981, 982, 983, 984, 985, 986, 987, 988, 989, 990, 991, 992, 993, 994, 995, 996, 997, 998, 999, 1000, 1001, 1002, 1003, 1004, 1005, 1006, 1007, 1008, 1009, 1010, 1011, 1012, 1013, 1014, 1015] (by decide +kernel) (by decide +kernel)
set_option maxRecDepth 20000 in
theorem gL_law_X12_told : GoodIn wsL_law (wsV RL 30 RX12 yX12_told wsX12_told) := goodIn_app (goodIn_of _ (by decide +kernel)) ggL_law_X12_told
set_option maxRecDepth 20000 in
theorem ggL_law_X11_thick : GoodIn wsL_law wsX11_thick := goodIn_r _ [405, 19, 27, 406, 407, 408, 409, 18, 410, 205, 393, 394, 395, 26, 396, 78, 397, 285, 89, 286, 970, 971, 972, 973, 974, 975, 976, 977, 978, 979, 980, 1018, 1019, 1020, 1021, 1022, 1023, 1024, 1025, 1026, 1027, 1034] (by decide +kernel) (by decide +kernel)
set_option maxRecDepth 20000 in
theorem gL_law_X11_thick : GoodIn wsL_law (wsV RL 31 RX11 yX11_thick wsX11_thick) := goodIn_app (goodIn_of _ (by decide +kernel)) ggL_law_X11_thick
set_option maxRecDepth 20000 in
theorem ggL_law_X12_thick : GoodIn wsL_law wsX12_thick := goodIn_r _ [414, 370, 137, 415, 182, 183, 5, 184, 981, 982, 983, 984, 985, 986, 987, 988, 989, 990, 991, 992, 993, 994, 995, 996, 997, 998, 999, 1000, 1001, 1002, 1003, 1004, 1005, 1006, 1007, 1008, 1009, 1010, 1011, 1012, 1013, 1014, 1015] (by decide +kernel) (by decide +kernel)
set_option maxRecDepth 20000 in
theorem gL_law_X12_thick : GoodIn wsL_law (wsV RL 34 RX12 yX12_thick wsX12_thick) := goodIn_app (goodIn_of _ (by decide +kernel)) ggL_law_X12_thick
set_option maxRecDepth 20000 in
theorem ggL_law_X11_sound : GoodIn wsL_law wsX11_sound := goodIn_r _ [419, 19, 406, 420, 421, 162, 422, 423, 424, 18, 425, 207, 426, 285, 89, 286, 970, 971, 972, 973, 974, 975, 976, 977, 978, 979, 980, 1018, 1019, 1020, 1021, 1022, 1023, 1024, 1025, 1026, 1027] (by decide +kernel) (by decide +kernel)
set_option maxRecDepth 20000 in
theorem gL_law_X11_sound : GoodIn wsL_law (wsV RL 35 RX11 yX11_sound wsX11_sound) := goodIn_app (goodIn_of _ (by decide +kernel)) ggL_law_X11_sound
set_option maxRecDepth 20000 in
theorem ggL_law_X12_sound : GoodIn wsL_law wsX12_sound := goodIn_r _ [430, 415, 133, 134, 179, 431, 432, 433, 5, 434, 371, 182, 183, 184, 981, 982, 983, 984, 985, 986, 987, 988, 989, 990, 991, 992, 993, 994, 995, 996, 997, 998, 999, 1000, 1001, 1002, 1003, 1004, 1005, 1006, 1007, 1008, 1009, 1010, 1011, 1012, 1013, 1014, 1015] (by decide +kernel) (by decide +kernel)
set_option maxRecDepth 20000 in
theorem gL_law_X12_sound : GoodIn wsL_law (wsV RL 39 RX12 yX12_sound wsX12_sound) := goodIn_app (goodIn_of _ (by decide +kernel)) ggL_law_X12_sound
set_option maxRecDepth 20000 in
theorem ggL_law_X11_witness : GoodIn wsL_law wsX11_witness := goodIn_r _ [438, 19, 406, 27, 439, 440, 162, 441, 442, 443, 18, 444, 208, 393, 394, 395, 26, 396, 78, 397, 285, 89, 286, 426, 970, 971, 972, 973, 974, 975, 976, 977, 978, 979, 980, 1018, 1019, 1020, 1021, 1022, 1023, 1024, 1025, 1026, 1027, 1034] (by decide +kernel) (by decide +kernel)
set_option maxRecDepth 20000 in
theorem gL_law_X11_witness : GoodIn wsL_law (wsV RL 40 RX11 yX11_witness wsX11_witness) := goodIn_app (goodIn_of _ (by decide +kernel)) ggL_law_X11_witness
set_option maxRecDepth 20000 in
theorem ggL_law_X12_witness : GoodIn wsL_law wsX12_witness := goodIn_r _ [448, 415, 137, 135, 136, 179, 449, 450, 451, 5, 452, 372, 182, 183, 184, 981, 982, 983, 984, 985, 986, 987, 988, 989, 990, 991, 992, 993, 994, 995, 996, 997, 998, 999, 1000, 1001, 1002, 1003, 1004, 1005, 1006, 1007, 1008, 1009, 1010, 1011, 1012, 1013, 1014, 1015] (by decide +kernel) (by decide +kernel)
set_option maxRecDepth 20000 in
theorem gL_law_X12_witness : GoodIn wsL_law (wsV RL 43 RX12 yX12_witness wsX12_witness) := goodIn_app (goodIn_of _ (by decide +kernel)) ggL_law_X12_witness
set_option maxRecDepth 20000 in
theorem ggL_law_X11_morning : GoodIn wsL_law wsX11_morning := goodIn_r _ [456, 19, 406, 164, 31, 27, 422, 423, 424, 18, 425, 207, 457, 458, 459, 460, 461, 311, 312, 313, 205, 462, 463, 464, 2, 465, 393, 394, 395, 26, 396, 78, 397, 285, 89, 286, 466, 467, 468, 30, 469, 470, 94, 471, 300, 472, 238, 239, 240, 473, 282, 283, 284, 287, 88, 90, 474, 475, 476, 477, 37, 391, 478, 84, 85, 86, 87, 479, 480, 481, 36, 482, 99, 483, 484, 485, 486, 487, 100, 488, 489, 490, 491, 492, 493, 494, 495, 496, 497, 498, 499, 500, 501, 502, 503, 504, 505, 506, 970, 971, 972, 973, 974, 975, 976, 977, 978, 979, 980, 1018, 1019, 1020, 1021, 1022, 1023, 1024, 1025, 1026, 1027, 1034, 1035, 1036, 1037, 1038, 1039] (by decide +kernel) (by decide +kernel)
set_option maxRecDepth 20000 in
theorem gL_law_X11_morning : GoodIn wsL_law (wsV RL 44 RX11 yX11_morning wsX11_morning) := goodIn_app (goodIn_of _ (by decide +kernel)) ggL_law_X11_morning
set_option maxRecDepth 20000 in
theorem ggL_law_X12_morning : GoodIn wsL_law wsX12_morning := goodIn_r _ [510, 415, 137, 181, 431, 432, 433, 5, 434, 371, 182, 183, 184, 511, 512, 513, 514, 373, 374, 375, 376, 370, 515, 516, 517, 518, 325, 146, 519, 520, 521, 522, 372, 523, 524, 525, 526, 135, 527, 528, 529, 530, 133, 531, 532, 533, 534, 535, 536, 537, 538, 136, 134, 539, 540, 541, 542, 981, 982, 983, 984, 985, 986, 987, 988, 989, 990, 991, 992, 993, 994, 995, 996, 997, 998, 999, 1000, 1001, 1002, 1003, 1004, 1005, 1006, 1007, 1008, 1009, 1010, 1011, 1012, 1013, 1014, 1015] (by decide +kernel) (by decide +kernel)
set_option maxRecDepth 20000 in
theorem gL_law_X12_morning : GoodIn wsL_law (wsV RL 47 RX12 yX12_morning wsX12_morning) := goodIn_app (goodIn_of _ (by decide +kernel)) ggL_law_X12_morning
set_option maxRecDepth 20000 in
theorem ggL_law_X11_move : GoodIn wsL_law wsX11_move := goodIn_r _ [546, 19, 406, 441, 442, 443, 18, 444, 208, 457, 458, 459, 460, 461, 311, 312, 313, 205, 547, 548, 549, 2, 550, 27, 31, 393, 394, 395, 26, 396, 78, 397, 285, 89, 286, 466, 467, 468, 30, 469, 470, 94, 471, 300, 472, 238, 239, 240, 473, 282, 283, 284, 287, 88, 90, 478, 84, 85, 86, 87, 970, 971, 972, 973, 974, 975, 976, 977, 978, 979, 980, 1018, 1019, 1020, 1021, 1022, 1023, 1024, 1025, 1026, 1027, 1034, 1035, 1036, 1037] (by decide +kernel) (by decide +kernel)
set_option maxRecDepth 20000 in
theorem gL_law_X11_move : GoodIn wsL_law (wsV RL 48 RX11 yX11_move wsX11_move) := goodIn_app (goodIn_of _ (by decide +kernel)) ggL_law_X11_move
set_option maxRecDepth 20000 in
theorem ggL_law_X12_move : GoodIn wsL_law wsX12_move := goodIn_r _ [554, 415, 137, 449, 450, 451, 5, 452, 372, 182, 183, 184, 511, 512, 513, 514, 373, 374, 375, 376, 370, 515, 516, 517, 518, 325, 146, 981, 982, 983, 984, 985, 986, 987, 988, 989, 990, 991, 992, 993, 994, 995, 996, 997, 998, 999, 1000, 1001, 1002, 1003, 1004, 1005, 1006, 1007, 1008, 1009, 1010, 1011, 1012, 1013, 1014, 1015] (by decide +kernel) (by decide +kernel)
set_option maxRecDepth 20000 in
theorem gL_law_X12_move : GoodIn wsL_law (wsV RL 51 RX12 yX12_move wsX12_move) := goodIn_app (goodIn_of _ (by decide +kernel)) ggL_law_X12_move
set_option maxRecDepth 20000 in
theorem ggL_law_X11_wall : GoodIn wsL_law wsX11_wall := goodIn_r _ [558, 19, 406, 162, 407, 408, 409, 18, 410, 205, 165, 166, 2, 167, 547, 548, 549, 550, 27, 31, 393, 394, 395, 26, 396, 78, 397, 285, 89, 286, 466, 467, 468, 30, 469, 470, 94, 471, 300, 472, 238, 239, 240, 473, 282, 283, 284, 287, 88, 90, 478, 84, 85, 86, 87, 970, 971, 972, 973, 974, 975, 976, 977, 978, 979, 980, 1018, 1019, 1020, 1021, 1022, 1023, 1024, 1025, 1026, 1027, 1034, 1035, 1036, 1037] (by decide +kernel) (by decide +kernel)
set_option maxRecDepth 20000 in
theorem gL_law_X11_wall : GoodIn wsL_law (wsV RL 52 RX11 yX11_wall wsX11_wall) := goodIn_app (goodIn_of _ (by decide +kernel)) ggL_law_X11_wall
set_option maxRecDepth 20000 in
theorem ggL_law_X12_wall : GoodIn wsL_law wsX12_wall := goodIn_r _ [562, 370, 415, 563, 179, 137, 182, 183, 5, 184, 515, 516, 517, 518, 325, 146, 981, 982, 983, 984, 985, 986, 987, 988, 989, 990, 991, 992, 993, 994, 995, 996, 997, 998, 999, 1000, 1001, 1002, 1003, 1004, 1005, 1006, 1007, 1008, 1009, 1010, 1011, 1012, 1013, 1014, 1015] (by decide +kernel) (by decide +kernel)
set_option maxRecDepth 20000 in
theorem gL_law_X12_wall : GoodIn wsL_law (wsV RL 55 RX12 yX12_wall wsX12_wall) := goodIn_app (goodIn_of _ (by decide +kernel)) ggL_law_X12_wall
set_option maxRecDepth 20000 in
theorem ggL_law_X11_wind : GoodIn wsL_law wsX11_wind := goodIn_r _ [567, 162, 19, 568, 165, 166, 2, 167, 569, 222, 223, 18, 224, 205, 547, 548, 549, 550, 27, 31, 393, 394, 395, 26, 396, 78, 397, 285, 89, 286, 466, 467, 468, 30, 469, 470, 94, 471, 300, 472, 238, 239, 240, 473, 282, 283, 284, 287, 88, 90, 478, 84, 85, 86, 87, 970, 971, 972, 973, 974, 975, 976, 977, 978, 979, 980, 1018, 1019, 1020, 1021, 1022, 1023, 1024, 1025, 1026, 1027, 1034, 1035, 1036, 1037] (by decide +kernel) (by decide +kernel)
set_option maxRecDepth 20000 in
theorem gL_law_X11_wind : GoodIn wsL_law (wsV RL 56 RX11 yX11_wind wsX11_wind) := goodIn_app (goodIn_of _ (by decide +kernel)) ggL_law_X11_wind
set_option maxRecDepth 20000 in
theorem ggL_law_X12_wind : GoodIn wsL_law wsX12_wind := goodIn_r _ [573, 574, 179, 370, 575, 137, 182, 183, 5, 184, 515, 516, 517, 518, 325, 146, 981, 982, 983, 984, 985, 986, 987, 988, 989, 990, 991, 992, 993, 994, 995, 996, 997, 998, 999, 1000, 1001, 1002, 1003, 1004, 1005, 1006, 1007, 1008, 1009, 1010, 1011, 1012, 1013, 1014, 1015] (by decide +kernel) (by decide +kernel)
set_option maxRecDepth 20000 in
theorem gL_law_X12_wind : GoodIn wsL_law (wsV RL 59 RX12 yX12_wind wsX12_wind) := goodIn_app (goodIn_of _ (by decide +kernel)) ggL_law_X12_wind
set_option maxRecDepth 20000 in
theorem ggL_law_X11_drift : GoodIn wsL_law wsX11_drift := goodIn_r _ [579, 162, 19, 568, 164, 31, 27, 390, 569, 222, 223, 18, 224, 205, 462, 463, 464, 2, 465, 393, 394, 395, 26, 396, 78, 397, 285, 89, 286, 466, 467, 468, 30, 469, 470, 94, 471, 300, 472, 238, 239, 240, 473, 282, 283, 284, 287, 88, 90, 580, 581, 582, 583, 584, 585, 586, 587, 588, 310, 311, 312, 313, 474, 475, 476, 477, 37, 391, 478, 84, 85, 86, 87, 479, 480, 481, 36, 482, 99, 483, 484, 485, 486, 487, 100, 488, 489, 490, 491, 492, 493, 494, 495, 496, 497, 498, 499, 500, 501, 502, 503, 504, 505, 506, 970, 971, 972, 973, 974, 975, 976, 977, 978, 979, 980, 1018, 1019, 1020, 1021, 1022, 1023, 1024, 1025, 1026, 1027, 1034, 1035, 1036, 1037, 1038, 1039] (by decide +kernel) (by decide +kernel)
set_option maxRecDepth 20000 in
theorem gL_law_X11_drift : GoodIn wsL_law (wsV RL 60 RX11 yX11_drift wsX11_drift) := goodIn_app (goodIn_of _ (by decide +kernel)) ggL_law_X11_drift
set_option maxRecDepth 20000 in
theorem ggL_law_X12_drift : GoodIn wsL_law wsX12_drift := goodIn_r _ [592, 593, 179, 370, 575, 137, 181, 371, 182, 183, 5, 184, 515, 516, 517, 518, 325, 146, 594, 595, 596, 597, 598, 599, 600, 601, 602, 373, 374, 375, 376, 519, 520, 521, 522, 372, 523, 524, 525, 526, 135, 527, 528, 529, 530, 133, 531, 532, 533, 534, 535, 536, 537, 538, 136, 134, 539, 540, 541, 542, 981, 982, 983, 984, 985, 986, 987, 988, 989, 990, 991, 992, 993, 994, 995, 996, 997, 998, 999, 1000, 1001, 1002, 1003, 1004, 1005, 1006, 1007, 1008, 1009, 1010, 1011, 1012, 1013, 1014, 1015] (by decide +kernel) (by decide +kernel)
set_option maxRecDepth 20000 in
theorem gL_law_X12_drift : GoodIn wsL_law (wsV RL 63 RX12 yX12_drift wsX12_drift) := goodIn_app (goodIn_of _ (by decide +kernel)) ggL_law_X12_drift
set_option maxRecDepth 20000 in
theorem ggL_law_X11_undo : GoodIn wsL_law wsX11_undo := goodIn_r _ [606, 31, 27, 392, 568, 607, 608, 609, 30, 610, 300, 471, 94, 470, 473, 282, 89, 283, 284, 285, 286, 287, 88, 90, 970, 971, 972, 973, 974, 975, 976, 977, 978, 979, 980, 1035, 1036, 1037, 1034] (by decide +kernel) (by decide +kernel)
set_option maxRecDepth 20000 in
theorem gL_law_X11_undo : GoodIn wsL_law (wsV RL 64 RX11 yX11_undo wsX11_undo) := goodIn_app (goodIn_of _ (by decide +kernel)) ggL_law_X11_undo
set_option maxRecDepth 20000 in
theorem ggL_law_X12_undo : GoodIn wsL_law wsX12_undo := goodIn_r _ [614, 325, 575, 137, 146, 981, 982, 983, 984, 985, 986, 987, 988, 989, 990, 991, 992, 993, 994, 995, 996, 997, 998, 999, 1000, 1001, 1002, 1003, 1004, 1005, 1006, 1007, 1008, 1009, 1010, 1011, 1012, 1013, 1014, 1015] (by decide +kernel) (by decide +kernel)
set_option maxRecDepth 20000 in
theorem gL_law_X12_undo : GoodIn wsL_law (wsV RL 67 RX12 yX12_undo wsX12_undo) := goodIn_app (goodIn_of _ (by decide +kernel)) ggL_law_X12_undo
set_option maxRecDepth 20000 in
theorem ggL_law_X11_comes : GoodIn wsL_law wsX11_comes := goodIn_r _ [618, 19, 406, 37, 422, 423, 424, 18, 425, 207, 457, 458, 459, 460, 461, 311, 312, 313, 205, 619, 492, 493, 36, 494, 495, 238, 239, 240, 496, 497, 498, 99, 499, 100, 488, 490, 285, 89, 286, 970, 971, 972, 973, 974, 975, 976, 977, 978, 979, 980, 1018, 1019, 1020, 1021, 1022, 1023, 1024, 1025, 1026, 1027, 1038, 1039, 1034] (by decide +kernel) (by decide +kernel)
set_option maxRecDepth 20000 in
theorem gL_law_X11_comes : GoodIn wsL_law (wsV RL 68 RX11 yX11_comes wsX11_comes) := goodIn_app (goodIn_of _ (by decide +kernel)) ggL_law_X11_comes
set_option maxRecDepth 20000 in
theorem ggL_law_X12_comes : GoodIn wsL_law wsX12_comes := goodIn_r _ [623, 415, 431, 432, 433, 5, 434, 371, 182, 183, 184, 511, 512, 513, 514, 373, 374, 375, 376, 370, 527, 528, 529, 530, 133, 137, 981, 982, 983, 984, 985, 986, 987, 988, 989, 990, 991, 992, 993, 994, 995, 996, 997, 998, 999, 1000, 1001, 1002, 1003, 1004, 1005, 1006, 1007, 1008, 1009, 1010, 1011, 1012, 1013, 1014, 1015] (by decide +kernel) (by decide +kernel)
set_option maxRecDepth 20000 in
theorem gL_law_X12_comes : GoodIn wsL_law (wsV RL 72 RX12 yX12_comes wsX12_comes) := goodIn_app (goodIn_of _ (by decide +kernel)) ggL_law_X12_comes
set_option maxRecDepth 20000 in
theorem ggL_law_X11_says : GoodIn wsL_law wsX11_says := goodIn_r _ [627, 19, 406, 37, 441, 442, 443, 18, 444, 208, 422, 423, 424, 425, 207, 457, 458, 459, 460, 461, 311, 312, 313, 205, 500, 501, 502, 36, 503, 99, 504, 505, 506, 490, 285, 89, 286, 484, 485, 486, 487, 100, 488, 489, 491, 492, 493, 494, 495, 238, 239, 240, 496, 497, 498, 499, 970, 971, 972, 973, 974, 975, 976, 977, 978, 979, 980, 1018, 1019, 1020, 1021, 1022, 1023, 1024, 1025, 1026, 1027, 1038, 1039, 1034] (by decide +kernel) (by decide +kernel)
set_option maxRecDepth 20000 in
theorem gL_law_X11_says : GoodIn wsL_law (wsV RL 73 RX11 yX11_says wsX11_says) := goodIn_app (goodIn_of _ (by decide +kernel)) ggL_law_X11_says
set_option maxRecDepth 20000 in
theorem ggL_law_X12_says : GoodIn wsL_law wsX12_says := goodIn_r _ [631, 415, 449, 450, 451, 5, 452, 372, 182, 183, 184, 431, 432, 433, 434, 371, 511, 512, 513, 514, 373, 374, 375, 376, 370, 535, 536, 537, 538, 136, 134, 539, 540, 541, 542, 531, 532, 533, 534, 137, 135, 527, 528, 529, 530, 133, 523, 524, 525, 526, 981, 982, 983, 984, 985, 986, 987, 988, 989, 990, 991, 992, 993, 994, 995, 996, 997, 998, 999, 1000, 1001, 1002, 1003, 1004, 1005, 1006, 1007, 1008, 1009, 1010, 1011, 1012, 1013, 1014, 1015] (by decide +kernel) (by decide +kernel)
set_option maxRecDepth 20000 in
theorem gL_law_X12_says : GoodIn wsL_law (wsV RL 76 RX12 yX12_says wsX12_says) := goodIn_app (goodIn_of _ (by decide +kernel)) ggL_law_X12_says
set_option maxRecDepth 20000 in
theorem ggL_law_X11_listen : GoodIn wsL_law wsX11_listen := goodIn_r _ [635, 19, 406, 162, 41, 422, 423, 424, 18, 425, 207, 457, 458, 459, 460, 461, 311, 312, 313, 205, 165, 166, 2, 167, 636, 637, 638, 40, 639, 106, 108, 640, 641, 492, 493, 36, 494, 495, 238, 239, 240, 496, 497, 498, 99, 499, 100, 488, 490, 285, 89, 286, 970, 971, 972, 973, 974, 975, 976, 977, 978, 979, 980, 1018, 1019, 1020, 1021, 1022, 1023, 1024, 1025, 1026, 1027, 1040, 1041, 1042, 1043, 1038, 1039, 1034] (by decide +kernel) (by decide +kernel)
set_option maxRecDepth 20000 in
theorem gL_law_X11_listen : GoodIn wsL_law (wsV RL 77 RX11 yX11_listen wsX11_listen) := goodIn_app (goodIn_of _ (by decide +kernel)) ggL_law_X11_listen
set_option maxRecDepth 20000 in
theorem ggL_law_X12_listen : GoodIn wsL_law wsX12_listen := goodIn_r _ [645, 415, 646, 179, 431, 432, 433, 5, 434, 371, 182, 183, 184, 511, 512, 513, 514, 373, 374, 375, 376, 370, 647, 648, 649, 650, 527, 528, 529, 530, 133, 137, 981, 982, 983, 984, 985, 986, 987, 988, 989, 990, 991, 992, 993, 994, 995, 996, 997, 998, 999, 1000, 1001, 1002, 1003, 1004, 1005, 1006, 1007, 1008, 1009, 1010, 1011, 1012, 1013, 1014, 1015] (by decide +kernel) (by decide +kernel)
set_option maxRecDepth 20000 in
theorem gL_law_X12_listen : GoodIn wsL_law (wsV RL 80 RX12 yX12_listen wsX12_listen) := goodIn_app (goodIn_of _ (by decide +kernel)) ggL_law_X12_listen
set_option maxRecDepth 20000 in
theorem ggL_law_X11_deaf : GoodIn wsL_law wsX11_deaf := goodIn_r _ [654, 19, 41, 406, 422, 423, 424, 18, 425, 207, 655, 656, 657, 40, 658, 106, 108, 640, 311, 312, 313, 205, 659, 480, 481, 36, 482, 99, 483, 484, 485, 486, 487, 100, 488, 489, 490, 285, 89, 286, 491, 492, 493, 494, 495, 238, 239, 240, 496, 497, 498, 499, 970, 971, 972, 973, 974, 975, 976, 977, 978, 979, 980, 1018, 1019, 1020, 1021, 1022, 1023, 1024, 1025, 1026, 1027, 1040, 1041, 1042, 1043, 1038, 1039, 1034] (by decide +kernel) (by decide +kernel)
set_option maxRecDepth 20000 in
theorem gL_law_X11_deaf : GoodIn wsL_law (wsV RL 81 RX11 yX11_deaf wsX11_deaf) := goodIn_app (goodIn_of _ (by decide +kernel)) ggL_law_X11_deaf
set_option maxRecDepth 20000 in
theorem ggL_law_X12_deaf : GoodIn wsL_law wsX12_deaf := goodIn_r _ [663, 415, 431, 432, 433, 5, 434, 371, 182, 183, 184, 373, 374, 375, 376, 370, 664, 665, 666, 667, 372, 523, 524, 525, 526, 137, 135, 527, 528, 529, 530, 133, 981, 982, 983, 984, 985, 986, 987, 988, 989, 990, 991, 992, 993, 994, 995, 996, 997, 998, 999, 1000, 1001, 1002, 1003, 1004, 1005, 1006, 1007, 1008, 1009, 1010, 1011, 1012, 1013, 1014, 1015] (by decide +kernel) (by decide +kernel)
set_option maxRecDepth 20000 in
theorem gL_law_X12_deaf : GoodIn wsL_law (wsV RL 84 RX12 yX12_deaf wsX12_deaf) := goodIn_app (goodIn_of _ (by decide +kernel)) ggL_law_X12_deaf
set_option maxRecDepth 20000 in
theorem ggL_law_X11_ears : GoodIn wsL_law wsX11_ears := goodIn_r _ [671, 19, 406, 162, 41, 422, 423, 424, 18, 425, 207, 672, 673, 674, 675, 461, 311, 312, 313, 205, 165, 166, 2, 167, 676, 677, 678, 40, 679, 106, 105, 640, 680, 637, 638, 639, 108, 641, 492, 493, 36, 494, 495, 238, 239, 240, 496, 497, 498, 99, 499, 100, 488, 490, 285, 89, 286, 681, 88, 90, 682, 683, 684, 685, 686, 687, 688, 689, 690, 691, 692, 693, 970, 971, 972, 973, 974, 975, 976, 977, 978, 979, 980, 1018, 1019, 1020, 1021, 1022, 1023, 1024, 1025, 1026, 1027, 1040, 1041, 1042, 1043, 1038, 1039, 1034] (by decide +kernel) (by decide +kernel)
set_option maxRecDepth 20000 in
theorem gL_law_X11_ears : GoodIn wsL_law (wsV RL 85 RX11 yX11_ears wsX11_ears) := goodIn_app (goodIn_of _ (by decide +kernel)) ggL_law_X11_ears
set_option maxRecDepth 20000 in
theorem ggL_law_X12_ears : GoodIn wsL_law wsX12_ears := goodIn_r _ [697, 415, 646, 179, 431, 432, 433, 5, 434, 371, 182, 183, 184, 698, 699, 700, 701, 373, 374, 375, 376, 370, 702, 703, 704, 705, 706, 707, 708, 709, 710, 711, 647, 648, 649, 650, 527, 528, 529, 530, 133, 137, 981, 982, 983, 984, 985, 986, 987, 988, 989, 990, 991, 992, 993, 994, 995, 996, 997, 998, 999, 1000, 1001, 1002, 1003, 1004, 1005, 1006, 1007, 1008, 1009, 1010, 1011, 1012, 1013, 1014, 1015] (by decide +kernel) (by decide +kernel)
set_option maxRecDepth 20000 in
theorem gL_law_X12_ears : GoodIn wsL_law (wsV RL 88 RX12 yX12_ears wsX12_ears) := goodIn_app (goodIn_of _ (by decide +kernel)) ggL_law_X12_ears
set_option maxRecDepth 20000 in
theorem ggL_law_X11_alike : GoodIn wsL_law wsX11_alike := goodIn_r _ [715, 19, 41, 406, 457, 458, 459, 18, 460, 461, 311, 312, 313, 205, 716, 717, 718, 40, 719, 106, 720, 721, 722, 723, 724, 725, 108, 726, 501, 502, 36, 503, 99, 504, 505, 506, 490, 285, 89, 286, 484, 485, 486, 487, 100, 488, 489, 491, 492, 493, 494, 495, 238, 239, 240, 496, 497, 498, 499, 970, 971, 972, 973, 974, 975, 976, 977, 978, 979, 980, 1018, 1019, 1020, 1021, 1022, 1023, 1024, 1025, 1026, 1027, 1040, 1041, 1042, 1043, 1038, 1039, 1034] (by decide +kernel) (by decide +kernel)
set_option maxRecDepth 20000 in
theorem gL_law_X11_alike : GoodIn wsL_law (wsV RL 89 RX11 yX11_alike wsX11_alike) := goodIn_app (goodIn_of _ (by decide +kernel)) ggL_law_X11_alike
set_option maxRecDepth 20000 in
theorem ggL_law_X12_alike : GoodIn wsL_law wsX12_alike := goodIn_r _ [730, 415, 371, 511, 512, 513, 5, 514, 373, 374, 375, 376, 370, 182, 183, 184, 731, 732, 733, 734, 372, 535, 536, 537, 538, 136, 134, 539, 540, 541, 542, 531, 532, 533, 534, 137, 135, 527, 528, 529, 530, 133, 523, 524, 525, 526, 981, 982, 983, 984, 985, 986, 987, 988, 989, 990, 991, 992, 993, 994, 995, 996, 997, 998, 999, 1000, 1001, 1002, 1003, 1004, 1005, 1006, 1007, 1008, 1009, 1010, 1011, 1012, 1013, 1014, 1015] (by decide +kernel) (by decide +kernel)
set_option maxRecDepth 20000 in
theorem gL_law_X12_alike : GoodIn wsL_law (wsV RL 92 RX12 yX12_alike wsX12_alike) := goodIn_app (goodIn_of _ (by decide +kernel)) ggL_law_X12_alike
set_option maxRecDepth 20000 in
theorem ggL_law_X11_hides : GoodIn wsL_law wsX11_hides := goodIn_r _ [738, 19, 406, 41, 407, 408, 409, 18, 410, 205, 422, 423, 424, 425, 207, 457, 458, 459, 460, 461, 311, 312, 313, 739, 740, 741, 40, 742, 106, 725, 108, 107, 743, 238, 239, 240, 744, 497, 498, 745, 485, 486, 36, 487, 100, 488, 99, 489, 490, 285, 89, 286, 491, 492, 493, 494, 495, 496, 499, 746, 394, 395, 26, 396, 78, 397, 970, 971, 972, 973, 974, 975, 976, 977, 978, 979, 980, 1018, 1019, 1020, 1021, 1022, 1023, 1024, 1025, 1026, 1027, 1040, 1041, 1042, 1043, 1038, 1039, 1034] (by decide +kernel) (by decide +kernel)
