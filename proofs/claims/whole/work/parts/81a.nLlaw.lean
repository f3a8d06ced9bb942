set_option maxRecDepth 20000 in
theorem ggL_law_X8_init : GoodIn wsL_law wsX8_init := goodIn_r _ [10, 11, 12, 13, 14, 15, 16, 17, 18, 19, 20, 21, 22, 23, 24, 25, 26, 27, 28, 29, 30, 31, 32, 33, 34, 35, 36, 37, 38, 39, 40, 41, 42, 43, 44, 45, 46, 47, 48, 49, 50, 51, 52, 53, 54, 55, 56, 57, 58, 59, 60, 61, 62, 63, 64, 65, 66, 67, 68, 69, 70, 71, 72, 73, 74, 75, 76, 77, 78, 79, 80, 81, 82, 83, 84, 85, 86, 87, 88, 89, 90, 91, 92, 93, 94, 95, 96, 97, 98, 99, 100, 101, 102, 103, 104, 105, 106, 107, 108, 109, 110, 111, 112, 113, 114, 115, 116, 117, 118, 119, 120, 121, 122, 1000, 1001, 1002, 1003, 1004, 971, 972, 973, 974, 975, 976, 977, 978, 979, 1005, 1006, 1007, 1008, 1009, 1010, 1011, 1012, 1013, 1014, 1015, 1016, 1017, 1018, 1019, 1020, 1021, 1022, 1023, 1024, 1025, 1026, 1027, 1028, 1029, 1030] (by decide +kernel) (by decide +kernel)
set_option maxRecDepth 20000 in
theorem gL_law_X8_init : GoodIn wsL_law (wsX8_init) := ggL_law_X8_init
set_option maxRecDepth 20000 in
theorem ggL_law_X9_init : GoodIn wsL_law wsX9_init := goodIn_r _ [125, 126, 12, 13, 127, 128, 47, 129, 130, 131, 132, 76, 133, 134, 135, 136, 137, 138, 139, 980, 981, 982, 983, 984, 985, 986, 987, 988, 989, 990, 991, 992, 993, 994, 995, 996, 997, 998, 999] (by decide +kernel) (by decide +kernel)
set_option maxRecDepth 20000 in
theorem gL_law_X9_init : GoodIn wsL_law (wsX9_init) := ggL_law_X9_init
set_option maxRecDepth 20000 in
theorem ggL_law_L_append : GoodIn wsL_law wsL_append := goodIn_ca (goodIn_ca (goodIn_r _ [143, 144, 145, 146, 147, 148, 2, 149, 150, 151, 26, 152, 153, 154, 155, 156, 157, 158, 159, 25, 160, 161, 162, 163, 164, 165, 63, 971, 972, 973, 974, 975, 976, 977, 978, 979, 1013, 1014] (by decide +kernel) (by decide +kernel)) (goodIn_sub (fun _ h => List.mem_append_left _ (List.mem_append_left _ (List.mem_append_right _ h))) (by decide +kernel))) (goodIn_sub (fun _ h => List.mem_append_left _ (List.mem_append_right _ h)) (by decide +kernel))
set_option maxRecDepth 20000 in
theorem gL_law_L_append : GoodIn wsL_law (va_wsS RL 107 yL_append wsL_append) := goodIn_app (goodIn_of _ (by decide +kernel)) ggL_law_L_append
set_option maxRecDepth 20000 in
theorem ggL_law_X9_append : GoodIn wsL_law wsX9_append := goodIn_r _ [169, 170, 171, 134, 172, 173, 5, 174, 175, 176, 177, 178, 179, 980, 981, 982, 983, 984, 985, 986, 987, 988, 989, 990, 991, 992, 993, 994, 995, 996, 997, 998, 999] (by decide +kernel) (by decide +kernel)
set_option maxRecDepth 20000 in
theorem gL_law_X9_append : GoodIn wsL_law (wsV RL 112 RX9 yX9_append wsX9_append) := goodIn_app (goodIn_of _ (by decide +kernel)) ggL_law_X9_append
set_option maxRecDepth 20000 in
theorem ggL_law_X9_thrown : GoodIn wsL_law wsX9_thrown := goodIn_r _ [183, 179, 980, 981, 982, 983, 984, 985, 986, 987, 988, 989, 990, 991, 992, 993, 994, 995, 996, 997, 998, 999] (by decide +kernel) (by decide +kernel)
set_option maxRecDepth 20000 in
theorem gL_law_X9_thrown : GoodIn wsL_law (wsV RL 113 RX9 yX9_thrown wsX9_thrown) := goodIn_app (goodIn_of _ (by decide +kernel)) ggL_law_X9_thrown
set_option maxRecDepth 20000 in
theorem ggL_law_X8_clearText : GoodIn wsL_law wsX8_clearText := goodIn_r _ [187, 26, 188, 189, 190, 25, 191, 161, 971, 972, 973, 974, 975, 976, 977, 978, 979, 1013, 1014] (by decide +kernel) (by decide +kernel)
set_option maxRecDepth 20000 in
theorem gL_law_X8_clearText : GoodIn wsL_law (wsV RL 116 RX8 yX8_clearText wsX8_clearText) := goodIn_app (goodIn_of _ (by decide +kernel)) ggL_law_X8_clearText
set_option maxRecDepth 20000 in
theorem ggL_law_X9_clearText : GoodIn wsL_law wsX9_clearText := goodIn_r _ [195, 179, 171, 980, 981, 982, 983, 984, 985, 986, 987, 988, 989, 990, 991, 992, 993, 994, 995, 996, 997, 998, 999] (by decide +kernel) (by decide +kernel)
set_option maxRecDepth 20000 in
theorem gL_law_X9_clearText : GoodIn wsL_law (wsV RL 119 RX9 yX9_clearText wsX9_clearText) := goodIn_app (goodIn_of _ (by decide +kernel)) ggL_law_X9_clearText
set_option maxRecDepth 20000 in
theorem ggL_law_X8_errorPosition : GoodIn wsL_law wsX8_errorPosition := goodIn_r _ [199, 26, 200, 201, 202, 25, 203, 161, 204, 205, 206, 207, 208, 209, 210, 211, 63, 212, 213, 214, 215, 216, 217, 218, 219, 220, 221, 222, 223, 971, 972, 973, 974, 975, 976, 977, 978, 979, 1013, 1014] (by decide +kernel) (by decide +kernel)
set_option maxRecDepth 20000 in
theorem gL_law_X8_errorPosition : GoodIn wsL_law (wsV RL 120 RX8 yX8_errorPosition wsX8_errorPosition) := goodIn_app (goodIn_of _ (by decide +kernel)) ggL_law_X8_errorPosition
set_option maxRecDepth 20000 in
theorem ggL_law_X9_errorPosition : GoodIn wsL_law wsX9_errorPosition := goodIn_r _ [227, 179, 228, 229, 230, 5, 231, 135, 232, 233, 234, 171, 235, 236, 237, 238, 134, 239, 240, 241, 242, 172, 173, 174, 243, 244, 245, 246, 247, 248, 249, 250, 980, 981, 982, 983, 984, 985, 986, 987, 988, 989, 990, 991, 992, 993, 994, 995, 996, 997, 998, 999] (by decide +kernel) (by decide +kernel)
set_option maxRecDepth 20000 in
theorem gL_law_X9_errorPosition : GoodIn wsL_law (wsV RL 123 RX9 yX9_errorPosition wsX9_errorPosition) := goodIn_app (goodIn_of _ (by decide +kernel)) ggL_law_X9_errorPosition
set_option maxRecDepth 20000 in
theorem ggL_law_L_load : GoodIn wsL_law wsL_load := goodIn_ca (goodIn_r _ [253, 145, 254, 255, 256, 2, 257, 150, 151, 26, 17, 21, 30, 34, 200, 201, 202, 25, 203, 161, 204, 205, 206, 207, 208, 209, 210, 211, 63, 212, 213, 214, 215, 216, 217, 218, 219, 220, 221, 222, 223, 258, 259, 260, 261, 262, 92, 93, 16, 94, 95, 96, 97, 98, 99, 48, 49, 100, 101, 102, 103, 50, 51, 104, 105, 106, 107, 108, 109, 110, 263, 112, 113, 20, 114, 57, 58, 115, 116, 117, 118, 119, 120, 121, 122, 264, 265, 266, 267, 268, 269, 270, 271, 272, 273, 274, 275, 55, 56, 276, 277, 278, 29, 279, 280, 281, 282, 283, 284, 33, 285, 77, 286, 971, 972, 973, 974, 975, 976, 977, 978, 979, 1013, 1014, 1000, 1001, 1002, 1003, 1004, 1005, 1006, 1007, 1008, 1009, 1010, 1011, 1012, 1015, 1016, 1017, 1018, 1019] (by decide +kernel) (by decide +kernel)) (goodIn_sub (fun _ h => List.mem_append_left _ (List.mem_append_left _ (List.mem_append_right _ h))) (by decide +kernel))
set_option maxRecDepth 20000 in
theorem gL_law_L_load : GoodIn wsL_law (va_wsS RL 124 yL_load wsL_load) := goodIn_app (goodIn_of _ (by decide +kernel)) ggL_law_L_load
set_option maxRecDepth 20000 in
theorem ggL_law_X9_load : GoodIn wsL_law wsX9_load := goodIn_r _ [290, 233, 127, 234, 128, 135, 129, 291, 133, 228, 229, 230, 5, 231, 232, 171, 235, 236, 237, 238, 134, 239, 240, 241, 242, 172, 173, 174, 243, 244, 245, 246, 247, 248, 249, 250, 175, 176, 177, 178, 179, 292, 293, 294, 295, 296, 297, 298, 980, 981, 982, 983, 984, 985, 986, 987, 988, 989, 990, 991, 992, 993, 994, 995, 996, 997, 998, 999] (by decide +kernel) (by decide +kernel)
set_option maxRecDepth 20000 in
theorem gL_law_X9_load : GoodIn wsL_law (wsV RL 127 RX9 yX9_load wsX9_load) := goodIn_app (goodIn_of _ (by decide +kernel)) ggL_law_X9_load
set_option maxRecDepth 20000 in
theorem ggL_law_X8_pointCount : GoodIn wsL_law wsX8_pointCount := goodIn_r _ [302, 17, 286, 265, 266, 16, 267, 99, 971, 972, 973, 974, 975, 976, 977, 978, 979, 1000, 1001, 1002, 1003, 1004] (by decide +kernel) (by decide +kernel)
set_option maxRecDepth 20000 in
theorem gL_law_X8_pointCount : GoodIn wsL_law (wsV RL 128 RX8 yX8_pointCount wsX8_pointCount) := goodIn_app (goodIn_of _ (by decide +kernel)) ggL_law_X8_pointCount
set_option maxRecDepth 20000 in
theorem ggL_law_X9_pointCount : GoodIn wsL_law wsX9_pointCount := goodIn_r _ [306, 179, 295, 296, 297, 5, 298, 127, 128, 980, 981, 982, 983, 984, 985, 986, 987, 988, 989, 990, 991, 992, 993, 994, 995, 996, 997, 998, 999] (by decide +kernel) (by decide +kernel)
set_option maxRecDepth 20000 in
theorem gL_law_X9_pointCount : GoodIn wsL_law (wsV RL 131 RX9 yX9_pointCount wsX9_pointCount) := goodIn_app (goodIn_of _ (by decide +kernel)) ggL_law_X9_pointCount
set_option maxRecDepth 20000 in
theorem ggL_law_X8_bound : GoodIn wsL_law wsX8_bound := goodIn_r _ [310, 21, 311, 312, 313, 20, 314, 115, 971, 972, 973, 974, 975, 976, 977, 978, 979, 1005, 1006, 1007, 1008, 1009, 1010, 1011, 1012] (by decide +kernel) (by decide +kernel)
set_option maxRecDepth 20000 in
theorem gL_law_X8_bound : GoodIn wsL_law (wsV RL 132 RX8 yX8_bound wsX8_bound) := goodIn_app (goodIn_of _ (by decide +kernel)) ggL_law_X8_bound
set_option maxRecDepth 20000 in
theorem ggL_law_X9_bound : GoodIn wsL_law wsX9_bound := goodIn_r _ [318, 179, 129, 980, 981, 982, 983, 984, 985, 986, 987, 988, 989, 990, 991, 992, 993, 994, 995, 996, 997, 998, 999] (by decide +kernel) (by decide +kernel)
set_option maxRecDepth 20000 in
theorem gL_law_X9_bound : GoodIn wsL_law (wsV RL 135 RX9 yX9_bound wsX9_bound) := goodIn_app (goodIn_of _ (by decide +kernel)) ggL_law_X9_bound
set_option maxRecDepth 20000 in
theorem ggL_law_L_drawn : GoodIn wsL_law wsL_drawn := goodIn_ca (goodIn_r _ [321, 322, 323, 324, 325, 2, 326, 21, 327, 328, 329, 330, 331, 332, 17, 333, 334, 335, 16, 336, 99, 337, 338, 339, 20, 340, 58, 971, 972, 973, 974, 975, 976, 977, 978, 979, 1000, 1001, 1002, 1003, 1004, 1005, 1006, 1007, 1008, 1009, 1010, 1011, 1012] (by decide +kernel) (by decide +kernel)) (goodIn_sub (fun _ h => List.mem_append_right _ h) (by decide +kernel))
set_option maxRecDepth 20000 in
theorem gL_law_L_drawn : GoodIn wsL_law (va_wsS RL 136 yL_drawn wsL_drawn) := goodIn_app (goodIn_of _ (by decide +kernel)) ggL_law_L_drawn
set_option maxRecDepth 20000 in
theorem ggL_law_X9_drawn : GoodIn wsL_law wsX9_drawn := goodIn_r _ [344, 129, 345, 346, 347, 5, 348, 295, 296, 297, 298, 127, 128, 172, 173, 174, 175, 176, 177, 178, 179, 980, 981, 982, 983, 984, 985, 986, 987, 988, 989, 990, 991, 992, 993, 994, 995, 996, 997, 998, 999] (by decide +kernel) (by decide +kernel)
set_option maxRecDepth 20000 in
theorem gL_law_X9_drawn : GoodIn wsL_law (wsV RL 138 RX9 yX9_drawn wsX9_drawn) := goodIn_app (goodIn_of _ (by decide +kernel)) ggL_law_X9_drawn
set_option maxRecDepth 20000 in
theorem ggL_law_L_remaining : GoodIn wsL_law wsL_remaining := goodIn_ca (goodIn_r _ [351, 322, 352, 353, 354, 2, 355, 21, 327, 328, 329, 330, 331, 332, 17, 333, 334, 335, 16, 336, 99, 356, 357, 358, 20, 359, 57, 55, 971, 972, 973, 974, 975, 976, 977, 978, 979, 1000, 1001, 1002, 1003, 1004, 1005, 1006, 1007, 1008, 1009, 1010, 1011, 1012] (by decide +kernel) (by decide +kernel)) (goodIn_sub (fun _ h => List.mem_append_right _ h) (by decide +kernel))
set_option maxRecDepth 20000 in
theorem gL_law_L_remaining : GoodIn wsL_law (va_wsS RL 139 yL_remaining wsL_remaining) := goodIn_app (goodIn_of _ (by decide +kernel)) ggL_law_L_remaining
set_option maxRecDepth 20000 in
theorem ggL_law_X9_remaining : GoodIn wsL_law wsX9_remaining := goodIn_r _ [363, 129, 345, 346, 347, 5, 348, 295, 296, 297, 298, 127, 128, 172, 173, 174, 175, 176, 177, 178, 179, 364, 365, 366, 980, 981, 982, 983, 984, 985, 986, 987, 988, 989, 990, 991, 992, 993, 994, 995, 996, 997, 998, 999] (by decide +kernel) (by decide +kernel)
set_option maxRecDepth 20000 in
theorem gL_law_X9_remaining : GoodIn wsL_law (wsV RL 141 RX9 yX9_remaining wsX9_remaining) := goodIn_app (goodIn_of _ (by decide +kernel)) ggL_law_X9_remaining
set_option maxRecDepth 20000 in
theorem ggL_law_L_sliceCount : GoodIn wsL_law wsL_sliceCount := goodIn_ca (goodIn_r _ [369, 322, 370, 371, 372, 2, 373, 21, 327, 328, 329, 330, 331, 332, 17, 333, 334, 335, 16, 336, 99, 374, 375, 376, 20, 377, 57, 971, 972, 973, 974, 975, 976, 977, 978, 979, 1000, 1001, 1002, 1003, 1004, 1005, 1006, 1007, 1008, 1009, 1010, 1011, 1012] (by decide +kernel) (by decide +kernel)) (goodIn_sub (fun _ h => List.mem_append_right _ h) (by decide +kernel))
set_option maxRecDepth 20000 in
theorem gL_law_L_sliceCount : GoodIn wsL_law (va_wsS RL 142 yL_sliceCount wsL_sliceCount) := goodIn_app (goodIn_of _ (by decide +kernel)) ggL_law_L_sliceCount
set_option maxRecDepth 20000 in
theorem ggL_law_X9_sliceCount : GoodIn wsL_law wsX9_sliceCount := goodIn_r _ [381, 129, 345, 346, 347, 5, 348, 295, 296, 297, 298, 127, 128, 172, 173, 174, 175, 176, 177, 178, 179, 980, 981, 982, 983, 984, 985, 986, 987, 988, 989, 990, 991, 992, 993, 994, 995, 996, 997, 998, 999] (by decide +kernel) (by decide +kernel)
set_option maxRecDepth 20000 in
theorem gL_law_X9_sliceCount : GoodIn wsL_law (wsV RL 144 RX9 yX9_sliceCount wsX9_sliceCount) := goodIn_app (goodIn_of _ (by decide +kernel)) ggL_law_X9_sliceCount
set_option maxRecDepth 20000 in
theorem ggL_law_L_gradeAhead : GoodIn wsL_law wsL_gradeAhead := goodIn_ca (goodIn_ca (goodIn_r _ [384, 322, 144, 385, 386, 387, 2, 388, 21, 327, 328, 329, 330, 331, 332, 17, 333, 334, 335, 16, 336, 99, 152, 153, 154, 155, 156, 389, 390, 391, 20, 392, 57, 55, 56, 971, 972, 973, 974, 975, 976, 977, 978, 979, 1000, 1001, 1002, 1003, 1004, 1005, 1006, 1007, 1008, 1009, 1010, 1011, 1012] (by decide +kernel) (by decide +kernel)) (goodIn_sub (fun _ h => List.mem_append_right _ h) (by decide +kernel))) (goodIn_sub (fun _ h => List.mem_append_left _ (List.mem_append_right _ h)) (by decide +kernel))
set_option maxRecDepth 20000 in
theorem gL_law_L_gradeAhead : GoodIn wsL_law (va_wsS RL 145 yL_gradeAhead wsL_gradeAhead) := goodIn_app (goodIn_of _ (by decide +kernel)) ggL_law_L_gradeAhead
set_option maxRecDepth 20000 in
theorem ggL_law_X9_gradeAhead : GoodIn wsL_law wsX9_gradeAhead := goodIn_r _ [396, 397, 129, 345, 346, 347, 5, 348, 295, 296, 297, 298, 127, 128, 172, 173, 174, 175, 176, 177, 178, 179, 398, 399, 400, 980, 981, 982, 983, 984, 985, 986, 987, 988, 989, 990, 991, 992, 993, 994, 995, 996, 997, 998, 999] (by decide +kernel) (by decide +kernel)
set_option maxRecDepth 20000 in
theorem gL_law_X9_gradeAhead : GoodIn wsL_law (wsV RL 148 RX9 yX9_gradeAhead wsX9_gradeAhead) := goodIn_app (goodIn_of _ (by decide +kernel)) ggL_law_X9_gradeAhead
set_option maxRecDepth 20000 in
theorem ggL_law_L_isHung : GoodIn wsL_law wsL_isHung := goodIn_ca (goodIn_r _ [403, 322, 404, 405, 406, 2, 407, 21, 327, 328, 329, 330, 331, 332, 17, 333, 334, 335, 16, 336, 99, 408, 409, 410, 20, 411, 116, 971, 972, 973, 974, 975, 976, 977, 978, 979, 1000, 1001, 1002, 1003, 1004, 1005, 1006, 1007, 1008, 1009, 1010, 1011, 1012] (by decide +kernel) (by decide +kernel)) (goodIn_sub (fun _ h => List.mem_append_right _ h) (by decide +kernel))
set_option maxRecDepth 20000 in
theorem gL_law_L_isHung : GoodIn wsL_law (va_wsS RL 149 yL_isHung wsL_isHung) := goodIn_app (goodIn_of _ (by decide +kernel)) ggL_law_L_isHung
set_option maxRecDepth 20000 in
theorem ggL_law_X9_isHung : GoodIn wsL_law wsX9_isHung := goodIn_r _ [415, 129, 345, 346, 347, 5, 348, 295, 296, 297, 298, 127, 128, 172, 173, 174, 175, 176, 177, 178, 179, 980, 981, 982, 983, 984, 985, 986, 987, 988, 989, 990, 991, 992, 993, 994, 995, 996, 997, 998, 999] (by decide +kernel) (by decide +kernel)
set_option maxRecDepth 20000 in
theorem gL_law_X9_isHung : GoodIn wsL_law (wsV RL 151 RX9 yX9_isHung wsX9_isHung) := goodIn_app (goodIn_of _ (by decide +kernel)) ggL_law_X9_isHung
set_option maxRecDepth 20000 in
theorem ggL_law_X8_totalBuckets : GoodIn wsL_law wsX8_totalBuckets := goodIn_r _ [419, 21, 420, 421, 422, 20, 423, 117, 971, 972, 973, 974, 975, 976, 977, 978, 979, 1005, 1006, 1007, 1008, 1009, 1010, 1011, 1012] (by decide +kernel) (by decide +kernel)
set_option maxRecDepth 20000 in
theorem gL_law_X8_totalBuckets : GoodIn wsL_law (wsV RL 152 RX8 yX8_totalBuckets wsX8_totalBuckets) := goodIn_app (goodIn_of _ (by decide +kernel)) ggL_law_X8_totalBuckets
set_option maxRecDepth 20000 in
theorem ggL_law_X9_totalBuckets : GoodIn wsL_law wsX9_totalBuckets := goodIn_r _ [427, 179, 129, 980, 981, 982, 983, 984, 985, 986, 987, 988, 989, 990, 991, 992, 993, 994, 995, 996, 997, 998, 999] (by decide +kernel) (by decide +kernel)
set_option maxRecDepth 20000 in
theorem gL_law_X9_totalBuckets : GoodIn wsL_law (wsV RL 155 RX9 yX9_totalBuckets wsX9_totalBuckets) := goodIn_app (goodIn_of _ (by decide +kernel)) ggL_law_X9_totalBuckets
set_option maxRecDepth 20000 in
theorem ggL_law_X8_totalGrade : GoodIn wsL_law wsX8_totalGrade := goodIn_r _ [431, 21, 432, 433, 434, 20, 435, 118, 971, 972, 973, 974, 975, 976, 977, 978, 979, 1005, 1006, 1007, 1008, 1009, 1010, 1011, 1012] (by decide +kernel) (by decide +kernel)
set_option maxRecDepth 20000 in
theorem gL_law_X8_totalGrade : GoodIn wsL_law (wsV RL 156 RX8 yX8_totalGrade wsX8_totalGrade) := goodIn_app (goodIn_of _ (by decide +kernel)) ggL_law_X8_totalGrade
set_option maxRecDepth 20000 in
theorem ggL_law_X9_totalGrade : GoodIn wsL_law wsX9_totalGrade := goodIn_r _ [439, 179, 129, 980, 981, 982, 983, 984, 985, 986, 987, 988, 989, 990, 991, 992, 993, 994, 995, 996, 997, 998, 999] (by decide +kernel) (by decide +kernel)
set_option maxRecDepth 20000 in
theorem gL_law_X9_totalGrade : GoodIn wsL_law (wsV RL 159 RX9 yX9_totalGrade wsX9_totalGrade) := goodIn_app (goodIn_of _ (by decide +kernel)) ggL_law_X9_totalGrade
set_option maxRecDepth 20000 in
theorem ggL_law_L_draw : GoodIn wsL_law wsL_draw := goodIn_ca (goodIn_ca (goodIn_r _ [442, 322, 145, 443, 444, 445, 2, 446, 150, 151, 21, 17, 30, 327, 328, 329, 330, 331, 332, 333, 334, 335, 16, 336, 99, 447, 448, 449, 20, 450, 451, 452, 453, 454, 58, 115, 455, 96, 97, 98, 456, 457, 458, 459, 409, 410, 411, 116, 460, 357, 358, 359, 57, 55, 461, 462, 463, 464, 51, 50, 95, 465, 466, 467, 29, 468, 281, 280, 69, 469, 470, 471, 472, 473, 474, 475, 476, 56, 117, 118, 477, 478, 479, 480, 481, 482, 483, 484, 971, 972, 973, 974, 975, 976, 977, 978, 979, 1000, 1001, 1002, 1003, 1004, 1005, 1006, 1007, 1008, 1009, 1010, 1011, 1012, 1015, 1016, 1017] (by decide +kernel) (by decide +kernel)) (goodIn_sub (fun _ h => List.mem_append_left _ (List.mem_append_left _ (List.mem_append_right _ h))) (by decide +kernel))) (goodIn_sub (fun _ h => List.mem_append_right _ h) (by decide +kernel))
set_option maxRecDepth 20000 in
theorem gL_law_L_draw : GoodIn wsL_law (va_wsS RL 160 yL_draw wsL_draw) := goodIn_app (goodIn_of _ (by decide +kernel)) ggL_law_L_draw
set_option maxRecDepth 20000 in
theorem ggL_law_X9_draw : GoodIn wsL_law wsX9_draw := goodIn_r _ [488, 129, 345, 346, 347, 5, 348, 295, 296, 297, 298, 127, 128, 172, 173, 174, 489, 490, 491, 492, 493, 494, 495, 496, 364, 365, 366, 497, 498, 499, 500, 501, 502, 503, 504, 505, 175, 176, 177, 178, 179, 506, 507, 508, 509, 131, 510, 291, 292, 293, 294, 511, 512, 513, 980, 981, 982, 983, 984, 985, 986, 987, 988, 989, 990, 991, 992, 993, 994, 995, 996, 997, 998, 999] (by decide +kernel) (by decide +kernel)
set_option maxRecDepth 20000 in
theorem gL_law_X9_draw : GoodIn wsL_law (wsV RL 162 RX9 yX9_draw wsX9_draw) := goodIn_app (goodIn_of _ (by decide +kernel)) ggL_law_X9_draw
set_option maxRecDepth 20000 in
theorem ggL_law_L_drawByOrder : GoodIn wsL_law wsL_drawByOrder := goodIn_ca (goodIn_r _ [516, 144, 517, 518, 519, 2, 520, 30, 21, 17, 152, 153, 154, 155, 156, 465, 466, 467, 29, 468, 281, 280, 69, 469, 470, 471, 20, 472, 55, 473, 474, 475, 476, 56, 57, 58, 115, 116, 117, 118, 521, 522, 523, 524, 525, 526, 527, 528, 529, 265, 266, 16, 267, 99, 451, 452, 453, 454, 455, 96, 97, 98, 456, 457, 458, 459, 409, 410, 411, 460, 357, 358, 359, 461, 462, 463, 464, 51, 50, 95, 530, 390, 391, 392, 531, 478, 479, 480, 481, 482, 483, 484, 971, 972, 973, 974, 975, 976, 977, 978, 979, 1015, 1016, 1017, 1005, 1006, 1007, 1008, 1009, 1010, 1011, 1012, 1000, 1001, 1002, 1003, 1004] (by decide +kernel) (by decide +kernel)) (goodIn_sub (fun _ h => List.mem_append_left _ (List.mem_append_right _ h)) (by decide +kernel))
set_option maxRecDepth 20000 in
theorem gL_law_L_drawByOrder : GoodIn wsL_law (va_wsS RL 163 yL_drawByOrder wsL_drawByOrder) := goodIn_app (goodIn_of _ (by decide +kernel)) ggL_law_L_drawByOrder
set_option maxRecDepth 20000 in
theorem ggL_law_X9_drawByOrder : GoodIn wsL_law wsX9_drawByOrder := goodIn_r _ [535, 397, 129, 172, 173, 5, 174, 175, 176, 177, 178, 179, 506, 507, 508, 509, 131, 510, 291, 292, 293, 294, 536, 537, 538, 539, 540, 541, 542, 543, 295, 296, 297, 298, 127, 128, 493, 494, 495, 496, 364, 365, 366, 497, 498, 499, 500, 501, 502, 503, 504, 505, 398, 399, 400, 511, 512, 513, 980, 981, 982, 983, 984, 985, 986, 987, 988, 989, 990, 991, 992, 993, 994, 995, 996, 997, 998, 999] (by decide +kernel) (by decide +kernel)
set_option maxRecDepth 20000 in
theorem gL_law_X9_drawByOrder : GoodIn wsL_law (wsV RL 165 RX9 yX9_drawByOrder wsX9_drawByOrder) := goodIn_app (goodIn_of _ (by decide +kernel)) ggL_law_X9_drawByOrder
set_option maxRecDepth 20000 in
theorem ggL_law_L_hang : GoodIn wsL_law wsL_hang := goodIn_ca (goodIn_ca (goodIn_r _ [546, 322, 145, 547, 548, 549, 2, 550, 150, 151, 21, 30, 327, 328, 329, 330, 331, 332, 17, 333, 334, 335, 16, 336, 99, 408, 409, 410, 20, 411, 116, 465, 466, 467, 29, 468, 281, 280, 69, 469, 470, 471, 472, 55, 473, 474, 475, 476, 56, 57, 58, 115, 117, 118, 551, 552, 553, 554, 555, 556, 557, 558, 559, 560, 561, 562, 563, 564, 565, 971, 972, 973, 974, 975, 976, 977, 978, 979, 1000, 1001, 1002, 1003, 1004, 1005, 1006, 1007, 1008, 1009, 1010, 1011, 1012, 1015, 1016, 1017] (by decide +kernel) (by decide +kernel)) (goodIn_sub (fun _ h => List.mem_append_left _ (List.mem_append_left _ (List.mem_append_right _ h))) (by decide +kernel))) (goodIn_sub (fun _ h => List.mem_append_right _ h) (by decide +kernel))
set_option maxRecDepth 20000 in
theorem gL_law_L_hang : GoodIn wsL_law (va_wsS RL 166 yL_hang wsL_hang) := goodIn_app (goodIn_of _ (by decide +kernel)) ggL_law_L_hang
set_option maxRecDepth 20000 in
theorem ggL_law_X9_hang : GoodIn wsL_law wsX9_hang := goodIn_r _ [569, 129, 345, 346, 347, 5, 348, 295, 296, 297, 298, 127, 128, 172, 173, 174, 175, 176, 177, 178, 179, 506, 507, 508, 509, 131, 510, 291, 292, 293, 294, 570, 571, 572, 573, 980, 981, 982, 983, 984, 985, 986, 987, 988, 989, 990, 991, 992, 993, 994, 995, 996, 997, 998, 999] (by decide +kernel) (by decide +kernel)
set_option maxRecDepth 20000 in
theorem gL_law_X9_hang : GoodIn wsL_law (wsV RL 168 RX9 yX9_hang wsX9_hang) := goodIn_app (goodIn_of _ (by decide +kernel)) ggL_law_X9_hang
set_option maxRecDepth 20000 in
theorem ggL_law_L_release : GoodIn wsL_law wsL_release := goodIn_ca (goodIn_ca (goodIn_r _ [576, 322, 145, 577, 578, 579, 2, 580, 150, 151, 21, 30, 327, 328, 329, 330, 331, 332, 17, 333, 334, 335, 16, 336, 99, 408, 409, 410, 20, 411, 116, 465, 466, 467, 29, 468, 281, 280, 69, 469, 470, 471, 472, 55, 473, 474, 475, 476, 56, 57, 58, 115, 117, 118, 551, 552, 553, 554, 555, 556, 557, 558, 559, 560, 561, 562, 563, 564, 565, 971, 972, 973, 974, 975, 976, 977, 978, 979, 1000, 1001, 1002, 1003, 1004, 1005, 1006, 1007, 1008, 1009, 1010, 1011, 1012, 1015, 1016, 1017] (by decide +kernel) (by decide +kernel)) (goodIn_sub (fun _ h => List.mem_append_left _ (List.mem_append_left _ (List.mem_append_right _ h))) (by decide +kernel))) (goodIn_sub (fun _ h => List.mem_append_right _ h) (by decide +kernel))
set_option maxRecDepth 20000 in
theorem gL_law_L_release : GoodIn wsL_law (va_wsS RL 169 yL_release wsL_release) := goodIn_app (goodIn_of _ (by decide +kernel)) ggL_law_L_release
set_option maxRecDepth 20000 in
theorem ggL_law_X9_release : GoodIn wsL_law wsX9_release := goodIn_r _ [584, 129, 345, 346, 347, 5, 348, 295, 296, 297, 298, 127, 128, 172, 173, 174, 175, 176, 177, 178, 179, 506, 507, 508, 509, 131, 510, 291, 292, 293, 294, 570, 571, 572, 573, 980, 981, 982, 983, 984, 985, 986, 987, 988, 989, 990, 991, 992, 993, 994, 995, 996, 997, 998, 999] (by decide +kernel) (by decide +kernel)
set_option maxRecDepth 20000 in
theorem gL_law_X9_release : GoodIn wsL_law (wsV RL 171 RX9 yX9_release wsX9_release) := goodIn_app (goodIn_of _ (by decide +kernel)) ggL_law_X9_release
set_option maxRecDepth 20000 in
theorem ggL_law_L_addSlice : GoodIn wsL_law wsL_addSlice := goodIn_ca (goodIn_ca (goodIn_ca (goodIn_r _ [587, 322, 144, 145, 588, 589, 590, 2, 591, 150, 151, 21, 30, 327, 328, 329, 330, 331, 332, 17, 333, 334, 335, 16, 336, 99, 152, 153, 154, 155, 156, 374, 375, 376, 20, 377, 57, 465, 466, 467, 29, 468, 281, 280, 69, 469, 470, 471, 472, 55, 473, 474, 475, 476, 56, 58, 115, 116, 117, 118, 592, 273, 274, 275, 971, 972, 973, 974, 975, 976, 977, 978, 979, 1000, 1001, 1002, 1003, 1004, 1005, 1006, 1007, 1008, 1009, 1010, 1011, 1012, 1015, 1016, 1017] (by decide +kernel) (by decide +kernel)) (goodIn_sub (fun _ h => List.mem_append_left _ (List.mem_append_left _ (List.mem_append_right _ h))) (by decide +kernel))) (goodIn_sub (fun _ h => List.mem_append_right _ h) (by decide +kernel))) (goodIn_sub (fun _ h => List.mem_append_left _ (List.mem_append_right _ h)) (by decide +kernel))
set_option maxRecDepth 20000 in
theorem gL_law_L_addSlice : GoodIn wsL_law (va_wsS RL 172 yL_addSlice wsL_addSlice) := goodIn_app (goodIn_of _ (by decide +kernel)) ggL_law_L_addSlice
set_option maxRecDepth 20000 in
theorem ggL_law_X9_addSlice : GoodIn wsL_law wsX9_addSlice := goodIn_r _ [596, 597, 129, 172, 173, 5, 174, 345, 346, 347, 348, 295, 296, 297, 298, 127, 128, 175, 176, 177, 178, 179, 506, 507, 508, 509, 131, 510, 291, 292, 293, 294, 980, 981, 982, 983, 984, 985, 986, 987, 988, 989, 990, 991, 992, 993, 994, 995, 996, 997, 998, 999] (by decide +kernel) (by decide +kernel)
set_option maxRecDepth 20000 in
theorem gL_law_X9_addSlice : GoodIn wsL_law (wsV RL 175 RX9 yX9_addSlice wsX9_addSlice) := goodIn_app (goodIn_of _ (by decide +kernel)) ggL_law_X9_addSlice
set_option maxRecDepth 20000 in
theorem ggL_law_L_setBound : GoodIn wsL_law wsL_setBound := goodIn_ca (goodIn_ca (goodIn_r _ [600, 144, 145, 601, 602, 603, 2, 604, 150, 151, 21, 17, 30, 152, 153, 154, 155, 156, 605, 606, 607, 20, 608, 58, 529, 265, 266, 16, 267, 99, 461, 462, 463, 464, 51, 50, 95, 96, 97, 98, 465, 466, 467, 29, 468, 281, 280, 69, 469, 470, 471, 472, 55, 473, 474, 475, 476, 56, 57, 115, 116, 117, 118, 311, 312, 313, 314, 609, 610, 611, 612, 971, 972, 973, 974, 975, 976, 977, 978, 979, 1005, 1006, 1007, 1008, 1009, 1010, 1011, 1012, 1000, 1001, 1002, 1003, 1004, 1015, 1016, 1017] (by decide +kernel) (by decide +kernel)) (goodIn_sub (fun _ h => List.mem_append_left _ (List.mem_append_left _ (List.mem_append_right _ h))) (by decide +kernel))) (goodIn_sub (fun _ h => List.mem_append_left _ (List.mem_append_right _ h)) (by decide +kernel))
set_option maxRecDepth 20000 in
theorem gL_law_L_setBound : GoodIn wsL_law (va_wsS RL 176 yL_setBound wsL_setBound) := goodIn_app (goodIn_of _ (by decide +kernel)) ggL_law_L_setBound
set_option maxRecDepth 20000 in
theorem ggL_law_X9_setBound : GoodIn wsL_law wsX9_setBound := goodIn_r _ [616, 597, 129, 172, 173, 5, 174, 617, 618, 619, 620, 295, 296, 297, 298, 127, 128, 502, 503, 504, 505, 175, 176, 177, 178, 179, 506, 507, 508, 509, 131, 510, 291, 292, 293, 294, 980, 981, 982, 983, 984, 985, 986, 987, 988, 989, 990, 991, 992, 993, 994, 995, 996, 997, 998, 999] (by decide +kernel) (by decide +kernel)
set_option maxRecDepth 20000 in
theorem gL_law_X9_setBound : GoodIn wsL_law (wsV RL 178 RX9 yX9_setBound wsX9_setBound) := goodIn_app (goodIn_of _ (by decide +kernel)) ggL_law_X9_setBound
set_option maxRecDepth 20000 in
theorem ggL_law_L_undo : GoodIn wsL_law wsL_undo := goodIn_ca (goodIn_r _ [623, 145, 624, 625, 626, 2, 627, 150, 151, 30, 21, 628, 629, 630, 29, 631, 281, 632, 633, 634, 635, 69, 280, 469, 470, 471, 20, 472, 55, 473, 474, 475, 476, 56, 57, 58, 115, 116, 117, 118, 971, 972, 973, 974, 975, 976, 977, 978, 979, 1015, 1016, 1017, 1005, 1006, 1007, 1008, 1009, 1010, 1011, 1012] (by decide +kernel) (by decide +kernel)) (goodIn_sub (fun _ h => List.mem_append_left _ (List.mem_append_left _ (List.mem_append_right _ h))) (by decide +kernel))
set_option maxRecDepth 20000 in
theorem gL_law_L_undo : GoodIn wsL_law (va_wsS RL 179 yL_undo wsL_undo) := goodIn_app (goodIn_of _ (by decide +kernel)) ggL_law_L_undo
set_option maxRecDepth 20000 in
theorem ggL_law_X9_undo : GoodIn wsL_law wsX9_undo := goodIn_r _ [639, 291, 510, 131, 129, 175, 176, 177, 5, 178, 179, 292, 293, 294, 980, 981, 982, 983, 984, 985, 986, 987, 988, 989, 990, 991, 992, 993, 994, 995, 996, 997, 998, 999] (by decide +kernel) (by decide +kernel)
set_option maxRecDepth 20000 in
theorem gL_law_X9_undo : GoodIn wsL_law (wsV RL 181 RX9 yX9_undo wsX9_undo) := goodIn_app (goodIn_of _ (by decide +kernel)) ggL_law_X9_undo
set_option maxRecDepth 20000 in
theorem ggL_law_L_isReady : GoodIn wsL_law wsL_isReady := goodIn_ca (goodIn_r _ [642, 322, 643, 644, 645, 2, 646, 21, 17, 327, 328, 329, 330, 331, 332, 333, 334, 335, 16, 336, 99, 447, 448, 449, 20, 450, 451, 452, 453, 454, 58, 115, 455, 96, 97, 98, 456, 457, 458, 459, 409, 410, 411, 116, 460, 357, 358, 359, 57, 55, 461, 462, 463, 464, 51, 50, 95, 971, 972, 973, 974, 975, 976, 977, 978, 979, 1000, 1001, 1002, 1003, 1004, 1005, 1006, 1007, 1008, 1009, 1010, 1011, 1012] (by decide +kernel) (by decide +kernel)) (goodIn_sub (fun _ h => List.mem_append_right _ h) (by decide +kernel))
set_option maxRecDepth 20000 in
theorem gL_law_L_isReady : GoodIn wsL_law (va_wsS RL 182 yL_isReady wsL_isReady) := goodIn_app (goodIn_of _ (by decide +kernel)) ggL_law_L_isReady
set_option maxRecDepth 20000 in
theorem ggL_law_X9_isReady : GoodIn wsL_law wsX9_isReady := goodIn_r _ [650, 129, 345, 346, 347, 5, 348, 295, 296, 297, 298, 127, 128, 172, 173, 174, 175, 176, 177, 178, 179, 489, 490, 491, 492, 493, 494, 495, 496, 364, 365, 366, 497, 498, 499, 500, 501, 502, 503, 504, 505, 980, 981, 982, 983, 984, 985, 986, 987, 988, 989, 990, 991, 992, 993, 994, 995, 996, 997, 998, 999] (by decide +kernel) (by decide +kernel)
set_option maxRecDepth 20000 in
theorem gL_law_X9_isReady : GoodIn wsL_law (wsV RL 184 RX9 yX9_isReady wsX9_isReady) := goodIn_app (goodIn_of _ (by decide +kernel)) ggL_law_X9_isReady
set_option maxRecDepth 20000 in
theorem ggL_law_L_blockers : GoodIn wsL_law wsL_blockers := goodIn_ca (goodIn_r _ [653, 322, 654, 655, 656, 2, 657, 21, 17, 327, 328, 329, 330, 331, 332, 333, 334, 335, 16, 336, 99, 658, 659, 660, 20, 661, 58, 115, 662, 663, 664, 665, 51, 666, 667, 668, 669, 50, 971, 972, 973, 974, 975, 976, 977, 978, 979, 1000, 1001, 1002, 1003, 1004, 1005, 1006, 1007, 1008, 1009, 1010, 1011, 1012] (by decide +kernel) (by decide +kernel)) (goodIn_sub (fun _ h => List.mem_append_right _ h) (by decide +kernel))
set_option maxRecDepth 20000 in
theorem gL_law_L_blockers : GoodIn wsL_law (va_wsS RL 185 yL_blockers wsL_blockers) := goodIn_app (goodIn_of _ (by decide +kernel)) ggL_law_L_blockers
set_option maxRecDepth 20000 in
theorem ggL_law_X9_blockers : GoodIn wsL_law wsX9_blockers := goodIn_r _ [673, 129, 345, 346, 347, 5, 348, 295, 296, 297, 298, 127, 128, 172, 173, 174, 175, 176, 177, 178, 179, 502, 503, 504, 505, 980, 981, 982, 983, 984, 985, 986, 987, 988, 989, 990, 991, 992, 993, 994, 995, 996, 997, 998, 999] (by decide +kernel) (by decide +kernel)
set_option maxRecDepth 20000 in
theorem gL_law_X9_blockers : GoodIn wsL_law (wsV RL 187 RX9 yX9_blockers wsX9_blockers) := goodIn_app (goodIn_of _ (by decide +kernel)) ggL_law_X9_blockers
set_option maxRecDepth 20000 in
theorem ggL_law_L_slack : GoodIn wsL_law wsL_slack := goodIn_ca (goodIn_r _ [676, 322, 677, 678, 679, 2, 680, 21, 17, 327, 328, 329, 330, 331, 332, 333, 334, 335, 16, 336, 99, 681, 452, 453, 20, 454, 58, 115, 455, 96, 97, 98, 456, 457, 458, 459, 409, 410, 411, 116, 460, 357, 358, 359, 57, 55, 461, 462, 463, 464, 51, 50, 95, 971, 972, 973, 974, 975, 976, 977, 978, 979, 1000, 1001, 1002, 1003, 1004, 1005, 1006, 1007, 1008, 1009, 1010, 1011, 1012] (by decide +kernel) (by decide +kernel)) (goodIn_sub (fun _ h => List.mem_append_right _ h) (by decide +kernel))
set_option maxRecDepth 20000 in
theorem gL_law_L_slack : GoodIn wsL_law (va_wsS RL 188 yL_slack wsL_slack) := goodIn_app (goodIn_of _ (by decide +kernel)) ggL_law_L_slack
set_option maxRecDepth 20000 in
theorem ggL_law_X9_slack : GoodIn wsL_law wsX9_slack := goodIn_r _ [685, 129, 345, 346, 347, 5, 348, 295, 296, 297, 298, 127, 128, 172, 173, 174, 175, 176, 177, 178, 179, 493, 494, 495, 496, 364, 365, 366, 497, 498, 499, 500, 501, 502, 503, 504, 505, 980, 981, 982, 983, 984, 985, 986, 987, 988, 989, 990, 991, 992, 993, 994, 995, 996, 997, 998, 999] (by decide +kernel) (by decide +kernel)
set_option maxRecDepth 20000 in
theorem gL_law_X9_slack : GoodIn wsL_law (wsV RL 190 RX9 yX9_slack wsX9_slack) := goodIn_app (goodIn_of _ (by decide +kernel)) ggL_law_X9_slack
set_option maxRecDepth 20000 in
theorem ggL_law_X8_nextByOrder : GoodIn wsL_law wsX8_nextByOrder := goodIn_r _ [689, 21, 17, 690, 526, 527, 20, 528, 529, 265, 266, 16, 267, 99, 451, 452, 453, 454, 58, 115, 455, 96, 97, 98, 456, 457, 458, 459, 409, 410, 411, 116, 460, 357, 358, 359, 57, 55, 461, 462, 463, 464, 51, 50, 95, 530, 390, 391, 392, 56, 971, 972, 973, 974, 975, 976, 977, 978, 979, 1000, 1001, 1002, 1003, 1004, 1005, 1006, 1007, 1008, 1009, 1010, 1011, 1012] (by decide +kernel) (by decide +kernel)
set_option maxRecDepth 20000 in
theorem gL_law_X8_nextByOrder : GoodIn wsL_law (wsV RL 191 RX8 yX8_nextByOrder wsX8_nextByOrder) := goodIn_app (goodIn_of _ (by decide +kernel)) ggL_law_X8_nextByOrder
set_option maxRecDepth 20000 in
theorem ggL_law_X9_nextByOrder : GoodIn wsL_law wsX9_nextByOrder := goodIn_r _ [694, 179, 129, 540, 541, 542, 5, 543, 295, 296, 297, 298, 127, 128, 493, 494, 495, 496, 364, 365, 366, 497, 498, 499, 500, 501, 502, 503, 504, 505, 398, 399, 400, 980, 981, 982, 983, 984, 985, 986, 987, 988, 989, 990, 991, 992, 993, 994, 995, 996, 997, 998, 999] (by decide +kernel) (by decide +kernel)
set_option maxRecDepth 20000 in
theorem gL_law_X9_nextByOrder : GoodIn wsL_law (wsV RL 194 RX9 yX9_nextByOrder wsX9_nextByOrder) := goodIn_app (goodIn_of _ (by decide +kernel)) ggL_law_X9_nextByOrder
set_option maxRecDepth 20000 in
theorem ggL_law_L_orderAhead : GoodIn wsL_law wsL_orderAhead := goodIn_ca (goodIn_r _ [697, 144, 698, 699, 700, 2, 701, 22, 21, 17, 152, 153, 154, 155, 156, 702, 470, 471, 20, 472, 55, 473, 474, 475, 476, 56, 57, 58, 115, 116, 117, 118, 521, 522, 523, 524, 525, 526, 527, 528, 529, 265, 266, 16, 267, 99, 451, 452, 453, 454, 455, 96, 97, 98, 456, 457, 458, 459, 409, 410, 411, 460, 357, 358, 359, 461, 462, 463, 464, 51, 50, 95, 530, 390, 391, 392, 531, 478, 479, 480, 481, 482, 483, 484, 690, 971, 972, 973, 974, 975, 976, 977, 978, 979, 1005, 1006, 1007, 1008, 1009, 1010, 1011, 1012, 1000, 1001, 1002, 1003, 1004] (by decide +kernel) (by decide +kernel)) (goodIn_sub (fun _ h => List.mem_append_left _ (List.mem_append_right _ h)) (by decide +kernel))
set_option maxRecDepth 20000 in
theorem gL_law_L_orderAhead : GoodIn wsL_law (va_wsS RL 195 yL_orderAhead wsL_orderAhead) := goodIn_app (goodIn_of _ (by decide +kernel)) ggL_law_L_orderAhead
set_option maxRecDepth 20000 in
theorem ggL_law_X9_orderAhead : GoodIn wsL_law wsX9_orderAhead := goodIn_r _ [706, 397, 129, 130, 172, 173, 5, 174, 175, 176, 177, 178, 179, 292, 293, 294, 536, 537, 538, 539, 540, 541, 542, 543, 295, 296, 297, 298, 127, 128, 493, 494, 495, 496, 364, 365, 366, 497, 498, 499, 500, 501, 502, 503, 504, 505, 398, 399, 400, 511, 512, 513, 980, 981, 982, 983, 984, 985, 986, 987, 988, 989, 990, 991, 992, 993, 994, 995, 996, 997, 998, 999] (by decide +kernel) (by decide +kernel)
set_option maxRecDepth 20000 in
theorem gL_law_X9_orderAhead : GoodIn wsL_law (wsV RL 197 RX9 yX9_orderAhead wsX9_orderAhead) := goodIn_app (goodIn_of _ (by decide +kernel)) ggL_law_X9_orderAhead
set_option maxRecDepth 20000 in
theorem ggL_law_L_bucketsToWaste : GoodIn wsL_law wsL_bucketsToWaste := goodIn_ca (goodIn_ca (goodIn_r _ [709, 322, 144, 710, 711, 712, 2, 713, 21, 327, 328, 329, 330, 331, 332, 17, 333, 334, 335, 16, 336, 99, 152, 153, 154, 155, 156, 714, 715, 716, 20, 717, 57, 56, 55, 971, 972, 973, 974, 975, 976, 977, 978, 979, 1000, 1001, 1002, 1003, 1004, 1005, 1006, 1007, 1008, 1009, 1010, 1011, 1012] (by decide +kernel) (by decide +kernel)) (goodIn_sub (fun _ h => List.mem_append_right _ h) (by decide +kernel))) (goodIn_sub (fun _ h => List.mem_append_left _ (List.mem_append_right _ h)) (by decide +kernel))
set_option maxRecDepth 20000 in
theorem gL_law_L_bucketsToWaste : GoodIn wsL_law (va_wsS RL 198 yL_bucketsToWaste wsL_bucketsToWaste) := goodIn_app (goodIn_of _ (by decide +kernel)) ggL_law_L_bucketsToWaste
set_option maxRecDepth 20000 in
theorem ggL_law_X9_bucketsToWaste : GoodIn wsL_law wsX9_bucketsToWaste := goodIn_r _ [721, 597, 129, 345, 346, 347, 5, 348, 295, 296, 297, 298, 127, 128, 172, 173, 174, 175, 176, 177, 178, 179, 364, 365, 366, 398, 399, 400, 980, 981, 982, 983, 984, 985, 986, 987, 988, 989, 990, 991, 992, 993, 994, 995, 996, 997, 998, 999] (by decide +kernel) (by decide +kernel)
set_option maxRecDepth 20000 in
theorem gL_law_X9_bucketsToWaste : GoodIn wsL_law (wsV RL 200 RX9 yX9_bucketsToWaste wsX9_bucketsToWaste) := goodIn_app (goodIn_of _ (by decide +kernel)) ggL_law_X9_bucketsToWaste
set_option maxRecDepth 20000 in
theorem ggL_law_L_bucketsFor : GoodIn wsL_law wsL_bucketsFor := goodIn_ca (goodIn_ca (goodIn_r _ [724, 322, 144, 725, 726, 727, 2, 728, 21, 17, 327, 328, 329, 330, 331, 332, 333, 334, 335, 16, 336, 99, 152, 153, 154, 155, 156, 729, 730, 731, 20, 732, 58, 115, 529, 265, 266, 267, 733, 105, 106, 107, 48, 108, 109, 97, 110, 49, 459, 409, 410, 411, 116, 460, 357, 358, 359, 57, 55, 971, 972, 973, 974, 975, 976, 977, 978, 979, 1000, 1001, 1002, 1003, 1004, 1005, 1006, 1007, 1008, 1009, 1010, 1011, 1012] (by decide +kernel) (by decide +kernel)) (goodIn_sub (fun _ h => List.mem_append_right _ h) (by decide +kernel))) (goodIn_sub (fun _ h => List.mem_append_left _ (List.mem_append_right _ h)) (by decide +kernel))
set_option maxRecDepth 20000 in
theorem gL_law_L_bucketsFor : GoodIn wsL_law (va_wsS RL 201 yL_bucketsFor wsL_bucketsFor) := goodIn_app (goodIn_of _ (by decide +kernel)) ggL_law_L_bucketsFor
set_option maxRecDepth 20000 in
theorem ggL_law_X9_bucketsFor : GoodIn wsL_law wsX9_bucketsFor := goodIn_r _ [737, 738, 345, 346, 347, 5, 348, 295, 296, 297, 298, 127, 128, 172, 173, 174, 175, 176, 177, 178, 179, 739, 740, 741, 742, 136, 129, 502, 503, 504, 505, 364, 365, 366, 980, 981, 982, 983, 984, 985, 986, 987, 988, 989, 990, 991, 992, 993, 994, 995, 996, 997, 998, 999] (by decide +kernel) (by decide +kernel)
set_option maxRecDepth 20000 in
theorem gL_law_X9_bucketsFor : GoodIn wsL_law (wsV RL 203 RX9 yX9_bucketsFor wsX9_bucketsFor) := goodIn_app (goodIn_of _ (by decide +kernel)) ggL_law_X9_bucketsFor
set_option maxRecDepth 20000 in
theorem ggL_law_L_mostFrom : GoodIn wsL_law wsL_mostFrom := goodIn_ca (goodIn_r _ [745, 322, 746, 747, 748, 2, 749, 21, 17, 327, 328, 329, 330, 331, 332, 333, 334, 335, 16, 336, 99, 750, 751, 752, 20, 753, 754, 730, 731, 732, 58, 115, 529, 265, 266, 267, 733, 105, 106, 107, 48, 108, 109, 97, 110, 49, 459, 409, 410, 411, 116, 460, 357, 358, 359, 57, 55, 971, 972, 973, 974, 975, 976, 977, 978, 979, 1000, 1001, 1002, 1003, 1004, 1005, 1006, 1007, 1008, 1009, 1010, 1011, 1012] (by decide +kernel) (by decide +kernel)) (goodIn_sub (fun _ h => List.mem_append_right _ h) (by decide +kernel))
set_option maxRecDepth 20000 in
theorem gL_law_L_mostFrom : GoodIn wsL_law (va_wsS RL 204 yL_mostFrom wsL_mostFrom) := goodIn_app (goodIn_of _ (by decide +kernel)) ggL_law_L_mostFrom
set_option maxRecDepth 20000 in
theorem ggL_law_X9_mostFrom : GoodIn wsL_law wsX9_mostFrom := goodIn_r _ [758, 345, 346, 347, 5, 348, 295, 296, 297, 298, 127, 128, 172, 173, 174, 175, 176, 177, 178, 179, 739, 740, 741, 742, 136, 129, 502, 503, 504, 505, 364, 365, 366, 980, 981, 982, 983, 984, 985, 986, 987, 988, 989, 990, 991, 992, 993, 994, 995, 996, 997, 998, 999] (by decide +kernel) (by decide +kernel)
set_option maxRecDepth 20000 in
theorem gL_law_X9_mostFrom : GoodIn wsL_law (wsV RL 206 RX9 yX9_mostFrom wsX9_mostFrom) := goodIn_app (goodIn_of _ (by decide +kernel)) ggL_law_X9_mostFrom
set_option maxRecDepth 20000 in
theorem ggL_law_L_bestSequence : GoodIn wsL_law wsL_bestSequence := goodIn_ca (goodIn_r _ [761, 144, 762, 763, 764, 2, 765, 38, 17, 21, 152, 153, 154, 155, 156, 766, 767, 768, 37, 769, 770, 96, 97, 98, 771, 772, 773, 86, 774, 312, 313, 20, 314, 115, 775, 120, 121, 122, 776, 265, 266, 16, 267, 99, 777, 778, 779, 780, 82, 83, 81, 781, 338, 339, 340, 58, 782, 409, 410, 411, 116, 783, 390, 391, 392, 57, 55, 56, 784, 785, 786, 787, 84, 788, 457, 458, 789, 790, 791, 792, 793, 794, 795, 796, 85, 797, 474, 475, 476, 798, 799, 800, 801, 802, 803, 804, 805, 806, 462, 463, 464, 51, 50, 95, 807, 808, 809, 810, 811, 812, 813, 814, 971, 972, 973, 974, 975, 976, 977, 978, 979, 1020, 1021, 1022, 1023, 1024, 1025, 1026, 1027, 1028, 1005, 1006, 1007, 1008, 1009, 1010, 1011, 1012, 1000, 1001, 1002, 1003, 1004] (by decide +kernel) (by decide +kernel)) (goodIn_sub (fun _ h => List.mem_append_left _ (List.mem_append_right _ h)) (by decide +kernel))
set_option maxRecDepth 20000 in
theorem gL_law_L_bestSequence : GoodIn wsL_law (va_wsS RL 207 yL_bestSequence wsL_bestSequence) := goodIn_app (goodIn_of _ (by decide +kernel)) ggL_law_L_bestSequence
set_option maxRecDepth 20000 in
theorem ggL_law_X9_bestSequence : GoodIn wsL_law wsX9_bestSequence := goodIn_r _ [818, 819, 139, 172, 173, 5, 174, 175, 176, 177, 178, 179, 820, 821, 822, 823, 129, 137, 138, 292, 293, 294, 824, 825, 826, 827, 295, 296, 297, 298, 127, 128, 489, 490, 491, 492, 493, 494, 495, 496, 364, 365, 366, 497, 498, 499, 500, 501, 502, 503, 504, 505, 398, 399, 400, 511, 512, 513, 980, 981, 982, 983, 984, 985, 986, 987, 988, 989, 990, 991, 992, 993, 994, 995, 996, 997, 998, 999] (by decide +kernel) (by decide +kernel)
set_option maxRecDepth 20000 in
theorem gL_law_X9_bestSequence : GoodIn wsL_law (wsV RL 209 RX9 yX9_bestSequence wsX9_bestSequence) := goodIn_app (goodIn_of _ (by decide +kernel)) ggL_law_X9_bestSequence
set_option maxRecDepth 20000 in
theorem ggL_law_L_origins : GoodIn wsL_law wsL_origins := goodIn_ca (goodIn_r _ [830, 144, 831, 832, 833, 2, 834, 155, 156, 42, 21, 17, 152, 153, 154, 835, 836, 837, 41, 838, 90, 839, 840, 841, 842, 20, 843, 529, 265, 266, 16, 267, 99, 844, 845, 846, 847, 848, 849, 850, 851, 530, 390, 391, 392, 57, 55, 56, 852, 853, 854, 855, 971, 972, 973, 974, 975, 976, 977, 978, 979, 1029, 1030, 1000, 1001, 1002, 1003, 1004, 1005, 1006, 1007, 1008, 1009, 1010, 1011, 1012] (by decide +kernel) (by decide +kernel)) (goodIn_sub (fun _ h => List.mem_append_left _ (List.mem_append_right _ h)) (by decide +kernel))
set_option maxRecDepth 20000 in
theorem gL_law_L_origins : GoodIn wsL_law (va_wsS RL 210 yL_origins wsL_origins) := goodIn_app (goodIn_of _ (by decide +kernel)) ggL_law_L_origins
set_option maxRecDepth 20000 in
theorem ggL_law_X9_origins : GoodIn wsL_law wsX9_origins := goodIn_r _ [859, 597, 129, 860, 172, 173, 5, 174, 861, 862, 863, 175, 176, 177, 178, 179, 295, 296, 297, 298, 127, 128, 398, 399, 400, 980, 981, 982, 983, 984, 985, 986, 987, 988, 989, 990, 991, 992, 993, 994, 995, 996, 997, 998, 999] (by decide +kernel) (by decide +kernel)
set_option maxRecDepth 20000 in
theorem gL_law_X9_origins : GoodIn wsL_law (wsV RL 212 RX9 yX9_origins wsX9_origins) := goodIn_app (goodIn_of _ (by decide +kernel)) ggL_law_X9_origins
set_option maxRecDepth 20000 in
theorem ggL_law_L_runScript : GoodIn wsL_law wsL_runScript := goodIn_ca (goodIn_r _ [866, 144, 867, 868, 869, 2, 870, 155, 156, 43, 22, 21, 17, 152, 153, 154, 835, 836, 837, 41, 838, 90, 839, 702, 470, 471, 20, 472, 55, 473, 474, 475, 476, 56, 57, 58, 115, 116, 117, 118, 871, 872, 873, 874, 875, 849, 850, 851, 876, 853, 854, 855, 877, 878, 879, 880, 522, 523, 524, 525, 526, 527, 528, 529, 265, 266, 16, 267, 99, 451, 452, 453, 454, 455, 96, 97, 98, 456, 457, 458, 459, 409, 410, 411, 460, 357, 358, 359, 461, 462, 463, 464, 51, 50, 95, 530, 390, 391, 392, 531, 478, 479, 480, 481, 482, 483, 484, 881, 334, 335, 336, 882, 883, 884, 885, 448, 449, 450, 886, 887, 888, 889, 890, 891, 552, 553, 554, 892, 893, 971, 972, 973, 974, 975, 976, 977, 978, 979, 1029, 1030, 1005, 1006, 1007, 1008, 1009, 1010, 1011, 1012, 1000, 1001, 1002, 1003, 1004] (by decide +kernel) (by decide +kernel)) (goodIn_sub (fun _ h => List.mem_append_left _ (List.mem_append_right _ h)) (by decide +kernel))
set_option maxRecDepth 20000 in
theorem gL_law_L_runScript : GoodIn wsL_law (va_wsS RL 215 yL_runScript wsL_runScript) := goodIn_app (goodIn_of _ (by decide +kernel)) ggL_law_L_runScript
set_option maxRecDepth 20000 in
theorem ggL_law_X9_runScript : GoodIn wsL_law wsX9_runScript := goodIn_r _ [897, 819, 129, 130, 898, 172, 173, 5, 174, 861, 862, 863, 860, 175, 176, 177, 178, 179, 292, 293, 294, 899, 900, 901, 902, 536, 537, 538, 539, 540, 541, 542, 543, 295, 296, 297, 298, 127, 128, 493, 494, 495, 496, 364, 365, 366, 497, 498, 499, 500, 501, 502, 503, 504, 505, 398, 399, 400, 511, 512, 513, 345, 346, 347, 348, 903, 904, 905, 906, 489, 490, 491, 492, 907, 908, 909, 910, 980, 981, 982, 983, 984, 985, 986, 987, 988, 989, 990, 991, 992, 993, 994, 995, 996, 997, 998, 999] (by decide +kernel) (by decide +kernel)
set_option maxRecDepth 20000 in
theorem gL_law_X9_runScript : GoodIn wsL_law (wsV RL 218 RX9 yX9_runScript wsX9_runScript) := goodIn_app (goodIn_of _ (by decide +kernel)) ggL_law_X9_runScript
set_option maxRecDepth 20000 in
theorem ggL_law_L_simulate : GoodIn wsL_law wsL_simulate := goodIn_ca (goodIn_r _ [913, 144, 914, 915, 916, 2, 917, 22, 21, 918, 919, 17, 152, 153, 154, 155, 156, 702, 470, 471, 20, 472, 55, 473, 474, 475, 476, 56, 57, 58, 115, 116, 117, 118, 920, 921, 922, 923, 529, 265, 266, 16, 267, 99, 924, 552, 553, 554, 925, 522, 523, 524, 525, 526, 527, 528, 451, 452, 453, 454, 455, 96, 97, 98, 456, 457, 458, 459, 409, 410, 411, 460, 357, 358, 359, 461, 462, 463, 464, 51, 50, 95, 530, 390, 391, 392, 531, 478, 479, 480, 481, 482, 483, 484, 432, 433, 434, 435, 971, 972, 973, 974, 975, 976, 977, 978, 979, 1005, 1006, 1007, 1008, 1009, 1010, 1011, 1012, 1000, 1001, 1002, 1003, 1004] (by decide +kernel) (by decide +kernel)) (goodIn_sub (fun _ h => List.mem_append_left _ (List.mem_append_right _ h)) (by decide +kernel))
set_option maxRecDepth 20000 in
theorem gL_law_L_simulate : GoodIn wsL_law (va_wsS RL 219 yL_simulate wsL_simulate) := goodIn_app (goodIn_of _ (by decide +kernel)) ggL_law_L_simulate
set_option maxRecDepth 20000 in
theorem ggL_law_X9_simulate : GoodIn wsL_law wsX9_simulate := goodIn_r _ [929, 930, 129, 130, 931, 932, 172, 173, 5, 174, 175, 176, 177, 178, 179, 292, 293, 294, 295, 296, 297, 298, 127, 128, 536, 537, 538, 539, 540, 541, 542, 543, 493, 494, 495, 496, 364, 365, 366, 497, 498, 499, 500, 501, 502, 503, 504, 505, 398, 399, 400, 511, 512, 513, 980, 981, 982, 983, 984, 985, 986, 987, 988, 989, 990, 991, 992, 993, 994, 995, 996, 997, 998, 999] (by decide +kernel) (by decide +kernel)
set_option maxRecDepth 20000 in
theorem gL_law_X9_simulate : GoodIn wsL_law (wsV RL 222 RX9 yX9_simulate wsX9_simulate) := goodIn_app (goodIn_of _ (by decide +kernel)) ggL_law_X9_simulate
set_option maxRecDepth 20000 in
theorem ggL_law_L_save : GoodIn wsL_law wsL_save := goodIn_ca (goodIn_r _ [935, 322, 936, 937, 938, 2, 939, 34, 21, 940, 941, 942, 331, 332, 943, 944, 945, 33, 946, 75, 77, 947, 470, 471, 20, 472, 55, 473, 474, 475, 476, 56, 57, 58, 115, 116, 117, 118, 420, 421, 422, 423, 971, 972, 973, 974, 975, 976, 977, 978, 979, 1018, 1019, 1005, 1006, 1007, 1008, 1009, 1010, 1011, 1012] (by decide +kernel) (by decide +kernel)) (goodIn_sub (fun _ h => List.mem_append_right _ h) (by decide +kernel))
set_option maxRecDepth 20000 in
theorem gL_law_L_save : GoodIn wsL_law (va_wsS RL 223 yL_save wsL_save) := goodIn_app (goodIn_of _ (by decide +kernel)) ggL_law_L_save
set_option maxRecDepth 20000 in
theorem ggL_law_X9_save : GoodIn wsL_law wsX9_save := goodIn_r _ [951, 133, 129, 132, 172, 173, 5, 174, 175, 176, 177, 178, 179, 292, 293, 294, 980, 981, 982, 983, 984, 985, 986, 987, 988, 989, 990, 991, 992, 993, 994, 995, 996, 997, 998, 999] (by decide +kernel) (by decide +kernel)
set_option maxRecDepth 20000 in
theorem gL_law_X9_save : GoodIn wsL_law (wsV RL 225 RX9 yX9_save wsX9_save) := goodIn_app (goodIn_of _ (by decide +kernel)) ggL_law_X9_save
set_option maxRecDepth 20000 in
theorem ggL_law_L_restore : GoodIn wsL_law wsL_restore := goodIn_ca (goodIn_ca (goodIn_r _ [954, 322, 145, 955, 956, 957, 2, 958, 150, 151, 34, 21, 30, 940, 941, 942, 331, 332, 959, 960, 961, 33, 962, 77, 963, 964, 965, 966, 75, 947, 470, 471, 20, 472, 55, 473, 474, 475, 476, 56, 57, 58, 115, 116, 117, 118, 276, 277, 278, 29, 279, 280, 281, 420, 421, 422, 423, 971, 972, 973, 974, 975, 976, 977, 978, 979, 1018, 1019, 1005, 1006, 1007, 1008, 1009, 1010, 1011, 1012, 1015, 1016, 1017] (by decide +kernel) (by decide +kernel)) (goodIn_sub (fun _ h => List.mem_append_left _ (List.mem_append_left _ (List.mem_append_right _ h))) (by decide +kernel))) (goodIn_sub (fun _ h => List.mem_append_right _ h) (by decide +kernel))
set_option maxRecDepth 20000 in
theorem gL_law_L_restore : GoodIn wsL_law (va_wsS RL 226 yL_restore wsL_restore) := goodIn_app (goodIn_of _ (by decide +kernel)) ggL_law_L_restore
set_option maxRecDepth 20000 in
theorem ggL_law_X9_restore : GoodIn wsL_law wsX9_restore := goodIn_r _ [970, 133, 132, 129, 291, 172, 173, 5, 174, 175, 176, 177, 178, 179, 292, 293, 294, 980, 981, 982, 983, 984, 985, 986, 987, 988, 989, 990, 991, 992, 993, 994, 995, 996, 997, 998, 999] (by decide +kernel) (by decide +kernel)
set_option maxRecDepth 20000 in
theorem gL_law_X9_restore : GoodIn wsL_law (wsV RL 228 RX9 yX9_restore wsX9_restore) := goodIn_app (goodIn_of _ (by decide +kernel)) ggL_law_X9_restore
theorem dL_law_0 : decode cL_law 0 = .ok (.new 8, 3) := by decide +kernel
theorem dL_law_3 : decode cL_law 3 = .ok (.dup, 1) := by decide +kernel
theorem dL_law_4 : decode cL_law 4 = .ok (.invokespecial 103, 3) := by decide +kernel
theorem dL_law_7 : decode cL_law 7 = .ok (.astore_n 1, 1) := by decide +kernel
theorem dL_law_8 : decode cL_law 8 = .ok (.new 104, 3) := by decide +kernel
theorem dL_law_11 : decode cL_law 11 = .ok (.dup, 1) := by decide +kernel
theorem dL_law_12 : decode cL_law 12 = .ok (.invokespecial 106, 3) := by decide +kernel
theorem dL_law_15 : decode cL_law 15 = .ok (.astore_n 2, 1) := by decide +kernel
theorem dL_law_16 : decode cL_law 16 = .ok (.iconst 1, 1) := by decide +kernel
theorem dL_law_17 : decode cL_law 17 = .ok (.newarray .long, 2) := by decide +kernel
theorem dL_law_19 : decode cL_law 19 = .ok (.astore_n 3, 1) := by decide +kernel
theorem dL_law_20 : decode cL_law 20 = .ok (.iconst 0, 1) := by decide +kernel
theorem dL_law_21 : decode cL_law 21 = .ok (.istore 4, 2) := by decide +kernel
theorem dL_law_23 : decode cL_law 23 = .ok (.iload 4, 2) := by decide +kernel
theorem dL_law_25 : decode cL_law 25 = .ok (.aload_n 0, 1) := by decide +kernel
theorem dL_law_26 : decode cL_law 26 = .ok (.arraylength, 1) := by decide +kernel
theorem dL_law_27 : decode cL_law 27 = .ok (.iconst 4, 1) := by decide +kernel
theorem dL_law_28 : decode cL_law 28 = .ok (.isub, 1) := by decide +kernel
theorem dL_law_29 : decode cL_law 29 = .ok (.if_icmp .gt 1930, 3) := by decide +kernel
theorem dL_law_32 : decode cL_law 32 = .ok (.aload_n 0, 1) := by decide +kernel
theorem dL_law_33 : decode cL_law 33 = .ok (.iload 4, 2) := by decide +kernel
theorem dL_law_35 : decode cL_law 35 = .ok (.iaload, 1) := by decide +kernel
theorem dL_law_36 : decode cL_law 36 = .ok (.bipush 63, 2) := by decide +kernel
theorem dL_law_38 : decode cL_law 38 = .ok (.iand, 1) := by decide +kernel
theorem dL_law_39 : decode cL_law 39 = .ok (.tableswitch 1914 0 33 #[149, 205, 218, 231, 275, 288, 301, 357, 413, 469, 537, 600, 613, 626, 682, 738, 794, 850, 930, 986, 1030, 1093, 1149, 1205, 1218, 1274, 1342, 1410, 1466, 1534, 1602, 1702, 1802, 1858], 149) := by decide +kernel
theorem dL_law_188 : decode cL_law 188 = .ok (.aload_n 1, 1) := by decide +kernel
theorem dL_law_189 : decode cL_law 189 = .ok (.aload_n 0, 1) := by decide +kernel
theorem dL_law_190 : decode cL_law 190 = .ok (.iload 4, 2) := by decide +kernel
theorem dL_law_192 : decode cL_law 192 = .ok (.iconst 1, 1) := by decide +kernel
theorem dL_law_193 : decode cL_law 193 = .ok (.iadd, 1) := by decide +kernel
theorem dL_law_194 : decode cL_law 194 = .ok (.iaload, 1) := by decide +kernel
theorem dL_law_195 : decode cL_law 195 = .ok (.aload_n 3, 1) := by decide +kernel
theorem dL_law_196 : decode cL_law 196 = .ok (.invokestatic 107, 3) := by decide +kernel
theorem dL_law_199 : decode cL_law 199 = .ok (.istore 5, 2) := by decide +kernel
theorem dL_law_201 : decode cL_law 201 = .ok (.aload_n 2, 1) := by decide +kernel
theorem dL_law_202 : decode cL_law 202 = .ok (.aload_n 0, 1) := by decide +kernel
theorem dL_law_203 : decode cL_law 203 = .ok (.iload 4, 2) := by decide +kernel
theorem dL_law_205 : decode cL_law 205 = .ok (.iconst 1, 1) := by decide +kernel
theorem dL_law_206 : decode cL_law 206 = .ok (.iadd, 1) := by decide +kernel
theorem dL_law_207 : decode cL_law 207 = .ok (.iaload, 1) := by decide +kernel
theorem dL_law_208 : decode cL_law 208 = .ok (.invokevirtual 112, 3) := by decide +kernel
theorem dL_law_211 : decode cL_law 211 = .ok (.istore 6, 2) := by decide +kernel
theorem dL_law_213 : decode cL_law 213 = .ok (.aload_n 2, 1) := by decide +kernel
theorem dL_law_214 : decode cL_law 214 = .ok (.invokevirtual 113, 3) := by decide +kernel
theorem dL_law_217 : decode cL_law 217 = .ok (.iload 5, 2) := by decide +kernel
theorem dL_law_219 : decode cL_law 219 = .ok (.if_icmp .eq 5, 3) := by decide +kernel
theorem dL_law_222 : decode cL_law 222 = .ok (.iconst 0, 1) := by decide +kernel
theorem dL_law_223 : decode cL_law 223 = .ok (.ireturn, 1) := by decide +kernel
theorem dL_law_224 : decode cL_law 224 = .ok (.iload 5, 2) := by decide +kernel
theorem dL_law_226 : decode cL_law 226 = .ok (.ifCond .ne 15, 3) := by decide +kernel
theorem dL_law_229 : decode cL_law 229 = .ok (.aload_n 3, 1) := by decide +kernel
theorem dL_law_230 : decode cL_law 230 = .ok (.iconst 0, 1) := by decide +kernel
theorem dL_law_231 : decode cL_law 231 = .ok (.laload, 1) := by decide +kernel
theorem dL_law_232 : decode cL_law 232 = .ok (.iload 6, 2) := by decide +kernel
theorem dL_law_234 : decode cL_law 234 = .ok (.i2l, 1) := by decide +kernel
theorem dL_law_235 : decode cL_law 235 = .ok (.lcmp, 1) := by decide +kernel
theorem dL_law_236 : decode cL_law 236 = .ok (.ifCond .eq 5, 3) := by decide +kernel
theorem dL_law_239 : decode cL_law 239 = .ok (.iconst 0, 1) := by decide +kernel
theorem dL_law_240 : decode cL_law 240 = .ok (.ireturn, 1) := by decide +kernel
theorem dL_law_241 : decode cL_law 241 = .ok (.goto 1712, 3) := by decide +kernel
theorem dL_law_244 : decode cL_law 244 = .ok (.aload_n 1, 1) := by decide +kernel
theorem dL_law_245 : decode cL_law 245 = .ok (.invokevirtual 116, 3) := by decide +kernel
theorem dL_law_248 : decode cL_law 248 = .ok (.aload_n 2, 1) := by decide +kernel
theorem dL_law_249 : decode cL_law 249 = .ok (.invokevirtual 119, 3) := by decide +kernel
theorem dL_law_252 : decode cL_law 252 = .ok (.if_icmp .eq 1701, 3) := by decide +kernel
theorem dL_law_255 : decode cL_law 255 = .ok (.iconst 0, 1) := by decide +kernel
theorem dL_law_256 : decode cL_law 256 = .ok (.ireturn, 1) := by decide +kernel
theorem dL_law_257 : decode cL_law 257 = .ok (.aload_n 1, 1) := by decide +kernel
theorem dL_law_258 : decode cL_law 258 = .ok (.invokevirtual 120, 3) := by decide +kernel
theorem dL_law_261 : decode cL_law 261 = .ok (.aload_n 2, 1) := by decide +kernel
theorem dL_law_262 : decode cL_law 262 = .ok (.invokevirtual 123, 3) := by decide +kernel
theorem dL_law_265 : decode cL_law 265 = .ok (.if_icmp .eq 1688, 3) := by decide +kernel
theorem dL_law_268 : decode cL_law 268 = .ok (.iconst 0, 1) := by decide +kernel
theorem dL_law_269 : decode cL_law 269 = .ok (.ireturn, 1) := by decide +kernel
theorem dL_law_270 : decode cL_law 270 = .ok (.aload_n 1, 1) := by decide +kernel
theorem dL_law_271 : decode cL_law 271 = .ok (.aload_n 3, 1) := by decide +kernel
theorem dL_law_272 : decode cL_law 272 = .ok (.invokestatic 124, 3) := by decide +kernel
theorem dL_law_275 : decode cL_law 275 = .ok (.istore 5, 2) := by decide +kernel
theorem dL_law_277 : decode cL_law 277 = .ok (.aload_n 2, 1) := by decide +kernel
theorem dL_law_278 : decode cL_law 278 = .ok (.invokevirtual 127, 3) := by decide +kernel
theorem dL_law_281 : decode cL_law 281 = .ok (.istore 6, 2) := by decide +kernel
theorem dL_law_283 : decode cL_law 283 = .ok (.aload_n 2, 1) := by decide +kernel
theorem dL_law_284 : decode cL_law 284 = .ok (.invokevirtual 113, 3) := by decide +kernel
theorem dL_law_287 : decode cL_law 287 = .ok (.iload 5, 2) := by decide +kernel
theorem dL_law_289 : decode cL_law 289 = .ok (.if_icmp .eq 5, 3) := by decide +kernel
theorem dL_law_292 : decode cL_law 292 = .ok (.iconst 0, 1) := by decide +kernel
theorem dL_law_293 : decode cL_law 293 = .ok (.ireturn, 1) := by decide +kernel
theorem dL_law_294 : decode cL_law 294 = .ok (.iload 5, 2) := by decide +kernel
theorem dL_law_296 : decode cL_law 296 = .ok (.ifCond .ne 15, 3) := by decide +kernel
theorem dL_law_299 : decode cL_law 299 = .ok (.aload_n 3, 1) := by decide +kernel
theorem dL_law_300 : decode cL_law 300 = .ok (.iconst 0, 1) := by decide +kernel
theorem dL_law_301 : decode cL_law 301 = .ok (.laload, 1) := by decide +kernel
theorem dL_law_302 : decode cL_law 302 = .ok (.iload 6, 2) := by decide +kernel
theorem dL_law_304 : decode cL_law 304 = .ok (.i2l, 1) := by decide +kernel
theorem dL_law_305 : decode cL_law 305 = .ok (.lcmp, 1) := by decide +kernel
theorem dL_law_306 : decode cL_law 306 = .ok (.ifCond .eq 5, 3) := by decide +kernel
theorem dL_law_309 : decode cL_law 309 = .ok (.iconst 0, 1) := by decide +kernel
theorem dL_law_310 : decode cL_law 310 = .ok (.ireturn, 1) := by decide +kernel
theorem dL_law_311 : decode cL_law 311 = .ok (.goto 1642, 3) := by decide +kernel
theorem dL_law_314 : decode cL_law 314 = .ok (.aload_n 1, 1) := by decide +kernel
theorem dL_law_315 : decode cL_law 315 = .ok (.invokevirtual 128, 3) := by decide +kernel
theorem dL_law_318 : decode cL_law 318 = .ok (.aload_n 2, 1) := by decide +kernel
theorem dL_law_319 : decode cL_law 319 = .ok (.invokevirtual 131, 3) := by decide +kernel
theorem dL_law_322 : decode cL_law 322 = .ok (.if_icmp .eq 1631, 3) := by decide +kernel
theorem dL_law_325 : decode cL_law 325 = .ok (.iconst 0, 1) := by decide +kernel
theorem dL_law_326 : decode cL_law 326 = .ok (.ireturn, 1) := by decide +kernel
theorem dL_law_327 : decode cL_law 327 = .ok (.aload_n 1, 1) := by decide +kernel
theorem dL_law_328 : decode cL_law 328 = .ok (.invokevirtual 132, 3) := by decide +kernel
theorem dL_law_331 : decode cL_law 331 = .ok (.aload_n 2, 1) := by decide +kernel
theorem dL_law_332 : decode cL_law 332 = .ok (.invokevirtual 135, 3) := by decide +kernel
theorem dL_law_335 : decode cL_law 335 = .ok (.if_icmp .eq 1618, 3) := by decide +kernel
theorem dL_law_338 : decode cL_law 338 = .ok (.iconst 0, 1) := by decide +kernel
theorem dL_law_339 : decode cL_law 339 = .ok (.ireturn, 1) := by decide +kernel
theorem dL_law_340 : decode cL_law 340 = .ok (.aload_n 1, 1) := by decide +kernel
theorem dL_law_341 : decode cL_law 341 = .ok (.aload_n 0, 1) := by decide +kernel
theorem dL_law_342 : decode cL_law 342 = .ok (.iload 4, 2) := by decide +kernel
theorem dL_law_344 : decode cL_law 344 = .ok (.iconst 1, 1) := by decide +kernel
theorem dL_law_345 : decode cL_law 345 = .ok (.iadd, 1) := by decide +kernel
theorem dL_law_346 : decode cL_law 346 = .ok (.iaload, 1) := by decide +kernel
theorem dL_law_347 : decode cL_law 347 = .ok (.aload_n 3, 1) := by decide +kernel
theorem dL_law_348 : decode cL_law 348 = .ok (.invokestatic 136, 3) := by decide +kernel
theorem dL_law_351 : decode cL_law 351 = .ok (.istore 5, 2) := by decide +kernel
theorem dL_law_353 : decode cL_law 353 = .ok (.aload_n 2, 1) := by decide +kernel
theorem dL_law_354 : decode cL_law 354 = .ok (.aload_n 0, 1) := by decide +kernel
theorem dL_law_355 : decode cL_law 355 = .ok (.iload 4, 2) := by decide +kernel
theorem dL_law_357 : decode cL_law 357 = .ok (.iconst 1, 1) := by decide +kernel
theorem dL_law_358 : decode cL_law 358 = .ok (.iadd, 1) := by decide +kernel
theorem dL_law_359 : decode cL_law 359 = .ok (.iaload, 1) := by decide +kernel
theorem dL_law_360 : decode cL_law 360 = .ok (.invokevirtual 138, 3) := by decide +kernel
theorem dL_law_363 : decode cL_law 363 = .ok (.istore 6, 2) := by decide +kernel
theorem dL_law_365 : decode cL_law 365 = .ok (.aload_n 2, 1) := by decide +kernel
theorem dL_law_366 : decode cL_law 366 = .ok (.invokevirtual 113, 3) := by decide +kernel
theorem dL_law_369 : decode cL_law 369 = .ok (.iload 5, 2) := by decide +kernel
theorem dL_law_371 : decode cL_law 371 = .ok (.if_icmp .eq 5, 3) := by decide +kernel
theorem dL_law_374 : decode cL_law 374 = .ok (.iconst 0, 1) := by decide +kernel
theorem dL_law_375 : decode cL_law 375 = .ok (.ireturn, 1) := by decide +kernel
theorem dL_law_376 : decode cL_law 376 = .ok (.iload 5, 2) := by decide +kernel
theorem dL_law_378 : decode cL_law 378 = .ok (.ifCond .ne 15, 3) := by decide +kernel
theorem dL_law_381 : decode cL_law 381 = .ok (.aload_n 3, 1) := by decide +kernel
theorem dL_law_382 : decode cL_law 382 = .ok (.iconst 0, 1) := by decide +kernel
theorem dL_law_383 : decode cL_law 383 = .ok (.laload, 1) := by decide +kernel
theorem dL_law_384 : decode cL_law 384 = .ok (.iload 6, 2) := by decide +kernel
theorem dL_law_386 : decode cL_law 386 = .ok (.i2l, 1) := by decide +kernel
theorem dL_law_387 : decode cL_law 387 = .ok (.lcmp, 1) := by decide +kernel
theorem dL_law_388 : decode cL_law 388 = .ok (.ifCond .eq 5, 3) := by decide +kernel
theorem dL_law_391 : decode cL_law 391 = .ok (.iconst 0, 1) := by decide +kernel
theorem dL_law_392 : decode cL_law 392 = .ok (.ireturn, 1) := by decide +kernel
theorem dL_law_393 : decode cL_law 393 = .ok (.goto 1560, 3) := by decide +kernel
theorem dL_law_396 : decode cL_law 396 = .ok (.aload_n 1, 1) := by decide +kernel
theorem dL_law_397 : decode cL_law 397 = .ok (.aload_n 0, 1) := by decide +kernel
theorem dL_law_398 : decode cL_law 398 = .ok (.iload 4, 2) := by decide +kernel
theorem dL_law_400 : decode cL_law 400 = .ok (.iconst 1, 1) := by decide +kernel
theorem dL_law_401 : decode cL_law 401 = .ok (.iadd, 1) := by decide +kernel
theorem dL_law_402 : decode cL_law 402 = .ok (.iaload, 1) := by decide +kernel
theorem dL_law_403 : decode cL_law 403 = .ok (.aload_n 3, 1) := by decide +kernel
theorem dL_law_404 : decode cL_law 404 = .ok (.invokestatic 139, 3) := by decide +kernel
theorem dL_law_407 : decode cL_law 407 = .ok (.istore 5, 2) := by decide +kernel
theorem dL_law_409 : decode cL_law 409 = .ok (.aload_n 2, 1) := by decide +kernel
theorem dL_law_410 : decode cL_law 410 = .ok (.aload_n 0, 1) := by decide +kernel
theorem dL_law_411 : decode cL_law 411 = .ok (.iload 4, 2) := by decide +kernel
theorem dL_law_413 : decode cL_law 413 = .ok (.iconst 1, 1) := by decide +kernel
theorem dL_law_414 : decode cL_law 414 = .ok (.iadd, 1) := by decide +kernel
theorem dL_law_415 : decode cL_law 415 = .ok (.iaload, 1) := by decide +kernel
theorem dL_law_416 : decode cL_law 416 = .ok (.invokevirtual 141, 3) := by decide +kernel
theorem dL_law_419 : decode cL_law 419 = .ok (.istore 6, 2) := by decide +kernel
theorem dL_law_421 : decode cL_law 421 = .ok (.aload_n 2, 1) := by decide +kernel
theorem dL_law_422 : decode cL_law 422 = .ok (.invokevirtual 113, 3) := by decide +kernel
theorem dL_law_425 : decode cL_law 425 = .ok (.iload 5, 2) := by decide +kernel
theorem dL_law_427 : decode cL_law 427 = .ok (.if_icmp .eq 5, 3) := by decide +kernel
theorem dL_law_430 : decode cL_law 430 = .ok (.iconst 0, 1) := by decide +kernel
theorem dL_law_431 : decode cL_law 431 = .ok (.ireturn, 1) := by decide +kernel
theorem dL_law_432 : decode cL_law 432 = .ok (.iload 5, 2) := by decide +kernel
theorem dL_law_434 : decode cL_law 434 = .ok (.ifCond .ne 15, 3) := by decide +kernel
theorem dL_law_437 : decode cL_law 437 = .ok (.aload_n 3, 1) := by decide +kernel
theorem dL_law_438 : decode cL_law 438 = .ok (.iconst 0, 1) := by decide +kernel
theorem dL_law_439 : decode cL_law 439 = .ok (.laload, 1) := by decide +kernel
theorem dL_law_440 : decode cL_law 440 = .ok (.iload 6, 2) := by decide +kernel
theorem dL_law_442 : decode cL_law 442 = .ok (.i2l, 1) := by decide +kernel
theorem dL_law_443 : decode cL_law 443 = .ok (.lcmp, 1) := by decide +kernel
theorem dL_law_444 : decode cL_law 444 = .ok (.ifCond .eq 5, 3) := by decide +kernel
theorem dL_law_447 : decode cL_law 447 = .ok (.iconst 0, 1) := by decide +kernel
theorem dL_law_448 : decode cL_law 448 = .ok (.ireturn, 1) := by decide +kernel
theorem dL_law_449 : decode cL_law 449 = .ok (.goto 1504, 3) := by decide +kernel
theorem dL_law_452 : decode cL_law 452 = .ok (.aload_n 1, 1) := by decide +kernel
theorem dL_law_453 : decode cL_law 453 = .ok (.aload_n 0, 1) := by decide +kernel
theorem dL_law_454 : decode cL_law 454 = .ok (.iload 4, 2) := by decide +kernel
theorem dL_law_456 : decode cL_law 456 = .ok (.iconst 1, 1) := by decide +kernel
theorem dL_law_457 : decode cL_law 457 = .ok (.iadd, 1) := by decide +kernel
