set_option maxRecDepth 20000 in
theorem ggL_law_X5_init : GoodIn wsL_law wsX5_init := goodIn_r _ [9, 10, 11, 12, 13, 14, 15, 16, 17, 18, 19, 20, 21, 22, 23, 24, 25, 26, 27, 28, 29, 30, 31, 32, 33, 34, 35, 36, 37, 38, 39, 40, 41, 42, 43, 44, 45, 46, 47, 48, 49, 50, 51, 52, 53, 54, 55, 56, 57, 58, 59, 60, 61, 62, 63, 64, 65, 66, 67, 68, 69, 70, 71, 72, 73, 74, 75, 76, 77, 78, 79, 80, 81, 82, 996, 997, 998, 999, 1000, 1001, 1002, 1003, 1004, 978, 979, 980, 981, 982, 1005, 1006, 1007, 1008, 1009, 1010, 1011, 1012, 1013, 1014, 1015] (by decide +kernel) (by decide +kernel)
set_option maxRecDepth 20000 in
theorem gL_law_X5_init : GoodIn wsL_law (wsX5_init) := ggL_law_X5_init
set_option maxRecDepth 20000 in
theorem ggL_law_X6_init : GoodIn wsL_law wsX6_init := goodIn_r _ [85, 86, 11, 12, 48, 87, 88, 89, 90, 91, 92, 93, 983, 984, 985, 986, 987, 988, 989, 990, 991, 992, 993, 994, 995] (by decide +kernel) (by decide +kernel)
set_option maxRecDepth 20000 in
theorem gL_law_X6_init : GoodIn wsL_law (wsX6_init) := ggL_law_X6_init
set_option maxRecDepth 20000 in
theorem ggL_law_L_addThing : GoodIn wsL_law wsL_addThing := goodIn_ca (goodIn_ca (goodIn_ca (goodIn_r _ [97, 98, 99, 100, 101, 102, 103, 2, 104, 105, 106, 16, 107, 21, 108, 109, 110, 111, 112, 113, 114, 115, 116, 117, 118, 119, 120, 121, 122, 123, 124, 125, 126, 127, 128, 129, 36, 130, 54, 46, 131, 132, 133, 20, 134, 135, 64, 136, 137, 138, 139, 140, 141, 142, 15, 143, 37, 38, 39, 40, 41, 144, 145, 146, 147, 148, 149, 150, 151, 47, 49, 152, 153, 154, 155, 50, 51, 52, 53, 55, 56, 57, 58, 156, 157, 158, 159, 160, 161, 162, 163, 164, 165, 166, 167, 168, 169, 170, 171, 978, 979, 980, 981, 982, 996, 997, 998, 999, 1000, 1001, 1002, 1003, 1004, 1012, 1013, 1014, 1015, 1005, 1006] (by decide +kernel) (by decide +kernel)) (goodIn_sub (fun _ h => List.mem_append_left _ (List.mem_append_left _ (List.mem_append_left _ (List.mem_append_right _ h)))) (by decide +kernel))) (goodIn_sub (fun _ h => List.mem_append_left _ (List.mem_append_left _ (List.mem_append_right _ h))) (by decide +kernel))) (goodIn_sub (fun _ h => List.mem_append_left _ (List.mem_append_right _ h)) (by decide +kernel))
set_option maxRecDepth 20000 in
theorem gL_law_L_addThing : GoodIn wsL_law (va_wsS RL 95 yL_addThing wsL_addThing) := goodIn_app (goodIn_of _ (by decide +kernel)) ggL_law_L_addThing
set_option maxRecDepth 20000 in
theorem ggL_law_X6_addThing : GoodIn wsL_law wsX6_addThing := goodIn_r _ [175, 176, 87, 177, 178, 5, 179, 180, 181, 182, 183, 184, 185, 186, 187, 188, 189, 190, 191, 192, 193, 88, 983, 984, 985, 986, 987, 988, 989, 990, 991, 992, 993, 994, 995] (by decide +kernel) (by decide +kernel)
set_option maxRecDepth 20000 in
theorem gL_law_X6_addThing : GoodIn wsL_law (wsV RL 100 RX6 yX6_addThing wsX6_addThing) := goodIn_app (goodIn_of _ (by decide +kernel)) ggL_law_X6_addThing
set_option maxRecDepth 20000 in
theorem ggL_law_X6_thrown : GoodIn wsL_law wsX6_thrown := goodIn_r _ [197, 188, 983, 984, 985, 986, 987, 988, 989, 990, 991, 992, 993, 994, 995] (by decide +kernel) (by decide +kernel)
set_option maxRecDepth 20000 in
theorem gL_law_X6_thrown : GoodIn wsL_law (wsV RL 101 RX6 yX6_thrown wsX6_thrown) := goodIn_app (goodIn_of _ (by decide +kernel)) ggL_law_X6_thrown
set_option maxRecDepth 20000 in
theorem ggL_law_L_setMask : GoodIn wsL_law wsL_setMask := goodIn_ca (goodIn_ca (goodIn_r _ [200, 98, 99, 201, 202, 203, 2, 204, 21, 16, 205, 206, 207, 208, 111, 112, 107, 209, 210, 211, 36, 212, 54, 119, 120, 121, 122, 123, 124, 125, 126, 116, 117, 118, 131, 132, 133, 20, 134, 135, 64, 136, 137, 138, 139, 140, 141, 142, 15, 143, 37, 38, 39, 40, 41, 144, 145, 146, 147, 148, 149, 150, 151, 46, 47, 49, 213, 214, 215, 216, 164, 165, 166, 167, 55, 56, 57, 58, 156, 157, 158, 159, 160, 161, 162, 163, 168, 169, 170, 171, 978, 979, 980, 981, 982, 996, 997, 998, 999, 1000, 1001, 1002, 1003, 1004, 1012, 1013, 1014, 1015, 1005, 1006] (by decide +kernel) (by decide +kernel)) (goodIn_sub (fun _ h => List.mem_append_left _ (List.mem_append_left _ (List.mem_append_right _ h))) (by decide +kernel))) (goodIn_sub (fun _ h => List.mem_append_left _ (List.mem_append_right _ h)) (by decide +kernel))
set_option maxRecDepth 20000 in
theorem gL_law_L_setMask : GoodIn wsL_law (va_wsS RL 104 yL_setMask wsL_setMask) := goodIn_app (goodIn_of _ (by decide +kernel)) ggL_law_L_setMask
set_option maxRecDepth 20000 in
theorem ggL_law_X6_setMask : GoodIn wsL_law wsX6_setMask := goodIn_r _ [220, 176, 221, 222, 223, 5, 224, 87, 181, 182, 183, 184, 185, 186, 187, 188, 225, 226, 227, 228, 189, 190, 191, 192, 193, 88, 983, 984, 985, 986, 987, 988, 989, 990, 991, 992, 993, 994, 995] (by decide +kernel) (by decide +kernel)
set_option maxRecDepth 20000 in
theorem gL_law_X6_setMask : GoodIn wsL_law (wsV RL 106 RX6 yX6_setMask wsX6_setMask) := goodIn_app (goodIn_of _ (by decide +kernel)) ggL_law_X6_setMask
set_option maxRecDepth 20000 in
theorem ggL_law_L_setBase : GoodIn wsL_law wsL_setBase := goodIn_ca (goodIn_ca (goodIn_r _ [231, 98, 99, 232, 233, 234, 2, 235, 21, 16, 236, 108, 109, 110, 111, 112, 113, 114, 115, 116, 117, 118, 122, 123, 124, 125, 126, 131, 132, 133, 20, 134, 135, 64, 136, 137, 138, 139, 140, 141, 142, 15, 143, 37, 38, 39, 40, 41, 144, 145, 146, 147, 148, 149, 150, 36, 151, 54, 46, 47, 49, 237, 165, 166, 167, 238, 56, 57, 58, 978, 979, 980, 981, 982, 996, 997, 998, 999, 1000, 1001, 1002, 1003, 1004, 1005, 1006, 1012, 1013, 1014, 1015] (by decide +kernel) (by decide +kernel)) (goodIn_sub (fun _ h => List.mem_append_left _ (List.mem_append_left _ (List.mem_append_right _ h))) (by decide +kernel))) (goodIn_sub (fun _ h => List.mem_append_left _ (List.mem_append_right _ h)) (by decide +kernel))
set_option maxRecDepth 20000 in
theorem gL_law_L_setBase : GoodIn wsL_law (va_wsS RL 107 yL_setBase wsL_setBase) := goodIn_app (goodIn_of _ (by decide +kernel)) ggL_law_L_setBase
set_option maxRecDepth 20000 in
theorem ggL_law_X6_setBase : GoodIn wsL_law wsX6_setBase := goodIn_r _ [242, 243, 177, 178, 5, 179, 180, 181, 182, 183, 184, 185, 186, 187, 188, 225, 226, 227, 228, 87, 189, 190, 191, 192, 193, 88, 983, 984, 985, 986, 987, 988, 989, 990, 991, 992, 993, 994, 995] (by decide +kernel) (by decide +kernel)
set_option maxRecDepth 20000 in
theorem gL_law_X6_setBase : GoodIn wsL_law (wsV RL 109 RX6 yX6_setBase wsX6_setBase) := goodIn_app (goodIn_of _ (by decide +kernel)) ggL_law_X6_setBase
set_option maxRecDepth 20000 in
theorem ggL_law_L_give : GoodIn wsL_law wsL_give := goodIn_ca (goodIn_r _ [246, 98, 247, 248, 249, 2, 250, 21, 16, 108, 109, 110, 111, 112, 113, 114, 115, 116, 117, 118, 205, 206, 207, 208, 107, 209, 210, 211, 36, 212, 54, 131, 132, 133, 20, 134, 135, 64, 136, 137, 138, 139, 140, 141, 142, 15, 143, 37, 38, 39, 40, 41, 144, 145, 146, 147, 148, 149, 150, 151, 46, 47, 49, 213, 214, 215, 216, 164, 165, 166, 167, 55, 56, 57, 58, 156, 157, 158, 159, 160, 161, 162, 163, 168, 169, 170, 171, 978, 979, 980, 981, 982, 996, 997, 998, 999, 1000, 1001, 1002, 1003, 1004, 1012, 1013, 1014, 1015, 1005, 1006] (by decide +kernel) (by decide +kernel)) (goodIn_sub (fun _ h => List.mem_append_left _ (List.mem_append_left _ (List.mem_append_right _ h))) (by decide +kernel))
set_option maxRecDepth 20000 in
theorem gL_law_L_give : GoodIn wsL_law (va_wsS RL 110 yL_give wsL_give) := goodIn_app (goodIn_of _ (by decide +kernel)) ggL_law_L_give
set_option maxRecDepth 20000 in
theorem ggL_law_X6_give : GoodIn wsL_law wsX6_give := goodIn_r _ [254, 221, 222, 223, 5, 224, 87, 181, 182, 183, 177, 178, 179, 180, 184, 185, 186, 187, 188, 225, 226, 227, 228, 189, 190, 191, 192, 193, 88, 983, 984, 985, 986, 987, 988, 989, 990, 991, 992, 993, 994, 995] (by decide +kernel) (by decide +kernel)
set_option maxRecDepth 20000 in
theorem gL_law_X6_give : GoodIn wsL_law (wsV RL 112 RX6 yX6_give wsX6_give) := goodIn_app (goodIn_of _ (by decide +kernel)) ggL_law_X6_give
set_option maxRecDepth 20000 in
theorem ggL_law_L_grant : GoodIn wsL_law wsL_grant := goodIn_ca (goodIn_ca (goodIn_ca (goodIn_r _ [257, 98, 99, 100, 258, 259, 260, 2, 261, 105, 106, 16, 21, 262, 263, 264, 15, 265, 38, 37, 39, 114, 115, 116, 117, 118, 266, 210, 211, 36, 212, 54, 267, 268, 269, 270, 41, 164, 165, 166, 167, 47, 49, 271, 128, 129, 130, 46, 272, 273, 274, 111, 112, 125, 126, 131, 132, 133, 20, 134, 135, 64, 136, 137, 138, 139, 140, 141, 142, 143, 40, 144, 145, 146, 147, 148, 149, 150, 151, 275, 276, 277, 278, 50, 51, 52, 53, 55, 56, 57, 58, 156, 157, 158, 159, 160, 161, 162, 163, 168, 169, 170, 171, 978, 979, 980, 981, 982, 996, 997, 998, 999, 1000, 1001, 1002, 1003, 1004, 1012, 1013, 1014, 1015, 1005, 1006] (by decide +kernel) (by decide +kernel)) (goodIn_sub (fun _ h => List.mem_append_left _ (List.mem_append_left _ (List.mem_append_left _ (List.mem_append_right _ h)))) (by decide +kernel))) (goodIn_sub (fun _ h => List.mem_append_left _ (List.mem_append_left _ (List.mem_append_right _ h))) (by decide +kernel))) (goodIn_sub (fun _ h => List.mem_append_left _ (List.mem_append_right _ h)) (by decide +kernel))
set_option maxRecDepth 20000 in
theorem gL_law_L_grant : GoodIn wsL_law (va_wsS RL 113 yL_grant wsL_grant) := goodIn_app (goodIn_of _ (by decide +kernel)) ggL_law_L_grant
set_option maxRecDepth 20000 in
theorem ggL_law_X6_grant : GoodIn wsL_law wsX6_grant := goodIn_r _ [282, 87, 283, 284, 285, 5, 286, 177, 178, 179, 180, 181, 182, 183, 221, 222, 223, 224, 287, 288, 289, 176, 243, 290, 291, 292, 293, 294, 295, 296, 297, 90, 298, 299, 300, 301, 302, 303, 304, 305, 306, 307, 308, 309, 310, 311, 312, 313, 314, 315, 316, 317, 184, 185, 186, 187, 188, 189, 190, 191, 192, 193, 88, 318, 319, 320, 321, 983, 984, 985, 986, 987, 988, 989, 990, 991, 992, 993, 994, 995] (by decide +kernel) (by decide +kernel)
set_option maxRecDepth 20000 in
theorem gL_law_X6_grant : GoodIn wsL_law (wsV RL 116 RX6 yX6_grant wsX6_grant) := goodIn_app (goodIn_of _ (by decide +kernel)) ggL_law_X6_grant
set_option maxRecDepth 20000 in
theorem ggL_law_L_revoke : GoodIn wsL_law wsL_revoke := goodIn_ca (goodIn_r _ [324, 325, 326, 327, 328, 2, 329, 21, 16, 330, 331, 332, 333, 334, 335, 336, 337, 338, 15, 339, 39, 160, 161, 162, 36, 163, 54, 164, 165, 166, 167, 47, 49, 131, 132, 133, 20, 134, 135, 64, 136, 137, 138, 139, 140, 141, 142, 143, 37, 38, 40, 41, 144, 145, 146, 147, 148, 149, 150, 151, 46, 340, 341, 342, 343, 344, 345, 346, 347, 348, 349, 350, 351, 352, 353, 354, 355, 356, 357, 358, 359, 360, 361, 362, 156, 157, 158, 159, 55, 56, 57, 58, 168, 169, 170, 171, 978, 979, 980, 981, 982, 996, 997, 998, 999, 1000, 1001, 1002, 1003, 1004, 1012, 1013, 1014, 1015, 1005, 1006] (by decide +kernel) (by decide +kernel)) (goodIn_sub (fun _ h => List.mem_append_right _ h) (by decide +kernel))
set_option maxRecDepth 20000 in
theorem gL_law_L_revoke : GoodIn wsL_law (va_wsS RL 117 yL_revoke wsL_revoke) := goodIn_app (goodIn_of _ (by decide +kernel)) ggL_law_L_revoke
set_option maxRecDepth 20000 in
theorem ggL_law_X6_revoke : GoodIn wsL_law wsX6_revoke := goodIn_r _ [366, 367, 368, 369, 5, 370, 87, 302, 303, 304, 305, 184, 185, 186, 187, 188, 189, 190, 191, 192, 193, 88, 371, 372, 373, 374, 375, 376, 377, 378, 294, 295, 296, 297, 90, 298, 299, 300, 301, 306, 307, 308, 309, 310, 311, 312, 313, 314, 315, 316, 317, 379, 380, 381, 382, 383, 384, 385, 386, 387, 388, 389, 983, 984, 985, 986, 987, 988, 989, 990, 991, 992, 993, 994, 995] (by decide +kernel) (by decide +kernel)
set_option maxRecDepth 20000 in
theorem gL_law_X6_revoke : GoodIn wsL_law (wsV RL 120 RX6 yX6_revoke wsX6_revoke) := goodIn_app (goodIn_of _ (by decide +kernel)) ggL_law_X6_revoke
set_option maxRecDepth 20000 in
theorem ggL_law_L_cheer : GoodIn wsL_law wsL_cheer := goodIn_ca (goodIn_ca (goodIn_r _ [392, 98, 99, 393, 394, 395, 2, 396, 21, 16, 108, 109, 110, 111, 112, 113, 114, 115, 116, 117, 118, 122, 123, 124, 125, 126, 131, 132, 133, 20, 134, 135, 64, 136, 137, 138, 139, 140, 141, 142, 15, 143, 37, 38, 39, 40, 41, 144, 145, 146, 147, 148, 149, 150, 36, 151, 54, 46, 47, 49, 397, 398, 399, 400, 401, 402, 403, 404, 405, 406, 407, 164, 165, 166, 167, 55, 56, 57, 58, 408, 409, 410, 411, 160, 161, 162, 163, 412, 413, 414, 415, 416, 417, 418, 419, 271, 128, 129, 130, 359, 360, 361, 362, 50, 51, 52, 53, 156, 157, 158, 159, 168, 169, 170, 171, 978, 979, 980, 981, 982, 1005, 1006, 996, 997, 998, 999, 1000, 1001, 1002, 1003, 1004, 1012, 1013, 1014, 1015] (by decide +kernel) (by decide +kernel)) (goodIn_sub (fun _ h => List.mem_append_left _ (List.mem_append_left _ (List.mem_append_right _ h))) (by decide +kernel))) (goodIn_sub (fun _ h => List.mem_append_left _ (List.mem_append_right _ h)) (by decide +kernel))
set_option maxRecDepth 20000 in
theorem gL_law_L_cheer : GoodIn wsL_law (va_wsS RL 121 yL_cheer wsL_cheer) := goodIn_app (goodIn_of _ (by decide +kernel)) ggL_law_L_cheer
set_option maxRecDepth 20000 in
theorem ggL_law_X6_cheer : GoodIn wsL_law wsX6_cheer := goodIn_r _ [423, 424, 243, 87, 177, 178, 5, 179, 180, 181, 182, 183, 184, 185, 186, 187, 188, 189, 190, 191, 192, 193, 88, 425, 426, 427, 428, 429, 430, 431, 432, 302, 303, 304, 305, 433, 434, 435, 436, 386, 387, 388, 389, 983, 984, 985, 986, 987, 988, 989, 990, 991, 992, 993, 994, 995] (by decide +kernel) (by decide +kernel)
set_option maxRecDepth 20000 in
theorem gL_law_X6_cheer : GoodIn wsL_law (wsV RL 123 RX6 yX6_cheer wsX6_cheer) := goodIn_app (goodIn_of _ (by decide +kernel)) ggL_law_X6_cheer
set_option maxRecDepth 20000 in
theorem ggL_law_L_pass : GoodIn wsL_law wsL_pass := goodIn_ca (goodIn_ca (goodIn_r _ [439, 99, 100, 440, 441, 442, 2, 443, 105, 106, 16, 21, 122, 123, 124, 125, 126, 116, 117, 118, 444, 445, 446, 15, 447, 147, 448, 131, 132, 133, 20, 134, 135, 64, 136, 137, 138, 139, 140, 141, 142, 143, 37, 38, 39, 40, 41, 144, 145, 146, 148, 149, 150, 36, 151, 54, 46, 47, 49, 449, 450, 451, 452, 453, 454, 455, 456, 164, 165, 166, 167, 55, 56, 57, 58, 408, 409, 410, 411, 160, 161, 162, 163, 412, 413, 414, 415, 416, 417, 418, 419, 271, 128, 129, 130, 359, 360, 361, 362, 50, 51, 52, 53, 156, 157, 158, 159, 168, 169, 170, 171, 978, 979, 980, 981, 982, 996, 997, 998, 999, 1000, 1001, 1002, 1003, 1004, 1005, 1006, 1012, 1013, 1014, 1015] (by decide +kernel) (by decide +kernel)) (goodIn_sub (fun _ h => List.mem_append_left _ (List.mem_append_left _ (List.mem_append_left _ (List.mem_append_right _ h)))) (by decide +kernel))) (goodIn_sub (fun _ h => List.mem_append_left _ (List.mem_append_right _ h)) (by decide +kernel))
set_option maxRecDepth 20000 in
theorem gL_law_L_pass : GoodIn wsL_law (va_wsS RL 124 yL_pass wsL_pass) := goodIn_app (goodIn_of _ (by decide +kernel)) ggL_law_L_pass
set_option maxRecDepth 20000 in
theorem ggL_law_X6_pass : GoodIn wsL_law wsX6_pass := goodIn_r _ [460, 243, 181, 182, 5, 183, 461, 462, 463, 464, 87, 465, 184, 185, 186, 187, 188, 189, 190, 191, 192, 193, 88, 466, 467, 468, 469, 470, 471, 472, 473, 429, 430, 431, 432, 302, 303, 304, 305, 433, 434, 435, 436, 386, 387, 388, 389, 983, 984, 985, 986, 987, 988, 989, 990, 991, 992, 993, 994, 995] (by decide +kernel) (by decide +kernel)
set_option maxRecDepth 20000 in
theorem gL_law_X6_pass : GoodIn wsL_law (wsV RL 126 RX6 yX6_pass wsX6_pass) := goodIn_app (goodIn_of _ (by decide +kernel)) ggL_law_X6_pass
set_option maxRecDepth 20000 in
theorem ggL_law_L_held : GoodIn wsL_law wsL_held := goodIn_ca (goodIn_r _ [476, 98, 477, 478, 479, 2, 480, 16, 108, 109, 110, 111, 112, 113, 114, 115, 116, 117, 118, 205, 206, 207, 208, 107, 209, 210, 211, 36, 212, 54, 481, 268, 269, 15, 270, 41, 164, 165, 166, 167, 47, 49, 978, 979, 980, 981, 982, 996, 997, 998, 999, 1000, 1001, 1002, 1003, 1004, 1012, 1013, 1014, 1015] (by decide +kernel) (by decide +kernel)) (goodIn_sub (fun _ h => List.mem_append_left _ (List.mem_append_left _ (List.mem_append_right _ h))) (by decide +kernel))
set_option maxRecDepth 20000 in
theorem gL_law_L_held : GoodIn wsL_law (va_wsS RL 127 yL_held wsL_held) := goodIn_app (goodIn_of _ (by decide +kernel)) ggL_law_L_held
set_option maxRecDepth 20000 in
theorem ggL_law_X6_held : GoodIn wsL_law wsX6_held := goodIn_r _ [485, 177, 178, 5, 179, 180, 181, 182, 183, 221, 222, 223, 224, 87, 184, 185, 186, 187, 188, 294, 295, 296, 297, 90, 298, 299, 300, 301, 302, 303, 304, 305, 306, 307, 308, 309, 310, 311, 312, 313, 314, 315, 316, 317, 983, 984, 985, 986, 987, 988, 989, 990, 991, 992, 993, 994, 995] (by decide +kernel) (by decide +kernel)
set_option maxRecDepth 20000 in
theorem gL_law_X6_held : GoodIn wsL_law (wsV RL 129 RX6 yX6_held wsX6_held) := goodIn_app (goodIn_of _ (by decide +kernel)) ggL_law_X6_held
set_option maxRecDepth 20000 in
theorem ggL_law_L_person : GoodIn wsL_law wsL_person := goodIn_ca (goodIn_ca (goodIn_r _ [488, 98, 99, 489, 490, 491, 2, 492, 16, 108, 109, 110, 111, 112, 113, 114, 115, 116, 117, 118, 122, 123, 124, 125, 126, 493, 494, 495, 15, 496, 37, 38, 39, 164, 165, 166, 36, 167, 54, 47, 49, 497, 498, 499, 160, 161, 162, 163, 500, 501, 502, 503, 41, 352, 353, 354, 355, 356, 357, 358, 978, 979, 980, 981, 982, 996, 997, 998, 999, 1000, 1001, 1002, 1003, 1004, 1012, 1013, 1014, 1015] (by decide +kernel) (by decide +kernel)) (goodIn_sub (fun _ h => List.mem_append_left _ (List.mem_append_left _ (List.mem_append_right _ h))) (by decide +kernel))) (goodIn_sub (fun _ h => List.mem_append_left _ (List.mem_append_right _ h)) (by decide +kernel))
set_option maxRecDepth 20000 in
theorem gL_law_L_person : GoodIn wsL_law (va_wsS RL 130 yL_person wsL_person) := goodIn_app (goodIn_of _ (by decide +kernel)) ggL_law_L_person
set_option maxRecDepth 20000 in
theorem ggL_law_X6_person : GoodIn wsL_law wsX6_person := goodIn_r _ [507, 508, 177, 178, 5, 179, 180, 181, 182, 183, 184, 185, 186, 187, 188, 294, 295, 296, 297, 90, 87, 298, 299, 300, 301, 302, 303, 304, 305, 306, 307, 308, 309, 310, 311, 312, 313, 314, 315, 316, 317, 509, 510, 511, 512, 383, 384, 385, 513, 514, 515, 516, 983, 984, 985, 986, 987, 988, 989, 990, 991, 992, 993, 994, 995] (by decide +kernel) (by decide +kernel)
set_option maxRecDepth 20000 in
theorem gL_law_X6_person : GoodIn wsL_law (wsV RL 132 RX6 yX6_person wsX6_person) := goodIn_app (goodIn_of _ (by decide +kernel)) ggL_law_X6_person
set_option maxRecDepth 20000 in
theorem ggL_law_L_thing : GoodIn wsL_law wsL_thing := goodIn_ca (goodIn_ca (goodIn_r _ [519, 98, 99, 520, 521, 522, 2, 523, 16, 205, 206, 207, 208, 111, 112, 107, 209, 210, 211, 36, 212, 54, 122, 123, 124, 125, 126, 116, 117, 118, 524, 525, 526, 15, 527, 38, 39, 164, 165, 166, 167, 47, 49, 497, 498, 499, 160, 161, 162, 163, 348, 349, 350, 351, 41, 978, 979, 980, 981, 982, 996, 997, 998, 999, 1000, 1001, 1002, 1003, 1004, 1012, 1013, 1014, 1015] (by decide +kernel) (by decide +kernel)) (goodIn_sub (fun _ h => List.mem_append_left _ (List.mem_append_left _ (List.mem_append_right _ h))) (by decide +kernel))) (goodIn_sub (fun _ h => List.mem_append_left _ (List.mem_append_right _ h)) (by decide +kernel))
set_option maxRecDepth 20000 in
theorem gL_law_L_thing : GoodIn wsL_law (va_wsS RL 133 yL_thing wsL_thing) := goodIn_app (goodIn_of _ (by decide +kernel)) ggL_law_L_thing
set_option maxRecDepth 20000 in
theorem ggL_law_X6_thing : GoodIn wsL_law wsX6_thing := goodIn_r _ [531, 532, 221, 222, 223, 5, 224, 87, 181, 182, 183, 184, 185, 186, 187, 188, 294, 295, 296, 297, 90, 298, 299, 300, 301, 302, 303, 304, 305, 306, 307, 308, 309, 310, 311, 312, 313, 314, 315, 316, 317, 533, 534, 535, 536, 513, 514, 515, 516, 379, 380, 381, 382, 983, 984, 985, 986, 987, 988, 989, 990, 991, 992, 993, 994, 995] (by decide +kernel) (by decide +kernel)
set_option maxRecDepth 20000 in
theorem gL_law_X6_thing : GoodIn wsL_law (wsV RL 135 RX6 yX6_thing wsX6_thing) := goodIn_app (goodIn_of _ (by decide +kernel)) ggL_law_X6_thing
set_option maxRecDepth 20000 in
theorem ggL_law_L_grantOf : GoodIn wsL_law wsL_grantOf := goodIn_ca (goodIn_ca (goodIn_r _ [539, 325, 99, 540, 541, 542, 2, 543, 16, 330, 331, 332, 333, 334, 335, 336, 337, 338, 15, 339, 39, 160, 161, 162, 36, 163, 54, 164, 165, 166, 167, 47, 49, 122, 123, 124, 125, 126, 116, 117, 118, 544, 545, 546, 547, 168, 169, 170, 171, 41, 38, 978, 979, 980, 981, 982, 996, 997, 998, 999, 1000, 1001, 1002, 1003, 1004, 1012, 1013, 1014, 1015] (by decide +kernel) (by decide +kernel)) (goodIn_sub (fun _ h => List.mem_append_right _ h) (by decide +kernel))) (goodIn_sub (fun _ h => List.mem_append_left _ (List.mem_append_right _ h)) (by decide +kernel))
set_option maxRecDepth 20000 in
theorem gL_law_L_grantOf : GoodIn wsL_law (va_wsS RL 136 yL_grantOf wsL_grantOf) := goodIn_app (goodIn_of _ (by decide +kernel)) ggL_law_L_grantOf
set_option maxRecDepth 20000 in
theorem ggL_law_X6_grantOf : GoodIn wsL_law wsX6_grantOf := goodIn_r _ [551, 532, 367, 368, 369, 5, 370, 87, 302, 303, 304, 305, 181, 182, 183, 184, 185, 186, 187, 188, 294, 295, 296, 297, 90, 298, 299, 300, 301, 306, 307, 308, 309, 310, 311, 312, 313, 314, 315, 316, 317, 552, 553, 554, 555, 983, 984, 985, 986, 987, 988, 989, 990, 991, 992, 993, 994, 995] (by decide +kernel) (by decide +kernel)
set_option maxRecDepth 20000 in
theorem gL_law_X6_grantOf : GoodIn wsL_law (wsV RL 138 RX6 yX6_grantOf wsX6_grantOf) := goodIn_app (goodIn_of _ (by decide +kernel)) ggL_law_X6_grantOf
set_option maxRecDepth 20000 in
theorem ggL_law_L_chain : GoodIn wsL_law wsL_chain := goodIn_ca (goodIn_r _ [558, 98, 559, 560, 561, 2, 562, 25, 16, 108, 109, 110, 111, 112, 113, 114, 115, 116, 117, 118, 205, 206, 207, 208, 107, 209, 210, 211, 36, 212, 54, 563, 564, 565, 24, 566, 71, 567, 568, 569, 165, 166, 167, 47, 49, 570, 56, 57, 58, 571, 161, 162, 163, 572, 573, 574, 575, 576, 577, 578, 579, 580, 169, 170, 15, 171, 39, 41, 38, 164, 581, 978, 979, 980, 981, 982, 996, 997, 998, 999, 1000, 1001, 1002, 1003, 1004, 1012, 1013, 1014, 1015, 1007] (by decide +kernel) (by decide +kernel)) (goodIn_sub (fun _ h => List.mem_append_left _ (List.mem_append_left _ (List.mem_append_right _ h))) (by decide +kernel))
set_option maxRecDepth 20000 in
theorem gL_law_L_chain : GoodIn wsL_law (va_wsS RL 139 yL_chain wsL_chain) := goodIn_app (goodIn_of _ (by decide +kernel)) ggL_law_L_chain
set_option maxRecDepth 20000 in
theorem ggL_law_X6_chain : GoodIn wsL_law wsX6_chain := goodIn_r _ [585, 177, 178, 5, 179, 180, 181, 182, 183, 221, 222, 223, 224, 87, 184, 185, 186, 187, 188, 294, 295, 296, 297, 90, 298, 299, 300, 301, 302, 303, 304, 305, 306, 307, 308, 309, 310, 311, 312, 313, 314, 315, 316, 317, 586, 587, 588, 589, 91, 590, 591, 592, 593, 594, 595, 596, 597, 983, 984, 985, 986, 987, 988, 989, 990, 991, 992, 993, 994, 995] (by decide +kernel) (by decide +kernel)
set_option maxRecDepth 20000 in
theorem gL_law_X6_chain : GoodIn wsL_law (wsV RL 141 RX6 yX6_chain wsX6_chain) := goodIn_app (goodIn_of _ (by decide +kernel)) ggL_law_X6_chain
set_option maxRecDepth 20000 in
theorem ggL_law_L_link : GoodIn wsL_law wsL_link := goodIn_ca (goodIn_r _ [600, 98, 601, 602, 603, 2, 604, 111, 112, 25, 16, 108, 109, 110, 113, 114, 115, 116, 117, 118, 205, 206, 207, 208, 107, 209, 210, 211, 36, 212, 54, 563, 564, 565, 24, 566, 71, 567, 568, 569, 165, 166, 167, 47, 49, 570, 56, 57, 58, 571, 161, 162, 163, 572, 573, 574, 575, 576, 577, 578, 579, 580, 169, 170, 15, 171, 39, 41, 38, 164, 581, 605, 606, 607, 608, 609, 610, 611, 612, 978, 979, 980, 981, 982, 996, 997, 998, 999, 1000, 1001, 1002, 1003, 1004, 1012, 1013, 1014, 1015, 1007] (by decide +kernel) (by decide +kernel)) (goodIn_sub (fun _ h => List.mem_append_left _ (List.mem_append_left _ (List.mem_append_right _ h))) (by decide +kernel))
set_option maxRecDepth 20000 in
theorem gL_law_L_link : GoodIn wsL_law (va_wsS RL 142 yL_link wsL_link) := goodIn_app (goodIn_of _ (by decide +kernel)) ggL_law_L_link
set_option maxRecDepth 20000 in
theorem ggL_law_X6_link : GoodIn wsL_law wsX6_link := goodIn_r _ [616, 177, 178, 5, 179, 180, 181, 182, 183, 221, 222, 223, 224, 87, 294, 295, 296, 297, 90, 298, 299, 300, 301, 302, 303, 304, 305, 306, 307, 308, 309, 310, 311, 312, 313, 314, 315, 316, 317, 586, 587, 588, 589, 91, 590, 591, 592, 593, 594, 595, 596, 597, 184, 185, 186, 187, 188, 617, 618, 619, 620, 983, 984, 985, 986, 987, 988, 989, 990, 991, 992, 993, 994, 995] (by decide +kernel) (by decide +kernel)
set_option maxRecDepth 20000 in
theorem gL_law_X6_link : GoodIn wsL_law (wsV RL 145 RX6 yX6_link wsX6_link) := goodIn_app (goodIn_of _ (by decide +kernel)) ggL_law_X6_link
set_option maxRecDepth 20000 in
theorem ggL_law_L_why : GoodIn wsL_law wsL_why := goodIn_ca (goodIn_ca (goodIn_r _ [623, 98, 99, 624, 625, 626, 2, 627, 125, 126, 16, 108, 109, 110, 111, 112, 113, 114, 115, 116, 117, 118, 205, 206, 207, 208, 107, 209, 210, 211, 36, 212, 54, 628, 629, 630, 15, 631, 38, 39, 405, 406, 403, 407, 267, 268, 269, 270, 41, 164, 165, 166, 167, 47, 49, 160, 161, 162, 163, 632, 633, 634, 635, 978, 979, 980, 981, 982, 996, 997, 998, 999, 1000, 1001, 1002, 1003, 1004, 1012, 1013, 1014, 1015] (by decide +kernel) (by decide +kernel)) (goodIn_sub (fun _ h => List.mem_append_left _ (List.mem_append_right _ h)) (by decide +kernel))) (goodIn_sub (fun _ h => List.mem_append_left _ (List.mem_append_left _ (List.mem_append_right _ h))) (by decide +kernel))
set_option maxRecDepth 20000 in
theorem gL_law_L_why : GoodIn wsL_law (va_wsS RL 146 yL_why wsL_why) := goodIn_app (goodIn_of _ (by decide +kernel)) ggL_law_L_why
set_option maxRecDepth 20000 in
theorem ggL_law_X6_why : GoodIn wsL_law wsX6_why := goodIn_r _ [639, 177, 178, 5, 179, 180, 181, 182, 183, 221, 222, 223, 224, 87, 184, 185, 186, 187, 188, 294, 295, 296, 297, 90, 298, 299, 300, 301, 302, 303, 304, 305, 306, 307, 308, 309, 310, 311, 312, 313, 314, 315, 316, 317, 640, 641, 642, 643, 983, 984, 985, 986, 987, 988, 989, 990, 991, 992, 993, 994, 995] (by decide +kernel) (by decide +kernel)
set_option maxRecDepth 20000 in
theorem gL_law_X6_why : GoodIn wsL_law (wsV RL 148 RX6 yX6_why wsX6_why) := goodIn_app (goodIn_of _ (by decide +kernel)) ggL_law_X6_why
set_option maxRecDepth 20000 in
theorem ggL_law_L_value : GoodIn wsL_law wsL_value := goodIn_ca (goodIn_r _ [646, 99, 647, 648, 649, 2, 650, 16, 122, 123, 124, 125, 126, 116, 117, 118, 651, 652, 653, 15, 654, 38, 39, 144, 145, 146, 147, 40, 160, 161, 162, 36, 163, 54, 344, 345, 346, 347, 348, 349, 350, 351, 41, 164, 165, 166, 167, 47, 49, 352, 353, 354, 355, 356, 357, 358, 655, 656, 657, 658, 168, 169, 170, 171, 978, 979, 980, 981, 982, 996, 997, 998, 999, 1000, 1001, 1002, 1003, 1004, 1012, 1013, 1014, 1015] (by decide +kernel) (by decide +kernel)) (goodIn_sub (fun _ h => List.mem_append_left _ (List.mem_append_right _ h)) (by decide +kernel))
set_option maxRecDepth 20000 in
theorem gL_law_L_value : GoodIn wsL_law (va_wsS RL 149 yL_value wsL_value) := goodIn_app (goodIn_of _ (by decide +kernel)) ggL_law_L_value
set_option maxRecDepth 20000 in
theorem ggL_law_X6_value : GoodIn wsL_law wsX6_value := goodIn_r _ [662, 663, 181, 182, 5, 183, 184, 185, 186, 187, 188, 664, 665, 666, 667, 87, 375, 376, 377, 378, 294, 295, 296, 297, 90, 298, 299, 300, 301, 302, 303, 304, 305, 306, 307, 308, 309, 310, 311, 312, 313, 314, 315, 316, 317, 379, 380, 381, 382, 383, 384, 385, 668, 669, 670, 671, 983, 984, 985, 986, 987, 988, 989, 990, 991, 992, 993, 994, 995] (by decide +kernel) (by decide +kernel)
set_option maxRecDepth 20000 in
theorem gL_law_X6_value : GoodIn wsL_law (wsV RL 151 RX6 yX6_value wsX6_value) := goodIn_app (goodIn_of _ (by decide +kernel)) ggL_law_X6_value
set_option maxRecDepth 20000 in
theorem ggL_law_L_entry : GoodIn wsL_law wsL_entry := goodIn_ca (goodIn_ca (goodIn_r _ [674, 98, 99, 675, 676, 677, 2, 678, 111, 112, 16, 679, 680, 161, 162, 36, 163, 54, 122, 123, 124, 125, 126, 116, 117, 118, 681, 682, 683, 15, 684, 40, 160, 164, 165, 166, 167, 47, 49, 978, 979, 980, 981, 982, 996, 997, 998, 999, 1000, 1001, 1002, 1003, 1004, 1012, 1013, 1014, 1015] (by decide +kernel) (by decide +kernel)) (goodIn_sub (fun _ h => List.mem_append_left _ (List.mem_append_left _ (List.mem_append_right _ h))) (by decide +kernel))) (goodIn_sub (fun _ h => List.mem_append_left _ (List.mem_append_right _ h)) (by decide +kernel))
set_option maxRecDepth 20000 in
theorem gL_law_L_entry : GoodIn wsL_law (va_wsS RL 152 yL_entry wsL_entry) := goodIn_app (goodIn_of _ (by decide +kernel)) ggL_law_L_entry
set_option maxRecDepth 20000 in
theorem ggL_law_X6_entry : GoodIn wsL_law wsX6_entry := goodIn_r _ [688, 87, 689, 181, 182, 5, 183, 184, 185, 186, 187, 188, 983, 984, 985, 986, 987, 988, 989, 990, 991, 992, 993, 994, 995] (by decide +kernel) (by decide +kernel)
set_option maxRecDepth 20000 in
theorem gL_law_X6_entry : GoodIn wsL_law (wsV RL 154 RX6 yX6_entry wsX6_entry) := goodIn_app (goodIn_of _ (by decide +kernel)) ggL_law_X6_entry
set_option maxRecDepth 20000 in
theorem ggL_law_L_lostBy : GoodIn wsL_law wsL_lostBy := goodIn_ca (goodIn_r _ [692, 98, 693, 694, 695, 2, 696, 108, 109, 110, 111, 112, 113, 114, 115, 116, 117, 118, 697, 698, 699, 700, 17, 16, 701, 141, 142, 15, 143, 37, 38, 39, 40, 41, 144, 145, 146, 147, 148, 149, 150, 36, 151, 54, 46, 47, 49, 397, 398, 399, 400, 401, 402, 403, 404, 405, 406, 407, 164, 165, 166, 167, 55, 56, 57, 58, 408, 409, 410, 411, 160, 161, 162, 163, 412, 413, 414, 415, 416, 417, 418, 419, 271, 128, 129, 130, 359, 360, 361, 362, 50, 51, 52, 53, 156, 157, 158, 159, 168, 169, 170, 171, 702, 345, 346, 347, 348, 349, 350, 351, 352, 353, 354, 355, 356, 357, 358, 978, 979, 980, 981, 982, 996, 997, 998, 999, 1000, 1001, 1002, 1003, 1004, 1012, 1013, 1014, 1015] (by decide +kernel) (by decide +kernel)) (goodIn_sub (fun _ h => List.mem_append_left _ (List.mem_append_left _ (List.mem_append_right _ h))) (by decide +kernel))
set_option maxRecDepth 20000 in
theorem gL_law_L_lostBy : GoodIn wsL_law (va_wsS RL 155 yL_lostBy wsL_lostBy) := goodIn_app (goodIn_of _ (by decide +kernel)) ggL_law_L_lostBy
set_option maxRecDepth 20000 in
theorem ggL_law_X6_lostBy : GoodIn wsL_law wsX6_lostBy := goodIn_r _ [706, 177, 178, 5, 179, 180, 181, 182, 183, 184, 185, 186, 187, 188, 707, 708, 709, 710, 87, 375, 376, 377, 378, 294, 295, 296, 297, 90, 298, 299, 300, 301, 302, 303, 304, 305, 306, 307, 308, 309, 310, 311, 312, 313, 314, 315, 316, 317, 379, 380, 381, 382, 383, 384, 385, 711, 712, 713, 714, 89, 429, 430, 431, 432, 433, 434, 435, 436, 386, 387, 388, 389, 715, 716, 717, 718, 983, 984, 985, 986, 987, 988, 989, 990, 991, 992, 993, 994, 995] (by decide +kernel) (by decide +kernel)
set_option maxRecDepth 20000 in
theorem gL_law_X6_lostBy : GoodIn wsL_law (wsV RL 157 RX6 yX6_lostBy wsX6_lostBy) := goodIn_app (goodIn_of _ (by decide +kernel)) ggL_law_X6_lostBy
set_option maxRecDepth 20000 in
theorem ggL_law_X5_mostNeeded : GoodIn wsL_law wsX5_mostNeeded := goodIn_r _ [722, 697, 698, 699, 2, 700, 17, 16, 701, 141, 142, 15, 143, 37, 38, 39, 40, 41, 144, 145, 146, 147, 148, 149, 150, 36, 151, 54, 46, 47, 49, 397, 398, 399, 400, 401, 402, 403, 404, 405, 406, 407, 164, 165, 166, 167, 55, 56, 57, 58, 408, 409, 410, 411, 160, 161, 162, 163, 412, 413, 414, 415, 416, 417, 418, 419, 271, 128, 129, 130, 359, 360, 361, 362, 50, 51, 52, 53, 156, 157, 158, 159, 168, 169, 170, 171, 702, 345, 346, 347, 348, 349, 350, 351, 352, 353, 354, 355, 356, 357, 358, 978, 979, 980, 981, 982, 996, 997, 998, 999, 1000, 1001, 1002, 1003, 1004, 1012, 1013, 1014, 1015] (by decide +kernel) (by decide +kernel)
set_option maxRecDepth 20000 in
theorem gL_law_X5_mostNeeded : GoodIn wsL_law (wsV RL 158 RX5 yX5_mostNeeded wsX5_mostNeeded) := goodIn_app (goodIn_of _ (by decide +kernel)) ggL_law_X5_mostNeeded
set_option maxRecDepth 20000 in
theorem ggL_law_X6_mostNeeded : GoodIn wsL_law wsX6_mostNeeded := goodIn_r _ [726, 188, 707, 708, 709, 5, 710, 87, 375, 376, 377, 378, 294, 295, 296, 297, 90, 298, 299, 300, 301, 302, 303, 304, 305, 306, 307, 308, 309, 310, 311, 312, 313, 314, 315, 316, 317, 379, 380, 381, 382, 383, 384, 385, 711, 712, 713, 714, 89, 429, 430, 431, 432, 433, 434, 435, 436, 386, 387, 388, 389, 715, 716, 717, 718, 983, 984, 985, 986, 987, 988, 989, 990, 991, 992, 993, 994, 995] (by decide +kernel) (by decide +kernel)
set_option maxRecDepth 20000 in
theorem gL_law_X6_mostNeeded : GoodIn wsL_law (wsV RL 161 RX6 yX6_mostNeeded wsX6_mostNeeded) := goodIn_app (goodIn_of _ (by decide +kernel)) ggL_law_X6_mostNeeded
set_option maxRecDepth 20000 in
theorem ggL_law_L_seenIn : GoodIn wsL_law wsL_seenIn := goodIn_ca (goodIn_r _ [729, 99, 730, 731, 732, 2, 733, 17, 16, 122, 123, 124, 125, 126, 116, 117, 118, 701, 141, 142, 15, 143, 37, 38, 39, 40, 41, 144, 145, 146, 147, 148, 149, 150, 36, 151, 54, 46, 47, 49, 449, 450, 451, 452, 453, 454, 455, 456, 164, 165, 166, 167, 55, 56, 57, 58, 408, 409, 410, 411, 160, 161, 162, 163, 412, 413, 414, 415, 416, 417, 418, 419, 271, 128, 129, 130, 359, 360, 361, 362, 50, 51, 52, 53, 156, 157, 158, 159, 168, 169, 170, 171, 702, 345, 346, 347, 348, 349, 350, 351, 352, 353, 354, 355, 356, 357, 358, 978, 979, 980, 981, 982, 996, 997, 998, 999, 1000, 1001, 1002, 1003, 1004, 1012, 1013, 1014, 1015] (by decide +kernel) (by decide +kernel)) (goodIn_sub (fun _ h => List.mem_append_left _ (List.mem_append_right _ h)) (by decide +kernel))
set_option maxRecDepth 20000 in
theorem gL_law_L_seenIn : GoodIn wsL_law (va_wsS RL 162 yL_seenIn wsL_seenIn) := goodIn_app (goodIn_of _ (by decide +kernel)) ggL_law_L_seenIn
set_option maxRecDepth 20000 in
theorem ggL_law_X6_seenIn : GoodIn wsL_law wsX6_seenIn := goodIn_r _ [737, 243, 181, 182, 5, 183, 184, 185, 186, 187, 188, 711, 712, 713, 714, 89, 87, 466, 467, 468, 469, 470, 471, 472, 473, 429, 430, 431, 432, 302, 303, 304, 305, 433, 434, 435, 436, 386, 387, 388, 389, 375, 376, 377, 378, 294, 295, 296, 297, 90, 298, 299, 300, 301, 306, 307, 308, 309, 310, 311, 312, 313, 314, 315, 316, 317, 379, 380, 381, 382, 383, 384, 385, 715, 716, 717, 718, 983, 984, 985, 986, 987, 988, 989, 990, 991, 992, 993, 994, 995] (by decide +kernel) (by decide +kernel)
set_option maxRecDepth 20000 in
theorem gL_law_X6_seenIn : GoodIn wsL_law (wsV RL 164 RX6 yX6_seenIn wsX6_seenIn) := goodIn_app (goodIn_of _ (by decide +kernel)) ggL_law_X6_seenIn
set_option maxRecDepth 20000 in
theorem ggL_law_L_gainBy : GoodIn wsL_law wsL_gainBy := goodIn_ca (goodIn_ca (goodIn_r _ [740, 98, 99, 741, 742, 743, 2, 744, 16, 17, 262, 263, 264, 15, 265, 38, 37, 39, 114, 115, 116, 117, 118, 266, 210, 211, 36, 212, 54, 267, 268, 269, 270, 41, 164, 165, 166, 167, 47, 49, 271, 128, 129, 130, 46, 272, 273, 274, 111, 112, 125, 126, 701, 141, 142, 143, 40, 144, 145, 146, 147, 148, 149, 150, 151, 275, 276, 277, 278, 50, 51, 52, 53, 55, 56, 57, 58, 156, 157, 158, 159, 160, 161, 162, 163, 168, 169, 170, 171, 702, 345, 346, 347, 348, 349, 350, 351, 352, 353, 354, 355, 356, 357, 358, 978, 979, 980, 981, 982, 996, 997, 998, 999, 1000, 1001, 1002, 1003, 1004, 1012, 1013, 1014, 1015] (by decide +kernel) (by decide +kernel)) (goodIn_sub (fun _ h => List.mem_append_left _ (List.mem_append_left _ (List.mem_append_right _ h))) (by decide +kernel))) (goodIn_sub (fun _ h => List.mem_append_left _ (List.mem_append_right _ h)) (by decide +kernel))
set_option maxRecDepth 20000 in
theorem gL_law_L_gainBy : GoodIn wsL_law (va_wsS RL 165 yL_gainBy wsL_gainBy) := goodIn_app (goodIn_of _ (by decide +kernel)) ggL_law_L_gainBy
set_option maxRecDepth 20000 in
theorem ggL_law_X6_gainBy : GoodIn wsL_law wsX6_gainBy := goodIn_r _ [748, 283, 284, 285, 5, 286, 177, 178, 179, 180, 181, 182, 183, 221, 222, 223, 224, 87, 287, 288, 289, 176, 243, 184, 185, 186, 187, 188, 290, 291, 292, 293, 294, 295, 296, 297, 90, 298, 299, 300, 301, 302, 303, 304, 305, 306, 307, 308, 309, 310, 311, 312, 313, 314, 315, 316, 317, 375, 376, 377, 378, 379, 380, 381, 382, 383, 384, 385, 711, 712, 713, 714, 89, 318, 319, 320, 321, 715, 716, 717, 718, 983, 984, 985, 986, 987, 988, 989, 990, 991, 992, 993, 994, 995] (by decide +kernel) (by decide +kernel)
set_option maxRecDepth 20000 in
theorem gL_law_X6_gainBy : GoodIn wsL_law (wsV RL 167 RX6 yX6_gainBy wsX6_gainBy) := goodIn_app (goodIn_of _ (by decide +kernel)) ggL_law_X6_gainBy
set_option maxRecDepth 20000 in
theorem ggL_law_L_patience : GoodIn wsL_law wsL_patience := goodIn_ca (goodIn_r _ [751, 98, 752, 753, 754, 2, 755, 16, 236, 108, 109, 110, 111, 112, 113, 114, 115, 116, 117, 118, 237, 165, 166, 36, 167, 54, 47, 49, 756, 757, 758, 15, 759, 39, 405, 406, 403, 407, 160, 161, 162, 163, 164, 978, 979, 980, 981, 982, 996, 997, 998, 999, 1000, 1001, 1002, 1003, 1004, 1012, 1013, 1014, 1015] (by decide +kernel) (by decide +kernel)) (goodIn_sub (fun _ h => List.mem_append_left _ (List.mem_append_left _ (List.mem_append_right _ h))) (by decide +kernel))
set_option maxRecDepth 20000 in
theorem gL_law_L_patience : GoodIn wsL_law (va_wsS RL 168 yL_patience wsL_patience) := goodIn_app (goodIn_of _ (by decide +kernel)) ggL_law_L_patience
set_option maxRecDepth 20000 in
theorem ggL_law_X6_patience : GoodIn wsL_law wsX6_patience := goodIn_r _ [763, 87, 177, 178, 5, 179, 180, 181, 182, 183, 184, 185, 186, 187, 188, 302, 303, 304, 305, 983, 984, 985, 986, 987, 988, 989, 990, 991, 992, 993, 994, 995] (by decide +kernel) (by decide +kernel)
set_option maxRecDepth 20000 in
theorem gL_law_X6_patience : GoodIn wsL_law (wsV RL 170 RX6 yX6_patience wsX6_patience) := goodIn_app (goodIn_of _ (by decide +kernel)) ggL_law_X6_patience
set_option maxRecDepth 20000 in
theorem ggL_law_X5_meanChain : GoodIn wsL_law wsX5_meanChain := goodIn_r _ [767, 16, 107, 25, 680, 161, 162, 36, 163, 54, 563, 564, 565, 24, 566, 71, 567, 568, 569, 165, 166, 167, 47, 49, 570, 56, 57, 58, 571, 572, 573, 574, 575, 576, 577, 578, 579, 580, 169, 170, 15, 171, 39, 41, 38, 164, 581, 978, 979, 980, 981, 982, 996, 997, 998, 999, 1000, 1001, 1002, 1003, 1004, 1012, 1013, 1014, 1015, 1007] (by decide +kernel) (by decide +kernel)
set_option maxRecDepth 20000 in
theorem gL_law_X5_meanChain : GoodIn wsL_law (wsV RL 171 RX5 yX5_meanChain wsX5_meanChain) := goodIn_app (goodIn_of _ (by decide +kernel)) ggL_law_X5_meanChain
set_option maxRecDepth 20000 in
theorem ggL_law_X6_meanChain : GoodIn wsL_law wsX6_meanChain := goodIn_r _ [771, 188, 87, 91, 294, 295, 296, 5, 297, 90, 298, 299, 300, 301, 302, 303, 304, 305, 306, 307, 308, 309, 310, 311, 312, 313, 314, 315, 316, 317, 590, 591, 592, 593, 594, 595, 596, 597, 983, 984, 985, 986, 987, 988, 989, 990, 991, 992, 993, 994, 995] (by decide +kernel) (by decide +kernel)
set_option maxRecDepth 20000 in
theorem gL_law_X6_meanChain : GoodIn wsL_law (wsV RL 175 RX6 yX6_meanChain wsX6_meanChain) := goodIn_app (goodIn_of _ (by decide +kernel)) ggL_law_X6_meanChain
set_option maxRecDepth 20000 in
theorem ggL_law_L_append : GoodIn wsL_law wsL_append := goodIn_ca (goodIn_ca (goodIn_r _ [774, 99, 100, 775, 776, 777, 2, 778, 105, 106, 29, 122, 123, 124, 125, 126, 116, 117, 118, 779, 780, 781, 28, 782, 79, 783, 128, 129, 36, 130, 54, 46, 784, 785, 786, 787, 788, 51, 52, 53, 789, 56, 57, 58, 47, 49, 790, 791, 792, 793, 794, 161, 162, 163, 978, 979, 980, 981, 982, 1008, 1009, 1010, 1011, 1012, 1013, 1014, 1015] (by decide +kernel) (by decide +kernel)) (goodIn_sub (fun _ h => List.mem_append_left _ (List.mem_append_left _ (List.mem_append_left _ (List.mem_append_right _ h)))) (by decide +kernel))) (goodIn_sub (fun _ h => List.mem_append_left _ (List.mem_append_right _ h)) (by decide +kernel))
set_option maxRecDepth 20000 in
theorem gL_law_L_append : GoodIn wsL_law (va_wsS RL 176 yL_append wsL_append) := goodIn_app (goodIn_of _ (by decide +kernel)) ggL_law_L_append
set_option maxRecDepth 20000 in
theorem ggL_law_X6_append : GoodIn wsL_law wsX6_append := goodIn_r _ [798, 799, 800, 92, 181, 182, 5, 183, 184, 185, 186, 187, 188, 983, 984, 985, 986, 987, 988, 989, 990, 991, 992, 993, 994, 995] (by decide +kernel) (by decide +kernel)
set_option maxRecDepth 20000 in
theorem gL_law_X6_append : GoodIn wsL_law (wsV RL 178 RX6 yX6_append wsX6_append) := goodIn_app (goodIn_of _ (by decide +kernel)) ggL_law_X6_append
set_option maxRecDepth 20000 in
theorem ggL_law_X5_clearText : GoodIn wsL_law wsX5_clearText := goodIn_r _ [804, 29, 790, 791, 792, 28, 793, 79, 794, 161, 162, 36, 163, 54, 805, 806, 807, 808, 809, 810, 811, 812, 978, 979, 980, 981, 982, 1008, 1009, 1010, 1011, 1012, 1013, 1014, 1015] (by decide +kernel) (by decide +kernel)
set_option maxRecDepth 20000 in
theorem gL_law_X5_clearText : GoodIn wsL_law (wsV RL 179 RX5 yX5_clearText wsX5_clearText) := goodIn_app (goodIn_of _ (by decide +kernel)) ggL_law_X5_clearText
set_option maxRecDepth 20000 in
theorem ggL_law_X6_clearText : GoodIn wsL_law wsX6_clearText := goodIn_r _ [816, 188, 800, 983, 984, 985, 986, 987, 988, 989, 990, 991, 992, 993, 994, 995] (by decide +kernel) (by decide +kernel)
set_option maxRecDepth 20000 in
theorem gL_law_X6_clearText : GoodIn wsL_law (wsV RL 182 RX6 yX6_clearText wsX6_clearText) := goodIn_app (goodIn_of _ (by decide +kernel)) ggL_law_X6_clearText
set_option maxRecDepth 20000 in
theorem ggL_law_X5_carryOut : GoodIn wsL_law wsX5_carryOut := goodIn_r _ [820, 29, 21, 16, 821, 822, 823, 824, 28, 825, 826, 81, 80, 809, 810, 811, 36, 812, 54, 827, 791, 792, 793, 79, 794, 161, 162, 163, 788, 51, 52, 53, 46, 828, 829, 830, 831, 832, 833, 834, 835, 836, 210, 211, 212, 837, 165, 166, 167, 47, 49, 789, 56, 57, 58, 838, 839, 840, 841, 842, 843, 844, 845, 117, 2, 118, 846, 847, 848, 849, 850, 851, 852, 853, 854, 855, 856, 857, 858, 859, 860, 861, 862, 863, 864, 131, 132, 133, 20, 134, 135, 64, 136, 137, 138, 139, 140, 141, 142, 15, 143, 37, 38, 39, 40, 41, 144, 145, 146, 147, 148, 149, 150, 151, 680, 865, 866, 867, 868, 237, 869, 870, 871, 872, 262, 263, 264, 265, 114, 115, 116, 266, 267, 268, 269, 270, 164, 271, 128, 129, 130, 275, 276, 277, 278, 50, 55, 156, 157, 158, 159, 160, 168, 169, 170, 171, 873, 874, 875, 876, 336, 337, 338, 339, 340, 341, 342, 343, 344, 345, 346, 347, 348, 349, 350, 351, 352, 353, 354, 355, 356, 357, 358, 359, 360, 361, 362, 397, 398, 399, 400, 401, 402, 403, 404, 405, 406, 407, 408, 409, 410, 411, 412, 413, 414, 415, 416, 417, 418, 419, 877, 878, 879, 880, 444, 445, 446, 447, 448, 449, 450, 451, 452, 453, 454, 455, 456, 978, 979, 980, 981, 982, 1008, 1009, 1010, 1011, 1012, 1013, 1014, 1015, 1005, 1006, 996, 997, 998, 999, 1000, 1001, 1002, 1003, 1004] (by decide +kernel) (by decide +kernel)
set_option maxRecDepth 20000 in
theorem gL_law_X5_carryOut : GoodIn wsL_law (wsV RL 183 RX5 yX5_carryOut wsX5_carryOut) := goodIn_app (goodIn_of _ (by decide +kernel)) ggL_law_X5_carryOut
set_option maxRecDepth 20000 in
theorem ggL_law_X6_carryOut : GoodIn wsL_law wsX6_carryOut := goodIn_r _ [884, 188, 885, 800, 886, 887, 888, 5, 889, 890, 891, 892, 893, 894, 92, 895, 896, 897, 898, 899, 900, 901, 902, 93, 181, 182, 183, 903, 904, 905, 906, 907, 908, 909, 910, 911, 912, 913, 914, 915, 916, 189, 190, 191, 192, 193, 88, 87, 917, 918, 919, 920, 921, 922, 923, 924, 283, 284, 285, 286, 177, 178, 179, 180, 221, 222, 223, 224, 290, 291, 292, 293, 294, 295, 296, 297, 90, 298, 299, 300, 301, 302, 303, 304, 305, 306, 307, 308, 309, 310, 311, 312, 313, 314, 315, 316, 317, 318, 319, 320, 321, 367, 368, 369, 370, 371, 372, 373, 374, 375, 376, 377, 378, 379, 380, 381, 382, 383, 384, 385, 386, 387, 388, 389, 425, 426, 427, 428, 429, 430, 431, 432, 433, 434, 435, 436, 461, 462, 463, 464, 465, 466, 467, 468, 469, 470, 471, 472, 473, 983, 984, 985, 986, 987, 988, 989, 990, 991, 992, 993, 994, 995] (by decide +kernel) (by decide +kernel)
set_option maxRecDepth 20000 in
theorem gL_law_X6_carryOut : GoodIn wsL_law (wsV RL 186 RX6 yX6_carryOut wsX6_carryOut) := goodIn_app (goodIn_of _ (by decide +kernel)) ggL_law_X6_carryOut
set_option maxRecDepth 20000 in
theorem ggL_law_L_undo : GoodIn wsL_law wsL_undo := goodIn_ca (goodIn_r _ [927, 100, 928, 929, 930, 2, 931, 105, 106, 21, 16, 932, 933, 934, 20, 935, 135, 936, 937, 938, 939, 64, 140, 141, 142, 15, 143, 37, 38, 39, 40, 41, 144, 145, 146, 147, 148, 149, 150, 36, 151, 54, 46, 47, 49, 978, 979, 980, 981, 982, 1005, 1006, 996, 997, 998, 999, 1000, 1001, 1002, 1003, 1004, 1012, 1013, 1014, 1015] (by decide +kernel) (by decide +kernel)) (goodIn_sub (fun _ h => List.mem_append_left _ (List.mem_append_left _ (List.mem_append_left _ (List.mem_append_right _ h)))) (by decide +kernel))
set_option maxRecDepth 20000 in
theorem gL_law_L_undo : GoodIn wsL_law (va_wsS RL 187 yL_undo wsL_undo) := goodIn_app (goodIn_of _ (by decide +kernel)) ggL_law_L_undo
set_option maxRecDepth 20000 in
theorem ggL_law_X6_undo : GoodIn wsL_law wsX6_undo := goodIn_r _ [943, 193, 87, 88, 184, 185, 186, 5, 187, 188, 983, 984, 985, 986, 987, 988, 989, 990, 991, 992, 993, 994, 995] (by decide +kernel) (by decide +kernel)
set_option maxRecDepth 20000 in
theorem gL_law_X6_undo : GoodIn wsL_law (wsV RL 190 RX6 yX6_undo wsX6_undo) := goodIn_app (goodIn_of _ (by decide +kernel)) ggL_law_X6_undo
set_option maxRecDepth 20000 in
theorem ggL_law_X5_digest : GoodIn wsL_law wsX5_digest := goodIn_r _ [947, 948, 29, 949, 16, 21, 790, 791, 792, 28, 793, 79, 794, 161, 162, 36, 163, 54, 651, 652, 653, 15, 654, 38, 39, 144, 145, 146, 147, 40, 160, 344, 345, 346, 347, 348, 349, 350, 351, 41, 164, 165, 166, 167, 47, 49, 352, 353, 354, 355, 356, 357, 358, 655, 656, 657, 658, 168, 169, 170, 171, 950, 951, 952, 2, 953, 493, 494, 495, 496, 37, 497, 498, 499, 500, 501, 502, 503, 954, 955, 956, 957, 107, 680, 524, 525, 526, 527, 958, 959, 960, 961, 962, 237, 544, 545, 546, 547, 963, 964, 965, 966, 679, 681, 682, 683, 684, 932, 933, 934, 20, 935, 135, 978, 979, 980, 981, 982, 1008, 1009, 1010, 1011, 1012, 1013, 1014, 1015, 996, 997, 998, 999, 1000, 1001, 1002, 1003, 1004, 1005, 1006] (by decide +kernel) (by decide +kernel)
set_option maxRecDepth 20000 in
theorem gL_law_X5_digest : GoodIn wsL_law (wsV RL 191 RX5 yX5_digest wsX5_digest) := goodIn_app (goodIn_of _ (by decide +kernel)) ggL_law_X5_digest
set_option maxRecDepth 20000 in
theorem ggL_law_X6_digest : GoodIn wsL_law wsX6_digest := goodIn_r _ [970, 188, 971, 972, 800, 87, 193, 973, 974, 975, 5, 976, 977, 664, 665, 666, 667, 375, 376, 377, 378, 294, 295, 296, 297, 90, 298, 299, 300, 301, 302, 303, 304, 305, 306, 307, 308, 309, 310, 311, 312, 313, 314, 315, 316, 317, 379, 380, 381, 382, 383, 384, 385, 668, 669, 670, 671, 509, 510, 511, 512, 513, 514, 515, 516, 533, 534, 535, 536, 552, 553, 554, 555, 983, 984, 985, 986, 987, 988, 989, 990, 991, 992, 993, 994, 995] (by decide +kernel) (by decide +kernel)
set_option maxRecDepth 20000 in
theorem gL_law_X6_digest : GoodIn wsL_law (wsV RL 195 RX6 yX6_digest wsX6_digest) := goodIn_app (goodIn_of _ (by decide +kernel)) ggL_law_X6_digest
