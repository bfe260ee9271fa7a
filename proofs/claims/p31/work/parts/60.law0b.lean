theorem goodIn_c {big a : List Cond} {c : Cond} (hc : GoodIn big [c]) (ha : GoodIn big a) : GoodIn big (c :: a) := fun w h => (List.mem_cons.mp h).elim (fun e => hc w (by rw [e]; exact List.mem_cons_self)) (ha w)
theorem kk_isStep_0 : GoodIn wsL_law [Cond.code yL_isStep cL_isStep 14 (some .boolean)] := goodIn_r _ [161] (by decide +kernel) (by decide +kernel)
set_option maxRecDepth 20000 in
theorem kk_isStep_1 : GoodIn wsL_law wsL_isStep_r1 := goodIn_r _ [84, 85, 81, 86, 87, 162, 163, 164, 2, 165, 17, 12, 95, 96, 97, 98, 99, 100, 101, 102, 103, 104, 105, 109] (by decide +kernel) (by decide +kernel)
set_option maxRecDepth 20000 in
theorem kk_isStep_2 : GoodIn wsL_law wsL_isStep_r2 := goodIn_r _ [110, 111, 112, 113, 118, 119, 120, 16, 121, 122, 60, 123, 124, 125, 126, 127, 128, 129, 11, 130, 33, 34, 35, 36] (by decide +kernel) (by decide +kernel)
set_option maxRecDepth 20000 in
theorem kk_isStep_3 : GoodIn wsL_law wsL_isStep_r3 := goodIn_r _ [37, 131, 132, 133, 134, 135, 136, 137, 32, 138, 50, 42, 43, 45, 166, 167, 168, 169, 170, 171, 172, 173, 174, 175] (by decide +kernel) (by decide +kernel)
set_option maxRecDepth 20000 in
theorem kk_isStep_4 : GoodIn wsL_law wsL_isStep_r4 := goodIn_r _ [176, 151, 152, 153, 154, 51, 52, 53, 54, 177, 178, 179, 180, 147, 148, 149, 150, 181, 182, 183, 184, 185, 186, 187] (by decide +kernel) (by decide +kernel)
set_option maxRecDepth 20000 in
theorem kk_isStep_5 : GoodIn wsL_law wsL_isStep_r5 := goodIn_r _ [188, 189, 115, 116, 117, 190, 191, 192, 193, 46, 47, 48, 49, 143, 144, 145, 146, 155, 156, 157, 158, 194, 195, 196] (by decide +kernel) (by decide +kernel)
set_option maxRecDepth 20000 in
theorem kk_isStep_6 : GoodIn wsL_law wsL_isStep_r6 := goodIn_r _ [197, 198, 199, 200, 201, 202, 203, 204, 205, 206, 207, 208, 94, 209, 210, 211, 212, 106, 107, 108, 213, 214, 215, 216] (by decide +kernel) (by decide +kernel)
set_option maxRecDepth 20000 in
theorem kk_isStep_7 : GoodIn wsL_law wsL_isStep_r7 := goodIn_r _ [217, 218, 219, 220, 221, 222, 223, 224, 92, 93, 225, 226, 227, 228, 229, 230, 231, 232, 233, 234, 235, 236, 237, 238] (by decide +kernel) (by decide +kernel)
set_option maxRecDepth 20000 in
theorem kk_isStep_8 : GoodIn wsL_law wsL_isStep_r8 := goodIn_r _ [239, 240, 241, 242, 243, 244, 245, 246, 247, 248, 249, 250, 251, 252, 253, 254, 255, 256, 13, 257, 258, 259, 260, 261] (by decide +kernel) (by decide +kernel)
set_option maxRecDepth 20000 in
theorem kk_isStep_9 : GoodIn wsL_law wsL_isStep_r9 := goodIn_r _ [262, 263, 264, 265, 266, 267, 268, 269, 270, 271, 272, 273, 274, 275, 276, 277, 278, 279, 280, 281, 282, 283, 284, 285] (by decide +kernel) (by decide +kernel)
set_option maxRecDepth 20000 in
theorem kk_isStep_10 : GoodIn wsL_law wsL_isStep_r10 := goodIn_r _ [286, 287, 288, 289, 290, 291, 292, 293, 294, 295, 296, 297, 298, 299, 300, 301, 302, 303, 304, 305, 306, 307, 308, 309] (by decide +kernel) (by decide +kernel)
set_option maxRecDepth 20000 in
theorem kk_isStep_11 : GoodIn wsL_law wsL_isStep_r11 := goodIn_r _ [310, 311, 312, 313, 314, 315, 316, 317, 318, 319] (by decide +kernel) (by decide +kernel)
theorem ggL_law_L_isStep : GoodIn wsL_law wsL_isStep := goodIn_ca (goodIn_ca (goodIn_ca (goodIn_ca (goodIn_ca (goodIn_ca (goodIn_ca (goodIn_ca (goodIn_c kk_isStep_0 (goodIn_app kk_isStep_1 (goodIn_app kk_isStep_2 (goodIn_app kk_isStep_3 (goodIn_app kk_isStep_4 (goodIn_app kk_isStep_5 (goodIn_app kk_isStep_6 (goodIn_app kk_isStep_7 (goodIn_app kk_isStep_8 (goodIn_app kk_isStep_9 (goodIn_app kk_isStep_10 (kk_isStep_11)))))))))))) (goodIn_sub inlX5 (by decide +kernel))) (goodIn_sub inlX1 (by decide +kernel))) (goodIn_sub inlX2 (by decide +kernel))) (goodIn_sub inlX3 (by decide +kernel))) (goodIn_sub (fun _ h => List.mem_append_left _ (List.mem_append_left _ (List.mem_append_right _ h))) (by decide +kernel))) (goodIn_sub (fun _ h => List.mem_append_left _ (List.mem_append_right _ h)) (by decide +kernel))) (goodIn_sub (fun _ h => List.mem_append_left _ (List.mem_append_left _ (List.mem_append_left _ (List.mem_append_right _ h)))) (by decide +kernel))) (goodIn_sub (fun _ h => List.mem_append_right _ h) (by decide +kernel))
set_option maxRecDepth 20000 in
theorem gL_law_L_isStep : GoodIn wsL_law (va_wsS RL 86 yL_isStep wsL_isStep) := goodIn_app (goodIn_of _ (by decide +kernel)) ggL_law_L_isStep
theorem kk_areAlike_0 : GoodIn wsL_law [Cond.code yL_areAlike cL_areAlike 6 (some .boolean)] := goodIn_r _ [322] (by decide +kernel) (by decide +kernel)
set_option maxRecDepth 20000 in
theorem kk_areAlike_1 : GoodIn wsL_law wsL_areAlike_r1 := goodIn_r _ [323, 324, 325, 2, 326, 12, 94, 21, 327, 148, 149, 32, 150, 50, 328, 329, 330, 20, 331, 67, 332, 333, 334, 152] (by decide +kernel) (by decide +kernel)
set_option maxRecDepth 20000 in
theorem kk_areAlike_2 : GoodIn wsL_law wsL_areAlike_r2 := goodIn_r _ [153, 154, 43, 45, 335, 52, 53, 54, 336, 337, 338, 339, 340, 341, 342, 343, 344, 345, 156, 157, 11, 158, 35, 37] (by decide +kernel) (by decide +kernel)
set_option maxRecDepth 20000 in
theorem kk_areAlike_3 : GoodIn wsL_law wsL_areAlike_r3 := goodIn_r _ [34, 151, 346, 347, 348, 349, 350, 13, 109, 110, 111, 112, 113, 103, 104, 105, 269, 128, 129, 130, 33, 36, 131, 132] (by decide +kernel) (by decide +kernel)
set_option maxRecDepth 20000 in
theorem kk_areAlike_4 : GoodIn wsL_law wsL_areAlike_r4 := goodIn_r _ [133, 134, 135, 136, 137, 138, 42, 230, 231, 232, 233, 234, 235, 236, 237, 51, 177, 178, 179, 180, 147, 181, 182, 183] (by decide +kernel) (by decide +kernel)
set_option maxRecDepth 20000 in
theorem kk_areAlike_5 : GoodIn wsL_law wsL_areAlike_r5 := goodIn_r _ [184, 185, 186, 187, 188, 189, 115, 116, 117, 190, 191, 192, 193, 46, 47, 48, 49, 143, 144, 145, 146, 155, 274, 275] (by decide +kernel) (by decide +kernel)
set_option maxRecDepth 20000 in
theorem kk_areAlike_6 : GoodIn wsL_law wsL_areAlike_r6 := goodIn_r _ [276, 277, 249, 250, 251, 252, 278, 279, 280, 281, 282, 283, 284, 285, 286, 287, 288, 289, 290, 291, 292, 293, 294, 295] (by decide +kernel) (by decide +kernel)
set_option maxRecDepth 20000 in
theorem kk_areAlike_7 : GoodIn wsL_law wsL_areAlike_r7 := goodIn_r _ [296, 297, 351, 352, 353, 354, 95, 96, 97, 98, 99, 100, 101, 102, 355, 356, 357, 358, 246, 247, 248, 359, 360, 361] (by decide +kernel) (by decide +kernel)
set_option maxRecDepth 20000 in
theorem kk_areAlike_8 : GoodIn wsL_law wsL_areAlike_r8 := goodIn_r _ [362, 363, 364, 365, 366, 198, 199, 367, 368, 369, 370, 174, 175, 172, 176, 371, 372, 373, 374, 375, 376, 377, 378, 166] (by decide +kernel) (by decide +kernel)
set_option maxRecDepth 20000 in
theorem kk_areAlike_9 : GoodIn wsL_law wsL_areAlike_r9 := goodIn_r _ [167, 168, 169, 170, 171, 173, 379, 380, 381, 382, 205, 206, 207, 208, 209, 210, 211, 212, 383, 384, 385, 386, 387, 263] (by decide +kernel) (by decide +kernel)
set_option maxRecDepth 20000 in
theorem kk_areAlike_10 : GoodIn wsL_law wsL_areAlike_r10 := goodIn_r _ [264, 265, 388, 389, 390, 391, 392, 393, 394, 395, 396, 397, 398, 399, 400, 401, 402, 403, 404, 405, 406, 407, 262, 408] (by decide +kernel) (by decide +kernel)
set_option maxRecDepth 20000 in
theorem kk_areAlike_11 : GoodIn wsL_law wsL_areAlike_r11 := goodIn_r _ [409, 410, 411] (by decide +kernel) (by decide +kernel)
theorem ggL_law_L_areAlike : GoodIn wsL_law wsL_areAlike := goodIn_ca (goodIn_ca (goodIn_ca (goodIn_ca (goodIn_ca (goodIn_ca (goodIn_c kk_areAlike_0 (goodIn_app kk_areAlike_1 (goodIn_app kk_areAlike_2 (goodIn_app kk_areAlike_3 (goodIn_app kk_areAlike_4 (goodIn_app kk_areAlike_5 (goodIn_app kk_areAlike_6 (goodIn_app kk_areAlike_7 (goodIn_app kk_areAlike_8 (goodIn_app kk_areAlike_9 (goodIn_app kk_areAlike_10 (kk_areAlike_11)))))))))))) (goodIn_sub inlX5 (by decide +kernel))) (goodIn_sub inlX2 (by decide +kernel))) (goodIn_sub inlX3 (by decide +kernel))) (goodIn_sub inlX0 (by decide +kernel))) (goodIn_sub (fun _ h => List.mem_append_left _ (List.mem_append_right _ h)) (by decide +kernel))) (goodIn_sub (fun _ h => List.mem_append_left _ (List.mem_append_left _ (List.mem_append_right _ h))) (by decide +kernel))
set_option maxRecDepth 20000 in
theorem gL_law_L_areAlike : GoodIn wsL_law (va_wsS RL 90 yL_areAlike wsL_areAlike) := goodIn_app (goodIn_of _ (by decide +kernel)) ggL_law_L_areAlike
theorem kk_isSound_0 : GoodIn wsL_law [Cond.code yL_isSound cL_isSound 7 (some .boolean)] := goodIn_r _ [414] (by decide +kernel) (by decide +kernel)
set_option maxRecDepth 20000 in
theorem kk_isSound_1 : GoodIn wsL_law wsL_isSound_r1 := goodIn_r _ [383, 384, 385, 2, 386, 12, 95, 96, 97, 98, 99, 100, 101, 102, 103, 104, 105, 205, 206, 207, 208, 94, 209, 210] (by decide +kernel) (by decide +kernel)
set_option maxRecDepth 20000 in
theorem kk_isSound_2 : GoodIn wsL_law wsL_isSound_r2 := goodIn_r _ [211, 32, 212, 50, 387, 263, 264, 11, 265, 37, 151, 152, 153, 154, 43, 45, 238, 239, 240, 241, 109, 110, 111, 112] (by decide +kernel) (by decide +kernel)
set_option maxRecDepth 20000 in
theorem kk_isSound_3 : GoodIn wsL_law wsL_isSound_r3 := goodIn_r _ [113, 242, 243, 244, 245, 34, 35, 246, 247, 248, 147, 148, 149, 150, 249, 250, 251, 252, 400, 401, 402, 403, 404, 405] (by decide +kernel) (by decide +kernel)
set_option maxRecDepth 20000 in
theorem kk_isSound_4 : GoodIn wsL_law wsL_isSound_r4 := goodIn_r _ [406, 407, 174, 175, 172, 176, 262, 408, 409, 410, 411, 379, 380, 381, 382, 21, 328, 329, 330, 20, 331, 67, 332, 333] (by decide +kernel) (by decide +kernel)
set_option maxRecDepth 20000 in
theorem kk_isSound_5 : GoodIn wsL_law wsL_isSound_r5 := goodIn_r _ [334, 335, 52, 53, 54, 336, 337, 338, 339, 340, 341, 342, 343, 344, 345, 156, 157, 158, 346, 285, 286, 287, 288, 289] (by decide +kernel) (by decide +kernel)
set_option maxRecDepth 20000 in
theorem kk_isSound_6 : GoodIn wsL_law wsL_isSound_r6 := goodIn_r _ [290, 291, 292, 131, 132, 133, 134, 36, 293, 275, 276, 277, 278, 279, 280, 281, 282, 283, 284, 294, 295, 296, 297, 155] (by decide +kernel) (by decide +kernel)
set_option maxRecDepth 20000 in
theorem kk_isSound_7 : GoodIn wsL_law wsL_isSound_r7 := goodIn_r _ [347, 348, 349, 350, 13, 269, 128, 129, 130, 33, 135, 136, 137, 138, 42, 230, 231, 232, 233, 234, 235, 236, 237, 51] (by decide +kernel) (by decide +kernel)
set_option maxRecDepth 20000 in
theorem kk_isSound_8 : GoodIn wsL_law wsL_isSound_r8 := goodIn_r _ [177, 178, 179, 180, 181, 182, 183, 184, 185, 186, 187, 188, 189, 115, 116, 117, 190, 191, 192, 193, 46, 47, 48, 49] (by decide +kernel) (by decide +kernel)
set_option maxRecDepth 20000 in
theorem kk_isSound_9 : GoodIn wsL_law wsL_isSound_r9 := goodIn_r _ [143, 144, 145, 146, 274] (by decide +kernel) (by decide +kernel)
theorem ggL_law_L_isSound : GoodIn wsL_law wsL_isSound := goodIn_ca (goodIn_ca (goodIn_ca (goodIn_ca (goodIn_ca (goodIn_ca (goodIn_c kk_isSound_0 (goodIn_app kk_isSound_1 (goodIn_app kk_isSound_2 (goodIn_app kk_isSound_3 (goodIn_app kk_isSound_4 (goodIn_app kk_isSound_5 (goodIn_app kk_isSound_6 (goodIn_app kk_isSound_7 (goodIn_app kk_isSound_8 (kk_isSound_9)))))))))) (goodIn_sub inlX5 (by decide +kernel))) (goodIn_sub inlX2 (by decide +kernel))) (goodIn_sub inlX3 (by decide +kernel))) (goodIn_sub inlX0 (by decide +kernel))) (goodIn_sub (fun _ h => List.mem_append_left _ (List.mem_append_left _ (List.mem_append_right _ h))) (by decide +kernel))) (goodIn_sub (fun _ h => List.mem_append_left _ (List.mem_append_right _ h)) (by decide +kernel))
set_option maxRecDepth 20000 in
theorem gL_law_L_isSound : GoodIn wsL_law (va_wsS RL 94 yL_isSound wsL_isSound) := goodIn_app (goodIn_of _ (by decide +kernel)) ggL_law_L_isSound
