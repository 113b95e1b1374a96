set_option maxRecDepth 20000 in
theorem ggL_law_L_cell : GoodIn wsL_law wsL_cell := goodIn_r _ [7, 8] (by decide +kernel) (by decide +kernel)
set_option maxRecDepth 20000 in
theorem gL_law_L_cell : GoodIn wsL_law (va_wsS RL 122 yL_cell wsL_cell) := goodIn_app (goodIn_of _ (by decide +kernel)) ggL_law_L_cell
set_option maxRecDepth 20000 in
theorem ggL_law_L_up : GoodIn wsL_law wsL_up := goodIn_r _ [11, 12] (by decide +kernel) (by decide +kernel)
set_option maxRecDepth 20000 in
theorem gL_law_L_up : GoodIn wsL_law (va_wsS RL 126 yL_up wsL_up) := goodIn_app (goodIn_of _ (by decide +kernel)) ggL_law_L_up
set_option maxRecDepth 20000 in
theorem ggL_law_X6_init : GoodIn wsL_law wsX6_init := goodIn_r _ [15, 16, 17, 18, 19, 20, 21, 22, 23, 24, 25, 26, 27, 28, 29, 30, 31, 32, 33, 34, 35, 36, 37, 38, 39, 40, 41, 42, 43, 44, 45, 46, 47, 48, 49, 50, 3, 51, 52, 53, 54, 55, 56, 57, 58, 59, 60, 61, 62, 63, 64, 65, 66, 67, 68, 69, 70, 71, 72, 73, 74, 75, 76, 77, 78, 79, 80, 81, 82, 83, 84, 85, 86, 87, 88, 89, 90, 91, 92, 93, 94, 95, 96, 97, 480, 481, 482, 483, 484, 485, 486, 487, 488, 489, 490, 491, 492, 493, 494, 495, 496, 497, 498, 499, 500, 501, 502, 503, 504, 505, 506, 507, 508, 509, 510, 511, 512, 513, 514, 515, 516, 517, 518] (by decide +kernel) (by decide +kernel)
set_option maxRecDepth 20000 in
theorem gL_law_X6_init : GoodIn wsL_law (wsX6_init) := ggL_law_X6_init
set_option maxRecDepth 20000 in
theorem ggL_law_X6_spaces : GoodIn wsL_law wsX6_spaces := goodIn_r _ [101, 26, 480, 481, 482, 483, 484, 485, 486, 487, 488, 489] (by decide +kernel) (by decide +kernel)
set_option maxRecDepth 20000 in
theorem gL_law_X6_spaces : GoodIn wsL_law (wsV RL 132 RX6 yX6_spaces wsX6_spaces) := goodIn_app (goodIn_of _ (by decide +kernel)) ggL_law_X6_spaces
set_option maxRecDepth 20000 in
theorem ggL_law_L_undone : GoodIn wsL_law wsL_undone := goodIn_ca (goodIn_r _ [104, 105, 106, 107, 108, 2, 109, 34, 110, 30, 111, 112, 113, 114, 115, 116, 117, 118, 33, 119, 120, 66, 121, 122, 123, 29, 124, 59, 125, 126, 127, 128, 60, 129, 130, 131, 480, 481, 482, 483, 484, 485, 486, 487, 488, 489, 495, 496, 490, 491, 492, 493, 494] (by decide +kernel) (by decide +kernel)) (goodIn_sub (fun _ h => List.mem_append_left _ (List.mem_append_left _ (List.mem_append_right _ h))) (by decide +kernel))
set_option maxRecDepth 20000 in
theorem gL_law_L_undone : GoodIn wsL_law (va_wsS RL 106 yL_undone wsL_undone) := goodIn_app (goodIn_of _ (by decide +kernel)) ggL_law_L_undone
set_option maxRecDepth 20000 in
theorem ggL_law_L_removed : GoodIn wsL_law wsL_removed := goodIn_ca (goodIn_r _ [134, 105, 135, 136, 137, 2, 138, 30, 139, 34, 111, 112, 113, 114, 115, 140, 141, 142, 33, 143, 120, 66, 144, 145, 146, 147, 121, 122, 123, 29, 124, 59, 125, 126, 127, 128, 60, 129, 130, 131, 480, 481, 482, 483, 484, 485, 486, 487, 488, 489, 490, 491, 492, 493, 494, 495, 496] (by decide +kernel) (by decide +kernel)) (goodIn_sub (fun _ h => List.mem_append_left _ (List.mem_append_left _ (List.mem_append_right _ h))) (by decide +kernel))
set_option maxRecDepth 20000 in
theorem gL_law_L_removed : GoodIn wsL_law (va_wsS RL 109 yL_removed wsL_removed) := goodIn_app (goodIn_of _ (by decide +kernel)) ggL_law_L_removed
set_option maxRecDepth 20000 in
theorem ggL_law_L_fails : GoodIn wsL_law wsL_fails := goodIn_ca (goodIn_ca (goodIn_ca (goodIn_r _ [150, 151, 152, 153, 2, 154, 155, 26, 30, 156, 139, 157, 38, 158, 159, 160, 161, 162, 163, 164, 165, 166, 37, 167, 72, 73, 168, 74, 169, 170, 171, 172, 173, 174, 175, 176, 177, 178, 75, 76, 77, 179, 180, 181, 182, 183, 184, 185, 186, 187, 188, 189, 190, 191, 192, 193, 194, 195, 196, 197, 198, 199, 200, 201, 202, 203, 204, 205, 29, 206, 130, 131, 207, 208, 209, 210, 211, 212, 213, 214, 215, 216, 217, 218, 219, 220, 21, 221, 222, 223, 6, 224, 225, 105, 226, 227, 228, 229, 34, 230, 231, 232, 233, 234, 235, 236, 237, 111, 112, 113, 114, 115, 140, 141, 142, 33, 143, 120, 66, 144, 145, 146, 147, 121, 122, 123, 124, 59, 125, 126, 127, 128, 60, 129, 238, 239, 240, 241, 242, 243, 244, 245, 246, 247, 248, 249, 42, 250, 251, 252, 253, 254, 255, 256, 257, 258, 259, 260, 261, 41, 262, 83, 263, 264, 265, 266, 267, 268, 269, 270, 271, 272, 273, 274, 275, 276, 84, 277, 278, 279, 280, 281, 282, 283, 284, 285, 286, 287, 288, 289, 290, 291, 292, 293, 294, 295, 296, 297, 298, 299, 300, 301, 302, 303, 304, 305, 306, 307, 308, 309, 310, 311, 312, 313, 314, 315, 316, 317, 318, 319, 320, 321, 322, 323, 324, 325, 326, 327, 328, 329, 330, 331, 332, 333, 334, 335, 336, 337, 338, 339, 340, 341, 342, 343, 344, 345, 346, 347, 348, 349, 350, 351, 352, 353, 354, 355, 480, 481, 482, 483, 484, 485, 486, 487, 488, 489, 490, 491, 492, 493, 494, 497, 498, 499, 500, 501, 502, 503, 504, 505, 506, 495, 496, 507, 508] (by decide +kernel) (by decide +kernel)) (goodIn_sub (fun _ h => List.mem_append_left _ (List.mem_append_right _ h)) (by decide +kernel))) (goodIn_sub (fun _ h => List.mem_append_left _ (List.mem_append_left _ (List.mem_append_right _ h))) (by decide +kernel))) (goodIn_sub (fun _ h => List.mem_append_right _ h) (by decide +kernel))
set_option maxRecDepth 20000 in
theorem gL_law_L_fails : GoodIn wsL_law (va_wsS RL 135 yL_fails wsL_fails) := goodIn_app (goodIn_of _ (by decide +kernel)) ggL_law_L_fails
set_option maxRecDepth 20000 in
theorem ggL_law_L_capacity : GoodIn wsL_law wsL_capacity := goodIn_ca (goodIn_ca (goodIn_r _ [322, 323, 225, 324, 325, 326, 2, 327, 26, 34, 30, 156, 328, 329, 330, 331, 332, 230, 231, 232, 233, 234, 235, 236, 237, 140, 141, 142, 33, 143, 120, 66, 144, 145, 146, 147, 121, 122, 123, 29, 124, 59, 125, 126, 127, 128, 60, 129, 130, 131, 480, 481, 482, 483, 484, 485, 486, 487, 488, 489, 490, 491, 492, 493, 494, 495, 496] (by decide +kernel) (by decide +kernel)) (goodIn_sub (fun _ h => List.mem_append_right _ h) (by decide +kernel))) (goodIn_sub (fun _ h => List.mem_append_left _ (List.mem_append_right _ h)) (by decide +kernel))
set_option maxRecDepth 20000 in
theorem gL_law_L_capacity : GoodIn wsL_law (va_wsS RL 61 yL_capacity wsL_capacity) := goodIn_app (goodIn_of _ (by decide +kernel)) ggL_law_L_capacity
set_option maxRecDepth 20000 in
theorem ggL_law_X6_setRule : GoodIn wsL_law wsX6_setRule := goodIn_ca (goodIn_r _ [359, 34, 30, 360, 361, 230, 231, 2, 232, 233, 234, 235, 236, 237, 140, 141, 142, 33, 143, 120, 66, 144, 145, 146, 147, 121, 122, 123, 29, 124, 59, 125, 126, 127, 128, 60, 129, 130, 131, 203, 204, 205, 206, 480, 481, 482, 483, 484, 485, 486, 487, 488, 489, 490, 491, 492, 493, 494, 495, 496] (by decide +kernel) (by decide +kernel)) (goodIn_sub (fun _ h => List.mem_append_left _ (List.mem_append_right _ h)) (by decide +kernel))
set_option maxRecDepth 20000 in
theorem gL_law_X6_setRule : GoodIn wsL_law (wsV RL 139 RX6 yX6_setRule wsX6_setRule) := goodIn_app (goodIn_of _ (by decide +kernel)) ggL_law_X6_setRule
set_option maxRecDepth 20000 in
theorem ggL_law_X6_cars : GoodIn wsL_law wsX6_cars := goodIn_r _ [336, 30, 139, 480, 481, 482, 483, 484, 485, 486, 487, 488, 489, 490, 491, 492, 493, 494] (by decide +kernel) (by decide +kernel)
set_option maxRecDepth 20000 in
theorem gL_law_X6_cars : GoodIn wsL_law (wsV RL 64 RX6 yX6_cars wsX6_cars) := goodIn_app (goodIn_of _ (by decide +kernel)) ggL_law_X6_cars
set_option maxRecDepth 20000 in
theorem ggL_law_X6_setPreference : GoodIn wsL_law wsX6_setPreference := goodIn_ca (goodIn_ca (goodIn_r _ [365, 30, 139, 26, 34, 157, 328, 329, 2, 330, 331, 332, 230, 231, 232, 233, 234, 235, 236, 237, 140, 141, 142, 33, 143, 120, 66, 144, 145, 146, 147, 121, 122, 123, 29, 124, 59, 125, 126, 127, 128, 60, 129, 130, 131, 480, 481, 482, 483, 484, 485, 486, 487, 488, 489, 490, 491, 492, 493, 494, 495, 496] (by decide +kernel) (by decide +kernel)) (goodIn_sub (fun _ h => List.mem_append_right _ h) (by decide +kernel))) (goodIn_sub (fun _ h => List.mem_append_left _ (List.mem_append_right _ h)) (by decide +kernel))
set_option maxRecDepth 20000 in
theorem gL_law_X6_setPreference : GoodIn wsL_law (wsV RL 142 RX6 yX6_setPreference wsX6_setPreference) := goodIn_app (goodIn_of _ (by decide +kernel)) ggL_law_X6_setPreference
set_option maxRecDepth 20000 in
theorem ggL_law_L_added : GoodIn wsL_law wsL_added := goodIn_ca (goodIn_ca (goodIn_r _ [224, 225, 105, 226, 227, 228, 2, 229, 26, 30, 139, 34, 157, 230, 231, 232, 233, 234, 235, 236, 237, 111, 112, 113, 114, 115, 140, 141, 142, 33, 143, 120, 66, 144, 145, 146, 147, 121, 122, 123, 29, 124, 59, 125, 126, 127, 128, 60, 129, 130, 131, 480, 481, 482, 483, 484, 485, 486, 487, 488, 489, 490, 491, 492, 493, 494, 495, 496] (by decide +kernel) (by decide +kernel)) (goodIn_sub (fun _ h => List.mem_append_left _ (List.mem_append_right _ h)) (by decide +kernel))) (goodIn_sub (fun _ h => List.mem_append_left _ (List.mem_append_left _ (List.mem_append_right _ h))) (by decide +kernel))
set_option maxRecDepth 20000 in
theorem gL_law_L_added : GoodIn wsL_law (va_wsS RL 48 yL_added wsL_added) := goodIn_app (goodIn_of _ (by decide +kernel)) ggL_law_L_added
set_option maxRecDepth 20000 in
theorem ggL_law_L_agrees : GoodIn wsL_law wsL_agrees := goodIn_ca (goodIn_r _ [368, 333, 334, 335, 2, 336, 30, 139, 369, 370, 371, 372, 26, 38, 328, 329, 330, 331, 332, 160, 161, 162, 163, 157, 164, 165, 166, 37, 167, 72, 73, 168, 74, 169, 170, 171, 172, 173, 174, 175, 176, 177, 178, 75, 76, 77, 179, 180, 181, 182, 183, 184, 185, 186, 187, 188, 189, 190, 191, 192, 193, 194, 195, 196, 197, 198, 373, 374, 375, 376, 377, 378, 6, 379, 380, 381, 382, 383, 158, 384, 385, 386, 387, 388, 389, 390, 391, 159, 392, 393, 394, 395, 207, 208, 209, 210, 396, 397, 398, 399, 400, 401, 402, 403, 404, 405, 406, 407, 211, 212, 213, 214, 408, 409, 410, 411, 215, 216, 217, 218, 219, 220, 21, 221, 480, 481, 482, 483, 484, 485, 486, 487, 488, 489, 490, 491, 492, 493, 494, 497, 498, 499, 500, 501, 502, 503, 504, 505, 506] (by decide +kernel) (by decide +kernel)) (goodIn_sub (fun _ h => List.mem_append_right _ h) (by decide +kernel))
set_option maxRecDepth 20000 in
theorem gL_law_L_agrees : GoodIn wsL_law (va_wsS RL 145 yL_agrees wsL_agrees) := goodIn_app (goodIn_of _ (by decide +kernel)) ggL_law_L_agrees
set_option maxRecDepth 20000 in
theorem ggL_law_L_counts : GoodIn wsL_law wsL_counts := goodIn_ca (goodIn_ca (goodIn_r _ [414, 313, 314, 6, 315, 225, 105, 316, 317, 318, 2, 319, 230, 231, 232, 233, 234, 235, 236, 237, 246, 247, 248, 249, 38, 42, 250, 251, 252, 253, 26, 254, 111, 112, 113, 114, 115, 255, 256, 257, 258, 30, 164, 165, 166, 37, 167, 72, 73, 168, 74, 169, 170, 171, 172, 173, 174, 259, 260, 261, 41, 262, 83, 263, 264, 265, 266, 267, 268, 269, 270, 271, 272, 273, 274, 275, 276, 84, 277, 278, 279, 280, 175, 176, 177, 178, 75, 76, 77, 179, 180, 181, 182, 183, 184, 185, 186, 187, 188, 189, 190, 191, 192, 193, 194, 195, 196, 197, 198, 281, 282, 283, 284, 285, 286, 287, 288, 289, 290, 291, 292, 293, 294, 295, 296, 297, 298, 299, 300, 301, 302, 303, 304, 305, 306, 307, 308, 415, 416, 417, 418, 419, 420, 421, 422, 480, 481, 482, 483, 484, 485, 486, 487, 488, 489, 497, 498, 499, 500, 501, 502, 503, 504, 505, 506, 490, 491, 492, 493, 494, 507, 508] (by decide +kernel) (by decide +kernel)) (goodIn_sub (fun _ h => List.mem_append_left _ (List.mem_append_right _ h)) (by decide +kernel))) (goodIn_sub (fun _ h => List.mem_append_left _ (List.mem_append_left _ (List.mem_append_right _ h))) (by decide +kernel))
set_option maxRecDepth 20000 in
theorem gL_law_L_counts : GoodIn wsL_law (va_wsS RL 149 yL_counts wsL_counts) := goodIn_app (goodIn_of _ (by decide +kernel)) ggL_law_L_counts
set_option maxRecDepth 20000 in
theorem ggL_law_L_ranks : GoodIn wsL_law wsL_ranks := goodIn_ca (goodIn_ca (goodIn_ca (goodIn_r _ [425, 151, 152, 153, 2, 154, 155, 26, 30, 156, 139, 157, 38, 158, 159, 160, 161, 162, 163, 164, 165, 166, 37, 167, 72, 73, 168, 74, 169, 170, 171, 172, 173, 174, 175, 176, 177, 178, 75, 76, 77, 179, 180, 181, 182, 183, 184, 185, 186, 187, 188, 189, 190, 191, 192, 193, 194, 195, 196, 197, 198, 199, 200, 201, 202, 203, 204, 205, 29, 206, 130, 131, 207, 208, 209, 210, 211, 212, 213, 214, 215, 216, 217, 218, 219, 220, 21, 221, 313, 314, 6, 315, 225, 105, 316, 317, 318, 319, 230, 231, 232, 233, 234, 235, 236, 237, 246, 247, 248, 249, 42, 250, 251, 252, 253, 254, 111, 112, 113, 114, 115, 255, 256, 257, 258, 259, 260, 261, 41, 262, 83, 263, 264, 265, 266, 267, 268, 269, 270, 271, 272, 273, 274, 275, 276, 84, 277, 278, 279, 280, 281, 282, 283, 284, 285, 286, 287, 288, 289, 290, 291, 292, 293, 294, 295, 296, 297, 298, 299, 300, 301, 302, 303, 304, 305, 306, 307, 308, 238, 239, 240, 241, 242, 243, 244, 34, 245, 309, 310, 311, 312, 140, 141, 142, 33, 143, 120, 66, 144, 145, 146, 147, 121, 122, 123, 124, 59, 125, 126, 127, 128, 60, 129, 384, 385, 386, 387, 328, 329, 330, 331, 332, 333, 334, 335, 336, 392, 393, 394, 395, 426, 427, 428, 429, 430, 431, 432, 433, 434, 435, 436, 102, 103, 104, 106, 107, 108, 109, 110, 116, 117, 118, 119, 480, 481, 482, 483, 484, 485, 486, 487, 488, 489, 490, 491, 492, 493, 494, 497, 498, 499, 500, 501, 502, 503, 504, 505, 506, 507, 508, 495, 496] (by decide +kernel) (by decide +kernel)) (goodIn_sub (fun _ h => List.mem_append_left _ (List.mem_append_right _ h)) (by decide +kernel))) (goodIn_sub (fun _ h => List.mem_append_left _ (List.mem_append_left _ (List.mem_append_right _ h))) (by decide +kernel))) (goodIn_sub (fun _ h => List.mem_append_right _ h) (by decide +kernel))
set_option maxRecDepth 20000 in
theorem gL_law_L_ranks : GoodIn wsL_law (va_wsS RL 153 yL_ranks wsL_ranks) := goodIn_app (goodIn_of _ (by decide +kernel)) ggL_law_L_ranks
set_option maxRecDepth 20000 in
theorem ggL_law_L_arranges : GoodIn wsL_law wsL_arranges := goodIn_ca (goodIn_r _ [439, 333, 334, 335, 2, 336, 30, 139, 132, 133, 6, 134, 105, 135, 136, 137, 138, 34, 111, 112, 113, 114, 115, 140, 141, 142, 33, 143, 120, 66, 144, 145, 146, 147, 121, 122, 123, 29, 124, 59, 125, 126, 127, 128, 60, 129, 130, 131, 440, 441, 442, 443, 26, 444, 445, 446, 447, 448, 449, 450, 451, 452, 453, 454, 455, 51, 38, 42, 255, 256, 257, 258, 164, 165, 166, 37, 167, 72, 73, 168, 74, 169, 170, 171, 172, 173, 174, 259, 260, 261, 41, 262, 83, 263, 264, 265, 266, 267, 456, 457, 458, 271, 272, 459, 460, 461, 273, 274, 275, 276, 84, 277, 278, 279, 280, 175, 176, 177, 178, 75, 76, 77, 179, 180, 181, 182, 183, 184, 185, 186, 187, 188, 189, 190, 191, 192, 193, 194, 195, 196, 197, 198, 301, 302, 303, 304, 305, 306, 307, 308, 151, 152, 153, 154, 155, 156, 157, 158, 159, 160, 161, 162, 163, 199, 200, 201, 202, 203, 204, 205, 206, 207, 208, 209, 210, 211, 212, 213, 214, 215, 216, 217, 218, 219, 220, 21, 221, 392, 393, 394, 395, 462, 463, 464, 465, 466, 467, 468, 469, 470, 471, 480, 481, 482, 483, 484, 485, 486, 487, 488, 489, 490, 491, 492, 493, 494, 495, 496, 497, 498, 499, 500, 501, 502, 503, 504, 505, 506, 507, 508] (by decide +kernel) (by decide +kernel)) (goodIn_sub (fun _ h => List.mem_append_left _ (List.mem_append_left _ (List.mem_append_right _ h))) (by decide +kernel))
set_option maxRecDepth 20000 in
theorem gL_law_L_arranges : GoodIn wsL_law (va_wsS RL 156 yL_arranges wsL_arranges) := goodIn_app (goodIn_of _ (by decide +kernel)) ggL_law_L_arranges
set_option maxRecDepth 20000 in
theorem ggL_law_L_shifted : GoodIn wsL_law wsL_shifted := goodIn_ca (goodIn_r _ [339, 105, 340, 341, 342, 2, 343, 30, 139, 26, 34, 157, 111, 112, 113, 114, 115, 344, 345, 346, 347, 348, 349, 350, 351, 140, 141, 142, 33, 143, 120, 66, 144, 145, 146, 147, 121, 122, 123, 29, 124, 59, 125, 126, 127, 128, 60, 129, 130, 131, 352, 353, 354, 355, 480, 481, 482, 483, 484, 485, 486, 487, 488, 489, 490, 491, 492, 493, 494, 495, 496] (by decide +kernel) (by decide +kernel)) (goodIn_sub (fun _ h => List.mem_append_left _ (List.mem_append_left _ (List.mem_append_right _ h))) (by decide +kernel))
set_option maxRecDepth 20000 in
theorem gL_law_L_shifted : GoodIn wsL_law (va_wsS RL 67 yL_shifted wsL_shifted) := goodIn_app (goodIn_of _ (by decide +kernel)) ggL_law_L_shifted
set_option maxRecDepth 20000 in
theorem ggL_law_X6_isStandard : GoodIn wsL_law wsX6_isStandard := goodIn_r _ [475, 30, 26, 476, 477, 478, 29, 479, 129, 448, 449, 450, 451, 60, 480, 481, 482, 483, 484, 485, 486, 487, 488, 489, 490, 491, 492, 493, 494] (by decide +kernel) (by decide +kernel)
set_option maxRecDepth 20000 in
theorem gL_law_X6_isStandard : GoodIn wsL_law (wsV RL 160 RX6 yX6_isStandard wsX6_isStandard) := goodIn_app (goodIn_of _ (by decide +kernel)) ggL_law_X6_isStandard
theorem dL_law_0 : decode cL_law 0 = .ok (.iconst 1, 1) := by decide +kernel
theorem dL_law_1 : decode cL_law 1 = .ok (.aload_n 0, 1) := by decide +kernel
theorem dL_law_2 : decode cL_law 2 = .ok (.iconst 0, 1) := by decide +kernel
theorem dL_law_3 : decode cL_law 3 = .ok (.invokestatic 122, 3) := by decide +kernel
theorem dL_law_6 : decode cL_law 6 = .ok (.bipush 8, 2) := by decide +kernel
theorem dL_law_8 : decode cL_law 8 = .ok (.invokestatic 126, 3) := by decide +kernel
theorem dL_law_11 : decode cL_law 11 = .ok (.iadd, 1) := by decide +kernel
theorem dL_law_12 : decode cL_law 12 = .ok (.istore_n 1, 1) := by decide +kernel
theorem dL_law_13 : decode cL_law 13 = .ok (.new 10, 3) := by decide +kernel
theorem dL_law_16 : decode cL_law 16 = .ok (.dup, 1) := by decide +kernel
theorem dL_law_17 : decode cL_law 17 = .ok (.iload_n 1, 1) := by decide +kernel
theorem dL_law_18 : decode cL_law 18 = .ok (.invokespecial 129, 3) := by decide +kernel
theorem dL_law_21 : decode cL_law 21 = .ok (.astore_n 2, 1) := by decide +kernel
theorem dL_law_22 : decode cL_law 22 = .ok (.bipush 8, 2) := by decide +kernel
theorem dL_law_24 : decode cL_law 24 = .ok (.newarray .int, 2) := by decide +kernel
theorem dL_law_26 : decode cL_law 26 = .ok (.astore_n 3, 1) := by decide +kernel
theorem dL_law_27 : decode cL_law 27 = .ok (.aload_n 2, 1) := by decide +kernel
theorem dL_law_28 : decode cL_law 28 = .ok (.invokevirtual 132, 3) := by decide +kernel
theorem dL_law_31 : decode cL_law 31 = .ok (.iload_n 1, 1) := by decide +kernel
theorem dL_law_32 : decode cL_law 32 = .ok (.if_icmp .ne 29, 3) := by decide +kernel
theorem dL_law_35 : decode cL_law 35 = .ok (.aload_n 2, 1) := by decide +kernel
theorem dL_law_36 : decode cL_law 36 = .ok (.invokestatic 106, 3) := by decide +kernel
theorem dL_law_39 : decode cL_law 39 = .ok (.bipush (-2), 2) := by decide +kernel
theorem dL_law_41 : decode cL_law 41 = .ok (.if_icmp .ne 20, 3) := by decide +kernel
theorem dL_law_44 : decode cL_law 44 = .ok (.aload_n 2, 1) := by decide +kernel
theorem dL_law_45 : decode cL_law 45 = .ok (.invokestatic 109, 3) := by decide +kernel
theorem dL_law_48 : decode cL_law 48 = .ok (.bipush (-2), 2) := by decide +kernel
theorem dL_law_50 : decode cL_law 50 = .ok (.if_icmp .ne 11, 3) := by decide +kernel
theorem dL_law_53 : decode cL_law 53 = .ok (.aload_n 2, 1) := by decide +kernel
theorem dL_law_54 : decode cL_law 54 = .ok (.iload_n 1, 1) := by decide +kernel
theorem dL_law_55 : decode cL_law 55 = .ok (.invokestatic 135, 3) := by decide +kernel
theorem dL_law_58 : decode cL_law 58 = .ok (.ifCond .ne 5, 3) := by decide +kernel
theorem dL_law_61 : decode cL_law 61 = .ok (.iconst 0, 1) := by decide +kernel
theorem dL_law_62 : decode cL_law 62 = .ok (.ireturn, 1) := by decide +kernel
theorem dL_law_63 : decode cL_law 63 = .ok (.iconst 0, 1) := by decide +kernel
theorem dL_law_64 : decode cL_law 64 = .ok (.istore 4, 2) := by decide +kernel
theorem dL_law_66 : decode cL_law 66 = .ok (.iload 4, 2) := by decide +kernel
theorem dL_law_68 : decode cL_law 68 = .ok (.iload_n 1, 1) := by decide +kernel
theorem dL_law_69 : decode cL_law 69 = .ok (.if_icmp .ge 14, 3) := by decide +kernel
theorem dL_law_72 : decode cL_law 72 = .ok (.aload_n 3, 1) := by decide +kernel
theorem dL_law_73 : decode cL_law 73 = .ok (.iload 4, 2) := by decide +kernel
theorem dL_law_75 : decode cL_law 75 = .ok (.iconst 1, 1) := by decide +kernel
theorem dL_law_76 : decode cL_law 76 = .ok (.iastore, 1) := by decide +kernel
theorem dL_law_77 : decode cL_law 77 = .ok (.iinc 4 1, 3) := by decide +kernel
theorem dL_law_80 : decode cL_law 80 = .ok (.goto (-14), 3) := by decide +kernel
theorem dL_law_83 : decode cL_law 83 = .ok (.iconst 0, 1) := by decide +kernel
theorem dL_law_84 : decode cL_law 84 = .ok (.istore 4, 2) := by decide +kernel
theorem dL_law_86 : decode cL_law 86 = .ok (.iload 4, 2) := by decide +kernel
theorem dL_law_88 : decode cL_law 88 = .ok (.bipush 14, 2) := by decide +kernel
theorem dL_law_90 : decode cL_law 90 = .ok (.if_icmp .ge 201, 3) := by decide +kernel
theorem dL_law_93 : decode cL_law 93 = .ok (.aload_n 0, 1) := by decide +kernel
theorem dL_law_94 : decode cL_law 94 = .ok (.iconst 1, 1) := by decide +kernel
theorem dL_law_95 : decode cL_law 95 = .ok (.iload 4, 2) := by decide +kernel
theorem dL_law_97 : decode cL_law 97 = .ok (.iadd, 1) := by decide +kernel
theorem dL_law_98 : decode cL_law 98 = .ok (.invokestatic 122, 3) := by decide +kernel
theorem dL_law_101 : decode cL_law 101 = .ok (.istore 5, 2) := by decide +kernel
theorem dL_law_103 : decode cL_law 103 = .ok (.iload 5, 2) := by decide +kernel
theorem dL_law_105 : decode cL_law 105 = .ok (.iconst 4, 1) := by decide +kernel
theorem dL_law_106 : decode cL_law 106 = .ok (.ishr, 1) := by decide +kernel
theorem dL_law_107 : decode cL_law 107 = .ok (.iload_n 1, 1) := by decide +kernel
theorem dL_law_108 : decode cL_law 108 = .ok (.invokestatic 126, 3) := by decide +kernel
theorem dL_law_111 : decode cL_law 111 = .ok (.istore 6, 2) := by decide +kernel
theorem dL_law_113 : decode cL_law 113 = .ok (.iload 5, 2) := by decide +kernel
theorem dL_law_115 : decode cL_law 115 = .ok (.bipush 7, 2) := by decide +kernel
theorem dL_law_117 : decode cL_law 117 = .ok (.invokestatic 126, 3) := by decide +kernel
theorem dL_law_120 : decode cL_law 120 = .ok (.tableswitch 114 0 2 #[28, 56, 84], 28) := by decide +kernel
theorem dL_law_148 : decode cL_law 148 = .ok (.aload_n 3, 1) := by decide +kernel
theorem dL_law_149 : decode cL_law 149 = .ok (.iload 6, 2) := by decide +kernel
theorem dL_law_151 : decode cL_law 151 = .ok (.iload 5, 2) := by decide +kernel
theorem dL_law_153 : decode cL_law 153 = .ok (.bipush 8, 2) := by decide +kernel
theorem dL_law_155 : decode cL_law 155 = .ok (.ishr, 1) := by decide +kernel
theorem dL_law_156 : decode cL_law 156 = .ok (.iconst 4, 1) := by decide +kernel
theorem dL_law_157 : decode cL_law 157 = .ok (.invokestatic 126, 3) := by decide +kernel
theorem dL_law_160 : decode cL_law 160 = .ok (.iastore, 1) := by decide +kernel
theorem dL_law_161 : decode cL_law 161 = .ok (.aload_n 2, 1) := by decide +kernel
theorem dL_law_162 : decode cL_law 162 = .ok (.iload 6, 2) := by decide +kernel
theorem dL_law_164 : decode cL_law 164 = .ok (.aload_n 3, 1) := by decide +kernel
theorem dL_law_165 : decode cL_law 165 = .ok (.iload 6, 2) := by decide +kernel
theorem dL_law_167 : decode cL_law 167 = .ok (.iaload, 1) := by decide +kernel
theorem dL_law_168 : decode cL_law 168 = .ok (.invokestatic 61, 3) := by decide +kernel
theorem dL_law_171 : decode cL_law 171 = .ok (.ifCond .ge 103, 3) := by decide +kernel
theorem dL_law_174 : decode cL_law 174 = .ok (.iconst 0, 1) := by decide +kernel
theorem dL_law_175 : decode cL_law 175 = .ok (.ireturn, 1) := by decide +kernel
theorem dL_law_176 : decode cL_law 176 = .ok (.aload_n 2, 1) := by decide +kernel
theorem dL_law_177 : decode cL_law 177 = .ok (.iload 5, 2) := by decide +kernel
theorem dL_law_179 : decode cL_law 179 = .ok (.bipush 8, 2) := by decide +kernel
theorem dL_law_181 : decode cL_law 181 = .ok (.ishr, 1) := by decide +kernel
theorem dL_law_182 : decode cL_law 182 = .ok (.iconst 4, 1) := by decide +kernel
theorem dL_law_183 : decode cL_law 183 = .ok (.invokestatic 126, 3) := by decide +kernel
theorem dL_law_186 : decode cL_law 186 = .ok (.iload 5, 2) := by decide +kernel
theorem dL_law_188 : decode cL_law 188 = .ok (.bipush 10, 2) := by decide +kernel
theorem dL_law_190 : decode cL_law 190 = .ok (.ishr, 1) := by decide +kernel
theorem dL_law_191 : decode cL_law 191 = .ok (.bipush 9, 2) := by decide +kernel
theorem dL_law_193 : decode cL_law 193 = .ok (.invokestatic 126, 3) := by decide +kernel
theorem dL_law_196 : decode cL_law 196 = .ok (.invokevirtual 139, 3) := by decide +kernel
theorem dL_law_199 : decode cL_law 199 = .ok (.ifCond .ge 75, 3) := by decide +kernel
theorem dL_law_202 : decode cL_law 202 = .ok (.iconst 0, 1) := by decide +kernel
theorem dL_law_203 : decode cL_law 203 = .ok (.ireturn, 1) := by decide +kernel
theorem dL_law_204 : decode cL_law 204 = .ok (.aload_n 2, 1) := by decide +kernel
theorem dL_law_205 : decode cL_law 205 = .ok (.invokevirtual 64, 3) := by decide +kernel
theorem dL_law_208 : decode cL_law 208 = .ok (.ifCond .le 66, 3) := by decide +kernel
theorem dL_law_211 : decode cL_law 211 = .ok (.aload_n 2, 1) := by decide +kernel
theorem dL_law_212 : decode cL_law 212 = .ok (.iload 5, 2) := by decide +kernel
theorem dL_law_214 : decode cL_law 214 = .ok (.bipush 8, 2) := by decide +kernel
theorem dL_law_216 : decode cL_law 216 = .ok (.ishr, 1) := by decide +kernel
theorem dL_law_217 : decode cL_law 217 = .ok (.aload_n 2, 1) := by decide +kernel
theorem dL_law_218 : decode cL_law 218 = .ok (.invokevirtual 64, 3) := by decide +kernel
theorem dL_law_221 : decode cL_law 221 = .ok (.invokestatic 126, 3) := by decide +kernel
theorem dL_law_224 : decode cL_law 224 = .ok (.iload 6, 2) := by decide +kernel
theorem dL_law_226 : decode cL_law 226 = .ok (.invokevirtual 142, 3) := by decide +kernel
theorem dL_law_229 : decode cL_law 229 = .ok (.ifCond .ge 45, 3) := by decide +kernel
theorem dL_law_232 : decode cL_law 232 = .ok (.iconst 0, 1) := by decide +kernel
theorem dL_law_233 : decode cL_law 233 = .ok (.ireturn, 1) := by decide +kernel
theorem dL_law_234 : decode cL_law 234 = .ok (.aload_n 2, 1) := by decide +kernel
theorem dL_law_235 : decode cL_law 235 = .ok (.invokevirtual 64, 3) := by decide +kernel
theorem dL_law_238 : decode cL_law 238 = .ok (.bipush 9, 2) := by decide +kernel
theorem dL_law_240 : decode cL_law 240 = .ok (.if_icmp .ne 17, 3) := by decide +kernel
theorem dL_law_243 : decode cL_law 243 = .ok (.aload_n 2, 1) := by decide +kernel
theorem dL_law_244 : decode cL_law 244 = .ok (.iload 6, 2) := by decide +kernel
theorem dL_law_246 : decode cL_law 246 = .ok (.invokestatic 48, 3) := by decide +kernel
theorem dL_law_249 : decode cL_law 249 = .ok (.bipush (-2), 2) := by decide +kernel
theorem dL_law_251 : decode cL_law 251 = .ok (.if_icmp .eq 23, 3) := by decide +kernel
theorem dL_law_254 : decode cL_law 254 = .ok (.goto 18, 3) := by decide +kernel
theorem dL_law_257 : decode cL_law 257 = .ok (.aload_n 2, 1) := by decide +kernel
theorem dL_law_258 : decode cL_law 258 = .ok (.iload 6, 2) := by decide +kernel
theorem dL_law_260 : decode cL_law 260 = .ok (.invokestatic 48, 3) := by decide +kernel
theorem dL_law_263 : decode cL_law 263 = .ok (.aload_n 2, 1) := by decide +kernel
theorem dL_law_264 : decode cL_law 264 = .ok (.invokevirtual 64, 3) := by decide +kernel
theorem dL_law_267 : decode cL_law 267 = .ok (.iconst 1, 1) := by decide +kernel
theorem dL_law_268 : decode cL_law 268 = .ok (.isub, 1) := by decide +kernel
theorem dL_law_269 : decode cL_law 269 = .ok (.if_icmp .eq 5, 3) := by decide +kernel
theorem dL_law_272 : decode cL_law 272 = .ok (.iconst 0, 1) := by decide +kernel
theorem dL_law_273 : decode cL_law 273 = .ok (.ireturn, 1) := by decide +kernel
theorem dL_law_274 : decode cL_law 274 = .ok (.aload_n 2, 1) := by decide +kernel
theorem dL_law_275 : decode cL_law 275 = .ok (.iload_n 1, 1) := by decide +kernel
theorem dL_law_276 : decode cL_law 276 = .ok (.aload_n 3, 1) := by decide +kernel
theorem dL_law_277 : decode cL_law 277 = .ok (.invokestatic 145, 3) := by decide +kernel
theorem dL_law_280 : decode cL_law 280 = .ok (.ifCond .ne 5, 3) := by decide +kernel
theorem dL_law_283 : decode cL_law 283 = .ok (.iconst 0, 1) := by decide +kernel
theorem dL_law_284 : decode cL_law 284 = .ok (.ireturn, 1) := by decide +kernel
theorem dL_law_285 : decode cL_law 285 = .ok (.iinc 4 1, 3) := by decide +kernel
theorem dL_law_288 : decode cL_law 288 = .ok (.goto (-202), 3) := by decide +kernel
theorem dL_law_291 : decode cL_law 291 = .ok (.aload_n 0, 1) := by decide +kernel
theorem dL_law_292 : decode cL_law 292 = .ok (.bipush 15, 2) := by decide +kernel
theorem dL_law_294 : decode cL_law 294 = .ok (.invokestatic 122, 3) := by decide +kernel
theorem dL_law_297 : decode cL_law 297 = .ok (.iload_n 1, 1) := by decide +kernel
theorem dL_law_298 : decode cL_law 298 = .ok (.iconst 4, 1) := by decide +kernel
theorem dL_law_299 : decode cL_law 299 = .ok (.if_icmp .le 7, 3) := by decide +kernel
theorem dL_law_302 : decode cL_law 302 = .ok (.iconst 3, 1) := by decide +kernel
theorem dL_law_303 : decode cL_law 303 = .ok (.goto 4, 3) := by decide +kernel
theorem dL_law_306 : decode cL_law 306 = .ok (.iconst 4, 1) := by decide +kernel
theorem dL_law_307 : decode cL_law 307 = .ok (.invokestatic 126, 3) := by decide +kernel
theorem dL_law_310 : decode cL_law 310 = .ok (.istore 4, 2) := by decide +kernel
theorem dL_law_312 : decode cL_law 312 = .ok (.aload_n 2, 1) := by decide +kernel
theorem dL_law_313 : decode cL_law 313 = .ok (.iload_n 1, 1) := by decide +kernel
theorem dL_law_314 : decode cL_law 314 = .ok (.iload 4, 2) := by decide +kernel
theorem dL_law_316 : decode cL_law 316 = .ok (.invokestatic 149, 3) := by decide +kernel
theorem dL_law_319 : decode cL_law 319 = .ok (.ifCond .eq 38, 3) := by decide +kernel
theorem dL_law_322 : decode cL_law 322 = .ok (.aload_n 2, 1) := by decide +kernel
theorem dL_law_323 : decode cL_law 323 = .ok (.iload 4, 2) := by decide +kernel
theorem dL_law_325 : decode cL_law 325 = .ok (.aload_n 0, 1) := by decide +kernel
theorem dL_law_326 : decode cL_law 326 = .ok (.bipush 16, 2) := by decide +kernel
theorem dL_law_328 : decode cL_law 328 = .ok (.invokestatic 122, 3) := by decide +kernel
theorem dL_law_331 : decode cL_law 331 = .ok (.bipush 60, 2) := by decide +kernel
theorem dL_law_333 : decode cL_law 333 = .ok (.invokestatic 126, 3) := by decide +kernel
theorem dL_law_336 : decode cL_law 336 = .ok (.invokestatic 153, 3) := by decide +kernel
theorem dL_law_339 : decode cL_law 339 = .ok (.ifCond .eq 18, 3) := by decide +kernel
theorem dL_law_342 : decode cL_law 342 = .ok (.aload_n 2, 1) := by decide +kernel
theorem dL_law_343 : decode cL_law 343 = .ok (.invokestatic 156, 3) := by decide +kernel
theorem dL_law_346 : decode cL_law 346 = .ok (.ifCond .eq 11, 3) := by decide +kernel
theorem dL_law_349 : decode cL_law 349 = .ok (.aload_n 2, 1) := by decide +kernel
theorem dL_law_350 : decode cL_law 350 = .ok (.iload_n 1, 1) := by decide +kernel
theorem dL_law_351 : decode cL_law 351 = .ok (.invokestatic 135, 3) := by decide +kernel
theorem dL_law_354 : decode cL_law 354 = .ok (.ifCond .ne 5, 3) := by decide +kernel
theorem dL_law_357 : decode cL_law 357 = .ok (.iconst 0, 1) := by decide +kernel
theorem dL_law_358 : decode cL_law 358 = .ok (.ireturn, 1) := by decide +kernel
theorem dL_law_359 : decode cL_law 359 = .ok (.aload_n 2, 1) := by decide +kernel
theorem dL_law_360 : decode cL_law 360 = .ok (.invokevirtual 64, 3) := by decide +kernel
theorem dL_law_363 : decode cL_law 363 = .ok (.iload_n 1, 1) := by decide +kernel
theorem dL_law_364 : decode cL_law 364 = .ok (.if_icmp .ge 27, 3) := by decide +kernel
theorem dL_law_367 : decode cL_law 367 = .ok (.aload_n 2, 1) := by decide +kernel
theorem dL_law_368 : decode cL_law 368 = .ok (.aload_n 0, 1) := by decide +kernel
theorem dL_law_369 : decode cL_law 369 = .ok (.bipush 17, 2) := by decide +kernel
theorem dL_law_371 : decode cL_law 371 = .ok (.invokestatic 122, 3) := by decide +kernel
theorem dL_law_374 : decode cL_law 374 = .ok (.aload_n 2, 1) := by decide +kernel
theorem dL_law_375 : decode cL_law 375 = .ok (.invokevirtual 64, 3) := by decide +kernel
theorem dL_law_378 : decode cL_law 378 = .ok (.ishr, 1) := by decide +kernel
theorem dL_law_379 : decode cL_law 379 = .ok (.iload_n 1, 1) := by decide +kernel
theorem dL_law_380 : decode cL_law 380 = .ok (.invokestatic 126, 3) := by decide +kernel
theorem dL_law_383 : decode cL_law 383 = .ok (.invokestatic 48, 3) := by decide +kernel
theorem dL_law_386 : decode cL_law 386 = .ok (.ifCond .ge (-27), 3) := by decide +kernel
theorem dL_law_389 : decode cL_law 389 = .ok (.iconst 0, 1) := by decide +kernel
theorem dL_law_390 : decode cL_law 390 = .ok (.ireturn, 1) := by decide +kernel
theorem dL_law_391 : decode cL_law 391 = .ok (.aload_n 2, 1) := by decide +kernel
theorem dL_law_392 : decode cL_law 392 = .ok (.invokevirtual 64, 3) := by decide +kernel
theorem dL_law_395 : decode cL_law 395 = .ok (.iload_n 1, 1) := by decide +kernel
theorem dL_law_396 : decode cL_law 396 = .ok (.if_icmp .ne 41, 3) := by decide +kernel
theorem dL_law_399 : decode cL_law 399 = .ok (.aload_n 2, 1) := by decide +kernel
theorem dL_law_400 : decode cL_law 400 = .ok (.invokestatic 67, 3) := by decide +kernel
theorem dL_law_403 : decode cL_law 403 = .ok (.ifCond .lt 38, 3) := by decide +kernel
theorem dL_law_406 : decode cL_law 406 = .ok (.aload_n 2, 1) := by decide +kernel
theorem dL_law_407 : decode cL_law 407 = .ok (.invokevirtual 160, 3) := by decide +kernel
theorem dL_law_410 : decode cL_law 410 = .ok (.ifCond .eq 31, 3) := by decide +kernel
theorem dL_law_413 : decode cL_law 413 = .ok (.aload_n 2, 1) := by decide +kernel
theorem dL_law_414 : decode cL_law 414 = .ok (.invokestatic 67, 3) := by decide +kernel
theorem dL_law_417 : decode cL_law 417 = .ok (.iload_n 1, 1) := by decide +kernel
theorem dL_law_418 : decode cL_law 418 = .ok (.if_icmp .ne 23, 3) := by decide +kernel
theorem dL_law_421 : decode cL_law 421 = .ok (.aload_n 2, 1) := by decide +kernel
theorem dL_law_422 : decode cL_law 422 = .ok (.invokevirtual 160, 3) := by decide +kernel
theorem dL_law_425 : decode cL_law 425 = .ok (.ifCond .eq 16, 3) := by decide +kernel
theorem dL_law_428 : decode cL_law 428 = .ok (.aload_n 2, 1) := by decide +kernel
theorem dL_law_429 : decode cL_law 429 = .ok (.iload_n 1, 1) := by decide +kernel
theorem dL_law_430 : decode cL_law 430 = .ok (.aload_n 3, 1) := by decide +kernel
theorem dL_law_431 : decode cL_law 431 = .ok (.invokestatic 145, 3) := by decide +kernel
theorem dL_law_434 : decode cL_law 434 = .ok (.ifCond .eq 7, 3) := by decide +kernel
theorem dL_law_437 : decode cL_law 437 = .ok (.iconst 1, 1) := by decide +kernel
theorem dL_law_438 : decode cL_law 438 = .ok (.goto 4, 3) := by decide +kernel
theorem dL_law_441 : decode cL_law 441 = .ok (.iconst 0, 1) := by decide +kernel
theorem dL_law_442 : decode cL_law 442 = .ok (.ireturn, 1) := by decide +kernel
