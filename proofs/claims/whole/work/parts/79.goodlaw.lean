set_option maxRecDepth 20000 in
theorem ggL_law_X4_init : GoodIn wsL_law wsX4_init := goodIn_r _ [9, 10, 11, 12, 13, 14, 15, 16, 17, 18, 19, 20, 21, 22, 23, 24, 25, 26, 27, 28, 29, 30, 31, 32, 33, 34, 35, 36, 37, 38, 39, 40, 41, 42, 43, 44, 45, 46, 47, 48, 49, 50, 51, 52, 53, 54, 55, 56, 57, 58, 59, 60, 61, 62, 63, 64, 65, 66, 67, 68, 69, 70, 71, 463, 464, 465, 466, 467, 468, 469, 470, 471, 472, 473, 499, 500, 501, 502, 503, 504, 505, 506, 507, 508, 509, 510, 511, 512, 513, 514, 515, 516] (by decide +kernel) (by decide +kernel)
set_option maxRecDepth 20000 in
theorem gL_law_X4_init : GoodIn wsL_law (wsX4_init) := ggL_law_X4_init
set_option maxRecDepth 20000 in
theorem ggL_law_X5_init : GoodIn wsL_law wsX5_init := goodIn_r _ [74, 75, 11, 12, 15, 76, 77, 78, 79, 80, 81, 82, 83, 84, 85, 86, 56, 87, 88, 89, 90, 91, 92, 93, 474, 475, 476, 477, 478, 479, 480, 481, 482, 483, 484, 485, 486, 487, 488, 489, 490, 491, 492, 493, 494, 495, 496, 497, 498] (by decide +kernel) (by decide +kernel)
set_option maxRecDepth 20000 in
theorem gL_law_X5_init : GoodIn wsL_law (wsX5_init) := ggL_law_X5_init
set_option maxRecDepth 20000 in
theorem ggL_law_L_trader : GoodIn wsL_law wsL_trader := goodIn_ca (goodIn_r _ [97, 98, 99, 100, 101, 2, 102, 103, 104, 13, 463, 464, 465, 466, 467, 468, 469, 470, 471, 472, 473] (by decide +kernel) (by decide +kernel)) (goodIn_sub (fun _ h => List.mem_append_left _ (List.mem_append_left _ (List.mem_append_right _ h))) (by decide +kernel))
set_option maxRecDepth 20000 in
theorem gL_law_L_trader : GoodIn wsL_law (va_wsS RL 49 yL_trader wsL_trader) := goodIn_app (goodIn_of _ (by decide +kernel)) ggL_law_L_trader
set_option maxRecDepth 20000 in
theorem ggL_law_X5_trader : GoodIn wsL_law wsX5_trader := goodIn_r _ [108, 109, 110, 78, 79, 474, 475, 476, 477, 478, 479, 480, 481, 482, 483, 484, 485, 486, 487, 488, 489, 490, 491, 492, 493, 494, 495, 496, 497, 498] (by decide +kernel) (by decide +kernel)
set_option maxRecDepth 20000 in
theorem gL_law_X5_trader : GoodIn wsL_law (wsV RL 54 RX5 yX5_trader wsX5_trader) := goodIn_app (goodIn_of _ (by decide +kernel)) ggL_law_X5_trader
set_option maxRecDepth 20000 in
theorem ggL_law_X5_thrown : GoodIn wsL_law wsX5_thrown := goodIn_r _ [114, 110, 474, 475, 476, 477, 478, 479, 480, 481, 482, 483, 484, 485, 486, 487, 488, 489, 490, 491, 492, 493, 494, 495, 496, 497, 498] (by decide +kernel) (by decide +kernel)
set_option maxRecDepth 20000 in
theorem gL_law_X5_thrown : GoodIn wsL_law (wsV RL 55 RX5 yX5_thrown wsX5_thrown) := goodIn_app (goodIn_of _ (by decide +kernel)) ggL_law_X5_thrown
set_option maxRecDepth 20000 in
theorem ggL_law_L_right : GoodIn wsL_law wsL_right := goodIn_ca (goodIn_ca (goodIn_r _ [117, 118, 98, 119, 120, 121, 2, 122, 123, 124, 103, 104, 24, 125, 126, 127, 128, 13, 129, 130, 131, 132, 133, 134, 135, 136, 137, 138, 139, 23, 140, 141, 45, 44, 46, 47, 48, 49, 463, 464, 465, 466, 467, 468, 469, 470, 471, 472, 473, 499, 500, 501, 502, 503, 504] (by decide +kernel) (by decide +kernel)) (goodIn_sub (fun _ h => List.mem_append_left _ (List.mem_append_right _ h)) (by decide +kernel))) (goodIn_sub (fun _ h => List.mem_append_left _ (List.mem_append_left _ (List.mem_append_right _ h))) (by decide +kernel))
set_option maxRecDepth 20000 in
theorem gL_law_L_right : GoodIn wsL_law (va_wsS RL 58 yL_right wsL_right) := goodIn_app (goodIn_of _ (by decide +kernel)) ggL_law_L_right
set_option maxRecDepth 20000 in
theorem ggL_law_X5_right : GoodIn wsL_law wsX5_right := goodIn_r _ [145, 146, 110, 80, 81, 82, 83, 84, 147, 148, 149, 5, 150, 109, 151, 152, 153, 154, 155, 156, 157, 158, 159, 160, 474, 475, 476, 477, 478, 479, 480, 481, 482, 483, 484, 485, 486, 487, 488, 489, 490, 491, 492, 493, 494, 495, 496, 497, 498] (by decide +kernel) (by decide +kernel)
set_option maxRecDepth 20000 in
theorem gL_law_X5_right : GoodIn wsL_law (wsV RL 61 RX5 yX5_right wsX5_right) := goodIn_app (goodIn_of _ (by decide +kernel)) ggL_law_X5_right
set_option maxRecDepth 20000 in
theorem ggL_law_X4_forbid : GoodIn wsL_law wsX4_forbid := goodIn_r _ [164, 17, 125, 126, 127, 2, 128, 13, 129, 130, 131, 165, 166, 167, 168, 169, 170, 171, 172, 173, 174, 463, 464, 465, 466, 467, 468, 469, 470, 471, 472, 473] (by decide +kernel) (by decide +kernel)
set_option maxRecDepth 20000 in
theorem gL_law_X4_forbid : GoodIn wsL_law (wsV RL 62 RX4 yX4_forbid wsX4_forbid) := goodIn_app (goodIn_of _ (by decide +kernel)) ggL_law_X4_forbid
set_option maxRecDepth 20000 in
theorem ggL_law_X5_forbid : GoodIn wsL_law wsX5_forbid := goodIn_r _ [178, 110, 77, 147, 148, 149, 5, 150, 109, 151, 152, 153, 154, 155, 156, 179, 180, 181, 182, 474, 475, 476, 477, 478, 479, 480, 481, 482, 483, 484, 485, 486, 487, 488, 489, 490, 491, 492, 493, 494, 495, 496, 497, 498] (by decide +kernel) (by decide +kernel)
set_option maxRecDepth 20000 in
theorem gL_law_X5_forbid : GoodIn wsL_law (wsV RL 66 RX5 yX5_forbid wsX5_forbid) := goodIn_app (goodIn_of _ (by decide +kernel)) ggL_law_X5_forbid
set_option maxRecDepth 20000 in
theorem ggL_law_L_group : GoodIn wsL_law wsL_group := goodIn_ca (goodIn_r _ [185, 118, 186, 187, 188, 2, 189, 123, 124, 16, 190, 191, 192, 193, 125, 126, 127, 128, 13, 194, 195, 196, 197, 172, 173, 174, 198, 199, 200, 201, 202, 203, 204, 205, 169, 170, 171, 206, 207, 208, 209, 210, 211, 212, 463, 464, 465, 466, 467, 468, 469, 470, 471, 472, 473] (by decide +kernel) (by decide +kernel)) (goodIn_sub (fun _ h => List.mem_append_left _ (List.mem_append_right _ h)) (by decide +kernel))
set_option maxRecDepth 20000 in
theorem gL_law_L_group : GoodIn wsL_law (va_wsS RL 67 yL_group wsL_group) := goodIn_app (goodIn_of _ (by decide +kernel)) ggL_law_L_group
set_option maxRecDepth 20000 in
theorem ggL_law_X5_group : GoodIn wsL_law wsX5_group := goodIn_r _ [216, 110, 76, 217, 218, 219, 5, 220, 147, 148, 149, 150, 109, 221, 222, 223, 224, 225, 226, 227, 228, 229, 230, 231, 232, 233, 234, 235, 79, 236, 237, 238, 239, 240, 89, 90, 91, 474, 475, 476, 477, 478, 479, 480, 481, 482, 483, 484, 485, 486, 487, 488, 489, 490, 491, 492, 493, 494, 495, 496, 497, 498] (by decide +kernel) (by decide +kernel)
set_option maxRecDepth 20000 in
theorem gL_law_X5_group : GoodIn wsL_law (wsV RL 70 RX5 yX5_group wsX5_group) := goodIn_app (goodIn_of _ (by decide +kernel)) ggL_law_X5_group
set_option maxRecDepth 20000 in
theorem ggL_law_L_deputy : GoodIn wsL_law wsL_deputy := goodIn_ca (goodIn_r _ [243, 118, 244, 245, 246, 2, 247, 123, 124, 18, 19, 190, 191, 192, 193, 125, 126, 127, 128, 13, 248, 249, 250, 251, 463, 464, 465, 466, 467, 468, 469, 470, 471, 472, 473] (by decide +kernel) (by decide +kernel)) (goodIn_sub (fun _ h => List.mem_append_left _ (List.mem_append_right _ h)) (by decide +kernel))
set_option maxRecDepth 20000 in
theorem gL_law_L_deputy : GoodIn wsL_law (va_wsS RL 71 yL_deputy wsL_deputy) := goodIn_app (goodIn_of _ (by decide +kernel)) ggL_law_L_deputy
set_option maxRecDepth 20000 in
theorem ggL_law_X5_deputy : GoodIn wsL_law wsX5_deputy := goodIn_r _ [255, 110, 78, 217, 218, 219, 5, 220, 147, 148, 149, 150, 109, 256, 257, 258, 259, 474, 475, 476, 477, 478, 479, 480, 481, 482, 483, 484, 485, 486, 487, 488, 489, 490, 491, 492, 493, 494, 495, 496, 497, 498] (by decide +kernel) (by decide +kernel)
set_option maxRecDepth 20000 in
theorem gL_law_X5_deputy : GoodIn wsL_law (wsV RL 73 RX5 yX5_deputy wsX5_deputy) := goodIn_app (goodIn_of _ (by decide +kernel)) ggL_law_X5_deputy
set_option maxRecDepth 20000 in
theorem ggL_law_L_mandate : GoodIn wsL_law wsL_mandate := goodIn_ca (goodIn_ca (goodIn_r _ [262, 118, 98, 263, 264, 265, 2, 266, 123, 124, 103, 104, 28, 190, 191, 192, 193, 125, 126, 127, 128, 13, 135, 136, 137, 138, 267, 27, 268, 269, 54, 53, 55, 57, 58, 463, 464, 465, 466, 467, 468, 469, 470, 471, 472, 473, 505, 506, 507, 508, 509] (by decide +kernel) (by decide +kernel)) (goodIn_sub (fun _ h => List.mem_append_left _ (List.mem_append_right _ h)) (by decide +kernel))) (goodIn_sub (fun _ h => List.mem_append_left _ (List.mem_append_left _ (List.mem_append_right _ h))) (by decide +kernel))
set_option maxRecDepth 20000 in
theorem gL_law_L_mandate : GoodIn wsL_law (va_wsS RL 74 yL_mandate wsL_mandate) := goodIn_app (goodIn_of _ (by decide +kernel)) ggL_law_L_mandate
set_option maxRecDepth 20000 in
theorem ggL_law_X5_mandate : GoodIn wsL_law wsX5_mandate := goodIn_r _ [273, 274, 110, 85, 86, 87, 88, 217, 218, 219, 5, 220, 147, 148, 149, 150, 109, 157, 158, 159, 160, 154, 155, 156, 474, 475, 476, 477, 478, 479, 480, 481, 482, 483, 484, 485, 486, 487, 488, 489, 490, 491, 492, 493, 494, 495, 496, 497, 498] (by decide +kernel) (by decide +kernel)
set_option maxRecDepth 20000 in
theorem gL_law_X5_mandate : GoodIn wsL_law (wsV RL 77 RX5 yX5_mandate wsX5_mandate) := goodIn_app (goodIn_of _ (by decide +kernel)) ggL_law_X5_mandate
set_option maxRecDepth 20000 in
theorem ggL_law_L_suspend : GoodIn wsL_law wsL_suspend := goodIn_ca (goodIn_ca (goodIn_r _ [277, 118, 98, 278, 279, 280, 2, 281, 123, 124, 103, 104, 32, 125, 126, 127, 128, 13, 135, 136, 137, 138, 282, 31, 283, 284, 63, 62, 64, 65, 463, 464, 465, 466, 467, 468, 469, 470, 471, 472, 473, 510, 511, 512, 513] (by decide +kernel) (by decide +kernel)) (goodIn_sub (fun _ h => List.mem_append_left _ (List.mem_append_right _ h)) (by decide +kernel))) (goodIn_sub (fun _ h => List.mem_append_left _ (List.mem_append_left _ (List.mem_append_right _ h))) (by decide +kernel))
set_option maxRecDepth 20000 in
theorem gL_law_L_suspend : GoodIn wsL_law (va_wsS RL 78 yL_suspend wsL_suspend) := goodIn_app (goodIn_of _ (by decide +kernel)) ggL_law_L_suspend
set_option maxRecDepth 20000 in
theorem ggL_law_X5_suspend : GoodIn wsL_law wsX5_suspend := goodIn_r _ [288, 240, 110, 89, 90, 91, 147, 148, 149, 5, 150, 109, 157, 158, 159, 160, 154, 155, 156, 474, 475, 476, 477, 478, 479, 480, 481, 482, 483, 484, 485, 486, 487, 488, 489, 490, 491, 492, 493, 494, 495, 496, 497, 498] (by decide +kernel) (by decide +kernel)
set_option maxRecDepth 20000 in
theorem gL_law_X5_suspend : GoodIn wsL_law (wsV RL 81 RX5 yX5_suspend wsX5_suspend) := goodIn_app (goodIn_of _ (by decide +kernel)) ggL_law_X5_suspend
set_option maxRecDepth 20000 in
theorem ggL_law_X4_end : GoodIn wsL_law wsX4_end := goodIn_r _ [292, 20, 125, 126, 127, 2, 128, 13, 135, 136, 137, 138, 463, 464, 465, 466, 467, 468, 469, 470, 471, 472, 473] (by decide +kernel) (by decide +kernel)
set_option maxRecDepth 20000 in
theorem gL_law_X4_end : GoodIn wsL_law (wsV RL 82 RX4 yX4_end wsX4_end) := goodIn_app (goodIn_of _ (by decide +kernel)) ggL_law_X4_end
set_option maxRecDepth 20000 in
theorem ggL_law_X5_end : GoodIn wsL_law wsX5_end := goodIn_r _ [296, 110, 79, 147, 148, 149, 5, 150, 109, 157, 158, 159, 160, 154, 155, 156, 474, 475, 476, 477, 478, 479, 480, 481, 482, 483, 484, 485, 486, 487, 488, 489, 490, 491, 492, 493, 494, 495, 496, 497, 498] (by decide +kernel) (by decide +kernel)
set_option maxRecDepth 20000 in
theorem gL_law_X5_end : GoodIn wsL_law (wsV RL 86 RX5 yX5_end wsX5_end) := goodIn_app (goodIn_of _ (by decide +kernel)) ggL_law_X5_end
set_option maxRecDepth 20000 in
theorem ggL_law_X4_may : GoodIn wsL_law wsX4_may := goodIn_r _ [300, 32, 125, 126, 127, 2, 128, 13, 129, 130, 131, 132, 133, 134, 135, 136, 137, 138, 301, 302, 303, 304, 20, 305, 31, 306, 307, 62, 63, 64, 65, 308, 309, 310, 311, 28, 312, 313, 314, 315, 172, 173, 174, 316, 317, 318, 319, 24, 320, 23, 321, 322, 44, 47, 46, 45, 323, 324, 325, 326, 48, 49, 198, 199, 200, 201, 16, 202, 203, 204, 205, 169, 170, 171, 165, 166, 167, 168, 17, 327, 328, 329, 330, 19, 331, 27, 332, 333, 53, 55, 57, 58, 54, 463, 464, 465, 466, 467, 468, 469, 470, 471, 472, 473, 510, 511, 512, 513, 499, 500, 501, 502, 503, 504, 505, 506, 507, 508, 509] (by decide +kernel) (by decide +kernel)
set_option maxRecDepth 20000 in
theorem gL_law_X4_may : GoodIn wsL_law (wsV RL 87 RX4 yX4_may wsX4_may) := goodIn_app (goodIn_of _ (by decide +kernel)) ggL_law_X4_may
set_option maxRecDepth 20000 in
theorem ggL_law_X5_may : GoodIn wsL_law wsX5_may := goodIn_r _ [337, 110, 338, 339, 340, 5, 341, 78, 274, 86, 88, 85, 87, 147, 148, 149, 150, 109, 151, 152, 153, 154, 155, 156, 157, 158, 159, 160, 232, 233, 234, 235, 79, 236, 237, 238, 239, 240, 89, 90, 91, 342, 343, 344, 345, 146, 81, 82, 83, 84, 80, 224, 225, 226, 227, 76, 228, 229, 230, 231, 179, 180, 181, 182, 77, 346, 347, 348, 349, 474, 475, 476, 477, 478, 479, 480, 481, 482, 483, 484, 485, 486, 487, 488, 489, 490, 491, 492, 493, 494, 495, 496, 497, 498] (by decide +kernel) (by decide +kernel)
set_option maxRecDepth 20000 in
theorem gL_law_X5_may : GoodIn wsL_law (wsV RL 91 RX5 yX5_may wsX5_may) := goodIn_app (goodIn_of _ (by decide +kernel)) ggL_law_X5_may
set_option maxRecDepth 20000 in
theorem ggL_law_X4_two : GoodIn wsL_law wsX4_two := goodIn_r _ [353, 14, 129, 130, 2, 131, 354, 355, 356, 357, 169, 170, 171, 172, 173, 174, 463, 464, 465, 466, 467, 468, 469, 470, 471, 472, 473] (by decide +kernel) (by decide +kernel)
set_option maxRecDepth 20000 in
theorem gL_law_X4_two : GoodIn wsL_law (wsV RL 92 RX4 yX4_two wsX4_two) := goodIn_app (goodIn_of _ (by decide +kernel)) ggL_law_X4_two
set_option maxRecDepth 20000 in
theorem ggL_law_X5_two : GoodIn wsL_law wsX5_two := goodIn_r _ [361, 110, 362, 151, 152, 5, 153, 154, 155, 156, 474, 475, 476, 477, 478, 479, 480, 481, 482, 483, 484, 485, 486, 487, 488, 489, 490, 491, 492, 493, 494, 495, 496, 497, 498] (by decide +kernel) (by decide +kernel)
set_option maxRecDepth 20000 in
theorem gL_law_X5_two : GoodIn wsL_law (wsV RL 96 RX5 yX5_two wsX5_two) := goodIn_app (goodIn_of _ (by decide +kernel)) ggL_law_X5_two
set_option maxRecDepth 20000 in
theorem ggL_law_X4_done : GoodIn wsL_law wsX4_done := goodIn_r _ [366, 18, 367, 298, 299, 2, 300, 32, 125, 126, 127, 128, 13, 129, 130, 131, 132, 133, 134, 135, 136, 137, 138, 301, 302, 303, 304, 20, 305, 31, 306, 307, 62, 63, 64, 65, 308, 309, 310, 311, 28, 312, 313, 314, 315, 172, 173, 174, 316, 317, 318, 319, 24, 320, 23, 321, 322, 44, 47, 46, 45, 323, 324, 325, 326, 48, 49, 198, 199, 200, 201, 16, 202, 203, 204, 205, 169, 170, 171, 165, 166, 167, 168, 17, 327, 328, 329, 330, 19, 331, 27, 332, 333, 53, 55, 57, 58, 54, 354, 355, 356, 357, 14, 463, 464, 465, 466, 467, 468, 469, 470, 471, 472, 473, 510, 511, 512, 513, 499, 500, 501, 502, 503, 504, 505, 506, 507, 508, 509] (by decide +kernel) (by decide +kernel)
set_option maxRecDepth 20000 in
theorem gL_law_X4_done : GoodIn wsL_law (wsV RL 97 RX4 yX4_done wsX4_done) := goodIn_app (goodIn_of _ (by decide +kernel)) ggL_law_X4_done
set_option maxRecDepth 20000 in
theorem ggL_law_X5_done : GoodIn wsL_law wsX5_done := goodIn_r _ [371, 110, 362, 78, 338, 339, 340, 5, 341, 274, 86, 88, 85, 87, 147, 148, 149, 150, 109, 151, 152, 153, 154, 155, 156, 157, 158, 159, 160, 232, 233, 234, 235, 79, 236, 237, 238, 239, 240, 89, 90, 91, 342, 343, 344, 345, 146, 81, 82, 83, 84, 80, 224, 225, 226, 227, 76, 228, 229, 230, 231, 179, 180, 181, 182, 77, 346, 347, 348, 349, 474, 475, 476, 477, 478, 479, 480, 481, 482, 483, 484, 485, 486, 487, 488, 489, 490, 491, 492, 493, 494, 495, 496, 497, 498] (by decide +kernel) (by decide +kernel)
set_option maxRecDepth 20000 in
theorem gL_law_X5_done : GoodIn wsL_law (wsV RL 100 RX5 yX5_done wsX5_done) := goodIn_app (goodIn_of _ (by decide +kernel)) ggL_law_X5_done
set_option maxRecDepth 20000 in
theorem ggL_law_L_letter : GoodIn wsL_law wsL_letter := goodIn_ca (goodIn_ca (goodIn_r _ [374, 118, 375, 376, 377, 378, 2, 379, 123, 124, 380, 381, 382, 383, 384, 385, 386, 387, 388] (by decide +kernel) (by decide +kernel)) (goodIn_sub (fun _ h => List.mem_append_left _ (List.mem_append_right _ h)) (by decide +kernel))) (goodIn_sub (fun _ h => List.mem_append_right _ h) (by decide +kernel))
set_option maxRecDepth 20000 in
theorem gL_law_L_letter : GoodIn wsL_law (va_wsS RL 101 yL_letter wsL_letter) := goodIn_app (goodIn_of _ (by decide +kernel)) ggL_law_L_letter
set_option maxRecDepth 20000 in
theorem ggL_law_X5_letter : GoodIn wsL_law wsX5_letter := goodIn_r _ [392, 393, 110, 154, 155, 5, 156, 394, 395, 396, 397, 398, 399, 474, 475, 476, 477, 478, 479, 480, 481, 482, 483, 484, 485, 486, 487, 488, 489, 490, 491, 492, 493, 494, 495, 496, 497, 498] (by decide +kernel) (by decide +kernel)
set_option maxRecDepth 20000 in
theorem gL_law_X5_letter : GoodIn wsL_law (wsV RL 103 RX5 yX5_letter wsX5_letter) := goodIn_app (goodIn_of _ (by decide +kernel)) ggL_law_X5_letter
set_option maxRecDepth 20000 in
theorem ggL_law_X4_check : GoodIn wsL_law wsX4_check := goodIn_r _ [403, 36, 404, 35, 405, 406, 70, 71, 407, 69, 408, 409, 410, 411, 387, 2, 388, 383, 384, 385, 463, 464, 465, 466, 467, 468, 469, 470, 471, 472, 473, 514, 515, 516] (by decide +kernel) (by decide +kernel)
set_option maxRecDepth 20000 in
theorem gL_law_X4_check : GoodIn wsL_law (wsV RL 104 RX4 yX4_check wsX4_check) := goodIn_app (goodIn_of _ (by decide +kernel)) ggL_law_X4_check
set_option maxRecDepth 20000 in
theorem ggL_law_X5_check : GoodIn wsL_law wsX5_check := goodIn_r _ [415, 110, 416, 92, 417, 93, 154, 155, 5, 156, 397, 398, 399, 474, 475, 476, 477, 478, 479, 480, 481, 482, 483, 484, 485, 486, 487, 488, 489, 490, 491, 492, 493, 494, 495, 496, 497, 498] (by decide +kernel) (by decide +kernel)
set_option maxRecDepth 20000 in
theorem gL_law_X5_check : GoodIn wsL_law (wsV RL 108 RX5 yX5_check wsX5_check) := goodIn_app (goodIn_of _ (by decide +kernel)) ggL_law_X5_check
set_option maxRecDepth 20000 in
theorem ggL_law_X4_certified : GoodIn wsL_law wsX4_certified := goodIn_r _ [421, 36, 463, 464, 465, 466, 467, 468, 469, 470, 471, 472, 473, 514, 515, 516] (by decide +kernel) (by decide +kernel)
set_option maxRecDepth 20000 in
theorem gL_law_X4_certified : GoodIn wsL_law (wsV RL 109 RX4 yX4_certified wsX4_certified) := goodIn_app (goodIn_of _ (by decide +kernel)) ggL_law_X4_certified
set_option maxRecDepth 20000 in
theorem ggL_law_X5_certified : GoodIn wsL_law wsX5_certified := goodIn_r _ [425, 110, 93, 474, 475, 476, 477, 478, 479, 480, 481, 482, 483, 484, 485, 486, 487, 488, 489, 490, 491, 492, 493, 494, 495, 496, 497, 498] (by decide +kernel) (by decide +kernel)
set_option maxRecDepth 20000 in
theorem gL_law_X5_certified : GoodIn wsL_law (wsV RL 112 RX5 yX5_certified wsX5_certified) := goodIn_app (goodIn_of _ (by decide +kernel)) ggL_law_X5_certified
set_option maxRecDepth 20000 in
theorem ggL_law_L_look : GoodIn wsL_law wsL_look := goodIn_ca (goodIn_ca (goodIn_r _ [428, 375, 118, 429, 430, 431, 2, 432, 380, 381, 123, 124, 32, 18, 19, 28, 125, 126, 127, 128, 13, 135, 136, 137, 138, 301, 302, 303, 304, 20, 305, 31, 306, 307, 62, 63, 64, 65, 312, 313, 314, 315, 172, 173, 174, 198, 199, 200, 201, 16, 202, 203, 204, 205, 169, 170, 171, 206, 207, 208, 209, 210, 211, 212, 433, 434, 435, 436, 24, 17, 437, 23, 438, 439, 44, 45, 46, 323, 324, 325, 326, 48, 49, 440, 27, 441, 442, 53, 55, 58, 463, 464, 465, 466, 467, 468, 469, 470, 471, 472, 473, 510, 511, 512, 513, 499, 500, 501, 502, 503, 504, 505, 506, 507, 508, 509] (by decide +kernel) (by decide +kernel)) (goodIn_sub (fun _ h => List.mem_append_right _ h) (by decide +kernel))) (goodIn_sub (fun _ h => List.mem_append_left _ (List.mem_append_right _ h)) (by decide +kernel))
set_option maxRecDepth 20000 in
theorem gL_law_L_look : GoodIn wsL_law (va_wsS RL 113 yL_look wsL_look) := goodIn_app (goodIn_of _ (by decide +kernel)) ggL_law_L_look
set_option maxRecDepth 20000 in
theorem ggL_law_X5_look : GoodIn wsL_law wsX5_look := goodIn_r _ [446, 110, 78, 147, 148, 149, 5, 150, 109, 154, 155, 156, 157, 158, 159, 160, 232, 233, 234, 235, 79, 236, 237, 238, 239, 240, 89, 90, 91, 224, 225, 226, 227, 76, 228, 229, 230, 231, 221, 222, 223, 447, 448, 449, 450, 342, 343, 344, 345, 146, 81, 82, 83, 84, 80, 179, 180, 181, 182, 77, 256, 257, 258, 259, 451, 452, 453, 454, 274, 86, 88, 474, 475, 476, 477, 478, 479, 480, 481, 482, 483, 484, 485, 486, 487, 488, 489, 490, 491, 492, 493, 494, 495, 496, 497, 498] (by decide +kernel) (by decide +kernel)
set_option maxRecDepth 20000 in
theorem gL_law_X5_look : GoodIn wsL_law (wsV RL 116 RX5 yX5_look wsX5_look) := goodIn_app (goodIn_of _ (by decide +kernel)) ggL_law_X5_look
set_option maxRecDepth 20000 in
theorem ggL_law_X4_count : GoodIn wsL_law wsX4_count := goodIn_r _ [458, 13, 24, 28, 32, 14, 36, 463, 464, 465, 466, 467, 468, 469, 470, 471, 472, 473, 499, 500, 501, 502, 503, 504, 505, 506, 507, 508, 509, 510, 511, 512, 513, 514, 515, 516] (by decide +kernel) (by decide +kernel)
set_option maxRecDepth 20000 in
theorem gL_law_X4_count : GoodIn wsL_law (wsV RL 117 RX4 yX4_count wsX4_count) := goodIn_app (goodIn_of _ (by decide +kernel)) ggL_law_X4_count
set_option maxRecDepth 20000 in
theorem ggL_law_X5_count : GoodIn wsL_law wsX5_count := goodIn_r _ [462, 110, 109, 146, 274, 240, 362, 416, 474, 475, 476, 477, 478, 479, 480, 481, 482, 483, 484, 485, 486, 487, 488, 489, 490, 491, 492, 493, 494, 495, 496, 497, 498] (by decide +kernel) (by decide +kernel)
set_option maxRecDepth 20000 in
theorem gL_law_X5_count : GoodIn wsL_law (wsV RL 120 RX5 yX5_count wsX5_count) := goodIn_app (goodIn_of _ (by decide +kernel)) ggL_law_X5_count
