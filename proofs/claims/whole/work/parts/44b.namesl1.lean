set_option maxRecDepth 20000 in
theorem ggL_law_L_cell : GoodIn wsL_law wsL_cell := goodIn_r _ [10] (by decide +kernel) (by decide +kernel)
set_option maxRecDepth 20000 in
theorem gL_law_L_cell : GoodIn wsL_law (va_wsS RL 53 yL_cell wsL_cell) := goodIn_app (goodIn_of _ (by decide +kernel)) ggL_law_L_cell
set_option maxRecDepth 20000 in
theorem ggL_law_X5_init : GoodIn wsL_law wsX5_init := goodIn_r _ [13, 14, 15, 16, 17, 18, 19, 20, 21, 22, 23, 24, 25, 26, 27, 28, 29, 30, 31, 32, 33, 34, 35, 36, 37, 38, 39, 40, 41, 42, 43, 44, 45, 46, 47, 48, 49, 50, 51, 52, 53, 54, 55, 56, 57, 58, 59, 60, 61, 62, 63, 64, 65, 66, 67, 68, 69, 70, 71, 72, 73, 74, 75, 76, 77, 78, 79, 80, 81, 82, 83, 84, 562, 563, 564, 565, 566, 567, 568, 529, 530, 531, 532, 533, 534, 569, 570, 571, 572, 573, 574, 575, 576, 577, 578, 579, 580] (by decide +kernel) (by decide +kernel)
set_option maxRecDepth 20000 in
theorem gL_law_X5_init : GoodIn wsL_law (wsX5_init) := ggL_law_X5_init
set_option maxRecDepth 20000 in
theorem ggL_law_X6_init : GoodIn wsL_law wsX6_init := goodIn_r _ [87, 88, 15, 16, 50, 89, 90, 91, 92, 93, 94, 95, 96, 97, 98, 99, 100, 101, 102, 103, 104, 105, 106, 107, 108, 109, 535, 536, 537, 538, 539, 540, 541, 542, 543, 544, 545, 546, 547, 548, 549, 550, 551, 552, 553, 554, 555, 556, 557, 558, 559, 560, 561] (by decide +kernel) (by decide +kernel)
set_option maxRecDepth 20000 in
theorem gL_law_X6_init : GoodIn wsL_law (wsX6_init) := ggL_law_X6_init
set_option maxRecDepth 20000 in
theorem ggL_law_L_wall : GoodIn wsL_law wsL_wall := goodIn_ca (goodIn_r _ [112, 113, 114, 115, 116, 2, 117, 118, 119, 27, 120, 121, 122, 123, 124, 125, 126, 19, 127, 49, 128, 129, 130, 131, 132, 133, 134, 54, 135, 136, 137, 138, 139, 140, 141, 142, 56, 55, 143, 25, 22, 26, 144, 145, 146, 147, 148, 529, 530, 531, 532, 533, 534, 562, 563, 564, 565, 566, 567, 568] (by decide +kernel) (by decide +kernel)) (goodIn_sub (fun _ h => List.mem_append_left _ (List.mem_append_right _ h)) (by decide +kernel))
set_option maxRecDepth 20000 in
theorem gL_law_L_wall : GoodIn wsL_law (va_wsS RL 65 yL_wall wsL_wall) := goodIn_app (goodIn_of _ (by decide +kernel)) ggL_law_L_wall
set_option maxRecDepth 20000 in
theorem ggL_law_X6_wall : GoodIn wsL_law wsX6_wall := goodIn_r _ [152, 153, 89, 154, 155, 156, 5, 157, 109, 158, 159, 160, 535, 536, 537, 538, 539, 540, 541, 542, 543, 544, 545, 546, 547, 548, 549, 550, 551, 552, 553, 554, 555, 556, 557, 558, 559, 560, 561] (by decide +kernel) (by decide +kernel)
set_option maxRecDepth 20000 in
theorem gL_law_X6_wall : GoodIn wsL_law (wsV RL 68 RX6 yX6_wall wsX6_wall) := goodIn_app (goodIn_of _ (by decide +kernel)) ggL_law_X6_wall
set_option maxRecDepth 20000 in
theorem ggL_law_X6_thrown : GoodIn wsL_law wsX6_thrown := goodIn_r _ [164, 153, 535, 536, 537, 538, 539, 540, 541, 542, 543, 544, 545, 546, 547, 548, 549, 550, 551, 552, 553, 554, 555, 556, 557, 558, 559, 560, 561] (by decide +kernel) (by decide +kernel)
set_option maxRecDepth 20000 in
theorem gL_law_X6_thrown : GoodIn wsL_law (wsV RL 69 RX6 yX6_thrown wsX6_thrown) := goodIn_app (goodIn_of _ (by decide +kernel)) ggL_law_X6_thrown
set_option maxRecDepth 20000 in
theorem ggL_law_L_value : GoodIn wsL_law wsL_value := goodIn_ca (goodIn_r _ [167, 113, 168, 169, 170, 2, 171, 172, 173, 27, 120, 121, 122, 123, 124, 125, 126, 19, 127, 49, 128, 129, 130, 118, 119, 174, 175, 176, 177, 51, 178, 179, 180, 181, 529, 530, 531, 532, 533, 534, 562, 563, 564, 565, 566, 567, 568] (by decide +kernel) (by decide +kernel)) (goodIn_sub (fun _ h => List.mem_append_left _ (List.mem_append_right _ h)) (by decide +kernel))
set_option maxRecDepth 20000 in
theorem gL_law_L_value : GoodIn wsL_law (va_wsS RL 73 yL_value wsL_value) := goodIn_app (goodIn_of _ (by decide +kernel)) ggL_law_L_value
set_option maxRecDepth 20000 in
theorem ggL_law_X6_value : GoodIn wsL_law wsX6_value := goodIn_r _ [185, 186, 187, 153, 90, 154, 155, 156, 5, 157, 109, 158, 159, 160, 535, 536, 537, 538, 539, 540, 541, 542, 543, 544, 545, 546, 547, 548, 549, 550, 551, 552, 553, 554, 555, 556, 557, 558, 559, 560, 561] (by decide +kernel) (by decide +kernel)
set_option maxRecDepth 20000 in
theorem gL_law_X6_value : GoodIn wsL_law (wsV RL 76 RX6 yX6_value wsX6_value) := goodIn_app (goodIn_of _ (by decide +kernel)) ggL_law_X6_value
set_option maxRecDepth 20000 in
theorem ggL_law_L_fails : GoodIn wsL_law wsL_fails := goodIn_ca (goodIn_ca (goodIn_r _ [190, 113, 191, 192, 193, 194, 2, 195, 196, 197, 31, 128, 129, 130, 118, 119, 120, 121, 122, 123, 27, 124, 125, 126, 19, 127, 49, 198, 199, 200, 30, 201, 202, 203, 204, 205, 206, 207, 208, 62, 61, 209, 210, 211, 212, 213, 214, 215, 216, 217, 218, 219, 220, 221, 222, 223, 224, 225, 226, 227, 228, 229, 529, 530, 531, 532, 533, 534, 562, 563, 564, 565, 566, 567, 568, 569, 570] (by decide +kernel) (by decide +kernel)) (goodIn_sub (fun _ h => List.mem_append_right _ h) (by decide +kernel))) (goodIn_sub (fun _ h => List.mem_append_left _ (List.mem_append_right _ h)) (by decide +kernel))
set_option maxRecDepth 20000 in
theorem gL_law_L_fails : GoodIn wsL_law (va_wsS RL 77 yL_fails wsL_fails) := goodIn_app (goodIn_of _ (by decide +kernel)) ggL_law_L_fails
set_option maxRecDepth 20000 in
theorem ggL_law_X6_fails : GoodIn wsL_law wsX6_fails := goodIn_r _ [233, 234, 153, 92, 93, 94, 158, 159, 5, 160, 154, 155, 156, 157, 109, 235, 236, 237, 238, 535, 536, 537, 538, 539, 540, 541, 542, 543, 544, 545, 546, 547, 548, 549, 550, 551, 552, 553, 554, 555, 556, 557, 558, 559, 560, 561] (by decide +kernel) (by decide +kernel)
set_option maxRecDepth 20000 in
theorem gL_law_X6_fails : GoodIn wsL_law (wsV RL 80 RX6 yX6_fails wsX6_fails) := goodIn_app (goodIn_of _ (by decide +kernel)) ggL_law_X6_fails
set_option maxRecDepth 20000 in
theorem ggL_law_L_stops : GoodIn wsL_law wsL_stops := goodIn_ca (goodIn_r _ [241, 113, 242, 243, 244, 2, 245, 44, 128, 129, 130, 118, 119, 529, 530, 531, 532, 533, 534] (by decide +kernel) (by decide +kernel)) (goodIn_sub (fun _ h => List.mem_append_left _ (List.mem_append_right _ h)) (by decide +kernel))
set_option maxRecDepth 20000 in
theorem gL_law_L_stops : GoodIn wsL_law (va_wsS RL 81 yL_stops wsL_stops) := goodIn_app (goodIn_of _ (by decide +kernel)) ggL_law_L_stops
set_option maxRecDepth 20000 in
theorem ggL_law_X6_stops : GoodIn wsL_law wsX6_stops := goodIn_r _ [249, 153, 95, 158, 159, 5, 160, 535, 536, 537, 538, 539, 540, 541, 542, 543, 544, 545, 546, 547, 548, 549, 550, 551, 552, 553, 554, 555, 556, 557, 558, 559, 560, 561] (by decide +kernel) (by decide +kernel)
set_option maxRecDepth 20000 in
theorem gL_law_X6_stops : GoodIn wsL_law (wsV RL 84 RX6 yX6_stops wsX6_stops) := goodIn_app (goodIn_of _ (by decide +kernel)) ggL_law_X6_stops
set_option maxRecDepth 20000 in
theorem ggL_law_L_run : GoodIn wsL_law wsL_run := goodIn_ca (goodIn_r _ [252, 113, 253, 254, 255, 2, 256, 35, 39, 44, 128, 129, 130, 118, 119, 257, 258, 259, 34, 260, 67, 68, 69, 261, 262, 263, 38, 264, 75, 265, 266, 267, 268, 27, 269, 270, 271, 19, 272, 51, 52, 49, 273, 222, 223, 224, 274, 275, 276, 277, 56, 278, 279, 280, 281, 124, 125, 126, 127, 282, 283, 284, 285, 55, 286, 287, 288, 289, 31, 290, 291, 292, 293, 294, 198, 199, 200, 30, 201, 202, 203, 204, 205, 206, 207, 208, 62, 61, 209, 210, 211, 212, 295, 296, 297, 298, 74, 299, 300, 301, 302, 303, 304, 305, 306, 307, 148, 132, 133, 134, 54, 308, 309, 310, 311, 312, 313, 22, 314, 315, 316, 317, 318, 319, 320, 321, 322, 323, 324, 325, 326, 327, 328, 329, 529, 530, 531, 532, 533, 534, 571, 572, 573, 574, 575, 562, 563, 564, 565, 566, 567, 568, 569, 570] (by decide +kernel) (by decide +kernel)) (goodIn_sub (fun _ h => List.mem_append_left _ (List.mem_append_right _ h)) (by decide +kernel))
set_option maxRecDepth 20000 in
theorem gL_law_L_run : GoodIn wsL_law (va_wsS RL 85 yL_run wsL_run) := goodIn_app (goodIn_of _ (by decide +kernel)) ggL_law_L_run
set_option maxRecDepth 20000 in
theorem ggL_law_X6_run : GoodIn wsL_law wsX6_run := goodIn_r _ [333, 153, 334, 335, 336, 97, 98, 95, 158, 159, 5, 160, 337, 338, 339, 340, 109, 91, 341, 342, 343, 344, 89, 345, 346, 347, 348, 100, 90, 101, 349, 350, 351, 352, 353, 354, 355, 356, 357, 235, 236, 237, 238, 234, 92, 93, 94, 358, 359, 360, 361, 99, 362, 363, 364, 365, 366, 367, 368, 369, 370, 186, 371, 187, 535, 536, 537, 538, 539, 540, 541, 542, 543, 544, 545, 546, 547, 548, 549, 550, 551, 552, 553, 554, 555, 556, 557, 558, 559, 560, 561] (by decide +kernel) (by decide +kernel)
set_option maxRecDepth 20000 in
theorem gL_law_X6_run : GoodIn wsL_law (wsV RL 87 RX6 yX6_run wsX6_run) := goodIn_app (goodIn_of _ (by decide +kernel)) ggL_law_X6_run
set_option maxRecDepth 20000 in
theorem ggL_law_X5_colours : GoodIn wsL_law wsX5_colours := goodIn_r _ [375, 27, 274, 275, 276, 19, 277, 56, 529, 530, 531, 532, 533, 534, 562, 563, 564, 565, 566, 567, 568] (by decide +kernel) (by decide +kernel)
set_option maxRecDepth 20000 in
theorem gL_law_X5_colours : GoodIn wsL_law (wsV RL 88 RX5 yX5_colours wsX5_colours) := goodIn_app (goodIn_of _ (by decide +kernel)) ggL_law_X5_colours
set_option maxRecDepth 20000 in
theorem ggL_law_X6_colours : GoodIn wsL_law wsX6_colours := goodIn_r _ [340, 153, 109, 91, 341, 342, 343, 5, 344, 89, 535, 536, 537, 538, 539, 540, 541, 542, 543, 544, 545, 546, 547, 548, 549, 550, 551, 552, 553, 554, 555, 556, 557, 558, 559, 560, 561] (by decide +kernel) (by decide +kernel)
set_option maxRecDepth 20000 in
theorem gL_law_X6_colours : GoodIn wsL_law (wsV RL 91 RX6 yX6_colours wsX6_colours) := goodIn_app (goodIn_of _ (by decide +kernel)) ggL_law_X6_colours
set_option maxRecDepth 20000 in
theorem ggL_law_L_colour : GoodIn wsL_law wsL_colour := goodIn_ca (goodIn_r _ [379, 113, 380, 381, 382, 2, 383, 27, 120, 121, 122, 123, 124, 125, 126, 19, 127, 49, 128, 129, 130, 118, 119, 282, 283, 284, 285, 55, 529, 530, 531, 532, 533, 534, 562, 563, 564, 565, 566, 567, 568] (by decide +kernel) (by decide +kernel)) (goodIn_sub (fun _ h => List.mem_append_left _ (List.mem_append_right _ h)) (by decide +kernel))
set_option maxRecDepth 20000 in
theorem gL_law_L_colour : GoodIn wsL_law (va_wsS RL 92 yL_colour wsL_colour) := goodIn_app (goodIn_of _ (by decide +kernel)) ggL_law_L_colour
set_option maxRecDepth 20000 in
theorem ggL_law_X6_colour : GoodIn wsL_law wsX6_colour := goodIn_r _ [387, 153, 91, 154, 155, 156, 5, 157, 109, 341, 342, 343, 344, 89, 535, 536, 537, 538, 539, 540, 541, 542, 543, 544, 545, 546, 547, 548, 549, 550, 551, 552, 553, 554, 555, 556, 557, 558, 559, 560, 561] (by decide +kernel) (by decide +kernel)
set_option maxRecDepth 20000 in
theorem gL_law_X6_colour : GoodIn wsL_law (wsV RL 94 RX6 yX6_colour wsX6_colour) := goodIn_app (goodIn_of _ (by decide +kernel)) ggL_law_X6_colour
set_option maxRecDepth 20000 in
theorem ggL_law_L_at : GoodIn wsL_law wsL_at := goodIn_ca (goodIn_r _ [390, 113, 391, 392, 393, 2, 394, 27, 120, 121, 122, 123, 124, 125, 126, 19, 127, 49, 128, 129, 130, 118, 119, 174, 175, 176, 177, 51, 529, 530, 531, 532, 533, 534, 562, 563, 564, 565, 566, 567, 568] (by decide +kernel) (by decide +kernel)) (goodIn_sub (fun _ h => List.mem_append_left _ (List.mem_append_right _ h)) (by decide +kernel))
set_option maxRecDepth 20000 in
theorem gL_law_L_at : GoodIn wsL_law (va_wsS RL 95 yL_at wsL_at) := goodIn_app (goodIn_of _ (by decide +kernel)) ggL_law_L_at
set_option maxRecDepth 20000 in
theorem ggL_law_X6_at : GoodIn wsL_law wsX6_at := goodIn_r _ [398, 153, 90, 154, 155, 156, 5, 157, 109, 535, 536, 537, 538, 539, 540, 541, 542, 543, 544, 545, 546, 547, 548, 549, 550, 551, 552, 553, 554, 555, 556, 557, 558, 559, 560, 561] (by decide +kernel) (by decide +kernel)
set_option maxRecDepth 20000 in
theorem gL_law_X6_at : GoodIn wsL_law (wsV RL 97 RX6 yX6_at wsX6_at) := goodIn_app (goodIn_of _ (by decide +kernel)) ggL_law_X6_at
set_option maxRecDepth 20000 in
theorem ggL_law_X5_sum : GoodIn wsL_law wsX5_sum := goodIn_r _ [402, 27, 403, 404, 405, 19, 406, 51, 49, 407, 408, 409, 308, 2, 309, 310, 311, 312, 313, 22, 314, 315, 316, 317, 529, 530, 531, 532, 533, 534, 562, 563, 564, 565, 566, 567, 568] (by decide +kernel) (by decide +kernel)
set_option maxRecDepth 20000 in
theorem gL_law_X5_sum : GoodIn wsL_law (wsV RL 98 RX5 yX5_sum wsX5_sum) := goodIn_app (goodIn_of _ (by decide +kernel)) ggL_law_X5_sum
set_option maxRecDepth 20000 in
theorem ggL_law_X6_sum : GoodIn wsL_law wsX6_sum := goodIn_r _ [413, 153, 102, 103, 109, 104, 90, 105, 367, 368, 5, 369, 370, 186, 371, 187, 535, 536, 537, 538, 539, 540, 541, 542, 543, 544, 545, 546, 547, 548, 549, 550, 551, 552, 553, 554, 555, 556, 557, 558, 559, 560, 561] (by decide +kernel) (by decide +kernel)
set_option maxRecDepth 20000 in
theorem gL_law_X6_sum : GoodIn wsL_law (wsV RL 101 RX6 yX6_sum wsX6_sum) := goodIn_app (goodIn_of _ (by decide +kernel)) ggL_law_X6_sum
set_option maxRecDepth 20000 in
theorem ggL_law_L_book : GoodIn wsL_law wsL_book := goodIn_ca (goodIn_r _ [416, 113, 417, 418, 419, 2, 420, 39, 128, 129, 130, 118, 119, 421, 422, 423, 38, 424, 75, 425, 426, 427, 428, 74, 529, 530, 531, 532, 533, 534, 574, 575] (by decide +kernel) (by decide +kernel)) (goodIn_sub (fun _ h => List.mem_append_left _ (List.mem_append_right _ h)) (by decide +kernel))
set_option maxRecDepth 20000 in
theorem gL_law_L_book : GoodIn wsL_law (va_wsS RL 102 yL_book wsL_book) := goodIn_app (goodIn_of _ (by decide +kernel)) ggL_law_L_book
set_option maxRecDepth 20000 in
theorem ggL_law_X6_book : GoodIn wsL_law wsX6_book := goodIn_r _ [432, 336, 153, 99, 158, 159, 5, 160, 535, 536, 537, 538, 539, 540, 541, 542, 543, 544, 545, 546, 547, 548, 549, 550, 551, 552, 553, 554, 555, 556, 557, 558, 559, 560, 561] (by decide +kernel) (by decide +kernel)
set_option maxRecDepth 20000 in
theorem gL_law_X6_book : GoodIn wsL_law (wsV RL 104 RX6 yX6_book wsX6_book) := goodIn_app (goodIn_of _ (by decide +kernel)) ggL_law_X6_book
set_option maxRecDepth 20000 in
theorem ggL_law_L_did : GoodIn wsL_law wsL_did := goodIn_ca (goodIn_r _ [435, 113, 436, 437, 438, 2, 439, 35, 128, 129, 130, 118, 119, 440, 441, 442, 34, 443, 67, 529, 530, 531, 532, 533, 534, 571, 572, 573] (by decide +kernel) (by decide +kernel)) (goodIn_sub (fun _ h => List.mem_append_left _ (List.mem_append_right _ h)) (by decide +kernel))
set_option maxRecDepth 20000 in
theorem gL_law_L_did : GoodIn wsL_law (va_wsS RL 105 yL_did wsL_did) := goodIn_app (goodIn_of _ (by decide +kernel)) ggL_law_L_did
set_option maxRecDepth 20000 in
theorem ggL_law_X6_did : GoodIn wsL_law wsX6_did := goodIn_r _ [447, 153, 334, 97, 98, 158, 159, 5, 160, 535, 536, 537, 538, 539, 540, 541, 542, 543, 544, 545, 546, 547, 548, 549, 550, 551, 552, 553, 554, 555, 556, 557, 558, 559, 560, 561] (by decide +kernel) (by decide +kernel)
set_option maxRecDepth 20000 in
theorem gL_law_X6_did : GoodIn wsL_law (wsV RL 107 RX6 yX6_did wsX6_did) := goodIn_app (goodIn_of _ (by decide +kernel)) ggL_law_X6_did
set_option maxRecDepth 20000 in
theorem ggL_law_L_foretold : GoodIn wsL_law wsL_foretold := goodIn_ca (goodIn_r _ [450, 113, 451, 452, 453, 2, 454, 27, 120, 121, 122, 123, 124, 125, 126, 19, 127, 49, 128, 129, 130, 118, 119, 455, 456, 457, 458, 51, 53, 273, 222, 223, 224, 56, 459, 460, 461, 462, 55, 303, 304, 305, 306, 307, 148, 132, 133, 134, 54, 308, 309, 310, 311, 312, 313, 22, 314, 315, 316, 317, 529, 530, 531, 532, 533, 534, 562, 563, 564, 565, 566, 567, 568] (by decide +kernel) (by decide +kernel)) (goodIn_sub (fun _ h => List.mem_append_left _ (List.mem_append_right _ h)) (by decide +kernel))
set_option maxRecDepth 20000 in
theorem gL_law_L_foretold : GoodIn wsL_law (va_wsS RL 108 yL_foretold wsL_foretold) := goodIn_app (goodIn_of _ (by decide +kernel)) ggL_law_L_foretold
set_option maxRecDepth 20000 in
theorem ggL_law_X6_foretold : GoodIn wsL_law wsX6_foretold := goodIn_r _ [466, 153, 109, 100, 90, 91, 154, 155, 156, 5, 157, 158, 159, 160, 337, 338, 339, 340, 341, 342, 343, 344, 89, 362, 363, 364, 365, 366, 367, 368, 369, 370, 186, 371, 187, 535, 536, 537, 538, 539, 540, 541, 542, 543, 544, 545, 546, 547, 548, 549, 550, 551, 552, 553, 554, 555, 556, 557, 558, 559, 560, 561] (by decide +kernel) (by decide +kernel)
set_option maxRecDepth 20000 in
theorem gL_law_X6_foretold : GoodIn wsL_law (wsV RL 110 RX6 yX6_foretold wsX6_foretold) := goodIn_app (goodIn_of _ (by decide +kernel)) ggL_law_X6_foretold
set_option maxRecDepth 20000 in
theorem ggL_law_L_job : GoodIn wsL_law wsL_job := goodIn_ca (goodIn_ca (goodIn_r _ [469, 113, 191, 470, 471, 472, 2, 473, 196, 197, 43, 128, 129, 130, 118, 119, 474, 475, 476, 42, 477, 83, 478, 479, 480, 481, 84, 80, 81, 82, 482, 529, 530, 531, 532, 533, 534, 576, 577, 578, 579, 580] (by decide +kernel) (by decide +kernel)) (goodIn_sub (fun _ h => List.mem_append_right _ h) (by decide +kernel))) (goodIn_sub (fun _ h => List.mem_append_left _ (List.mem_append_right _ h)) (by decide +kernel))
set_option maxRecDepth 20000 in
theorem gL_law_L_job : GoodIn wsL_law (va_wsS RL 111 yL_job wsL_job) := goodIn_app (goodIn_of _ (by decide +kernel)) ggL_law_L_job
set_option maxRecDepth 20000 in
theorem ggL_law_X6_job : GoodIn wsL_law wsX6_job := goodIn_r _ [486, 487, 153, 107, 488, 108, 106, 158, 159, 5, 160, 535, 536, 537, 538, 539, 540, 541, 542, 543, 544, 545, 546, 547, 548, 549, 550, 551, 552, 553, 554, 555, 556, 557, 558, 559, 560, 561] (by decide +kernel) (by decide +kernel)
set_option maxRecDepth 20000 in
theorem gL_law_X6_job : GoodIn wsL_law (wsV RL 113 RX6 yX6_job wsX6_job) := goodIn_app (goodIn_of _ (by decide +kernel)) ggL_law_X6_job
set_option maxRecDepth 20000 in
theorem ggL_law_X5_take : GoodIn wsL_law wsX5_take := goodIn_r _ [492, 43, 493, 494, 495, 42, 496, 83, 80, 82, 497, 498, 499, 500, 81, 501, 502, 503, 504, 505, 222, 223, 224, 529, 530, 531, 532, 533, 534, 576, 577, 578, 579, 580] (by decide +kernel) (by decide +kernel)
set_option maxRecDepth 20000 in
theorem gL_law_X5_take : GoodIn wsL_law (wsV RL 114 RX5 yX5_take wsX5_take) := goodIn_app (goodIn_of _ (by decide +kernel)) ggL_law_X5_take
set_option maxRecDepth 20000 in
theorem ggL_law_X6_take : GoodIn wsL_law wsX6_take := goodIn_r _ [509, 153, 488, 106, 107, 108, 487, 535, 536, 537, 538, 539, 540, 541, 542, 543, 544, 545, 546, 547, 548, 549, 550, 551, 552, 553, 554, 555, 556, 557, 558, 559, 560, 561] (by decide +kernel) (by decide +kernel)
set_option maxRecDepth 20000 in
theorem gL_law_X6_take : GoodIn wsL_law (wsV RL 117 RX6 yX6_take wsX6_take) := goodIn_app (goodIn_of _ (by decide +kernel)) ggL_law_X6_take
set_option maxRecDepth 20000 in
theorem ggL_law_L_age : GoodIn wsL_law wsL_age := goodIn_ca (goodIn_r _ [512, 113, 513, 514, 515, 2, 516, 43, 517, 518, 519, 42, 520, 84, 128, 129, 130, 118, 119, 521, 522, 523, 524, 83, 80, 82, 529, 530, 531, 532, 533, 534, 576, 577, 578, 579, 580] (by decide +kernel) (by decide +kernel)) (goodIn_sub (fun _ h => List.mem_append_left _ (List.mem_append_right _ h)) (by decide +kernel))
set_option maxRecDepth 20000 in
theorem gL_law_L_age : GoodIn wsL_law (va_wsS RL 118 yL_age wsL_age) := goodIn_app (goodIn_of _ (by decide +kernel)) ggL_law_L_age
set_option maxRecDepth 20000 in
theorem ggL_law_X6_age : GoodIn wsL_law wsX6_age := goodIn_r _ [528, 488, 153, 106, 108, 158, 159, 5, 160, 535, 536, 537, 538, 539, 540, 541, 542, 543, 544, 545, 546, 547, 548, 549, 550, 551, 552, 553, 554, 555, 556, 557, 558, 559, 560, 561] (by decide +kernel) (by decide +kernel)
set_option maxRecDepth 20000 in
theorem gL_law_X6_age : GoodIn wsL_law (wsV RL 120 RX6 yX6_age wsX6_age) := goodIn_app (goodIn_of _ (by decide +kernel)) ggL_law_X6_age
theorem dL_law_0 : decode cL_law 0 = .ok (.new 8, 3) := by decide +kernel
theorem dL_law_3 : decode cL_law 3 = .ok (.dup, 1) := by decide +kernel
theorem dL_law_4 : decode cL_law 4 = .ok (.aload_n 0, 1) := by decide +kernel
theorem dL_law_5 : decode cL_law 5 = .ok (.iconst 0, 1) := by decide +kernel
theorem dL_law_6 : decode cL_law 6 = .ok (.invokestatic 53, 3) := by decide +kernel
theorem dL_law_9 : decode cL_law 9 = .ok (.invokespecial 59, 3) := by decide +kernel
theorem dL_law_12 : decode cL_law 12 = .ok (.astore_n 1, 1) := by decide +kernel
theorem dL_law_13 : decode cL_law 13 = .ok (.new 62, 3) := by decide +kernel
theorem dL_law_16 : decode cL_law 16 = .ok (.dup, 1) := by decide +kernel
theorem dL_law_17 : decode cL_law 17 = .ok (.aload_n 0, 1) := by decide +kernel
theorem dL_law_18 : decode cL_law 18 = .ok (.iconst 0, 1) := by decide +kernel
theorem dL_law_19 : decode cL_law 19 = .ok (.invokestatic 53, 3) := by decide +kernel
theorem dL_law_22 : decode cL_law 22 = .ok (.invokespecial 64, 3) := by decide +kernel
theorem dL_law_25 : decode cL_law 25 = .ok (.astore_n 2, 1) := by decide +kernel
theorem dL_law_26 : decode cL_law 26 = .ok (.iconst 1, 1) := by decide +kernel
theorem dL_law_27 : decode cL_law 27 = .ok (.newarray .long, 2) := by decide +kernel
theorem dL_law_29 : decode cL_law 29 = .ok (.astore_n 3, 1) := by decide +kernel
theorem dL_law_30 : decode cL_law 30 = .ok (.iconst 1, 1) := by decide +kernel
theorem dL_law_31 : decode cL_law 31 = .ok (.istore 4, 2) := by decide +kernel
theorem dL_law_33 : decode cL_law 33 = .ok (.iload 4, 2) := by decide +kernel
theorem dL_law_35 : decode cL_law 35 = .ok (.aload_n 0, 1) := by decide +kernel
theorem dL_law_36 : decode cL_law 36 = .ok (.arraylength, 1) := by decide +kernel
theorem dL_law_37 : decode cL_law 37 = .ok (.iconst 5, 1) := by decide +kernel
theorem dL_law_38 : decode cL_law 38 = .ok (.isub, 1) := by decide +kernel
theorem dL_law_39 : decode cL_law 39 = .ok (.if_icmp .gt 945, 3) := by decide +kernel
theorem dL_law_42 : decode cL_law 42 = .ok (.aload_n 0, 1) := by decide +kernel
theorem dL_law_43 : decode cL_law 43 = .ok (.iload 4, 2) := by decide +kernel
theorem dL_law_45 : decode cL_law 45 = .ok (.iaload, 1) := by decide +kernel
theorem dL_law_46 : decode cL_law 46 = .ok (.bipush 15, 2) := by decide +kernel
theorem dL_law_48 : decode cL_law 48 = .ok (.iand, 1) := by decide +kernel
theorem dL_law_49 : decode cL_law 49 = .ok (.tableswitch 929 0 14 #[75, 155, 223, 338, 394, 474, 487, 543, 599, 612, 680, 736, 804, 860, 873], 75) := by decide +kernel
theorem dL_law_124 : decode cL_law 124 = .ok (.aload_n 1, 1) := by decide +kernel
theorem dL_law_125 : decode cL_law 125 = .ok (.aload_n 0, 1) := by decide +kernel
theorem dL_law_126 : decode cL_law 126 = .ok (.iload 4, 2) := by decide +kernel
theorem dL_law_128 : decode cL_law 128 = .ok (.iconst 1, 1) := by decide +kernel
theorem dL_law_129 : decode cL_law 129 = .ok (.iadd, 1) := by decide +kernel
theorem dL_law_130 : decode cL_law 130 = .ok (.iaload, 1) := by decide +kernel
theorem dL_law_131 : decode cL_law 131 = .ok (.aload_n 0, 1) := by decide +kernel
theorem dL_law_132 : decode cL_law 132 = .ok (.iload 4, 2) := by decide +kernel
theorem dL_law_134 : decode cL_law 134 = .ok (.iconst 2, 1) := by decide +kernel
theorem dL_law_135 : decode cL_law 135 = .ok (.iadd, 1) := by decide +kernel
theorem dL_law_136 : decode cL_law 136 = .ok (.iaload, 1) := by decide +kernel
theorem dL_law_137 : decode cL_law 137 = .ok (.aload_n 0, 1) := by decide +kernel
theorem dL_law_138 : decode cL_law 138 = .ok (.iload 4, 2) := by decide +kernel
theorem dL_law_140 : decode cL_law 140 = .ok (.iconst 3, 1) := by decide +kernel
theorem dL_law_141 : decode cL_law 141 = .ok (.iadd, 1) := by decide +kernel
theorem dL_law_142 : decode cL_law 142 = .ok (.iaload, 1) := by decide +kernel
theorem dL_law_143 : decode cL_law 143 = .ok (.aload_n 3, 1) := by decide +kernel
theorem dL_law_144 : decode cL_law 144 = .ok (.invokestatic 65, 3) := by decide +kernel
theorem dL_law_147 : decode cL_law 147 = .ok (.istore 5, 2) := by decide +kernel
theorem dL_law_149 : decode cL_law 149 = .ok (.aload_n 2, 1) := by decide +kernel
theorem dL_law_150 : decode cL_law 150 = .ok (.aload_n 0, 1) := by decide +kernel
theorem dL_law_151 : decode cL_law 151 = .ok (.iload 4, 2) := by decide +kernel
theorem dL_law_153 : decode cL_law 153 = .ok (.iconst 1, 1) := by decide +kernel
theorem dL_law_154 : decode cL_law 154 = .ok (.iadd, 1) := by decide +kernel
theorem dL_law_155 : decode cL_law 155 = .ok (.iaload, 1) := by decide +kernel
theorem dL_law_156 : decode cL_law 156 = .ok (.aload_n 0, 1) := by decide +kernel
theorem dL_law_157 : decode cL_law 157 = .ok (.iload 4, 2) := by decide +kernel
theorem dL_law_159 : decode cL_law 159 = .ok (.iconst 2, 1) := by decide +kernel
theorem dL_law_160 : decode cL_law 160 = .ok (.iadd, 1) := by decide +kernel
theorem dL_law_161 : decode cL_law 161 = .ok (.iaload, 1) := by decide +kernel
theorem dL_law_162 : decode cL_law 162 = .ok (.aload_n 0, 1) := by decide +kernel
theorem dL_law_163 : decode cL_law 163 = .ok (.iload 4, 2) := by decide +kernel
theorem dL_law_165 : decode cL_law 165 = .ok (.iconst 3, 1) := by decide +kernel
theorem dL_law_166 : decode cL_law 166 = .ok (.iadd, 1) := by decide +kernel
theorem dL_law_167 : decode cL_law 167 = .ok (.iaload, 1) := by decide +kernel
theorem dL_law_168 : decode cL_law 168 = .ok (.invokevirtual 68, 3) := by decide +kernel
theorem dL_law_171 : decode cL_law 171 = .ok (.istore 6, 2) := by decide +kernel
theorem dL_law_173 : decode cL_law 173 = .ok (.aload_n 2, 1) := by decide +kernel
theorem dL_law_174 : decode cL_law 174 = .ok (.invokevirtual 69, 3) := by decide +kernel
theorem dL_law_177 : decode cL_law 177 = .ok (.iload 5, 2) := by decide +kernel
theorem dL_law_179 : decode cL_law 179 = .ok (.if_icmp .eq 5, 3) := by decide +kernel
theorem dL_law_182 : decode cL_law 182 = .ok (.iconst 0, 1) := by decide +kernel
theorem dL_law_183 : decode cL_law 183 = .ok (.ireturn, 1) := by decide +kernel
theorem dL_law_184 : decode cL_law 184 = .ok (.iload 5, 2) := by decide +kernel
theorem dL_law_186 : decode cL_law 186 = .ok (.ifCond .ne 15, 3) := by decide +kernel
theorem dL_law_189 : decode cL_law 189 = .ok (.aload_n 3, 1) := by decide +kernel
theorem dL_law_190 : decode cL_law 190 = .ok (.iconst 0, 1) := by decide +kernel
theorem dL_law_191 : decode cL_law 191 = .ok (.laload, 1) := by decide +kernel
theorem dL_law_192 : decode cL_law 192 = .ok (.iload 6, 2) := by decide +kernel
theorem dL_law_194 : decode cL_law 194 = .ok (.i2l, 1) := by decide +kernel
theorem dL_law_195 : decode cL_law 195 = .ok (.lcmp, 1) := by decide +kernel
theorem dL_law_196 : decode cL_law 196 = .ok (.ifCond .eq 5, 3) := by decide +kernel
theorem dL_law_199 : decode cL_law 199 = .ok (.iconst 0, 1) := by decide +kernel
theorem dL_law_200 : decode cL_law 200 = .ok (.ireturn, 1) := by decide +kernel
theorem dL_law_201 : decode cL_law 201 = .ok (.goto 777, 3) := by decide +kernel
theorem dL_law_204 : decode cL_law 204 = .ok (.aload_n 1, 1) := by decide +kernel
theorem dL_law_205 : decode cL_law 205 = .ok (.aload_n 0, 1) := by decide +kernel
theorem dL_law_206 : decode cL_law 206 = .ok (.iload 4, 2) := by decide +kernel
theorem dL_law_208 : decode cL_law 208 = .ok (.iconst 1, 1) := by decide +kernel
theorem dL_law_209 : decode cL_law 209 = .ok (.iadd, 1) := by decide +kernel
theorem dL_law_210 : decode cL_law 210 = .ok (.iaload, 1) := by decide +kernel
theorem dL_law_211 : decode cL_law 211 = .ok (.aload_n 0, 1) := by decide +kernel
theorem dL_law_212 : decode cL_law 212 = .ok (.iload 4, 2) := by decide +kernel
theorem dL_law_214 : decode cL_law 214 = .ok (.iconst 2, 1) := by decide +kernel
theorem dL_law_215 : decode cL_law 215 = .ok (.iadd, 1) := by decide +kernel
theorem dL_law_216 : decode cL_law 216 = .ok (.iaload, 1) := by decide +kernel
theorem dL_law_217 : decode cL_law 217 = .ok (.aload_n 3, 1) := by decide +kernel
theorem dL_law_218 : decode cL_law 218 = .ok (.invokestatic 73, 3) := by decide +kernel
theorem dL_law_221 : decode cL_law 221 = .ok (.istore 5, 2) := by decide +kernel
theorem dL_law_223 : decode cL_law 223 = .ok (.aload_n 2, 1) := by decide +kernel
theorem dL_law_224 : decode cL_law 224 = .ok (.aload_n 0, 1) := by decide +kernel
theorem dL_law_225 : decode cL_law 225 = .ok (.iload 4, 2) := by decide +kernel
theorem dL_law_227 : decode cL_law 227 = .ok (.iconst 1, 1) := by decide +kernel
theorem dL_law_228 : decode cL_law 228 = .ok (.iadd, 1) := by decide +kernel
theorem dL_law_229 : decode cL_law 229 = .ok (.iaload, 1) := by decide +kernel
theorem dL_law_230 : decode cL_law 230 = .ok (.aload_n 0, 1) := by decide +kernel
theorem dL_law_231 : decode cL_law 231 = .ok (.iload 4, 2) := by decide +kernel
theorem dL_law_233 : decode cL_law 233 = .ok (.iconst 2, 1) := by decide +kernel
theorem dL_law_234 : decode cL_law 234 = .ok (.iadd, 1) := by decide +kernel
theorem dL_law_235 : decode cL_law 235 = .ok (.iaload, 1) := by decide +kernel
theorem dL_law_236 : decode cL_law 236 = .ok (.invokevirtual 76, 3) := by decide +kernel
theorem dL_law_239 : decode cL_law 239 = .ok (.istore 6, 2) := by decide +kernel
theorem dL_law_241 : decode cL_law 241 = .ok (.aload_n 2, 1) := by decide +kernel
theorem dL_law_242 : decode cL_law 242 = .ok (.invokevirtual 69, 3) := by decide +kernel
theorem dL_law_245 : decode cL_law 245 = .ok (.iload 5, 2) := by decide +kernel
theorem dL_law_247 : decode cL_law 247 = .ok (.if_icmp .eq 5, 3) := by decide +kernel
theorem dL_law_250 : decode cL_law 250 = .ok (.iconst 0, 1) := by decide +kernel
theorem dL_law_251 : decode cL_law 251 = .ok (.ireturn, 1) := by decide +kernel
theorem dL_law_252 : decode cL_law 252 = .ok (.iload 5, 2) := by decide +kernel
theorem dL_law_254 : decode cL_law 254 = .ok (.ifCond .ne 15, 3) := by decide +kernel
theorem dL_law_257 : decode cL_law 257 = .ok (.aload_n 3, 1) := by decide +kernel
theorem dL_law_258 : decode cL_law 258 = .ok (.iconst 0, 1) := by decide +kernel
theorem dL_law_259 : decode cL_law 259 = .ok (.laload, 1) := by decide +kernel
theorem dL_law_260 : decode cL_law 260 = .ok (.iload 6, 2) := by decide +kernel
theorem dL_law_262 : decode cL_law 262 = .ok (.i2l, 1) := by decide +kernel
theorem dL_law_263 : decode cL_law 263 = .ok (.lcmp, 1) := by decide +kernel
theorem dL_law_264 : decode cL_law 264 = .ok (.ifCond .eq 5, 3) := by decide +kernel
theorem dL_law_267 : decode cL_law 267 = .ok (.iconst 0, 1) := by decide +kernel
theorem dL_law_268 : decode cL_law 268 = .ok (.ireturn, 1) := by decide +kernel
theorem dL_law_269 : decode cL_law 269 = .ok (.goto 709, 3) := by decide +kernel
theorem dL_law_272 : decode cL_law 272 = .ok (.aload_n 1, 1) := by decide +kernel
theorem dL_law_273 : decode cL_law 273 = .ok (.aload_n 0, 1) := by decide +kernel
theorem dL_law_274 : decode cL_law 274 = .ok (.iload 4, 2) := by decide +kernel
theorem dL_law_276 : decode cL_law 276 = .ok (.iconst 1, 1) := by decide +kernel
theorem dL_law_277 : decode cL_law 277 = .ok (.iadd, 1) := by decide +kernel
theorem dL_law_278 : decode cL_law 278 = .ok (.iaload, 1) := by decide +kernel
theorem dL_law_279 : decode cL_law 279 = .ok (.aload_n 0, 1) := by decide +kernel
theorem dL_law_280 : decode cL_law 280 = .ok (.iload 4, 2) := by decide +kernel
theorem dL_law_282 : decode cL_law 282 = .ok (.iconst 2, 1) := by decide +kernel
theorem dL_law_283 : decode cL_law 283 = .ok (.iadd, 1) := by decide +kernel
theorem dL_law_284 : decode cL_law 284 = .ok (.iaload, 1) := by decide +kernel
theorem dL_law_285 : decode cL_law 285 = .ok (.aload_n 0, 1) := by decide +kernel
theorem dL_law_286 : decode cL_law 286 = .ok (.iload 4, 2) := by decide +kernel
theorem dL_law_288 : decode cL_law 288 = .ok (.iconst 3, 1) := by decide +kernel
theorem dL_law_289 : decode cL_law 289 = .ok (.iadd, 1) := by decide +kernel
theorem dL_law_290 : decode cL_law 290 = .ok (.iaload, 1) := by decide +kernel
theorem dL_law_291 : decode cL_law 291 = .ok (.aload_n 0, 1) := by decide +kernel
theorem dL_law_292 : decode cL_law 292 = .ok (.iload 4, 2) := by decide +kernel
theorem dL_law_294 : decode cL_law 294 = .ok (.iconst 4, 1) := by decide +kernel
theorem dL_law_295 : decode cL_law 295 = .ok (.iadd, 1) := by decide +kernel
theorem dL_law_296 : decode cL_law 296 = .ok (.iaload, 1) := by decide +kernel
theorem dL_law_297 : decode cL_law 297 = .ok (.ifCond .eq 7, 3) := by decide +kernel
theorem dL_law_300 : decode cL_law 300 = .ok (.iconst 1, 1) := by decide +kernel
theorem dL_law_301 : decode cL_law 301 = .ok (.goto 4, 3) := by decide +kernel
theorem dL_law_304 : decode cL_law 304 = .ok (.iconst 0, 1) := by decide +kernel
theorem dL_law_305 : decode cL_law 305 = .ok (.aload_n 3, 1) := by decide +kernel
theorem dL_law_306 : decode cL_law 306 = .ok (.invokestatic 77, 3) := by decide +kernel
theorem dL_law_309 : decode cL_law 309 = .ok (.istore 5, 2) := by decide +kernel
theorem dL_law_311 : decode cL_law 311 = .ok (.aload_n 2, 1) := by decide +kernel
theorem dL_law_312 : decode cL_law 312 = .ok (.aload_n 0, 1) := by decide +kernel
theorem dL_law_313 : decode cL_law 313 = .ok (.iload 4, 2) := by decide +kernel
theorem dL_law_315 : decode cL_law 315 = .ok (.iconst 1, 1) := by decide +kernel
theorem dL_law_316 : decode cL_law 316 = .ok (.iadd, 1) := by decide +kernel
theorem dL_law_317 : decode cL_law 317 = .ok (.iaload, 1) := by decide +kernel
theorem dL_law_318 : decode cL_law 318 = .ok (.aload_n 0, 1) := by decide +kernel
theorem dL_law_319 : decode cL_law 319 = .ok (.iload 4, 2) := by decide +kernel
theorem dL_law_321 : decode cL_law 321 = .ok (.iconst 2, 1) := by decide +kernel
theorem dL_law_322 : decode cL_law 322 = .ok (.iadd, 1) := by decide +kernel
theorem dL_law_323 : decode cL_law 323 = .ok (.iaload, 1) := by decide +kernel
theorem dL_law_324 : decode cL_law 324 = .ok (.aload_n 0, 1) := by decide +kernel
theorem dL_law_325 : decode cL_law 325 = .ok (.iload 4, 2) := by decide +kernel
theorem dL_law_327 : decode cL_law 327 = .ok (.iconst 3, 1) := by decide +kernel
theorem dL_law_328 : decode cL_law 328 = .ok (.iadd, 1) := by decide +kernel
theorem dL_law_329 : decode cL_law 329 = .ok (.iaload, 1) := by decide +kernel
theorem dL_law_330 : decode cL_law 330 = .ok (.aload_n 0, 1) := by decide +kernel
theorem dL_law_331 : decode cL_law 331 = .ok (.iload 4, 2) := by decide +kernel
theorem dL_law_333 : decode cL_law 333 = .ok (.iconst 4, 1) := by decide +kernel
theorem dL_law_334 : decode cL_law 334 = .ok (.iadd, 1) := by decide +kernel
theorem dL_law_335 : decode cL_law 335 = .ok (.iaload, 1) := by decide +kernel
theorem dL_law_336 : decode cL_law 336 = .ok (.ifCond .eq 7, 3) := by decide +kernel
theorem dL_law_339 : decode cL_law 339 = .ok (.iconst 1, 1) := by decide +kernel
theorem dL_law_340 : decode cL_law 340 = .ok (.goto 4, 3) := by decide +kernel
theorem dL_law_343 : decode cL_law 343 = .ok (.iconst 0, 1) := by decide +kernel
theorem dL_law_344 : decode cL_law 344 = .ok (.invokevirtual 80, 3) := by decide +kernel
theorem dL_law_347 : decode cL_law 347 = .ok (.istore 6, 2) := by decide +kernel
theorem dL_law_349 : decode cL_law 349 = .ok (.aload_n 2, 1) := by decide +kernel
theorem dL_law_350 : decode cL_law 350 = .ok (.invokevirtual 69, 3) := by decide +kernel
theorem dL_law_353 : decode cL_law 353 = .ok (.iload 5, 2) := by decide +kernel
theorem dL_law_355 : decode cL_law 355 = .ok (.if_icmp .eq 5, 3) := by decide +kernel
theorem dL_law_358 : decode cL_law 358 = .ok (.iconst 0, 1) := by decide +kernel
theorem dL_law_359 : decode cL_law 359 = .ok (.ireturn, 1) := by decide +kernel
theorem dL_law_360 : decode cL_law 360 = .ok (.iload 5, 2) := by decide +kernel
theorem dL_law_362 : decode cL_law 362 = .ok (.ifCond .ne 22, 3) := by decide +kernel
theorem dL_law_365 : decode cL_law 365 = .ok (.aload_n 3, 1) := by decide +kernel
theorem dL_law_366 : decode cL_law 366 = .ok (.iconst 0, 1) := by decide +kernel
theorem dL_law_367 : decode cL_law 367 = .ok (.laload, 1) := by decide +kernel
theorem dL_law_368 : decode cL_law 368 = .ok (.iload 6, 2) := by decide +kernel
theorem dL_law_370 : decode cL_law 370 = .ok (.ifCond .eq 7, 3) := by decide +kernel
theorem dL_law_373 : decode cL_law 373 = .ok (.lconst 1, 1) := by decide +kernel
theorem dL_law_374 : decode cL_law 374 = .ok (.goto 4, 3) := by decide +kernel
theorem dL_law_377 : decode cL_law 377 = .ok (.lconst 0, 1) := by decide +kernel
theorem dL_law_378 : decode cL_law 378 = .ok (.lcmp, 1) := by decide +kernel
theorem dL_law_379 : decode cL_law 379 = .ok (.ifCond .eq 5, 3) := by decide +kernel
theorem dL_law_382 : decode cL_law 382 = .ok (.iconst 0, 1) := by decide +kernel
theorem dL_law_383 : decode cL_law 383 = .ok (.ireturn, 1) := by decide +kernel
theorem dL_law_384 : decode cL_law 384 = .ok (.goto 594, 3) := by decide +kernel
theorem dL_law_387 : decode cL_law 387 = .ok (.aload_n 1, 1) := by decide +kernel
theorem dL_law_388 : decode cL_law 388 = .ok (.aload_n 0, 1) := by decide +kernel
theorem dL_law_389 : decode cL_law 389 = .ok (.iload 4, 2) := by decide +kernel
theorem dL_law_391 : decode cL_law 391 = .ok (.iconst 1, 1) := by decide +kernel
theorem dL_law_392 : decode cL_law 392 = .ok (.iadd, 1) := by decide +kernel
theorem dL_law_393 : decode cL_law 393 = .ok (.iaload, 1) := by decide +kernel
theorem dL_law_394 : decode cL_law 394 = .ok (.aload_n 3, 1) := by decide +kernel
theorem dL_law_395 : decode cL_law 395 = .ok (.invokestatic 81, 3) := by decide +kernel
theorem dL_law_398 : decode cL_law 398 = .ok (.istore 5, 2) := by decide +kernel
theorem dL_law_400 : decode cL_law 400 = .ok (.aload_n 2, 1) := by decide +kernel
theorem dL_law_401 : decode cL_law 401 = .ok (.aload_n 0, 1) := by decide +kernel
theorem dL_law_402 : decode cL_law 402 = .ok (.iload 4, 2) := by decide +kernel
theorem dL_law_404 : decode cL_law 404 = .ok (.iconst 1, 1) := by decide +kernel
theorem dL_law_405 : decode cL_law 405 = .ok (.iadd, 1) := by decide +kernel
theorem dL_law_406 : decode cL_law 406 = .ok (.iaload, 1) := by decide +kernel
theorem dL_law_407 : decode cL_law 407 = .ok (.invokevirtual 84, 3) := by decide +kernel
theorem dL_law_410 : decode cL_law 410 = .ok (.istore 6, 2) := by decide +kernel
theorem dL_law_412 : decode cL_law 412 = .ok (.aload_n 2, 1) := by decide +kernel
theorem dL_law_413 : decode cL_law 413 = .ok (.invokevirtual 69, 3) := by decide +kernel
