set_option maxRecDepth 20000 in
theorem ggL_law_X4_init : GoodIn wsL_law wsX4_init := goodIn_r _ [9, 10, 11, 12, 13, 14, 15, 16, 17, 18, 19, 20, 21, 22, 23, 24, 25, 26, 27, 28, 29, 30, 31, 32, 33, 34, 35, 36, 37, 38, 39, 40, 41, 42, 43, 635, 636, 606, 607, 608, 609, 610, 611, 612, 637, 638, 639] (by decide +kernel) (by decide +kernel)
set_option maxRecDepth 20000 in
theorem gL_law_X4_init : GoodIn wsL_law (wsX4_init) := ggL_law_X4_init
set_option maxRecDepth 20000 in
theorem ggL_law_X5_init : GoodIn wsL_law wsX5_init := goodIn_r _ [46, 47, 11, 12, 48, 49, 50, 51, 52, 53, 54, 55, 56, 57, 58, 59, 60, 61, 62, 63, 64, 613, 614, 615, 616, 617, 618, 619, 620, 621, 622, 623, 624, 625, 626, 627, 628, 629, 630, 631, 632, 633, 634] (by decide +kernel) (by decide +kernel)
set_option maxRecDepth 20000 in
theorem gL_law_X5_init : GoodIn wsL_law (wsX5_init) := ggL_law_X5_init
set_option maxRecDepth 20000 in
theorem ggL_law_L_tide : GoodIn wsL_law wsL_tide := goodIn_ca (goodIn_r _ [68, 69, 70, 71, 72, 2, 73, 16, 74, 75, 76, 77, 78, 79, 80, 606, 607, 608, 609, 610, 611, 612, 635, 636] (by decide +kernel) (by decide +kernel)) (goodIn_sub (fun _ h => List.mem_append_left _ (List.mem_append_left _ (List.mem_append_right _ h))) (by decide +kernel))
set_option maxRecDepth 20000 in
theorem gL_law_L_tide : GoodIn wsL_law (va_wsS RL 78 yL_tide wsL_tide) := goodIn_app (goodIn_of _ (by decide +kernel)) ggL_law_L_tide
set_option maxRecDepth 20000 in
theorem ggL_law_X5_tide : GoodIn wsL_law wsX5_tide := goodIn_r _ [84, 85, 48, 49, 86, 87, 5, 88, 613, 614, 615, 616, 617, 618, 619, 620, 621, 622, 623, 624, 625, 626, 627, 628, 629, 630, 631, 632, 633, 634] (by decide +kernel) (by decide +kernel)
set_option maxRecDepth 20000 in
theorem gL_law_X5_tide : GoodIn wsL_law (wsV RL 83 RX5 yX5_tide wsX5_tide) := goodIn_app (goodIn_of _ (by decide +kernel)) ggL_law_X5_tide
set_option maxRecDepth 20000 in
theorem ggL_law_X5_thrown : GoodIn wsL_law wsX5_thrown := goodIn_r _ [92, 85, 613, 614, 615, 616, 617, 618, 619, 620, 621, 622, 623, 624, 625, 626, 627, 628, 629, 630, 631, 632, 633, 634] (by decide +kernel) (by decide +kernel)
set_option maxRecDepth 20000 in
theorem gL_law_X5_thrown : GoodIn wsL_law (wsV RL 84 RX5 yX5_thrown wsX5_thrown) := goodIn_app (goodIn_of _ (by decide +kernel)) ggL_law_X5_thrown
set_option maxRecDepth 20000 in
theorem ggL_law_L_tugs : GoodIn wsL_law wsL_tugs := goodIn_ca (goodIn_r _ [95, 69, 96, 97, 98, 2, 99, 23, 76, 77, 78, 79, 80, 606, 607, 608, 609, 610, 611, 612] (by decide +kernel) (by decide +kernel)) (goodIn_sub (fun _ h => List.mem_append_left _ (List.mem_append_left _ (List.mem_append_right _ h))) (by decide +kernel))
set_option maxRecDepth 20000 in
theorem gL_law_L_tugs : GoodIn wsL_law (va_wsS RL 88 yL_tugs wsL_tugs) := goodIn_app (goodIn_of _ (by decide +kernel)) ggL_law_L_tugs
set_option maxRecDepth 20000 in
theorem ggL_law_X5_tugs : GoodIn wsL_law wsX5_tugs := goodIn_r _ [103, 85, 50, 86, 87, 5, 88, 613, 614, 615, 616, 617, 618, 619, 620, 621, 622, 623, 624, 625, 626, 627, 628, 629, 630, 631, 632, 633, 634] (by decide +kernel) (by decide +kernel)
set_option maxRecDepth 20000 in
theorem gL_law_X5_tugs : GoodIn wsL_law (wsV RL 91 RX5 yX5_tugs wsX5_tugs) := goodIn_app (goodIn_of _ (by decide +kernel)) ggL_law_X5_tugs
set_option maxRecDepth 20000 in
theorem ggL_law_L_ship : GoodIn wsL_law wsL_ship := goodIn_ca (goodIn_ca (goodIn_r _ [106, 69, 107, 108, 109, 110, 2, 111, 20, 112, 113, 114, 76, 77, 78, 79, 80, 115, 116, 117, 19, 118, 119, 120, 121, 122, 123, 124, 125, 126, 127, 128, 11, 12, 129, 130, 131, 132, 133, 134, 135, 136, 137, 138, 139, 33, 140, 141, 142, 143, 144, 145, 146, 147, 148, 149, 150, 151, 32, 152, 153, 154, 155, 156, 157, 158, 159, 160, 161, 162, 163, 164, 165, 166, 167, 168, 169, 170, 171, 172, 173, 174, 175, 176, 177, 178, 179, 180, 181, 182, 183, 184, 185, 606, 607, 608, 609, 610, 611, 612, 640, 641, 642, 643, 644, 645, 637, 638, 639] (by decide +kernel) (by decide +kernel)) (goodIn_sub (fun _ h => List.mem_append_left _ (List.mem_append_left _ (List.mem_append_right _ h))) (by decide +kernel))) (goodIn_sub (fun _ h => List.mem_append_left _ (List.mem_append_right _ h)) (by decide +kernel))
set_option maxRecDepth 20000 in
theorem gL_law_L_ship : GoodIn wsL_law (va_wsS RL 92 yL_ship wsL_ship) := goodIn_app (goodIn_of _ (by decide +kernel)) ggL_law_L_ship
set_option maxRecDepth 20000 in
theorem ggL_law_X5_ship : GoodIn wsL_law wsX5_ship := goodIn_r _ [189, 190, 85, 52, 53, 54, 55, 86, 87, 5, 88, 613, 614, 615, 616, 617, 618, 619, 620, 621, 622, 623, 624, 625, 626, 627, 628, 629, 630, 631, 632, 633, 634] (by decide +kernel) (by decide +kernel)
set_option maxRecDepth 20000 in
theorem gL_law_X5_ship : GoodIn wsL_law (wsV RL 95 RX5 yX5_ship wsX5_ship) := goodIn_app (goodIn_of _ (by decide +kernel)) ggL_law_X5_ship
set_option maxRecDepth 20000 in
theorem ggL_law_L_pilot : GoodIn wsL_law wsL_pilot := goodIn_ca (goodIn_ca (goodIn_r _ [193, 69, 107, 194, 195, 196, 2, 197, 21, 198, 199, 200, 76, 77, 78, 79, 80, 115, 116, 117, 19, 118, 119, 120, 121, 122, 123, 124, 201, 202, 203, 204, 11, 12, 205, 206, 207, 134, 135, 136, 137, 138, 139, 33, 140, 141, 142, 143, 144, 145, 146, 147, 148, 149, 150, 151, 32, 152, 153, 154, 155, 156, 157, 158, 159, 160, 161, 162, 163, 164, 165, 166, 167, 168, 169, 170, 171, 172, 173, 174, 175, 176, 177, 178, 179, 180, 181, 182, 183, 184, 185, 606, 607, 608, 609, 610, 611, 612, 646, 647, 648, 649, 650, 637, 638, 639] (by decide +kernel) (by decide +kernel)) (goodIn_sub (fun _ h => List.mem_append_left _ (List.mem_append_left _ (List.mem_append_right _ h))) (by decide +kernel))) (goodIn_sub (fun _ h => List.mem_append_left _ (List.mem_append_right _ h)) (by decide +kernel))
set_option maxRecDepth 20000 in
theorem gL_law_L_pilot : GoodIn wsL_law (va_wsS RL 96 yL_pilot wsL_pilot) := goodIn_app (goodIn_of _ (by decide +kernel)) ggL_law_L_pilot
set_option maxRecDepth 20000 in
theorem ggL_law_X5_pilot : GoodIn wsL_law wsX5_pilot := goodIn_r _ [211, 212, 85, 57, 58, 86, 87, 5, 88, 613, 614, 615, 616, 617, 618, 619, 620, 621, 622, 623, 624, 625, 626, 627, 628, 629, 630, 631, 632, 633, 634] (by decide +kernel) (by decide +kernel)
set_option maxRecDepth 20000 in
theorem gL_law_X5_pilot : GoodIn wsL_law (wsV RL 99 RX5 yX5_pilot wsX5_pilot) := goodIn_app (goodIn_of _ (by decide +kernel)) ggL_law_X5_pilot
set_option maxRecDepth 20000 in
theorem ggL_law_L_call : GoodIn wsL_law wsL_call := goodIn_ca (goodIn_ca (goodIn_ca (goodIn_r _ [215, 216, 69, 107, 217, 218, 219, 2, 220, 221, 22, 222, 223, 224, 225, 226, 227, 228, 229, 230, 20, 231, 115, 116, 117, 19, 118, 119, 232, 233, 234, 235, 236, 237, 238, 239, 240, 241, 242, 243, 244, 245, 246, 247, 33, 76, 77, 78, 79, 80, 120, 121, 122, 123, 124, 248, 249, 250, 251, 11, 12, 252, 253, 254, 255, 134, 135, 136, 137, 138, 139, 140, 141, 142, 143, 144, 145, 146, 147, 148, 149, 150, 151, 32, 152, 153, 154, 155, 156, 157, 158, 159, 160, 161, 162, 163, 164, 165, 166, 167, 168, 169, 170, 171, 172, 173, 174, 175, 176, 177, 178, 179, 180, 181, 182, 183, 184, 185, 606, 607, 608, 609, 610, 611, 612, 651, 652, 653, 654, 655, 656, 657, 637, 638, 639] (by decide +kernel) (by decide +kernel)) (goodIn_sub (fun _ h => List.mem_append_right _ h) (by decide +kernel))) (goodIn_sub (fun _ h => List.mem_append_left _ (List.mem_append_left _ (List.mem_append_right _ h))) (by decide +kernel))) (goodIn_sub (fun _ h => List.mem_append_left _ (List.mem_append_right _ h)) (by decide +kernel))
set_option maxRecDepth 20000 in
theorem gL_law_L_call : GoodIn wsL_law (va_wsS RL 100 yL_call wsL_call) := goodIn_app (goodIn_of _ (by decide +kernel)) ggL_law_L_call
set_option maxRecDepth 20000 in
theorem ggL_law_X5_call : GoodIn wsL_law wsX5_call := goodIn_r _ [259, 260, 261, 85, 59, 60, 62, 64, 63, 262, 263, 264, 5, 265, 190, 86, 87, 88, 613, 614, 615, 616, 617, 618, 619, 620, 621, 622, 623, 624, 625, 626, 627, 628, 629, 630, 631, 632, 633, 634] (by decide +kernel) (by decide +kernel)
set_option maxRecDepth 20000 in
theorem gL_law_X5_call : GoodIn wsL_law (wsV RL 102 RX5 yX5_call wsX5_call) := goodIn_app (goodIn_of _ (by decide +kernel)) ggL_law_X5_call
set_option maxRecDepth 20000 in
theorem ggL_law_L_join : GoodIn wsL_law wsL_join := goodIn_ca (goodIn_ca (goodIn_r _ [268, 216, 107, 269, 270, 271, 2, 272, 123, 124, 273, 274, 275, 276, 277, 278, 279, 280, 229, 230, 22, 281, 115, 116, 117, 19, 118, 119, 232, 233, 234, 235, 236, 237, 238, 239, 240, 241, 242, 243, 244, 245, 246, 247, 33, 282, 283, 284, 285, 286, 287, 288, 21, 289, 290, 291, 292, 224, 293, 294, 295, 296, 297, 298, 299, 300, 301, 302, 303, 304, 305, 306, 307, 308, 309, 221, 310, 311, 312, 313, 314, 315, 153, 154, 155, 16, 316, 317, 318, 15, 319, 320, 321, 27, 322, 323, 324, 325, 326, 180, 181, 28, 327, 328, 329, 330, 331, 332, 333, 334, 114, 335, 132, 336, 337, 338, 339, 340, 341, 342, 343, 344, 345, 346, 347, 348, 23, 349, 350, 351, 352, 353, 646, 647, 648, 649, 650, 651, 652, 653, 654, 655, 656, 657, 640, 641, 642, 643, 644, 645, 606, 607, 608, 609, 610, 611, 612, 637, 638, 639, 635, 636] (by decide +kernel) (by decide +kernel)) (goodIn_sub (fun _ h => List.mem_append_left _ (List.mem_append_right _ h)) (by decide +kernel))) (goodIn_sub (fun _ h => List.mem_append_right _ h) (by decide +kernel))
set_option maxRecDepth 20000 in
theorem gL_law_L_join : GoodIn wsL_law (va_wsS RL 103 yL_join wsL_join) := goodIn_app (goodIn_of _ (by decide +kernel)) ggL_law_L_join
set_option maxRecDepth 20000 in
theorem ggL_law_X5_join : GoodIn wsL_law wsX5_join := goodIn_r _ [357, 85, 57, 53, 59, 61, 62, 64, 358, 359, 360, 5, 361, 261, 86, 87, 88, 362, 363, 364, 365, 212, 366, 367, 368, 369, 370, 371, 372, 373, 60, 260, 63, 374, 375, 376, 377, 54, 48, 52, 378, 379, 380, 381, 49, 382, 383, 384, 385, 386, 387, 388, 389, 390, 391, 392, 393, 394, 395, 396, 397, 398, 399, 400, 401, 402, 403, 404, 55, 50, 405, 406, 407, 408, 613, 614, 615, 616, 617, 618, 619, 620, 621, 622, 623, 624, 625, 626, 627, 628, 629, 630, 631, 632, 633, 634] (by decide +kernel) (by decide +kernel)
set_option maxRecDepth 20000 in
theorem gL_law_X5_join : GoodIn wsL_law (wsV RL 106 RX5 yX5_join wsX5_join) := goodIn_app (goodIn_of _ (by decide +kernel)) ggL_law_X5_join
set_option maxRecDepth 20000 in
theorem ggL_law_L_again : GoodIn wsL_law wsL_again := goodIn_ca (goodIn_ca (goodIn_r _ [411, 216, 107, 412, 413, 414, 2, 415, 123, 124, 309, 276, 277, 278, 279, 280, 229, 230, 22, 281, 115, 116, 117, 19, 118, 119, 232, 233, 234, 235, 236, 237, 238, 239, 240, 241, 242, 243, 244, 245, 246, 247, 33, 305, 306, 307, 308, 221, 310, 311, 312, 313, 314, 315, 153, 154, 155, 16, 274, 316, 317, 318, 15, 319, 320, 321, 27, 322, 323, 324, 325, 326, 180, 181, 28, 327, 328, 329, 330, 331, 332, 333, 334, 114, 335, 132, 336, 337, 338, 339, 340, 341, 342, 343, 344, 345, 346, 347, 348, 23, 349, 350, 351, 352, 353, 651, 652, 653, 654, 655, 656, 657, 606, 607, 608, 609, 610, 611, 612, 637, 638, 639, 640, 641, 642, 643, 644, 645, 635, 636] (by decide +kernel) (by decide +kernel)) (goodIn_sub (fun _ h => List.mem_append_left _ (List.mem_append_right _ h)) (by decide +kernel))) (goodIn_sub (fun _ h => List.mem_append_right _ h) (by decide +kernel))
set_option maxRecDepth 20000 in
theorem gL_law_L_again : GoodIn wsL_law (va_wsS RL 107 yL_again wsL_again) := goodIn_app (goodIn_of _ (by decide +kernel)) ggL_law_L_again
set_option maxRecDepth 20000 in
theorem ggL_law_X5_again : GoodIn wsL_law wsX5_again := goodIn_r _ [419, 63, 85, 64, 358, 359, 360, 5, 361, 261, 86, 87, 88, 370, 371, 372, 373, 60, 260, 59, 374, 375, 376, 377, 54, 48, 52, 378, 379, 380, 381, 49, 382, 383, 384, 385, 386, 387, 388, 389, 390, 391, 392, 393, 62, 394, 395, 396, 397, 398, 399, 400, 401, 402, 403, 404, 55, 50, 405, 406, 407, 408, 613, 614, 615, 616, 617, 618, 619, 620, 621, 622, 623, 624, 625, 626, 627, 628, 629, 630, 631, 632, 633, 634] (by decide +kernel) (by decide +kernel)
set_option maxRecDepth 20000 in
theorem gL_law_X5_again : GoodIn wsL_law (wsV RL 109 RX5 yX5_again wsX5_again) := goodIn_app (goodIn_of _ (by decide +kernel)) ggL_law_X5_again
set_option maxRecDepth 20000 in
theorem ggL_law_L_drop : GoodIn wsL_law wsL_drop := goodIn_ca (goodIn_ca (goodIn_r _ [422, 216, 107, 423, 424, 425, 2, 426, 123, 124, 309, 276, 427, 277, 278, 279, 280, 229, 230, 22, 281, 115, 116, 117, 19, 118, 119, 232, 233, 234, 235, 236, 237, 238, 239, 240, 241, 242, 243, 244, 245, 246, 247, 33, 282, 283, 284, 290, 291, 292, 224, 293, 294, 295, 296, 428, 429, 430, 431, 252, 253, 432, 433, 434, 435, 305, 306, 307, 308, 221, 310, 311, 312, 313, 314, 315, 153, 154, 155, 16, 274, 316, 317, 318, 15, 319, 320, 321, 27, 322, 323, 324, 325, 326, 180, 181, 28, 327, 328, 329, 330, 331, 332, 333, 334, 114, 335, 132, 336, 337, 338, 339, 340, 341, 342, 343, 344, 345, 346, 347, 348, 23, 349, 350, 351, 352, 353, 651, 652, 653, 654, 655, 656, 657, 606, 607, 608, 609, 610, 611, 612, 637, 638, 639, 640, 641, 642, 643, 644, 645, 635, 636] (by decide +kernel) (by decide +kernel)) (goodIn_sub (fun _ h => List.mem_append_left _ (List.mem_append_right _ h)) (by decide +kernel))) (goodIn_sub (fun _ h => List.mem_append_right _ h) (by decide +kernel))
set_option maxRecDepth 20000 in
theorem gL_law_L_drop : GoodIn wsL_law (va_wsS RL 110 yL_drop wsL_drop) := goodIn_app (goodIn_of _ (by decide +kernel)) ggL_law_L_drop
set_option maxRecDepth 20000 in
theorem ggL_law_X5_drop : GoodIn wsL_law wsX5_drop := goodIn_r _ [439, 85, 63, 61, 62, 64, 261, 440, 358, 359, 360, 5, 361, 86, 87, 88, 366, 367, 368, 369, 441, 442, 443, 444, 370, 371, 372, 373, 60, 260, 59, 374, 375, 376, 377, 54, 48, 52, 378, 379, 380, 381, 49, 382, 383, 384, 385, 386, 387, 388, 389, 390, 391, 392, 393, 394, 395, 396, 397, 398, 399, 400, 401, 402, 403, 404, 55, 50, 405, 406, 407, 408, 613, 614, 615, 616, 617, 618, 619, 620, 621, 622, 623, 624, 625, 626, 627, 628, 629, 630, 631, 632, 633, 634] (by decide +kernel) (by decide +kernel)
set_option maxRecDepth 20000 in
theorem gL_law_X5_drop : GoodIn wsL_law (wsV RL 112 RX5 yX5_drop wsX5_drop) := goodIn_app (goodIn_of _ (by decide +kernel)) ggL_law_X5_drop
set_option maxRecDepth 20000 in
theorem ggL_law_L_pass : GoodIn wsL_law wsL_pass := goodIn_ca (goodIn_ca (goodIn_r _ [447, 69, 107, 448, 449, 450, 2, 451, 123, 124, 221, 22, 281, 76, 77, 78, 79, 80, 115, 116, 117, 19, 118, 119, 232, 233, 234, 235, 236, 237, 238, 239, 240, 241, 242, 243, 244, 245, 246, 247, 33, 452, 453, 454, 455, 309, 276, 331, 274, 348, 456, 457, 349, 458, 459, 606, 607, 608, 609, 610, 611, 612, 637, 638, 639, 651, 652, 653, 654, 655, 656, 657, 640, 641, 642, 643, 644, 645, 646, 647, 648, 649, 650] (by decide +kernel) (by decide +kernel)) (goodIn_sub (fun _ h => List.mem_append_left _ (List.mem_append_right _ h)) (by decide +kernel))) (goodIn_sub (fun _ h => List.mem_append_left _ (List.mem_append_left _ (List.mem_append_right _ h))) (by decide +kernel))
set_option maxRecDepth 20000 in
theorem gL_law_L_pass : GoodIn wsL_law (va_wsS RL 113 yL_pass wsL_pass) := goodIn_app (goodIn_of _ (by decide +kernel)) ggL_law_L_pass
set_option maxRecDepth 20000 in
theorem ggL_law_X5_pass : GoodIn wsL_law wsX5_pass := goodIn_r _ [463, 260, 85, 86, 87, 5, 88, 464, 465, 466, 467, 261, 63, 64, 56, 59, 394, 395, 396, 397, 54, 468, 469, 470, 471, 58, 62, 55, 613, 614, 615, 616, 617, 618, 619, 620, 621, 622, 623, 624, 625, 626, 627, 628, 629, 630, 631, 632, 633, 634] (by decide +kernel) (by decide +kernel)
set_option maxRecDepth 20000 in
theorem gL_law_X5_pass : GoodIn wsL_law (wsV RL 115 RX5 yX5_pass wsX5_pass) := goodIn_app (goodIn_of _ (by decide +kernel)) ggL_law_X5_pass
set_option maxRecDepth 20000 in
theorem ggL_law_X4_minute : GoodIn wsL_law wsX4_minute := goodIn_r _ [475, 221, 606, 607, 608, 609, 610, 611, 612] (by decide +kernel) (by decide +kernel)
set_option maxRecDepth 20000 in
theorem gL_law_X4_minute : GoodIn wsL_law (wsV RL 116 RX4 yX4_minute wsX4_minute) := goodIn_app (goodIn_of _ (by decide +kernel)) ggL_law_X4_minute
set_option maxRecDepth 20000 in
theorem ggL_law_X5_minute : GoodIn wsL_law wsX5_minute := goodIn_r _ [479, 85, 260, 613, 614, 615, 616, 617, 618, 619, 620, 621, 622, 623, 624, 625, 626, 627, 628, 629, 630, 631, 632, 633, 634] (by decide +kernel) (by decide +kernel)
set_option maxRecDepth 20000 in
theorem gL_law_X5_minute : GoodIn wsL_law (wsV RL 119 RX5 yX5_minute wsX5_minute) := goodIn_app (goodIn_of _ (by decide +kernel)) ggL_law_X5_minute
set_option maxRecDepth 20000 in
theorem ggL_law_L_level : GoodIn wsL_law wsL_level := goodIn_ca (goodIn_r _ [482, 69, 483, 484, 485, 2, 486, 16, 76, 77, 78, 79, 80, 487, 323, 324, 15, 325, 326, 180, 154, 181, 28, 606, 607, 608, 609, 610, 611, 612, 635, 636] (by decide +kernel) (by decide +kernel)) (goodIn_sub (fun _ h => List.mem_append_left _ (List.mem_append_left _ (List.mem_append_right _ h))) (by decide +kernel))
set_option maxRecDepth 20000 in
theorem gL_law_L_level : GoodIn wsL_law (va_wsS RL 120 yL_level wsL_level) := goodIn_app (goodIn_of _ (by decide +kernel)) ggL_law_L_level
set_option maxRecDepth 20000 in
theorem ggL_law_X5_level : GoodIn wsL_law wsX5_level := goodIn_r _ [491, 85, 86, 87, 5, 88, 378, 379, 380, 381, 49, 613, 614, 615, 616, 617, 618, 619, 620, 621, 622, 623, 624, 625, 626, 627, 628, 629, 630, 631, 632, 633, 634] (by decide +kernel) (by decide +kernel)
set_option maxRecDepth 20000 in
theorem gL_law_X5_level : GoodIn wsL_law (wsV RL 122 RX5 yX5_level wsX5_level) := goodIn_app (goodIn_of _ (by decide +kernel)) ggL_law_X5_level
set_option maxRecDepth 20000 in
theorem ggL_law_L_window : GoodIn wsL_law wsL_window := goodIn_ca (goodIn_ca (goodIn_r _ [494, 216, 69, 495, 496, 497, 2, 498, 16, 315, 153, 154, 155, 225, 226, 227, 228, 229, 230, 20, 231, 115, 116, 117, 19, 118, 119, 232, 233, 234, 235, 236, 237, 238, 239, 240, 241, 242, 243, 244, 245, 246, 247, 33, 76, 77, 78, 79, 80, 316, 317, 318, 15, 319, 320, 321, 27, 322, 323, 324, 325, 326, 180, 181, 28, 606, 607, 608, 609, 610, 611, 612, 637, 638, 639, 640, 641, 642, 643, 644, 645, 635, 636] (by decide +kernel) (by decide +kernel)) (goodIn_sub (fun _ h => List.mem_append_right _ h) (by decide +kernel))) (goodIn_sub (fun _ h => List.mem_append_left _ (List.mem_append_left _ (List.mem_append_right _ h))) (by decide +kernel))
set_option maxRecDepth 20000 in
theorem gL_law_L_window : GoodIn wsL_law (va_wsS RL 123 yL_window wsL_window) := goodIn_app (goodIn_of _ (by decide +kernel)) ggL_law_L_window
set_option maxRecDepth 20000 in
theorem ggL_law_X5_window : GoodIn wsL_law wsX5_window := goodIn_r _ [502, 85, 262, 263, 264, 5, 265, 190, 86, 87, 88, 374, 375, 376, 377, 54, 48, 52, 378, 379, 380, 381, 49, 613, 614, 615, 616, 617, 618, 619, 620, 621, 622, 623, 624, 625, 626, 627, 628, 629, 630, 631, 632, 633, 634] (by decide +kernel) (by decide +kernel)
set_option maxRecDepth 20000 in
theorem gL_law_X5_window : GoodIn wsL_law (wsV RL 125 RX5 yX5_window wsX5_window) := goodIn_app (goodIn_of _ (by decide +kernel)) ggL_law_X5_window
set_option maxRecDepth 20000 in
theorem ggL_law_L_ofConference : GoodIn wsL_law wsL_ofConference := goodIn_ca (goodIn_r _ [505, 216, 506, 507, 508, 2, 509, 229, 230, 309, 276, 331, 510, 274, 511, 277, 278, 279, 280, 22, 281, 115, 116, 117, 19, 118, 119, 232, 233, 234, 235, 236, 237, 238, 239, 240, 241, 242, 243, 244, 245, 246, 247, 33, 301, 302, 303, 224, 304, 294, 295, 296, 651, 652, 653, 654, 655, 656, 657, 646, 647, 648, 649, 650, 640, 641, 642, 643, 644, 645, 606, 607, 608, 609, 610, 611, 612, 637, 638, 639] (by decide +kernel) (by decide +kernel)) (goodIn_sub (fun _ h => List.mem_append_right _ h) (by decide +kernel))
set_option maxRecDepth 20000 in
theorem gL_law_L_ofConference : GoodIn wsL_law (va_wsS RL 126 yL_ofConference wsL_ofConference) := goodIn_app (goodIn_of _ (by decide +kernel)) ggL_law_L_ofConference
set_option maxRecDepth 20000 in
theorem ggL_law_X5_ofConference : GoodIn wsL_law wsX5_ofConference := goodIn_r _ [515, 85, 63, 64, 62, 61, 59, 358, 359, 360, 5, 361, 261, 86, 87, 88, 516, 517, 518, 613, 614, 615, 616, 617, 618, 619, 620, 621, 622, 623, 624, 625, 626, 627, 628, 629, 630, 631, 632, 633, 634] (by decide +kernel) (by decide +kernel)
set_option maxRecDepth 20000 in
theorem gL_law_X5_ofConference : GoodIn wsL_law (wsV RL 128 RX5 yX5_ofConference wsX5_ofConference) := goodIn_app (goodIn_of _ (by decide +kernel)) ggL_law_X5_ofConference
set_option maxRecDepth 20000 in
theorem ggL_law_L_why : GoodIn wsL_law wsL_why := goodIn_ca (goodIn_ca (goodIn_ca (goodIn_r _ [521, 216, 69, 107, 522, 523, 524, 2, 525, 123, 124, 221, 331, 16, 274, 277, 278, 279, 280, 229, 230, 22, 281, 115, 116, 117, 19, 118, 119, 232, 233, 234, 235, 236, 237, 238, 239, 240, 241, 242, 243, 244, 245, 246, 247, 33, 76, 77, 78, 79, 80, 316, 317, 318, 15, 319, 320, 321, 27, 322, 323, 324, 325, 326, 180, 154, 181, 28, 327, 328, 329, 330, 276, 315, 153, 155, 332, 333, 334, 114, 335, 132, 336, 344, 345, 346, 347, 348, 23, 349, 350, 351, 352, 353, 337, 338, 339, 340, 341, 342, 343, 606, 607, 608, 609, 610, 611, 612, 651, 652, 653, 654, 655, 656, 657, 637, 638, 639, 640, 641, 642, 643, 644, 645, 635, 636] (by decide +kernel) (by decide +kernel)) (goodIn_sub (fun _ h => List.mem_append_left _ (List.mem_append_right _ h)) (by decide +kernel))) (goodIn_sub (fun _ h => List.mem_append_right _ h) (by decide +kernel))) (goodIn_sub (fun _ h => List.mem_append_left _ (List.mem_append_left _ (List.mem_append_right _ h))) (by decide +kernel))
set_option maxRecDepth 20000 in
theorem gL_law_L_why : GoodIn wsL_law (va_wsS RL 129 yL_why wsL_why) := goodIn_app (goodIn_of _ (by decide +kernel)) ggL_law_L_why
set_option maxRecDepth 20000 in
theorem ggL_law_X5_why : GoodIn wsL_law wsX5_why := goodIn_r _ [529, 260, 62, 85, 59, 358, 359, 360, 5, 361, 261, 86, 87, 88, 374, 375, 376, 377, 54, 48, 52, 378, 379, 380, 381, 49, 390, 391, 392, 393, 64, 386, 387, 388, 389, 63, 394, 395, 396, 397, 398, 399, 400, 401, 402, 403, 404, 55, 50, 405, 406, 407, 408, 382, 383, 384, 385, 613, 614, 615, 616, 617, 618, 619, 620, 621, 622, 623, 624, 625, 626, 627, 628, 629, 630, 631, 632, 633, 634] (by decide +kernel) (by decide +kernel)
set_option maxRecDepth 20000 in
theorem gL_law_X5_why : GoodIn wsL_law (wsV RL 131 RX5 yX5_why wsX5_why) := goodIn_app (goodIn_of _ (by decide +kernel)) ggL_law_X5_why
set_option maxRecDepth 20000 in
theorem ggL_law_L_rested : GoodIn wsL_law wsL_rested := goodIn_ca (goodIn_r _ [532, 216, 533, 534, 535, 2, 536, 285, 286, 287, 288, 229, 230, 21, 289, 115, 116, 117, 19, 118, 119, 232, 233, 234, 235, 236, 237, 238, 239, 240, 241, 242, 243, 244, 245, 246, 247, 33, 537, 538, 539, 540, 221, 22, 281, 331, 276, 274, 315, 153, 154, 155, 332, 333, 334, 114, 335, 132, 336, 606, 607, 608, 609, 610, 611, 612, 637, 638, 639, 651, 652, 653, 654, 655, 656, 657, 640, 641, 642, 643, 644, 645] (by decide +kernel) (by decide +kernel)) (goodIn_sub (fun _ h => List.mem_append_right _ h) (by decide +kernel))
set_option maxRecDepth 20000 in
theorem gL_law_L_rested : GoodIn wsL_law (va_wsS RL 132 yL_rested wsL_rested) := goodIn_app (goodIn_of _ (by decide +kernel)) ggL_law_L_rested
set_option maxRecDepth 20000 in
theorem ggL_law_X5_rested : GoodIn wsL_law wsX5_rested := goodIn_r _ [544, 85, 260, 261, 62, 54, 59, 362, 363, 364, 5, 365, 212, 86, 87, 88, 386, 387, 388, 389, 63, 394, 395, 396, 397, 64, 398, 399, 400, 613, 614, 615, 616, 617, 618, 619, 620, 621, 622, 623, 624, 625, 626, 627, 628, 629, 630, 631, 632, 633, 634] (by decide +kernel) (by decide +kernel)
set_option maxRecDepth 20000 in
theorem gL_law_X5_rested : GoodIn wsL_law (wsV RL 134 RX5 yX5_rested wsX5_rested) := goodIn_app (goodIn_of _ (by decide +kernel)) ggL_law_X5_rested
set_option maxRecDepth 20000 in
theorem ggL_law_L_restedAnew : GoodIn wsL_law wsL_restedAnew := goodIn_ca (goodIn_r _ [547, 216, 548, 549, 550, 2, 551, 285, 286, 287, 288, 229, 230, 21, 289, 115, 116, 117, 19, 118, 119, 232, 233, 234, 235, 236, 237, 238, 239, 240, 241, 242, 243, 244, 245, 246, 247, 33, 537, 538, 539, 540, 221, 22, 281, 331, 276, 274, 315, 153, 154, 155, 332, 333, 334, 114, 335, 132, 336, 606, 607, 608, 609, 610, 611, 612, 637, 638, 639, 651, 652, 653, 654, 655, 656, 657, 640, 641, 642, 643, 644, 645] (by decide +kernel) (by decide +kernel)) (goodIn_sub (fun _ h => List.mem_append_right _ h) (by decide +kernel))
set_option maxRecDepth 20000 in
theorem gL_law_L_restedAnew : GoodIn wsL_law (va_wsS RL 135 yL_restedAnew wsL_restedAnew) := goodIn_app (goodIn_of _ (by decide +kernel)) ggL_law_L_restedAnew
set_option maxRecDepth 20000 in
theorem ggL_law_X5_restedAnew : GoodIn wsL_law wsX5_restedAnew := goodIn_r _ [555, 556, 542, 543, 5, 544, 85, 260, 261, 62, 54, 59, 362, 363, 364, 365, 212, 86, 87, 88, 386, 387, 388, 389, 63, 394, 395, 396, 397, 64, 398, 399, 400, 613, 614, 615, 616, 617, 618, 619, 620, 621, 622, 623, 624, 625, 626, 627, 628, 629, 630, 631, 632, 633, 634] (by decide +kernel) (by decide +kernel)
set_option maxRecDepth 20000 in
theorem gL_law_X5_restedAnew : GoodIn wsL_law (wsV RL 137 RX5 yX5_restedAnew wsX5_restedAnew) := goodIn_app (goodIn_of _ (by decide +kernel)) ggL_law_X5_restedAnew
set_option maxRecDepth 20000 in
theorem ggL_law_L_bill : GoodIn wsL_law wsL_bill := goodIn_ca (goodIn_r _ [559, 216, 560, 561, 562, 2, 563, 456, 225, 226, 227, 228, 229, 230, 20, 231, 115, 116, 117, 19, 118, 119, 232, 233, 234, 235, 236, 237, 238, 239, 240, 241, 242, 243, 244, 245, 246, 247, 33, 640, 641, 642, 643, 644, 645, 606, 607, 608, 609, 610, 611, 612, 637, 638, 639] (by decide +kernel) (by decide +kernel)) (goodIn_sub (fun _ h => List.mem_append_right _ h) (by decide +kernel))
set_option maxRecDepth 20000 in
theorem gL_law_L_bill : GoodIn wsL_law (va_wsS RL 138 yL_bill wsL_bill) := goodIn_app (goodIn_of _ (by decide +kernel)) ggL_law_L_bill
set_option maxRecDepth 20000 in
theorem ggL_law_X5_bill : GoodIn wsL_law wsX5_bill := goodIn_r _ [567, 85, 56, 262, 263, 264, 5, 265, 190, 86, 87, 88, 613, 614, 615, 616, 617, 618, 619, 620, 621, 622, 623, 624, 625, 626, 627, 628, 629, 630, 631, 632, 633, 634] (by decide +kernel) (by decide +kernel)
set_option maxRecDepth 20000 in
theorem gL_law_X5_bill : GoodIn wsL_law (wsV RL 140 RX5 yX5_bill wsX5_bill) := goodIn_app (goodIn_of _ (by decide +kernel)) ggL_law_X5_bill
set_option maxRecDepth 20000 in
theorem ggL_law_L_ofPilot : GoodIn wsL_law wsL_ofPilot := goodIn_ca (goodIn_r _ [570, 216, 571, 572, 573, 2, 574, 229, 230, 458, 459, 457, 285, 286, 287, 288, 21, 289, 115, 116, 117, 19, 118, 119, 232, 233, 234, 235, 236, 237, 238, 239, 240, 241, 242, 243, 244, 245, 246, 247, 33, 575, 576, 577, 578, 22, 281, 331, 309, 646, 647, 648, 649, 650, 606, 607, 608, 609, 610, 611, 612, 637, 638, 639, 651, 652, 653, 654, 655, 656, 657] (by decide +kernel) (by decide +kernel)) (goodIn_sub (fun _ h => List.mem_append_right _ h) (by decide +kernel))
set_option maxRecDepth 20000 in
theorem gL_law_L_ofPilot : GoodIn wsL_law (va_wsS RL 141 yL_ofPilot wsL_ofPilot) := goodIn_app (goodIn_of _ (by decide +kernel)) ggL_law_L_ofPilot
set_option maxRecDepth 20000 in
theorem ggL_law_X5_ofPilot : GoodIn wsL_law wsX5_ofPilot := goodIn_r _ [582, 85, 261, 62, 63, 54, 59, 58, 362, 363, 364, 5, 365, 212, 86, 87, 88, 613, 614, 615, 616, 617, 618, 619, 620, 621, 622, 623, 624, 625, 626, 627, 628, 629, 630, 631, 632, 633, 634] (by decide +kernel) (by decide +kernel)
set_option maxRecDepth 20000 in
theorem gL_law_X5_ofPilot : GoodIn wsL_law (wsV RL 143 RX5 yX5_ofPilot wsX5_ofPilot) := goodIn_app (goodIn_of _ (by decide +kernel)) ggL_law_X5_ofPilot
set_option maxRecDepth 20000 in
theorem ggL_law_L_count : GoodIn wsL_law wsL_count := goodIn_ca (goodIn_r _ [585, 69, 586, 587, 588, 2, 589, 221, 427, 76, 77, 78, 79, 80, 350, 351, 352, 353, 22, 281, 276, 274, 348, 349, 115, 116, 117, 19, 118, 119, 232, 233, 234, 235, 236, 237, 238, 239, 240, 241, 242, 243, 244, 245, 246, 247, 33, 590, 591, 592, 593, 20, 231, 456, 594, 595, 596, 597, 309, 606, 607, 608, 609, 610, 611, 612, 651, 652, 653, 654, 655, 656, 657, 640, 641, 642, 643, 644, 645, 637, 638, 639] (by decide +kernel) (by decide +kernel)) (goodIn_sub (fun _ h => List.mem_append_left _ (List.mem_append_left _ (List.mem_append_right _ h))) (by decide +kernel))
set_option maxRecDepth 20000 in
theorem gL_law_L_count : GoodIn wsL_law (va_wsS RL 144 yL_count wsL_count) := goodIn_app (goodIn_of _ (by decide +kernel)) ggL_law_L_count
set_option maxRecDepth 20000 in
theorem ggL_law_X5_count : GoodIn wsL_law wsX5_count := goodIn_r _ [601, 85, 440, 261, 63, 55, 59, 86, 87, 5, 88, 602, 603, 604, 605, 190, 56, 613, 614, 615, 616, 617, 618, 619, 620, 621, 622, 623, 624, 625, 626, 627, 628, 629, 630, 631, 632, 633, 634] (by decide +kernel) (by decide +kernel)
set_option maxRecDepth 20000 in
theorem gL_law_X5_count : GoodIn wsL_law (wsV RL 146 RX5 yX5_count wsX5_count) := goodIn_app (goodIn_of _ (by decide +kernel)) ggL_law_X5_count
