set_option maxRecDepth 20000 in
theorem ggL_law_L_cell : GoodIn wsL_law wsL_cell := goodIn_r _ [12] (by decide +kernel) (by decide +kernel)
set_option maxRecDepth 20000 in
theorem gL_law_L_cell : GoodIn wsL_law (va_wsS RL 63 yL_cell wsL_cell) := goodIn_app (goodIn_of _ (by decide +kernel)) ggL_law_L_cell
set_option maxRecDepth 20000 in
theorem ggL_law_X6_init : GoodIn wsL_law wsX6_init := goodIn_r _ [15, 16, 17, 18, 19, 20, 21, 22, 23, 24, 25, 26, 27, 28, 29, 30, 31, 32, 33, 34, 35, 36, 37, 38, 39, 40, 41, 42, 43, 44, 45, 46, 47, 48, 49, 50, 51, 52, 53, 54, 55, 56, 57, 7, 58, 59, 60, 61, 62, 63, 64, 65, 66, 67, 68, 69, 70, 71, 72, 73, 74, 75, 76, 77, 78, 79, 80, 81, 82, 83, 84, 85, 605, 606, 607, 608, 609, 610, 611, 612, 644, 645, 646, 647, 648, 649, 650, 651, 652, 653, 654, 655, 656, 657, 658, 659, 660, 661, 662, 663, 664, 665, 666, 667] (by decide +kernel) (by decide +kernel)
set_option maxRecDepth 20000 in
theorem gL_law_X6_init : GoodIn wsL_law (wsX6_init) := ggL_law_X6_init
set_option maxRecDepth 20000 in
theorem ggL_law_X7_init : GoodIn wsL_law wsX7_init := goodIn_r _ [88, 89, 17, 18, 7, 90, 91, 92, 93, 94, 95, 96, 80, 97, 98, 82, 99, 100, 101, 102, 103, 104, 105, 106, 107, 108, 109, 110, 111, 613, 614, 615, 616, 617, 618, 619, 620, 621, 622, 623, 624, 625, 626, 627, 628, 629, 630, 631, 632, 633, 634, 635, 636, 637, 638, 639, 640, 641, 642, 643] (by decide +kernel) (by decide +kernel)
set_option maxRecDepth 20000 in
theorem gL_law_X7_init : GoodIn wsL_law (wsX7_init) := ggL_law_X7_init
set_option maxRecDepth 20000 in
theorem ggL_law_L_board : GoodIn wsL_law wsL_board := goodIn_ca (goodIn_r _ [114, 115, 116, 117, 118, 119, 2, 120, 121, 122, 123, 124, 125, 126, 32, 127, 128, 129, 130, 131, 132, 133, 28, 134, 135, 136, 137, 138, 139, 140, 141, 34, 142, 143, 58, 144, 59, 145, 146, 605, 606, 607, 608, 609, 610, 611, 612, 668, 669, 670, 671, 672, 673, 646, 647, 648, 649, 650, 651, 652] (by decide +kernel) (by decide +kernel)) (goodIn_sub (fun _ h => List.mem_append_left _ (List.mem_append_right _ h)) (by decide +kernel))
set_option maxRecDepth 20000 in
theorem gL_law_L_board : GoodIn wsL_law (va_wsS RL 77 yL_board wsL_board) := goodIn_app (goodIn_of _ (by decide +kernel)) ggL_law_L_board
set_option maxRecDepth 20000 in
theorem ggL_law_X7_board : GoodIn wsL_law wsX7_board := goodIn_r _ [150, 151, 152, 153, 97, 98, 110, 99, 102, 104, 100, 154, 155, 156, 5, 157, 111, 158, 159, 160, 613, 614, 615, 616, 617, 618, 619, 620, 621, 622, 623, 624, 625, 626, 627, 628, 629, 630, 631, 632, 633, 634, 635, 636, 637, 638, 639, 640, 641, 642, 643] (by decide +kernel) (by decide +kernel)
set_option maxRecDepth 20000 in
theorem gL_law_X7_board : GoodIn wsL_law (wsV RL 80 RX7 yX7_board wsX7_board) := goodIn_app (goodIn_of _ (by decide +kernel)) ggL_law_X7_board
set_option maxRecDepth 20000 in
theorem ggL_law_X7_thrown : GoodIn wsL_law wsX7_thrown := goodIn_r _ [164, 153, 613, 614, 615, 616, 617, 618, 619, 620, 621, 622, 623, 624, 625, 626, 627, 628, 629, 630, 631, 632, 633, 634, 635, 636, 637, 638, 639, 640, 641, 642, 643] (by decide +kernel) (by decide +kernel)
set_option maxRecDepth 20000 in
theorem gL_law_X7_thrown : GoodIn wsL_law (wsV RL 81 RX7 yX7_thrown wsX7_thrown) := goodIn_app (goodIn_of _ (by decide +kernel)) ggL_law_X7_thrown
set_option maxRecDepth 20000 in
theorem ggL_law_L_rate : GoodIn wsL_law wsL_rate := goodIn_ca (goodIn_r _ [167, 115, 116, 168, 169, 170, 2, 171, 172, 173, 174, 130, 131, 132, 133, 28, 127, 128, 129, 134, 135, 136, 137, 138, 644, 645, 605, 606, 607, 608, 609, 610, 611, 612, 668, 669, 670, 671, 672, 673] (by decide +kernel) (by decide +kernel)) (goodIn_sub (fun _ h => List.mem_append_left _ (List.mem_append_right _ h)) (by decide +kernel))
set_option maxRecDepth 20000 in
theorem gL_law_L_rate : GoodIn wsL_law (va_wsS RL 85 yL_rate wsL_rate) := goodIn_app (goodIn_of _ (by decide +kernel)) ggL_law_L_rate
set_option maxRecDepth 20000 in
theorem ggL_law_X7_rate : GoodIn wsL_law wsX7_rate := goodIn_r _ [178, 179, 153, 90, 91, 158, 159, 5, 160, 613, 614, 615, 616, 617, 618, 619, 620, 621, 622, 623, 624, 625, 626, 627, 628, 629, 630, 631, 632, 633, 634, 635, 636, 637, 638, 639, 640, 641, 642, 643] (by decide +kernel) (by decide +kernel)
set_option maxRecDepth 20000 in
theorem gL_law_X7_rate : GoodIn wsL_law (wsV RL 88 RX7 yX7_rate wsX7_rate) := goodIn_app (goodIn_of _ (by decide +kernel)) ggL_law_X7_rate
set_option maxRecDepth 20000 in
theorem ggL_law_L_air : GoodIn wsL_law wsL_air := goodIn_ca (goodIn_r _ [182, 116, 183, 184, 185, 2, 186, 187, 121, 188, 38, 189, 190, 191, 134, 135, 136, 137, 138, 605, 606, 607, 608, 609, 610, 611, 612, 653, 654, 655, 656] (by decide +kernel) (by decide +kernel)) (goodIn_sub (fun _ h => List.mem_append_left _ (List.mem_append_right _ h)) (by decide +kernel))
set_option maxRecDepth 20000 in
theorem gL_law_L_air : GoodIn wsL_law (va_wsS RL 89 yL_air wsL_air) := goodIn_app (goodIn_of _ (by decide +kernel)) ggL_law_L_air
set_option maxRecDepth 20000 in
theorem ggL_law_X7_air : GoodIn wsL_law wsX7_air := goodIn_r _ [195, 196, 151, 197, 153, 93, 95, 96, 158, 159, 5, 160, 613, 614, 615, 616, 617, 618, 619, 620, 621, 622, 623, 624, 625, 626, 627, 628, 629, 630, 631, 632, 633, 634, 635, 636, 637, 638, 639, 640, 641, 642, 643] (by decide +kernel) (by decide +kernel)
set_option maxRecDepth 20000 in
theorem gL_law_X7_air : GoodIn wsL_law (wsV RL 92 RX7 yX7_air wsX7_air) := goodIn_app (goodIn_of _ (by decide +kernel)) ggL_law_X7_air
set_option maxRecDepth 20000 in
theorem ggL_law_L_vent : GoodIn wsL_law wsL_vent := goodIn_ca (goodIn_r _ [200, 116, 201, 202, 203, 2, 204, 38, 205, 134, 135, 136, 137, 138, 605, 606, 607, 608, 609, 610, 611, 612, 653, 654, 655, 656] (by decide +kernel) (by decide +kernel)) (goodIn_sub (fun _ h => List.mem_append_left _ (List.mem_append_right _ h)) (by decide +kernel))
set_option maxRecDepth 20000 in
theorem gL_law_L_vent : GoodIn wsL_law (va_wsS RL 93 yL_vent wsL_vent) := goodIn_app (goodIn_of _ (by decide +kernel)) ggL_law_L_vent
set_option maxRecDepth 20000 in
theorem ggL_law_X7_vent : GoodIn wsL_law wsX7_vent := goodIn_r _ [209, 153, 210, 158, 159, 5, 160, 613, 614, 615, 616, 617, 618, 619, 620, 621, 622, 623, 624, 625, 626, 627, 628, 629, 630, 631, 632, 633, 634, 635, 636, 637, 638, 639, 640, 641, 642, 643] (by decide +kernel) (by decide +kernel)
set_option maxRecDepth 20000 in
theorem gL_law_X7_vent : GoodIn wsL_law (wsV RL 96 RX7 yX7_vent wsX7_vent) := goodIn_app (goodIn_of _ (by decide +kernel)) ggL_law_X7_vent
set_option maxRecDepth 20000 in
theorem ggL_law_L_soak : GoodIn wsL_law wsL_soak := goodIn_ca (goodIn_ca (goodIn_r _ [213, 115, 116, 214, 215, 216, 217, 2, 218, 122, 219, 123, 124, 125, 126, 32, 127, 128, 129, 220, 221, 222, 223, 26, 134, 135, 136, 137, 138, 224, 225, 226, 227, 228, 229, 646, 647, 648, 649, 650, 651, 652, 605, 606, 607, 608, 609, 610, 611, 612, 668, 669, 670, 671, 672, 673] (by decide +kernel) (by decide +kernel)) (goodIn_sub (fun _ h => List.mem_append_left _ (List.mem_append_right _ h)) (by decide +kernel))) (goodIn_sub (fun _ h => List.mem_append_right _ h) (by decide +kernel))
set_option maxRecDepth 20000 in
theorem gL_law_L_soak : GoodIn wsL_law (va_wsS RL 97 yL_soak wsL_soak) := goodIn_app (goodIn_of _ (by decide +kernel)) ggL_law_L_soak
set_option maxRecDepth 20000 in
theorem ggL_law_X7_soak : GoodIn wsL_law wsX7_soak := goodIn_r _ [233, 152, 97, 153, 100, 234, 235, 236, 5, 237, 110, 154, 155, 156, 157, 111, 158, 159, 160, 613, 614, 615, 616, 617, 618, 619, 620, 621, 622, 623, 624, 625, 626, 627, 628, 629, 630, 631, 632, 633, 634, 635, 636, 637, 638, 639, 640, 641, 642, 643] (by decide +kernel) (by decide +kernel)
set_option maxRecDepth 20000 in
theorem gL_law_X7_soak : GoodIn wsL_law (wsV RL 100 RX7 yX7_soak wsX7_soak) := goodIn_app (goodIn_of _ (by decide +kernel)) ggL_law_X7_soak
set_option maxRecDepth 20000 in
theorem ggL_law_X6_unit : GoodIn wsL_law wsX6_unit := goodIn_r _ [241, 46, 242, 243, 244, 45, 245, 246, 76, 605, 606, 607, 608, 609, 610, 611, 612, 659, 660, 661] (by decide +kernel) (by decide +kernel)
set_option maxRecDepth 20000 in
theorem gL_law_X6_unit : GoodIn wsL_law (wsV RL 101 RX6 yX6_unit wsX6_unit) := goodIn_app (goodIn_of _ (by decide +kernel)) ggL_law_X6_unit
set_option maxRecDepth 20000 in
theorem ggL_law_X7_unit : GoodIn wsL_law wsX7_unit := goodIn_r _ [250, 153, 251, 105, 613, 614, 615, 616, 617, 618, 619, 620, 621, 622, 623, 624, 625, 626, 627, 628, 629, 630, 631, 632, 633, 634, 635, 636, 637, 638, 639, 640, 641, 642, 643] (by decide +kernel) (by decide +kernel)
set_option maxRecDepth 20000 in
theorem gL_law_X7_unit : GoodIn wsL_law (wsV RL 105 RX7 yX7_unit wsX7_unit) := goodIn_app (goodIn_of _ (by decide +kernel)) ggL_law_X7_unit
set_option maxRecDepth 20000 in
theorem ggL_law_X6_schedule : GoodIn wsL_law wsX6_schedule := goodIn_r _ [255, 50, 46, 256, 257, 258, 49, 259, 260, 261, 262, 263, 264, 265, 266, 267, 268, 269, 45, 270, 271, 272, 273, 274, 275, 76, 276, 277, 278, 279, 246, 280, 281, 282, 283, 81, 83, 84, 85, 284, 285, 286, 287, 288, 289, 290, 291, 292, 293, 294, 295, 296, 297, 605, 606, 607, 608, 609, 610, 611, 612, 659, 660, 661, 662, 663, 664, 665, 666, 667] (by decide +kernel) (by decide +kernel)
set_option maxRecDepth 20000 in
theorem gL_law_X6_schedule : GoodIn wsL_law (wsV RL 106 RX6 yX6_schedule wsX6_schedule) := goodIn_app (goodIn_of _ (by decide +kernel)) ggL_law_X6_schedule
set_option maxRecDepth 20000 in
theorem ggL_law_X7_schedule : GoodIn wsL_law wsX7_schedule := goodIn_r _ [301, 153, 302, 303, 304, 251, 105, 305, 306, 307, 308, 5, 309, 106, 107, 310, 108, 109, 311, 312, 313, 314, 315, 316, 317, 318, 319, 320, 321, 322, 323, 324, 325, 326, 613, 614, 615, 616, 617, 618, 619, 620, 621, 622, 623, 624, 625, 626, 627, 628, 629, 630, 631, 632, 633, 634, 635, 636, 637, 638, 639, 640, 641, 642, 643] (by decide +kernel) (by decide +kernel)
set_option maxRecDepth 20000 in
theorem gL_law_X7_schedule : GoodIn wsL_law (wsV RL 109 RX7 yX7_schedule wsX7_schedule) := goodIn_app (goodIn_of _ (by decide +kernel)) ggL_law_X7_schedule
set_option maxRecDepth 20000 in
theorem ggL_law_L_run : GoodIn wsL_law wsL_run := goodIn_ca (goodIn_r _ [329, 116, 330, 331, 332, 2, 333, 137, 138, 334, 335, 336, 337, 338, 32, 229, 38, 191, 339, 340, 341, 34, 342, 343, 144, 344, 59, 345, 346, 347, 348, 58, 349, 350, 351, 30, 352, 353, 354, 355, 356, 357, 358, 42, 359, 360, 361, 362, 50, 363, 364, 365, 189, 366, 367, 190, 368, 369, 370, 371, 372, 373, 374, 375, 376, 377, 378, 379, 380, 381, 382, 383, 384, 385, 386, 387, 388, 37, 389, 390, 66, 64, 391, 392, 393, 394, 395, 396, 397, 398, 399, 400, 401, 402, 403, 404, 405, 406, 407, 408, 409, 41, 410, 411, 412, 413, 414, 415, 416, 417, 68, 418, 419, 420, 421, 145, 146, 422, 423, 424, 425, 426, 427, 428, 429, 430, 431, 432, 433, 434, 605, 606, 607, 608, 609, 610, 611, 612, 646, 647, 648, 649, 650, 651, 652, 653, 654, 655, 656, 644, 645, 662, 663, 664, 665, 666, 667, 657, 658] (by decide +kernel) (by decide +kernel)) (goodIn_sub (fun _ h => List.mem_append_left _ (List.mem_append_right _ h)) (by decide +kernel))
set_option maxRecDepth 20000 in
theorem gL_law_L_run : GoodIn wsL_law (va_wsS RL 110 yL_run wsL_run) := goodIn_app (goodIn_of _ (by decide +kernel)) ggL_law_L_run
