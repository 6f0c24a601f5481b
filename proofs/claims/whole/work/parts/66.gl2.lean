set_option maxRecDepth 20000 in
theorem ggL_law_X7_run : GoodIn wsL_law wsX7_run := goodIn_r _ [438, 153, 439, 440, 441, 442, 5, 443, 111, 97, 110, 100, 98, 96, 179, 444, 90, 99, 91, 445, 446, 447, 448, 304, 303, 108, 93, 109, 449, 95, 450, 451, 452, 453, 106, 107, 454, 455, 456, 457, 458, 459, 460, 461, 462, 463, 464, 465, 101, 466, 467, 468, 469, 210, 470, 471, 472, 473, 474, 475, 476, 477, 478, 479, 480, 481, 482, 483, 484, 485, 102, 104, 103, 486, 487, 488, 489, 490, 491, 492, 493, 494, 613, 614, 615, 616, 617, 618, 619, 620, 621, 622, 623, 624, 625, 626, 627, 628, 629, 630, 631, 632, 633, 634, 635, 636, 637, 638, 639, 640, 641, 642, 643] (by decide +kernel) (by decide +kernel)
set_option maxRecDepth 20000 in
theorem gL_law_X7_run : GoodIn wsL_law (wsV RL 113 RX7 yX7_run wsX7_run) := goodIn_app (goodIn_of _ (by decide +kernel)) ggL_law_X7_run
set_option maxRecDepth 20000 in
theorem ggL_law_L_limit : GoodIn wsL_law wsL_limit := goodIn_ca (goodIn_ca (goodIn_r _ [497, 115, 116, 214, 498, 499, 500, 2, 501, 137, 138, 123, 124, 125, 126, 32, 127, 128, 129, 224, 225, 226, 227, 228, 229, 502, 503, 504, 34, 505, 145, 422, 146, 605, 606, 607, 608, 609, 610, 611, 612, 668, 669, 670, 671, 672, 673, 646, 647, 648, 649, 650, 651, 652] (by decide +kernel) (by decide +kernel)) (goodIn_sub (fun _ h => List.mem_append_left _ (List.mem_append_right _ h)) (by decide +kernel))) (goodIn_sub (fun _ h => List.mem_append_right _ h) (by decide +kernel))
set_option maxRecDepth 20000 in
theorem gL_law_L_limit : GoodIn wsL_law (va_wsS RL 114 yL_limit wsL_limit) := goodIn_app (goodIn_of _ (by decide +kernel)) ggL_law_L_limit
set_option maxRecDepth 20000 in
theorem ggL_law_X7_limit : GoodIn wsL_law wsX7_limit := goodIn_r _ [509, 97, 153, 102, 103, 104, 154, 155, 156, 5, 157, 111, 613, 614, 615, 616, 617, 618, 619, 620, 621, 622, 623, 624, 625, 626, 627, 628, 629, 630, 631, 632, 633, 634, 635, 636, 637, 638, 639, 640, 641, 642, 643] (by decide +kernel) (by decide +kernel)
set_option maxRecDepth 20000 in
theorem gL_law_X7_limit : GoodIn wsL_law (wsV RL 117 RX7 yX7_limit wsX7_limit) := goodIn_app (goodIn_of _ (by decide +kernel)) ggL_law_X7_limit
set_option maxRecDepth 20000 in
theorem ggL_law_L_check : GoodIn wsL_law wsL_check := goodIn_ca (goodIn_r _ [512, 115, 214, 513, 514, 515, 2, 516, 517, 518, 519, 520, 521, 123, 124, 125, 126, 32, 127, 128, 129, 224, 225, 226, 227, 228, 229, 646, 647, 648, 649, 650, 651, 652, 605, 606, 607, 608, 609, 610, 611, 612, 668, 669, 670, 671, 672, 673] (by decide +kernel) (by decide +kernel)) (goodIn_sub (fun _ h => List.mem_append_right _ h) (by decide +kernel))
set_option maxRecDepth 20000 in
theorem gL_law_L_check : GoodIn wsL_law (va_wsS RL 118 yL_check wsL_check) := goodIn_app (goodIn_of _ (by decide +kernel)) ggL_law_L_check
set_option maxRecDepth 20000 in
theorem ggL_law_X7_check : GoodIn wsL_law wsX7_check := goodIn_r _ [525, 104, 154, 155, 156, 5, 157, 111, 526, 527, 528, 529, 97, 153, 613, 614, 615, 616, 617, 618, 619, 620, 621, 622, 623, 624, 625, 626, 627, 628, 629, 630, 631, 632, 633, 634, 635, 636, 637, 638, 639, 640, 641, 642, 643] (by decide +kernel) (by decide +kernel)
set_option maxRecDepth 20000 in
theorem gL_law_X7_check : GoodIn wsL_law (wsV RL 120 RX7 yX7_check wsX7_check) := goodIn_app (goodIn_of _ (by decide +kernel)) ggL_law_X7_check
set_option maxRecDepth 20000 in
theorem ggL_law_L_wet : GoodIn wsL_law wsL_wet := goodIn_ca (goodIn_r _ [532, 115, 214, 533, 534, 535, 2, 536, 219, 123, 124, 125, 126, 32, 127, 128, 129, 220, 221, 222, 223, 26, 224, 225, 226, 227, 228, 229, 646, 647, 648, 649, 650, 651, 652, 605, 606, 607, 608, 609, 610, 611, 612, 668, 669, 670, 671, 672, 673] (by decide +kernel) (by decide +kernel)) (goodIn_sub (fun _ h => List.mem_append_right _ h) (by decide +kernel))
set_option maxRecDepth 20000 in
theorem gL_law_L_wet : GoodIn wsL_law (va_wsS RL 121 yL_wet wsL_wet) := goodIn_app (goodIn_of _ (by decide +kernel)) ggL_law_L_wet
set_option maxRecDepth 20000 in
theorem ggL_law_X7_wet : GoodIn wsL_law wsX7_wet := goodIn_r _ [540, 100, 234, 235, 236, 5, 237, 110, 154, 155, 156, 157, 111, 526, 527, 528, 529, 97, 153, 613, 614, 615, 616, 617, 618, 619, 620, 621, 622, 623, 624, 625, 626, 627, 628, 629, 630, 631, 632, 633, 634, 635, 636, 637, 638, 639, 640, 641, 642, 643] (by decide +kernel) (by decide +kernel)
set_option maxRecDepth 20000 in
theorem gL_law_X7_wet : GoodIn wsL_law (wsV RL 124 RX7 yX7_wet wsX7_wet) := goodIn_app (goodIn_of _ (by decide +kernel)) ggL_law_X7_wet
set_option maxRecDepth 20000 in
theorem ggL_law_L_mean : GoodIn wsL_law wsL_mean := goodIn_ca (goodIn_r _ [543, 115, 214, 544, 545, 546, 2, 547, 518, 519, 520, 521, 123, 124, 125, 126, 32, 127, 128, 129, 224, 225, 226, 227, 228, 229, 382, 383, 384, 34, 385, 58, 605, 606, 607, 608, 609, 610, 611, 612, 668, 669, 670, 671, 672, 673, 646, 647, 648, 649, 650, 651, 652] (by decide +kernel) (by decide +kernel)) (goodIn_sub (fun _ h => List.mem_append_right _ h) (by decide +kernel))
set_option maxRecDepth 20000 in
theorem gL_law_L_mean : GoodIn wsL_law (va_wsS RL 125 yL_mean wsL_mean) := goodIn_app (goodIn_of _ (by decide +kernel)) ggL_law_L_mean
set_option maxRecDepth 20000 in
theorem ggL_law_X7_mean : GoodIn wsL_law wsX7_mean := goodIn_r _ [551, 154, 155, 156, 5, 157, 111, 526, 527, 528, 529, 97, 153, 454, 455, 456, 457, 110, 458, 459, 460, 461, 100, 613, 614, 615, 616, 617, 618, 619, 620, 621, 622, 623, 624, 625, 626, 627, 628, 629, 630, 631, 632, 633, 634, 635, 636, 637, 638, 639, 640, 641, 642, 643] (by decide +kernel) (by decide +kernel)
set_option maxRecDepth 20000 in
theorem gL_law_X7_mean : GoodIn wsL_law (wsV RL 128 RX7 yX7_mean wsX7_mean) := goodIn_app (goodIn_of _ (by decide +kernel)) ggL_law_X7_mean
set_option maxRecDepth 20000 in
theorem ggL_law_L_stress : GoodIn wsL_law wsL_stress := goodIn_ca (goodIn_r _ [554, 115, 214, 555, 556, 557, 2, 558, 219, 123, 124, 125, 126, 32, 127, 128, 129, 220, 221, 222, 223, 26, 224, 225, 226, 227, 228, 229, 559, 432, 34, 433, 344, 434, 560, 428, 429, 430, 58, 431, 646, 647, 648, 649, 650, 651, 652, 605, 606, 607, 608, 609, 610, 611, 612, 668, 669, 670, 671, 672, 673] (by decide +kernel) (by decide +kernel)) (goodIn_sub (fun _ h => List.mem_append_right _ h) (by decide +kernel))
set_option maxRecDepth 20000 in
theorem gL_law_L_stress : GoodIn wsL_law (va_wsS RL 129 yL_stress wsL_stress) := goodIn_app (goodIn_of _ (by decide +kernel)) ggL_law_L_stress
set_option maxRecDepth 20000 in
theorem ggL_law_X7_stress : GoodIn wsL_law wsX7_stress := goodIn_r _ [564, 234, 235, 236, 5, 237, 110, 154, 155, 156, 157, 111, 526, 527, 528, 529, 97, 153, 486, 487, 488, 489, 490, 491, 492, 493, 100, 444, 494, 613, 614, 615, 616, 617, 618, 619, 620, 621, 622, 623, 624, 625, 626, 627, 628, 629, 630, 631, 632, 633, 634, 635, 636, 637, 638, 639, 640, 641, 642, 643] (by decide +kernel) (by decide +kernel)
set_option maxRecDepth 20000 in
theorem gL_law_X7_stress : GoodIn wsL_law (wsV RL 131 RX7 yX7_stress wsX7_stress) := goodIn_app (goodIn_of _ (by decide +kernel)) ggL_law_X7_stress
set_option maxRecDepth 20000 in
theorem ggL_law_X6_balance : GoodIn wsL_law wsX6_balance := goodIn_r _ [568, 38, 386, 387, 388, 37, 389, 390, 66, 64, 391, 392, 605, 606, 607, 608, 609, 610, 611, 612, 653, 654, 655, 656] (by decide +kernel) (by decide +kernel)
set_option maxRecDepth 20000 in
theorem gL_law_X6_balance : GoodIn wsL_law (wsV RL 132 RX6 yX6_balance wsX6_balance) := goodIn_app (goodIn_of _ (by decide +kernel)) ggL_law_X6_balance
set_option maxRecDepth 20000 in
theorem ggL_law_X7_balance : GoodIn wsL_law wsX7_balance := goodIn_r _ [572, 153, 470, 471, 472, 5, 473, 474, 95, 93, 475, 476, 613, 614, 615, 616, 617, 618, 619, 620, 621, 622, 623, 624, 625, 626, 627, 628, 629, 630, 631, 632, 633, 634, 635, 636, 637, 638, 639, 640, 641, 642, 643] (by decide +kernel) (by decide +kernel)
set_option maxRecDepth 20000 in
theorem gL_law_X7_balance : GoodIn wsL_law (wsV RL 136 RX7 yX7_balance wsX7_balance) := goodIn_app (goodIn_of _ (by decide +kernel)) ggL_law_X7_balance
set_option maxRecDepth 20000 in
theorem ggL_law_L_told : GoodIn wsL_law wsL_told := goodIn_r _ [575, 576, 577, 578, 2, 579, 38, 189, 190, 191, 205, 42, 580, 127, 128, 129, 605, 606, 607, 608, 609, 610, 611, 612, 653, 654, 655, 656, 657, 658, 668, 669, 670, 671, 672, 673] (by decide +kernel) (by decide +kernel)
set_option maxRecDepth 20000 in
theorem gL_law_L_told : GoodIn wsL_law (va_wsS RL 137 yL_told wsL_told) := goodIn_app (goodIn_of _ (by decide +kernel)) ggL_law_L_told
set_option maxRecDepth 20000 in
theorem ggL_law_X7_told : GoodIn wsL_law wsX7_told := goodIn_r _ [584, 153, 93, 95, 96, 210, 467, 613, 614, 615, 616, 617, 618, 619, 620, 621, 622, 623, 624, 625, 626, 627, 628, 629, 630, 631, 632, 633, 634, 635, 636, 637, 638, 639, 640, 641, 642, 643] (by decide +kernel) (by decide +kernel)
set_option maxRecDepth 20000 in
theorem gL_law_X7_told : GoodIn wsL_law (wsV RL 139 RX7 yX7_told wsX7_told) := goodIn_app (goodIn_of _ (by decide +kernel)) ggL_law_X7_told
set_option maxRecDepth 20000 in
theorem ggL_law_X6_grams : GoodIn wsL_law wsX6_grams := goodIn_r _ [588, 42, 589, 605, 606, 607, 608, 609, 610, 611, 612, 657, 658] (by decide +kernel) (by decide +kernel)
set_option maxRecDepth 20000 in
theorem gL_law_X6_grams : GoodIn wsL_law (wsV RL 140 RX6 yX6_grams wsX6_grams) := goodIn_app (goodIn_of _ (by decide +kernel)) ggL_law_X6_grams
set_option maxRecDepth 20000 in
theorem ggL_law_X7_grams : GoodIn wsL_law wsX7_grams := goodIn_r _ [593, 153, 468, 613, 614, 615, 616, 617, 618, 619, 620, 621, 622, 623, 624, 625, 626, 627, 628, 629, 630, 631, 632, 633, 634, 635, 636, 637, 638, 639, 640, 641, 642, 643] (by decide +kernel) (by decide +kernel)
set_option maxRecDepth 20000 in
theorem gL_law_X7_grams : GoodIn wsL_law (wsV RL 144 RX7 yX7_grams wsX7_grams) := goodIn_app (goodIn_of _ (by decide +kernel)) ggL_law_X7_grams
set_option maxRecDepth 20000 in
theorem ggL_law_L_count : GoodIn wsL_law wsL_count := goodIn_r _ [596, 597, 598, 599, 2, 600, 334, 50, 363, 127, 128, 129, 374, 375, 376, 377, 32, 229, 605, 606, 607, 608, 609, 610, 611, 612, 662, 663, 664, 665, 666, 667, 668, 669, 670, 671, 672, 673, 646, 647, 648, 649, 650, 651, 652] (by decide +kernel) (by decide +kernel)
set_option maxRecDepth 20000 in
theorem gL_law_L_count : GoodIn wsL_law (va_wsS RL 145 yL_count wsL_count) := goodIn_app (goodIn_of _ (by decide +kernel)) ggL_law_L_count
set_option maxRecDepth 20000 in
theorem ggL_law_X7_count : GoodIn wsL_law wsX7_count := goodIn_r _ [604, 153, 439, 304, 111, 97, 613, 614, 615, 616, 617, 618, 619, 620, 621, 622, 623, 624, 625, 626, 627, 628, 629, 630, 631, 632, 633, 634, 635, 636, 637, 638, 639, 640, 641, 642, 643] (by decide +kernel) (by decide +kernel)
set_option maxRecDepth 20000 in
theorem gL_law_X7_count : GoodIn wsL_law (wsV RL 147 RX7 yX7_count wsX7_count) := goodIn_app (goodIn_of _ (by decide +kernel)) ggL_law_X7_count
