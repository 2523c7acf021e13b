set_option maxRecDepth 20000 in
theorem ggL_law_X7_listed : GoodIn wsL_law wsX7_listed := goodIn_r _ [411, 365, 208, 85, 215, 216, 5, 217, 593, 594, 595, 596, 597, 598, 599, 600, 601, 602, 603, 604, 605, 606, 607, 608, 609, 610, 611, 612, 613, 614, 615, 616, 617, 618, 619, 620, 621, 622, 623] rfl (by decide +kernel)
set_option maxRecDepth 20000 in
theorem gL_law_X7_listed : GoodIn wsL_law (wsV RL 100 RX7 yX7_listed wsX7_listed) := goodIn_app (goodIn_of _ (by decide +kernel)) ggL_law_X7_listed
set_option maxRecDepth 20000 in
theorem ggL_law_L_distance : GoodIn wsL_law wsL_distance := goodIn_ca (goodIn_r _ [414, 396, 415, 416, 417, 2, 418, 401, 402, 35, 419, 404, 405, 406, 34, 407, 310, 584, 585, 586, 587, 588, 589, 590, 591, 592, 628, 629, 630, 631] rfl (by decide +kernel)) (goodIn_sub (fun _ h => List.mem_append_right _ h) (by decide +kernel))
set_option maxRecDepth 20000 in
theorem gL_law_L_distance : GoodIn wsL_law (va_wsS RL 101 yL_distance wsL_distance) := goodIn_app (goodIn_of _ (by decide +kernel)) ggL_law_L_distance
set_option maxRecDepth 20000 in
theorem ggL_law_X7_distance : GoodIn wsL_law wsX7_distance := goodIn_r _ [423, 365, 208, 86, 215, 216, 5, 217, 593, 594, 595, 596, 597, 598, 599, 600, 601, 602, 603, 604, 605, 606, 607, 608, 609, 610, 611, 612, 613, 614, 615, 616, 617, 618, 619, 620, 621, 622, 623] rfl (by decide +kernel)
set_option maxRecDepth 20000 in
theorem gL_law_X7_distance : GoodIn wsL_law (wsV RL 103 RX7 yX7_distance wsX7_distance) := goodIn_app (goodIn_of _ (by decide +kernel)) ggL_law_X7_distance
set_option maxRecDepth 20000 in
theorem ggL_law_X6_looked : GoodIn wsL_law wsX6_looked := goodIn_r _ [427, 304, 584, 585, 586, 587, 588, 589, 590, 591, 592] rfl (by decide +kernel)
set_option maxRecDepth 20000 in
theorem gL_law_X6_looked : GoodIn wsL_law (wsV RL 104 RX6 yX6_looked wsX6_looked) := goodIn_app (goodIn_of _ (by decide +kernel)) ggL_law_X6_looked
set_option maxRecDepth 20000 in
theorem ggL_law_X7_looked : GoodIn wsL_law wsX7_looked := goodIn_r _ [431, 208, 366, 593, 594, 595, 596, 597, 598, 599, 600, 601, 602, 603, 604, 605, 606, 607, 608, 609, 610, 611, 612, 613, 614, 615, 616, 617, 618, 619, 620, 621, 622, 623] rfl (by decide +kernel)
set_option maxRecDepth 20000 in
theorem gL_law_X7_looked : GoodIn wsL_law (wsV RL 107 RX7 yX7_looked wsX7_looked) := goodIn_app (goodIn_of _ (by decide +kernel)) ggL_law_X7_looked
set_option maxRecDepth 20000 in
theorem ggL_law_L_inBox : GoodIn wsL_law wsL_inBox := goodIn_ca (goodIn_r _ [434, 93, 435, 436, 437, 2, 438, 99, 100, 27, 286, 439, 440, 441, 442, 25, 443, 444, 445, 108, 446, 447, 158, 159, 160, 124, 125, 126, 127, 584, 585, 586, 587, 588, 589, 590, 591, 592, 638, 639, 640, 641, 642, 643, 644, 645, 646, 647, 648, 649, 650] rfl (by decide +kernel)) (goodIn_sub (fun _ h => List.mem_append_left _ (List.mem_append_left _ (List.mem_append_right _ h))) (by decide +kernel))
set_option maxRecDepth 20000 in
theorem gL_law_L_inBox : GoodIn wsL_law (va_wsS RL 108 yL_inBox wsL_inBox) := goodIn_app (goodIn_of _ (by decide +kernel)) ggL_law_L_inBox
set_option maxRecDepth 20000 in
theorem ggL_law_X7_inBox : GoodIn wsL_law wsX7_inBox := goodIn_r _ [451, 89, 208, 66, 67, 215, 216, 5, 217, 593, 594, 595, 596, 597, 598, 599, 600, 601, 602, 603, 604, 605, 606, 607, 608, 609, 610, 611, 612, 613, 614, 615, 616, 617, 618, 619, 620, 621, 622, 623] rfl (by decide +kernel)
set_option maxRecDepth 20000 in
theorem gL_law_X7_inBox : GoodIn wsL_law (wsV RL 111 RX7 yX7_inBox wsX7_inBox) := goodIn_app (goodIn_of _ (by decide +kernel)) ggL_law_X7_inBox
