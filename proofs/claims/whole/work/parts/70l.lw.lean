set_option maxRecDepth 20000 in
theorem ggL_law_X7_node : GoodIn wsL_law wsX7_node := goodIn_r _ [551, 552, 66, 208, 68, 75, 70, 72, 73, 211, 212, 5, 213, 214, 215, 216, 217, 244, 245, 246, 247, 236, 237, 238, 239, 78, 77, 74, 593, 594, 595, 596, 597, 598, 599, 600, 601, 602, 603, 604, 605, 606, 607, 608, 609, 610, 611, 612, 613, 614, 615, 616, 617, 618, 619, 620, 621, 622, 623] rfl (by decide +kernel)
set_option maxRecDepth 20000 in
theorem gL_law_X7_node : GoodIn wsL_law (wsV RL 126 RX7 yX7_node wsX7_node) := goodIn_app (goodIn_of _ (by decide +kernel)) ggL_law_X7_node
set_option maxRecDepth 20000 in
theorem ggL_law_L_walk : GoodIn wsL_law wsL_walk := goodIn_ca (goodIn_r _ [555, 396, 556, 557, 558, 2, 559, 401, 402, 31, 265, 263, 386, 560, 189, 30, 190, 144, 145, 191, 176, 105, 177, 134, 584, 585, 586, 587, 588, 589, 590, 591, 592, 624, 625, 626, 627, 638, 639, 640, 641, 642, 643, 644, 645, 646] rfl (by decide +kernel)) (goodIn_sub (fun _ h => List.mem_append_right _ h) (by decide +kernel))
set_option maxRecDepth 20000 in
theorem gL_law_L_walk : GoodIn wsL_law (va_wsS RL 127 yL_walk wsL_walk) := goodIn_app (goodIn_of _ (by decide +kernel)) ggL_law_L_walk
set_option maxRecDepth 20000 in
theorem ggL_law_X7_walk : GoodIn wsL_law wsX7_walk := goodIn_r _ [564, 76, 208, 72, 77, 70, 236, 237, 238, 5, 239, 78, 74, 73, 215, 216, 217, 593, 594, 595, 596, 597, 598, 599, 600, 601, 602, 603, 604, 605, 606, 607, 608, 609, 610, 611, 612, 613, 614, 615, 616, 617, 618, 619, 620, 621, 622, 623] rfl (by decide +kernel)
set_option maxRecDepth 20000 in
theorem gL_law_X7_walk : GoodIn wsL_law (wsV RL 129 RX7 yX7_walk wsX7_walk) := goodIn_app (goodIn_of _ (by decide +kernel)) ggL_law_X7_walk
set_option maxRecDepth 20000 in
theorem ggL_law_L_count : GoodIn wsL_law wsL_count := goodIn_ca (goodIn_r _ [567, 93, 568, 569, 570, 2, 571, 99, 100, 25, 103, 31, 109, 264, 572, 270, 271, 272, 30, 273, 139, 191, 176, 105, 177, 134, 266, 267, 268, 269, 573, 574, 575, 576, 142, 577, 23, 20, 24, 578, 188, 189, 190, 144, 145, 584, 585, 586, 587, 588, 589, 590, 591, 592, 624, 625, 626, 627, 638, 639, 640, 641, 642, 643, 644, 645, 646] rfl (by decide +kernel)) (goodIn_sub (fun _ h => List.mem_append_left _ (List.mem_append_left _ (List.mem_append_right _ h))) (by decide +kernel))
set_option maxRecDepth 20000 in
theorem gL_law_L_count : GoodIn wsL_law (va_wsS RL 130 yL_count wsL_count) := goodIn_app (goodIn_of _ (by decide +kernel)) ggL_law_L_count
set_option maxRecDepth 20000 in
theorem ggL_law_X7_count : GoodIn wsL_law wsX7_count := goodIn_r _ [582, 583, 208, 76, 77, 89, 207, 209, 278, 210, 215, 216, 5, 217, 236, 237, 238, 239, 78, 74, 73, 244, 245, 246, 247, 75, 593, 594, 595, 596, 597, 598, 599, 600, 601, 602, 603, 604, 605, 606, 607, 608, 609, 610, 611, 612, 613, 614, 615, 616, 617, 618, 619, 620, 621, 622, 623] rfl (by decide +kernel)
set_option maxRecDepth 20000 in
theorem gL_law_X7_count : GoodIn wsL_law (wsV RL 132 RX7 yX7_count wsX7_count) := goodIn_app (goodIn_of _ (by decide +kernel)) ggL_law_X7_count
