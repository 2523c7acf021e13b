set_option maxRecDepth 20000 in
theorem ggL_law_L_at : GoodIn wsL_law wsL_at := goodIn_ca (goodIn_ca (goodIn_r _ [281, 93, 94, 282, 283, 284, 2, 285, 99, 100, 101, 102, 27, 286, 110, 111, 112, 287, 158, 159, 108, 160, 124, 125, 126, 127, 584, 585, 586, 587, 588, 589, 590, 591, 592, 638, 639, 640, 641, 642, 643, 644, 645, 646, 647, 648, 649, 650] rfl (by decide +kernel)) (goodIn_sub (fun _ h => List.mem_append_left _ (List.mem_append_left _ (List.mem_append_right _ h))) (by decide +kernel))) (goodIn_sub (fun _ h => List.mem_append_left _ (List.mem_append_right _ h)) (by decide +kernel))
set_option maxRecDepth 20000 in
theorem gL_law_L_at : GoodIn wsL_law (va_wsS RL 85 yL_at wsL_at) := goodIn_app (goodIn_of _ (by decide +kernel)) ggL_law_L_at
set_option maxRecDepth 20000 in
theorem ggL_law_X7_at : GoodIn wsL_law wsX7_at := goodIn_r _ [291, 292, 66, 208, 67, 211, 212, 5, 213, 214, 215, 216, 217, 593, 594, 595, 596, 597, 598, 599, 600, 601, 602, 603, 604, 605, 606, 607, 608, 609, 610, 611, 612, 613, 614, 615, 616, 617, 618, 619, 620, 621, 622, 623] rfl (by decide +kernel)
set_option maxRecDepth 20000 in
theorem gL_law_X7_at : GoodIn wsL_law (wsV RL 88 RX7 yX7_at wsX7_at) := goodIn_app (goodIn_of _ (by decide +kernel)) ggL_law_X7_at
set_option maxRecDepth 20000 in
theorem ggL_law_L_nearest : GoodIn wsL_law wsL_nearest := goodIn_ca (goodIn_r _ [295, 93, 296, 297, 298, 2, 299, 99, 100, 35, 300, 301, 302, 106, 107, 108, 25, 31, 265, 303, 304, 305, 113, 114, 115, 116, 117, 118, 119, 306, 307, 308, 34, 309, 310, 52, 311, 19, 20, 21, 312, 23, 24, 313, 120, 121, 122, 123, 16, 17, 124, 125, 126, 127, 314, 315, 316, 317, 318, 319, 320, 321, 322, 323, 324, 325, 326, 327, 328, 329, 330, 331, 332, 333, 334, 335, 336, 337, 338, 339, 340, 341, 342, 343, 344, 345, 53, 346, 347, 348, 349, 350, 351, 352, 353, 354, 158, 159, 160, 355, 356, 357, 358, 359, 584, 585, 586, 587, 588, 589, 590, 591, 592, 651, 652, 653, 647, 648, 649, 650, 624, 625, 626, 627, 628, 629, 630, 631, 638, 639, 640, 641, 642, 643, 644, 645, 646] rfl (by decide +kernel)) (goodIn_sub (fun _ h => List.mem_append_left _ (List.mem_append_left _ (List.mem_append_right _ h))) (by decide +kernel))
set_option maxRecDepth 20000 in
theorem gL_law_L_nearest : GoodIn wsL_law (va_wsS RL 89 yL_nearest wsL_nearest) := goodIn_app (goodIn_of _ (by decide +kernel)) ggL_law_L_nearest
set_option maxRecDepth 20000 in
theorem ggL_law_X7_nearest : GoodIn wsL_law wsX7_nearest := goodIn_r _ [363, 364, 208, 365, 366, 76, 78, 87, 89, 84, 71, 72, 70, 73, 74, 86, 215, 216, 5, 217, 218, 219, 220, 221, 222, 223, 367, 368, 369, 370, 244, 245, 246, 247, 75, 371, 372, 373, 374, 85, 375, 376, 377, 378, 67, 593, 594, 595, 596, 597, 598, 599, 600, 601, 602, 603, 604, 605, 606, 607, 608, 609, 610, 611, 612, 613, 614, 615, 616, 617, 618, 619, 620, 621, 622, 623] rfl (by decide +kernel)
set_option maxRecDepth 20000 in
theorem gL_law_X7_nearest : GoodIn wsL_law (wsV RL 91 RX7 yX7_nearest wsX7_nearest) := goodIn_app (goodIn_of _ (by decide +kernel)) ggL_law_X7_nearest
set_option maxRecDepth 20000 in
theorem ggL_law_L_within : GoodIn wsL_law wsL_within := goodIn_ca (goodIn_r _ [381, 93, 382, 383, 384, 2, 385, 99, 100, 106, 107, 108, 25, 35, 27, 286, 386, 305, 113, 114, 115, 116, 117, 118, 119, 120, 121, 122, 123, 16, 17, 124, 125, 126, 127, 306, 307, 308, 34, 309, 310, 52, 311, 19, 20, 21, 312, 23, 24, 313, 387, 336, 337, 338, 339, 340, 341, 388, 343, 344, 345, 53, 346, 347, 348, 349, 350, 351, 352, 353, 647, 648, 649, 650, 584, 585, 586, 587, 588, 589, 590, 591, 592, 638, 639, 640, 641, 642, 643, 644, 645, 646, 628, 629, 630, 631] rfl (by decide +kernel)) (goodIn_sub (fun _ h => List.mem_append_left _ (List.mem_append_left _ (List.mem_append_right _ h))) (by decide +kernel))
set_option maxRecDepth 20000 in
theorem gL_law_L_within : GoodIn wsL_law (va_wsS RL 94 yL_within wsL_within) := goodIn_app (goodIn_of _ (by decide +kernel)) ggL_law_L_within
set_option maxRecDepth 20000 in
theorem ggL_law_X7_within : GoodIn wsL_law wsX7_within := goodIn_r _ [392, 208, 365, 66, 218, 219, 220, 5, 221, 222, 223, 89, 215, 216, 217, 367, 368, 369, 370, 84, 375, 376, 377, 378, 67, 371, 372, 373, 374, 86, 85, 593, 594, 595, 596, 597, 598, 599, 600, 601, 602, 603, 604, 605, 606, 607, 608, 609, 610, 611, 612, 613, 614, 615, 616, 617, 618, 619, 620, 621, 622, 623] rfl (by decide +kernel)
set_option maxRecDepth 20000 in
theorem gL_law_X7_within : GoodIn wsL_law (wsV RL 97 RX7 yX7_within wsX7_within) := goodIn_app (goodIn_of _ (by decide +kernel)) ggL_law_X7_within
set_option maxRecDepth 20000 in
theorem ggL_law_L_listed : GoodIn wsL_law wsL_listed := goodIn_ca (goodIn_r _ [395, 396, 397, 398, 399, 2, 400, 401, 402, 35, 403, 404, 405, 406, 34, 407, 310, 584, 585, 586, 587, 588, 589, 590, 591, 592, 628, 629, 630, 631] rfl (by decide +kernel)) (goodIn_sub (fun _ h => List.mem_append_right _ h) (by decide +kernel))
set_option maxRecDepth 20000 in
theorem gL_law_L_listed : GoodIn wsL_law (va_wsS RL 98 yL_listed wsL_listed) := goodIn_app (goodIn_of _ (by decide +kernel)) ggL_law_L_listed
