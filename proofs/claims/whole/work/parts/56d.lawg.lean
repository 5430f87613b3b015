set_option maxRecDepth 20000 in
theorem ggL_law_X9_value : GoodIn wsL_law wsX9_value := goodIn_r _ [530, 112, 133, 134, 5, 135, 640, 641] (by decide +kernel) (by decide +kernel)
set_option maxRecDepth 20000 in
theorem gL_law_X9_value : GoodIn wsL_law (wsV RL 84 RX9 yX9_value wsX9_value) := goodIn_app (goodIn_of _ (by decide +kernel)) ggL_law_X9_value
set_option maxRecDepth 20000 in
theorem ggL_law_X8_row : GoodIn wsL_law wsX8_row := goodIn_r _ [534, 15, 233, 535, 536, 537, 244, 538, 539, 243, 245, 122, 123, 2, 124, 540, 541, 542, 543, 544, 545, 546, 547, 396, 397, 39, 398, 103, 638, 639, 642, 643, 644, 645, 646, 647, 648, 649, 650, 651, 652, 653, 678, 679, 680, 681, 682] (by decide +kernel) (by decide +kernel)
set_option maxRecDepth 20000 in
theorem gL_law_X8_row : GoodIn wsL_law (wsV RL 85 RX8 yX8_row wsX8_row) := goodIn_app (goodIn_of _ (by decide +kernel)) ggL_law_X8_row
set_option maxRecDepth 20000 in
theorem ggL_law_X9_row : GoodIn wsL_law wsX9_row := goodIn_r _ [551, 133, 134, 5, 135, 463, 464, 465, 466, 467, 468, 469, 470, 112, 640, 641] (by decide +kernel) (by decide +kernel)
set_option maxRecDepth 20000 in
theorem gL_law_X9_row : GoodIn wsL_law (wsV RL 88 RX9 yX9_row wsX9_row) := goodIn_app (goodIn_of _ (by decide +kernel)) ggL_law_X9_row
set_option maxRecDepth 20000 in
theorem ggL_law_X8_least : GoodIn wsL_law wsX8_least := goodIn_r _ [555, 15, 223, 224, 539, 243, 244, 245, 122, 123, 2, 124, 556, 557, 558, 559, 119, 500, 121, 560, 561, 324, 325, 507, 77, 78, 65, 79, 72, 73, 74, 75, 638, 639, 642, 643, 644, 645, 646, 647, 648, 649, 650, 651, 652, 653, 661, 662, 663, 664, 665, 666, 667, 668, 669, 670, 671, 654, 655, 656, 657, 658, 659, 660, 683, 684, 685, 686, 687, 688, 689] (by decide +kernel) (by decide +kernel)
set_option maxRecDepth 20000 in
theorem gL_law_X8_least : GoodIn wsL_law (wsV RL 89 RX8 yX8_least wsX8_least) := goodIn_app (goodIn_of _ (by decide +kernel)) ggL_law_X8_least
set_option maxRecDepth 20000 in
theorem ggL_law_X9_least : GoodIn wsL_law wsX9_least := goodIn_r _ [565, 133, 134, 5, 135, 566, 567, 568, 569, 570, 571, 572, 112, 479, 480, 481, 482, 444, 445, 446, 640, 641] (by decide +kernel) (by decide +kernel)
set_option maxRecDepth 20000 in
theorem gL_law_X9_least : GoodIn wsL_law (wsV RL 92 RX9 yX9_least wsX9_least) := goodIn_app (goodIn_of _ (by decide +kernel)) ggL_law_X9_least
set_option maxRecDepth 20000 in
theorem ggL_law_X8_fit : GoodIn wsL_law wsX8_fit := goodIn_r _ [576, 267, 539, 243, 244, 245, 536, 537, 538, 122, 123, 2, 124, 577, 578, 579, 580, 581, 582, 583, 584, 585] (by decide +kernel) (by decide +kernel)
set_option maxRecDepth 20000 in
theorem gL_law_X8_fit : GoodIn wsL_law (wsV RL 93 RX8 yX8_fit wsX8_fit) := goodIn_app (goodIn_of _ (by decide +kernel)) ggL_law_X8_fit
set_option maxRecDepth 20000 in
theorem ggL_law_X9_fit : GoodIn wsL_law wsX9_fit := goodIn_r _ [589, 424, 133, 134, 5, 135] (by decide +kernel) (by decide +kernel)
set_option maxRecDepth 20000 in
theorem gL_law_X9_fit : GoodIn wsL_law (wsV RL 97 RX9 yX9_fit wsX9_fit) := goodIn_app (goodIn_of _ (by decide +kernel)) ggL_law_X9_fit
set_option maxRecDepth 20000 in
theorem ggL_law_X8_image : GoodIn wsL_law wsX8_image := goodIn_r _ [593, 16, 12, 13, 14, 15, 122, 123, 2, 124, 17, 18, 19, 20, 10, 11, 21, 22, 23, 24, 25, 26, 27, 28, 29, 30, 31, 32, 33, 34, 35, 36, 37, 38, 39, 40, 41, 42, 43, 44, 45, 46, 47, 48, 49, 50, 51, 52, 53, 54, 55, 56, 57, 58, 59, 60, 61, 62, 63, 64, 65, 66, 67, 68, 69, 70, 71, 72, 73, 74, 75, 76, 77, 78, 79, 80, 81, 82, 83, 84, 85, 86, 87, 88, 89, 90, 91, 92, 93, 94, 95, 96, 97, 98, 99, 100, 101, 102, 103, 104, 105, 106, 107, 594, 595, 596, 597, 598, 599, 600, 601, 347, 274, 373, 602, 603, 604, 605, 301, 302, 303, 304, 305, 306, 307, 308, 309, 310, 311, 312, 126, 127, 128, 606, 607, 608, 609, 610, 362, 334, 383, 335, 336, 337, 338, 382, 363, 611, 612, 613, 614, 615, 616, 617, 618, 619, 620, 195, 621, 622, 623, 624, 625, 638, 639, 642, 643, 644, 645, 646, 647, 648, 649, 650, 651, 652, 653, 654, 655, 656, 657, 658, 659, 660, 661, 662, 663, 664, 665, 666, 667, 668, 669, 670, 671, 672, 673, 674, 675, 676, 677, 678, 679, 680, 681, 682, 683, 684, 685, 686, 687, 688, 689] (by decide +kernel) (by decide +kernel)
set_option maxRecDepth 20000 in
theorem gL_law_X8_image : GoodIn wsL_law (wsV RL 98 RX8 yX8_image wsX8_image) := goodIn_app (goodIn_of _ (by decide +kernel)) ggL_law_X8_image
set_option maxRecDepth 20000 in
theorem ggL_law_X9_image : GoodIn wsL_law wsX9_image := goodIn_r _ [629, 114, 112, 133, 134, 5, 135, 640, 641] (by decide +kernel) (by decide +kernel)
set_option maxRecDepth 20000 in
theorem gL_law_X9_image : GoodIn wsL_law (wsV RL 101 RX9 yX9_image wsX9_image) := goodIn_app (goodIn_of _ (by decide +kernel)) ggL_law_X9_image
set_option maxRecDepth 20000 in
theorem ggL_law_X8_again : GoodIn wsL_law wsX8_again := goodIn_r _ [633, 16, 15, 122, 123, 2, 124, 594, 595, 596, 14, 597, 24, 28, 32, 36, 40, 42, 598, 599, 600, 601, 43, 44, 45, 347, 274, 373, 602, 603, 604, 23, 605, 52, 53, 54, 57, 59, 301, 302, 303, 304, 305, 51, 306, 66, 67, 307, 308, 309, 310, 65, 311, 72, 73, 74, 75, 312, 126, 127, 128, 606, 607, 608, 27, 609, 83, 610, 362, 334, 84, 383, 335, 336, 337, 338, 382, 363, 611, 612, 613, 31, 614, 88, 615, 616, 617, 618, 35, 619, 92, 620, 93, 94, 95, 195, 621, 622, 623, 39, 624, 99, 625, 100, 101, 102, 103, 638, 639, 642, 643, 644, 645, 646, 647, 648, 649, 650, 651, 652, 653, 654, 655, 656, 657, 658, 659, 660, 683, 684, 685, 686, 687, 688, 689, 661, 662, 663, 664, 665, 666, 667, 668, 669, 670, 671, 672, 673, 674, 675, 676, 677, 678, 679, 680, 681, 682] (by decide +kernel) (by decide +kernel)
set_option maxRecDepth 20000 in
theorem gL_law_X8_again : GoodIn wsL_law (wsV RL 102 RX8 yX8_again wsX8_again) := goodIn_app (goodIn_of _ (by decide +kernel)) ggL_law_X8_again
set_option maxRecDepth 20000 in
theorem ggL_law_X9_again : GoodIn wsL_law wsX9_again := goodIn_r _ [637, 114, 112, 133, 134, 5, 135, 640, 641] (by decide +kernel) (by decide +kernel)
set_option maxRecDepth 20000 in
theorem gL_law_X9_again : GoodIn wsL_law (wsV RL 105 RX9 yX9_again wsX9_again) := goodIn_app (goodIn_of _ (by decide +kernel)) ggL_law_X9_again
