set_option maxRecDepth 20000 in
theorem ggL_law_X8_bits : GoodIn wsL_law wsX8_bits := goodIn_r _ [253, 15, 233, 122, 123, 2, 124, 254, 255, 256, 39, 257, 102, 638, 639, 642, 643, 644, 645, 646, 647, 648, 649, 650, 651, 652, 653, 678, 679, 680, 681, 682] (by decide +kernel) (by decide +kernel)
set_option maxRecDepth 20000 in
theorem gL_law_X8_bits : GoodIn wsL_law (wsV RL 58 RX8 yX8_bits wsX8_bits) := goodIn_app (goodIn_of _ (by decide +kernel)) ggL_law_X8_bits
set_option maxRecDepth 20000 in
theorem ggL_law_X9_bits : GoodIn wsL_law wsX9_bits := goodIn_r _ [261, 112, 133, 134, 5, 135, 640, 641] (by decide +kernel) (by decide +kernel)
set_option maxRecDepth 20000 in
theorem gL_law_X9_bits : GoodIn wsL_law (wsV RL 62 RX9 yX9_bits wsX9_bits) := goodIn_app (goodIn_of _ (by decide +kernel)) ggL_law_X9_bits
set_option maxRecDepth 20000 in
theorem ggL_law_X8_ticks : GoodIn wsL_law wsX8_ticks := goodIn_r _ [265, 15, 266, 267, 122, 123, 2, 124, 268, 269, 270, 14, 271, 36, 24, 272, 273, 32, 28, 44, 274, 275, 276, 277, 35, 278, 195, 93, 92, 94, 95, 279, 172, 173, 31, 174, 88, 175, 176, 177, 280, 281, 282, 23, 283, 57, 52, 55, 56, 284, 285, 286, 287, 288, 289, 290, 291, 292, 293, 294, 295, 59, 58, 76, 77, 78, 65, 79, 72, 73, 74, 75, 296, 297, 298, 299, 53, 54, 300, 301, 302, 303, 304, 305, 51, 306, 66, 67, 307, 308, 309, 310, 311, 312, 126, 127, 128, 313, 314, 315, 316, 317, 318, 319, 320, 321, 322, 323, 324, 325, 326, 327, 328, 329, 330, 331, 332, 27, 333, 334, 335, 336, 337, 338, 339, 340, 341, 342, 84, 343, 344, 345, 346, 45, 347, 348, 349, 350, 351, 352, 353, 42, 354, 355, 356, 357, 358, 359, 360, 361, 83, 362, 363, 364, 365, 366, 367, 368, 369, 370, 371, 372, 40, 43, 373, 374, 375, 376, 377, 378, 379, 380, 381, 382, 383, 384, 385, 386, 387, 388, 389, 390, 391, 392, 393, 39, 394, 395, 396, 397, 398, 103, 399, 400, 401, 402, 99, 100, 102, 403, 404, 405, 406, 407, 408, 409, 410, 411, 412, 413, 414, 415, 416, 417, 418, 419, 638, 639, 642, 643, 644, 645, 646, 647, 648, 649, 650, 651, 652, 653, 654, 655, 656, 657, 658, 659, 660, 673, 674, 675, 676, 677, 672, 683, 684, 685, 686, 687, 688, 689, 661, 662, 663, 664, 665, 666, 667, 668, 669, 670, 671, 678, 679, 680, 681, 682] (by decide +kernel) (by decide +kernel)
set_option maxRecDepth 20000 in
theorem gL_law_X8_ticks : GoodIn wsL_law (wsV RL 63 RX8 yX8_ticks wsX8_ticks) := goodIn_app (goodIn_of _ (by decide +kernel)) ggL_law_X8_ticks
set_option maxRecDepth 20000 in
theorem ggL_law_X9_ticks : GoodIn wsL_law wsX9_ticks := goodIn_r _ [423, 112, 424, 133, 134, 5, 135, 425, 426, 427, 428, 429, 430, 431, 432, 433, 434, 435, 436, 437, 438, 439, 440, 441, 442, 443, 444, 445, 446, 447, 448, 449, 450, 451, 452, 453, 454, 455, 456, 457, 458, 459, 460, 461, 462, 463, 464, 465, 466, 467, 468, 469, 470, 471, 472, 473, 474, 475, 476, 477, 478, 479, 480, 481, 482, 640, 641] (by decide +kernel) (by decide +kernel)
set_option maxRecDepth 20000 in
theorem gL_law_X9_ticks : GoodIn wsL_law (wsV RL 67 RX9 yX9_ticks wsX9_ticks) := goodIn_app (goodIn_of _ (by decide +kernel)) ggL_law_X9_ticks
set_option maxRecDepth 20000 in
theorem ggL_law_X8_shown : GoodIn wsL_law wsX8_shown := goodIn_r _ [486, 15, 487, 488, 389, 2, 390, 122, 123, 124, 638, 639, 642, 643, 644, 645, 646, 647, 648, 649, 650, 651, 652, 653] (by decide +kernel) (by decide +kernel)
set_option maxRecDepth 20000 in
theorem gL_law_X8_shown : GoodIn wsL_law (wsV RL 68 RX8 yX8_shown wsX8_shown) := goodIn_app (goodIn_of _ (by decide +kernel)) ggL_law_X8_shown
set_option maxRecDepth 20000 in
theorem ggL_law_X9_shown : GoodIn wsL_law wsX9_shown := goodIn_r _ [492, 112, 133, 134, 5, 135, 640, 641] (by decide +kernel) (by decide +kernel)
set_option maxRecDepth 20000 in
theorem gL_law_X9_shown : GoodIn wsL_law (wsV RL 72 RX9 yX9_shown wsX9_shown) := goodIn_app (goodIn_of _ (by decide +kernel)) ggL_law_X9_shown
set_option maxRecDepth 20000 in
theorem ggL_law_X8_now : GoodIn wsL_law wsX8_now := goodIn_r _ [496, 15, 119, 497, 498, 499, 500, 121, 140, 223, 501, 502, 503, 504, 505, 506, 408, 409, 23, 410, 52, 55, 57, 58, 59, 411, 412, 413, 65, 414, 72, 73, 74, 415, 365, 366, 367, 368, 321, 322, 323, 507, 77, 78, 79, 75, 508, 344, 345, 14, 346, 45, 347, 274, 638, 639, 642, 643, 644, 645, 646, 647, 648, 649, 650, 651, 652, 653, 654, 655, 656, 657, 658, 659, 660, 683, 684, 685, 661, 662, 663, 664, 665, 666, 667, 668, 669, 670, 671, 686, 687, 688, 689] (by decide +kernel) (by decide +kernel)
set_option maxRecDepth 20000 in
theorem gL_law_X8_now : GoodIn wsL_law (wsV RL 73 RX8 yX8_now wsX8_now) := goodIn_app (goodIn_of _ (by decide +kernel)) ggL_law_X8_now
set_option maxRecDepth 20000 in
theorem ggL_law_X9_now : GoodIn wsL_law wsX9_now := goodIn_r _ [512, 112, 471, 472, 473, 5, 474, 133, 134, 135, 479, 480, 481, 482, 433, 434, 435, 436, 451, 452, 453, 454, 640, 641] (by decide +kernel) (by decide +kernel)
set_option maxRecDepth 20000 in
theorem gL_law_X9_now : GoodIn wsL_law (wsV RL 76 RX9 yX9_now wsX9_now) := goodIn_app (goodIn_of _ (by decide +kernel)) ggL_law_X9_now
set_option maxRecDepth 20000 in
theorem ggL_law_X8_signals : GoodIn wsL_law wsX8_signals := goodIn_r _ [516, 15, 266, 517, 122, 123, 2, 124, 638, 639, 642, 643, 644, 645, 646, 647, 648, 649, 650, 651, 652, 653] (by decide +kernel) (by decide +kernel)
set_option maxRecDepth 20000 in
theorem gL_law_X8_signals : GoodIn wsL_law (wsV RL 77 RX8 yX8_signals wsX8_signals) := goodIn_app (goodIn_of _ (by decide +kernel)) ggL_law_X8_signals
set_option maxRecDepth 20000 in
theorem ggL_law_X9_signals : GoodIn wsL_law wsX9_signals := goodIn_r _ [521, 112, 133, 134, 5, 135, 640, 641] (by decide +kernel) (by decide +kernel)
set_option maxRecDepth 20000 in
theorem gL_law_X9_signals : GoodIn wsL_law (wsV RL 80 RX9 yX9_signals wsX9_signals) := goodIn_app (goodIn_of _ (by decide +kernel)) ggL_law_X9_signals
set_option maxRecDepth 20000 in
theorem ggL_law_X8_value : GoodIn wsL_law wsX8_value := goodIn_r _ [525, 15, 170, 526, 355, 356, 31, 357, 88, 123, 2, 124, 638, 639, 642, 643, 644, 645, 646, 647, 648, 649, 650, 651, 652, 653, 672] (by decide +kernel) (by decide +kernel)
set_option maxRecDepth 20000 in
theorem gL_law_X8_value : GoodIn wsL_law (wsV RL 81 RX8 yX8_value wsX8_value) := goodIn_app (goodIn_of _ (by decide +kernel)) ggL_law_X8_value
