set_option maxRecDepth 20000 in
theorem ggL_law_X9_register : GoodIn wsL_law wsX9_register := goodIn_r _ [181, 112, 182, 183, 5, 184, 133, 134, 135, 640, 641] (by decide +kernel) (by decide +kernel)
set_option maxRecDepth 20000 in
theorem gL_law_X9_register : GoodIn wsL_law (wsV RL 35 RX9 yX9_register wsX9_register) := goodIn_app (goodIn_of _ (by decide +kernel)) ggL_law_X9_register
set_option maxRecDepth 20000 in
theorem ggL_law_X8_entry : GoodIn wsL_law wsX8_entry := goodIn_r _ [188, 15, 189, 122, 123, 2, 124, 190, 176, 31, 177, 191, 192, 193, 35, 194, 195, 92, 93, 94, 95, 638, 639, 642, 643, 644, 645, 646, 647, 648, 649, 650, 651, 652, 653, 673, 674, 675, 676, 677] (by decide +kernel) (by decide +kernel)
set_option maxRecDepth 20000 in
theorem gL_law_X8_entry : GoodIn wsL_law (wsV RL 36 RX8 yX8_entry wsX8_entry) := goodIn_app (goodIn_of _ (by decide +kernel)) ggL_law_X8_entry
set_option maxRecDepth 20000 in
theorem ggL_law_X9_entry : GoodIn wsL_law wsX9_entry := goodIn_r _ [199, 112, 133, 134, 5, 135, 182, 183, 184, 640, 641] (by decide +kernel) (by decide +kernel)
set_option maxRecDepth 20000 in
theorem gL_law_X9_entry : GoodIn wsL_law (wsV RL 40 RX9 yX9_entry wsX9_entry) := goodIn_app (goodIn_of _ (by decide +kernel)) ggL_law_X9_entry
set_option maxRecDepth 20000 in
theorem ggL_law_X8_clear : GoodIn wsL_law wsX8_clear := goodIn_r _ [203, 15, 189, 204, 638, 639, 642, 643, 644, 645, 646, 647, 648, 649, 650, 651, 652, 653, 673, 674, 675, 676, 677] (by decide +kernel) (by decide +kernel)
set_option maxRecDepth 20000 in
theorem gL_law_X8_clear : GoodIn wsL_law (wsV RL 41 RX8 yX8_clear wsX8_clear) := goodIn_app (goodIn_of _ (by decide +kernel)) ggL_law_X8_clear
set_option maxRecDepth 20000 in
theorem ggL_law_X9_clear : GoodIn wsL_law wsX9_clear := goodIn_r _ [208, 112, 640, 641] (by decide +kernel) (by decide +kernel)
set_option maxRecDepth 20000 in
theorem gL_law_X9_clear : GoodIn wsL_law (wsV RL 44 RX9 yX9_clear wsX9_clear) := goodIn_app (goodIn_of _ (by decide +kernel)) ggL_law_X9_clear
set_option maxRecDepth 20000 in
theorem ggL_law_X8_readers : GoodIn wsL_law wsX8_readers := goodIn_r _ [212, 15, 213, 214, 122, 123, 2, 124, 638, 639, 642, 643, 644, 645, 646, 647, 648, 649, 650, 651, 652, 653] (by decide +kernel) (by decide +kernel)
set_option maxRecDepth 20000 in
theorem gL_law_X8_readers : GoodIn wsL_law (wsV RL 45 RX8 yX8_readers wsX8_readers) := goodIn_app (goodIn_of _ (by decide +kernel)) ggL_law_X8_readers
set_option maxRecDepth 20000 in
theorem ggL_law_X9_readers : GoodIn wsL_law wsX9_readers := goodIn_r _ [218, 112, 133, 134, 5, 135, 640, 641] (by decide +kernel) (by decide +kernel)
set_option maxRecDepth 20000 in
theorem gL_law_X9_readers : GoodIn wsL_law (wsV RL 48 RX9 yX9_readers wsX9_readers) := goodIn_app (goodIn_of _ (by decide +kernel)) ggL_law_X9_readers
set_option maxRecDepth 20000 in
theorem ggL_law_X8_depth : GoodIn wsL_law wsX8_depth := goodIn_r _ [222, 15, 223, 224, 122, 123, 2, 124, 638, 639, 642, 643, 644, 645, 646, 647, 648, 649, 650, 651, 652, 653, 661, 662, 663, 664, 665, 666, 667, 668, 669, 670, 671] (by decide +kernel) (by decide +kernel)
set_option maxRecDepth 20000 in
theorem gL_law_X8_depth : GoodIn wsL_law (wsV RL 49 RX8 yX8_depth wsX8_depth) := goodIn_app (goodIn_of _ (by decide +kernel)) ggL_law_X8_depth
set_option maxRecDepth 20000 in
theorem ggL_law_X9_depth : GoodIn wsL_law wsX9_depth := goodIn_r _ [228, 112, 133, 134, 5, 135, 640, 641] (by decide +kernel) (by decide +kernel)
set_option maxRecDepth 20000 in
theorem gL_law_X9_depth : GoodIn wsL_law (wsV RL 53 RX9 yX9_depth wsX9_depth) := goodIn_app (goodIn_of _ (by decide +kernel)) ggL_law_X9_depth
set_option maxRecDepth 20000 in
theorem ggL_law_X8_sprite : GoodIn wsL_law wsX8_sprite := goodIn_r _ [232, 15, 233, 122, 123, 2, 124, 234, 235, 236, 39, 237, 99, 100, 101, 238, 239, 240, 241, 242, 243, 244, 245, 103, 638, 639, 642, 643, 644, 645, 646, 647, 648, 649, 650, 651, 652, 653, 678, 679, 680, 681, 682] (by decide +kernel) (by decide +kernel)
set_option maxRecDepth 20000 in
theorem gL_law_X8_sprite : GoodIn wsL_law (wsV RL 54 RX8 yX8_sprite wsX8_sprite) := goodIn_app (goodIn_of _ (by decide +kernel)) ggL_law_X8_sprite
set_option maxRecDepth 20000 in
theorem ggL_law_X9_sprite : GoodIn wsL_law wsX9_sprite := goodIn_r _ [249, 112, 133, 134, 5, 135, 640, 641] (by decide +kernel) (by decide +kernel)
set_option maxRecDepth 20000 in
theorem gL_law_X9_sprite : GoodIn wsL_law (wsV RL 57 RX9 yX9_sprite wsX9_sprite) := goodIn_app (goodIn_of _ (by decide +kernel)) ggL_law_X9_sprite
