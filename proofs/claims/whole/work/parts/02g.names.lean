set_option maxRecDepth 20000 in
theorem ggX9_goesOn_X9_ticksOf : GoodIn wsX9_goesOn wsX9_ticksOf := goodIn_r _ [6, 1, 15, 16] (by decide +kernel) (by decide +kernel)
set_option maxRecDepth 20000 in
theorem gX9_goesOn_X9_ticksOf : GoodIn wsX9_goesOn (wsV RX9 53 RX9 yX9_ticksOf wsX9_ticksOf) := goodIn_app (goodIn_of _ (by decide +kernel)) ggX9_goesOn_X9_ticksOf
set_option maxRecDepth 20000 in
theorem ggX9_goesOn_X9_linesOf : GoodIn wsX9_goesOn wsX9_linesOf := goodIn_r _ [10, 1, 15, 16] (by decide +kernel) (by decide +kernel)
set_option maxRecDepth 20000 in
theorem gX9_goesOn_X9_linesOf : GoodIn wsX9_goesOn (wsV RX9 28 RX9 yX9_linesOf wsX9_linesOf) := goodIn_app (goodIn_of _ (by decide +kernel)) ggX9_goesOn_X9_linesOf
set_option maxRecDepth 20000 in
theorem ggX9_goesOn_X9_nextField : GoodIn wsX9_goesOn wsX9_nextField := goodIn_r _ [14, 1, 15, 16] (by decide +kernel) (by decide +kernel)
set_option maxRecDepth 20000 in
theorem gX9_goesOn_X9_nextField : GoodIn wsX9_goesOn (wsV RX9 32 RX9 yX9_nextField wsX9_nextField) := goodIn_app (goodIn_of _ (by decide +kernel)) ggX9_goesOn_X9_nextField
theorem dX9_goesOn_0 : decode cX9_goesOn 0 = .ok (.aload_n 0, 1) := by decide +kernel
theorem dX9_goesOn_1 : decode cX9_goesOn 1 = .ok (.getfield 7, 3) := by decide +kernel
theorem dX9_goesOn_4 : decode cX9_goesOn 4 = .ok (.bipush 20, 2) := by decide +kernel
theorem dX9_goesOn_6 : decode cX9_goesOn 6 = .ok (.dup2, 1) := by decide +kernel
theorem dX9_goesOn_7 : decode cX9_goesOn 7 = .ok (.iaload, 1) := by decide +kernel
theorem dX9_goesOn_8 : decode cX9_goesOn 8 = .ok (.iconst 1, 1) := by decide +kernel
theorem dX9_goesOn_9 : decode cX9_goesOn 9 = .ok (.iadd, 1) := by decide +kernel
theorem dX9_goesOn_10 : decode cX9_goesOn 10 = .ok (.iastore, 1) := by decide +kernel
theorem dX9_goesOn_11 : decode cX9_goesOn 11 = .ok (.aload_n 0, 1) := by decide +kernel
theorem dX9_goesOn_12 : decode cX9_goesOn 12 = .ok (.getfield 7, 3) := by decide +kernel
theorem dX9_goesOn_15 : decode cX9_goesOn 15 = .ok (.bipush 20, 2) := by decide +kernel
theorem dX9_goesOn_17 : decode cX9_goesOn 17 = .ok (.iaload, 1) := by decide +kernel
theorem dX9_goesOn_18 : decode cX9_goesOn 18 = .ok (.aload_n 0, 1) := by decide +kernel
theorem dX9_goesOn_19 : decode cX9_goesOn 19 = .ok (.iconst 0, 1) := by decide +kernel
theorem dX9_goesOn_20 : decode cX9_goesOn 20 = .ok (.invokevirtual 53, 3) := by decide +kernel
theorem dX9_goesOn_23 : decode cX9_goesOn 23 = .ok (.if_icmp .ge 4, 3) := by decide +kernel
theorem dX9_goesOn_26 : decode cX9_goesOn 26 = .ok (.return_, 1) := by decide +kernel
theorem dX9_goesOn_27 : decode cX9_goesOn 27 = .ok (.aload_n 0, 1) := by decide +kernel
theorem dX9_goesOn_28 : decode cX9_goesOn 28 = .ok (.getfield 7, 3) := by decide +kernel
theorem dX9_goesOn_31 : decode cX9_goesOn 31 = .ok (.bipush 20, 2) := by decide +kernel
theorem dX9_goesOn_33 : decode cX9_goesOn 33 = .ok (.iconst 0, 1) := by decide +kernel
theorem dX9_goesOn_34 : decode cX9_goesOn 34 = .ok (.iastore, 1) := by decide +kernel
theorem dX9_goesOn_35 : decode cX9_goesOn 35 = .ok (.aload_n 0, 1) := by decide +kernel
theorem dX9_goesOn_36 : decode cX9_goesOn 36 = .ok (.getfield 7, 3) := by decide +kernel
theorem dX9_goesOn_39 : decode cX9_goesOn 39 = .ok (.bipush 21, 2) := by decide +kernel
theorem dX9_goesOn_41 : decode cX9_goesOn 41 = .ok (.dup2, 1) := by decide +kernel
theorem dX9_goesOn_42 : decode cX9_goesOn 42 = .ok (.iaload, 1) := by decide +kernel
theorem dX9_goesOn_43 : decode cX9_goesOn 43 = .ok (.iconst 1, 1) := by decide +kernel
theorem dX9_goesOn_44 : decode cX9_goesOn 44 = .ok (.iadd, 1) := by decide +kernel
theorem dX9_goesOn_45 : decode cX9_goesOn 45 = .ok (.iastore, 1) := by decide +kernel
theorem dX9_goesOn_46 : decode cX9_goesOn 46 = .ok (.aload_n 0, 1) := by decide +kernel
theorem dX9_goesOn_47 : decode cX9_goesOn 47 = .ok (.getfield 7, 3) := by decide +kernel
theorem dX9_goesOn_50 : decode cX9_goesOn 50 = .ok (.bipush 21, 2) := by decide +kernel
theorem dX9_goesOn_52 : decode cX9_goesOn 52 = .ok (.iaload, 1) := by decide +kernel
theorem dX9_goesOn_53 : decode cX9_goesOn 53 = .ok (.aload_n 0, 1) := by decide +kernel
theorem dX9_goesOn_54 : decode cX9_goesOn 54 = .ok (.iconst 0, 1) := by decide +kernel
theorem dX9_goesOn_55 : decode cX9_goesOn 55 = .ok (.invokevirtual 28, 3) := by decide +kernel
theorem dX9_goesOn_58 : decode cX9_goesOn 58 = .ok (.if_icmp .ge 4, 3) := by decide +kernel
theorem dX9_goesOn_61 : decode cX9_goesOn 61 = .ok (.return_, 1) := by decide +kernel
theorem dX9_goesOn_62 : decode cX9_goesOn 62 = .ok (.aload_n 0, 1) := by decide +kernel
theorem dX9_goesOn_63 : decode cX9_goesOn 63 = .ok (.getfield 7, 3) := by decide +kernel
theorem dX9_goesOn_66 : decode cX9_goesOn 66 = .ok (.bipush 21, 2) := by decide +kernel
theorem dX9_goesOn_68 : decode cX9_goesOn 68 = .ok (.iconst 0, 1) := by decide +kernel
theorem dX9_goesOn_69 : decode cX9_goesOn 69 = .ok (.iastore, 1) := by decide +kernel
theorem dX9_goesOn_70 : decode cX9_goesOn 70 = .ok (.aload_n 0, 1) := by decide +kernel
theorem dX9_goesOn_71 : decode cX9_goesOn 71 = .ok (.getfield 7, 3) := by decide +kernel
theorem dX9_goesOn_74 : decode cX9_goesOn 74 = .ok (.bipush 22, 2) := by decide +kernel
theorem dX9_goesOn_76 : decode cX9_goesOn 76 = .ok (.aload_n 0, 1) := by decide +kernel
theorem dX9_goesOn_77 : decode cX9_goesOn 77 = .ok (.invokevirtual 32, 3) := by decide +kernel
theorem dX9_goesOn_80 : decode cX9_goesOn 80 = .ok (.iastore, 1) := by decide +kernel
theorem dX9_goesOn_81 : decode cX9_goesOn 81 = .ok (.iconst 0, 1) := by decide +kernel
theorem dX9_goesOn_82 : decode cX9_goesOn 82 = .ok (.istore_n 1, 1) := by decide +kernel
theorem dX9_goesOn_83 : decode cX9_goesOn 83 = .ok (.iload_n 1, 1) := by decide +kernel
theorem dX9_goesOn_84 : decode cX9_goesOn 84 = .ok (.bipush 10, 2) := by decide +kernel
theorem dX9_goesOn_86 : decode cX9_goesOn 86 = .ok (.if_icmp .ge 27, 3) := by decide +kernel
theorem dX9_goesOn_89 : decode cX9_goesOn 89 = .ok (.aload_n 0, 1) := by decide +kernel
theorem dX9_goesOn_90 : decode cX9_goesOn 90 = .ok (.getfield 7, 3) := by decide +kernel
theorem dX9_goesOn_93 : decode cX9_goesOn 93 = .ok (.iconst 0, 1) := by decide +kernel
theorem dX9_goesOn_94 : decode cX9_goesOn 94 = .ok (.iload_n 1, 1) := by decide +kernel
theorem dX9_goesOn_95 : decode cX9_goesOn 95 = .ok (.iadd, 1) := by decide +kernel
theorem dX9_goesOn_96 : decode cX9_goesOn 96 = .ok (.aload_n 0, 1) := by decide +kernel
theorem dX9_goesOn_97 : decode cX9_goesOn 97 = .ok (.getfield 7, 3) := by decide +kernel
theorem dX9_goesOn_100 : decode cX9_goesOn 100 = .ok (.sipush 5870, 3) := by decide +kernel
theorem dX9_goesOn_103 : decode cX9_goesOn 103 = .ok (.iload_n 1, 1) := by decide +kernel
theorem dX9_goesOn_104 : decode cX9_goesOn 104 = .ok (.iadd, 1) := by decide +kernel
theorem dX9_goesOn_105 : decode cX9_goesOn 105 = .ok (.iaload, 1) := by decide +kernel
theorem dX9_goesOn_106 : decode cX9_goesOn 106 = .ok (.iastore, 1) := by decide +kernel
theorem dX9_goesOn_107 : decode cX9_goesOn 107 = .ok (.iinc 1 1, 3) := by decide +kernel
theorem dX9_goesOn_110 : decode cX9_goesOn 110 = .ok (.goto (-27), 3) := by decide +kernel
theorem dX9_goesOn_113 : decode cX9_goesOn 113 = .ok (.return_, 1) := by decide +kernel
set_option maxRecDepth 20000 in
theorem ggX9_aTick_X9_begins : GoodIn wsX9_aTick wsX9_begins := goodIn_r _ [6, 1, 7, 8, 9, 5, 10, 11, 12, 13, 14, 15, 16, 17, 18, 19, 20, 60, 61] (by decide +kernel) (by decide +kernel)
set_option maxRecDepth 20000 in
theorem gX9_aTick_X9_begins : GoodIn wsX9_aTick (wsV RX9 56 RX9 yX9_begins wsX9_begins) := goodIn_app (goodIn_of _ (by decide +kernel)) ggX9_aTick_X9_begins
set_option maxRecDepth 20000 in
theorem ggX9_aTick_X9_fetches : GoodIn wsX9_aTick wsX9_fetches := goodIn_r _ [24, 1, 25, 26, 27, 5, 28, 60, 61] (by decide +kernel) (by decide +kernel)
set_option maxRecDepth 20000 in
theorem gX9_aTick_X9_fetches : GoodIn wsX9_aTick (wsV RX9 59 RX9 yX9_fetches wsX9_fetches) := goodIn_app (goodIn_of _ (by decide +kernel)) ggX9_aTick_X9_fetches
set_option maxRecDepth 20000 in
theorem ggX9_aTick_X9_dots : GoodIn wsX9_aTick wsX9_dots := goodIn_r _ [32, 1, 33, 34, 35, 5, 36, 15, 16, 17, 37, 38, 39, 40, 41, 42, 43, 44, 45, 46, 47, 60, 61] (by decide +kernel) (by decide +kernel)
set_option maxRecDepth 20000 in
theorem gX9_aTick_X9_dots : GoodIn wsX9_aTick (wsV RX9 62 RX9 yX9_dots wsX9_dots) := goodIn_app (goodIn_of _ (by decide +kernel)) ggX9_aTick_X9_dots
set_option maxRecDepth 20000 in
theorem ggX9_aTick_X9_signalsNow : GoodIn wsX9_aTick wsX9_signalsNow := goodIn_r _ [51, 1, 45, 46, 5, 47, 60, 61] (by decide +kernel) (by decide +kernel)
set_option maxRecDepth 20000 in
theorem gX9_aTick_X9_signalsNow : GoodIn wsX9_aTick (wsV RX9 65 RX9 yX9_signalsNow wsX9_signalsNow) := goodIn_app (goodIn_of _ (by decide +kernel)) ggX9_aTick_X9_signalsNow
set_option maxRecDepth 20000 in
theorem ggX9_aTick_X9_goesOn : GoodIn wsX9_aTick wsX9_goesOn := goodIn_r _ [55, 1, 56, 57, 58, 5, 59, 7, 8, 9, 10, 11, 12, 13, 14, 60, 61] (by decide +kernel) (by decide +kernel)
set_option maxRecDepth 20000 in
theorem gX9_aTick_X9_goesOn : GoodIn wsX9_aTick (wsV RX9 68 RX9 yX9_goesOn wsX9_goesOn) := goodIn_app (goodIn_of _ (by decide +kernel)) ggX9_aTick_X9_goesOn
theorem dX9_aTick_0 : decode cX9_aTick 0 = .ok (.iconst 0, 1) := by decide +kernel
theorem dX9_aTick_1 : decode cX9_aTick 1 = .ok (.istore_n 1, 1) := by decide +kernel
theorem dX9_aTick_2 : decode cX9_aTick 2 = .ok (.iload_n 1, 1) := by decide +kernel
theorem dX9_aTick_3 : decode cX9_aTick 3 = .ok (.aload_n 0, 1) := by decide +kernel
theorem dX9_aTick_4 : decode cX9_aTick 4 = .ok (.getfield 7, 3) := by decide +kernel
theorem dX9_aTick_7 : decode cX9_aTick 7 = .ok (.bipush 36, 2) := by decide +kernel
theorem dX9_aTick_9 : decode cX9_aTick 9 = .ok (.iaload, 1) := by decide +kernel
theorem dX9_aTick_10 : decode cX9_aTick 10 = .ok (.if_icmp .ge 74, 3) := by decide +kernel
theorem dX9_aTick_13 : decode cX9_aTick 13 = .ok (.bipush 60, 2) := by decide +kernel
theorem dX9_aTick_15 : decode cX9_aTick 15 = .ok (.iconst 4, 1) := by decide +kernel
theorem dX9_aTick_16 : decode cX9_aTick 16 = .ok (.iload_n 1, 1) := by decide +kernel
theorem dX9_aTick_17 : decode cX9_aTick 17 = .ok (.imul, 1) := by decide +kernel
theorem dX9_aTick_18 : decode cX9_aTick 18 = .ok (.iadd, 1) := by decide +kernel
theorem dX9_aTick_19 : decode cX9_aTick 19 = .ok (.istore_n 2, 1) := by decide +kernel
theorem dX9_aTick_20 : decode cX9_aTick 20 = .ok (.aload_n 0, 1) := by decide +kernel
theorem dX9_aTick_21 : decode cX9_aTick 21 = .ok (.getfield 7, 3) := by decide +kernel
theorem dX9_aTick_24 : decode cX9_aTick 24 = .ok (.iload_n 2, 1) := by decide +kernel
theorem dX9_aTick_25 : decode cX9_aTick 25 = .ok (.iaload, 1) := by decide +kernel
theorem dX9_aTick_26 : decode cX9_aTick 26 = .ok (.aload_n 0, 1) := by decide +kernel
theorem dX9_aTick_27 : decode cX9_aTick 27 = .ok (.getfield 7, 3) := by decide +kernel
theorem dX9_aTick_30 : decode cX9_aTick 30 = .ok (.bipush 21, 2) := by decide +kernel
theorem dX9_aTick_32 : decode cX9_aTick 32 = .ok (.iaload, 1) := by decide +kernel
theorem dX9_aTick_33 : decode cX9_aTick 33 = .ok (.if_icmp .ne 45, 3) := by decide +kernel
theorem dX9_aTick_36 : decode cX9_aTick 36 = .ok (.aload_n 0, 1) := by decide +kernel
theorem dX9_aTick_37 : decode cX9_aTick 37 = .ok (.getfield 7, 3) := by decide +kernel
theorem dX9_aTick_40 : decode cX9_aTick 40 = .ok (.iload_n 2, 1) := by decide +kernel
theorem dX9_aTick_41 : decode cX9_aTick 41 = .ok (.iconst 1, 1) := by decide +kernel
theorem dX9_aTick_42 : decode cX9_aTick 42 = .ok (.iadd, 1) := by decide +kernel
theorem dX9_aTick_43 : decode cX9_aTick 43 = .ok (.iaload, 1) := by decide +kernel
theorem dX9_aTick_44 : decode cX9_aTick 44 = .ok (.aload_n 0, 1) := by decide +kernel
theorem dX9_aTick_45 : decode cX9_aTick 45 = .ok (.getfield 7, 3) := by decide +kernel
theorem dX9_aTick_48 : decode cX9_aTick 48 = .ok (.bipush 20, 2) := by decide +kernel
theorem dX9_aTick_50 : decode cX9_aTick 50 = .ok (.iaload, 1) := by decide +kernel
theorem dX9_aTick_51 : decode cX9_aTick 51 = .ok (.if_icmp .ne 27, 3) := by decide +kernel
theorem dX9_aTick_54 : decode cX9_aTick 54 = .ok (.aload_n 0, 1) := by decide +kernel
theorem dX9_aTick_55 : decode cX9_aTick 55 = .ok (.getfield 7, 3) := by decide +kernel
theorem dX9_aTick_58 : decode cX9_aTick 58 = .ok (.bipush 40, 2) := by decide +kernel
theorem dX9_aTick_60 : decode cX9_aTick 60 = .ok (.aload_n 0, 1) := by decide +kernel
theorem dX9_aTick_61 : decode cX9_aTick 61 = .ok (.getfield 7, 3) := by decide +kernel
theorem dX9_aTick_64 : decode cX9_aTick 64 = .ok (.iload_n 2, 1) := by decide +kernel
theorem dX9_aTick_65 : decode cX9_aTick 65 = .ok (.iconst 2, 1) := by decide +kernel
theorem dX9_aTick_66 : decode cX9_aTick 66 = .ok (.iadd, 1) := by decide +kernel
theorem dX9_aTick_67 : decode cX9_aTick 67 = .ok (.iaload, 1) := by decide +kernel
theorem dX9_aTick_68 : decode cX9_aTick 68 = .ok (.iadd, 1) := by decide +kernel
theorem dX9_aTick_69 : decode cX9_aTick 69 = .ok (.aload_n 0, 1) := by decide +kernel
theorem dX9_aTick_70 : decode cX9_aTick 70 = .ok (.getfield 7, 3) := by decide +kernel
theorem dX9_aTick_73 : decode cX9_aTick 73 = .ok (.iload_n 2, 1) := by decide +kernel
theorem dX9_aTick_74 : decode cX9_aTick 74 = .ok (.iconst 3, 1) := by decide +kernel
theorem dX9_aTick_75 : decode cX9_aTick 75 = .ok (.iadd, 1) := by decide +kernel
theorem dX9_aTick_76 : decode cX9_aTick 76 = .ok (.iaload, 1) := by decide +kernel
theorem dX9_aTick_77 : decode cX9_aTick 77 = .ok (.iastore, 1) := by decide +kernel
theorem dX9_aTick_78 : decode cX9_aTick 78 = .ok (.iinc 1 1, 3) := by decide +kernel
theorem dX9_aTick_81 : decode cX9_aTick 81 = .ok (.goto (-79), 3) := by decide +kernel
theorem dX9_aTick_84 : decode cX9_aTick 84 = .ok (.aload_n 0, 1) := by decide +kernel
theorem dX9_aTick_85 : decode cX9_aTick 85 = .ok (.getfield 7, 3) := by decide +kernel
theorem dX9_aTick_88 : decode cX9_aTick 88 = .ok (.bipush 20, 2) := by decide +kernel
theorem dX9_aTick_90 : decode cX9_aTick 90 = .ok (.iaload, 1) := by decide +kernel
theorem dX9_aTick_91 : decode cX9_aTick 91 = .ok (.aload_n 0, 1) := by decide +kernel
theorem dX9_aTick_92 : decode cX9_aTick 92 = .ok (.getfield 7, 3) := by decide +kernel
theorem dX9_aTick_95 : decode cX9_aTick 95 = .ok (.iconst 0, 1) := by decide +kernel
theorem dX9_aTick_96 : decode cX9_aTick 96 = .ok (.iaload, 1) := by decide +kernel
theorem dX9_aTick_97 : decode cX9_aTick 97 = .ok (.if_icmp .ne 7, 3) := by decide +kernel
theorem dX9_aTick_100 : decode cX9_aTick 100 = .ok (.aload_n 0, 1) := by decide +kernel
theorem dX9_aTick_101 : decode cX9_aTick 101 = .ok (.invokevirtual 56, 3) := by decide +kernel
theorem dX9_aTick_104 : decode cX9_aTick 104 = .ok (.aload_n 0, 1) := by decide +kernel
theorem dX9_aTick_105 : decode cX9_aTick 105 = .ok (.invokevirtual 59, 3) := by decide +kernel
theorem dX9_aTick_108 : decode cX9_aTick 108 = .ok (.aload_n 0, 1) := by decide +kernel
theorem dX9_aTick_109 : decode cX9_aTick 109 = .ok (.getfield 7, 3) := by decide +kernel
theorem dX9_aTick_112 : decode cX9_aTick 112 = .ok (.bipush 20, 2) := by decide +kernel
theorem dX9_aTick_114 : decode cX9_aTick 114 = .ok (.iaload, 1) := by decide +kernel
theorem dX9_aTick_115 : decode cX9_aTick 115 = .ok (.aload_n 0, 1) := by decide +kernel
theorem dX9_aTick_116 : decode cX9_aTick 116 = .ok (.getfield 7, 3) := by decide +kernel
theorem dX9_aTick_119 : decode cX9_aTick 119 = .ok (.iconst 0, 1) := by decide +kernel
theorem dX9_aTick_120 : decode cX9_aTick 120 = .ok (.iaload, 1) := by decide +kernel
theorem dX9_aTick_121 : decode cX9_aTick 121 = .ok (.if_icmp .ge 23, 3) := by decide +kernel
theorem dX9_aTick_124 : decode cX9_aTick 124 = .ok (.aload_n 0, 1) := by decide +kernel
theorem dX9_aTick_125 : decode cX9_aTick 125 = .ok (.getfield 7, 3) := by decide +kernel
theorem dX9_aTick_128 : decode cX9_aTick 128 = .ok (.bipush 21, 2) := by decide +kernel
theorem dX9_aTick_130 : decode cX9_aTick 130 = .ok (.iaload, 1) := by decide +kernel
theorem dX9_aTick_131 : decode cX9_aTick 131 = .ok (.aload_n 0, 1) := by decide +kernel
theorem dX9_aTick_132 : decode cX9_aTick 132 = .ok (.getfield 7, 3) := by decide +kernel
theorem dX9_aTick_135 : decode cX9_aTick 135 = .ok (.iconst 4, 1) := by decide +kernel
theorem dX9_aTick_136 : decode cX9_aTick 136 = .ok (.iaload, 1) := by decide +kernel
theorem dX9_aTick_137 : decode cX9_aTick 137 = .ok (.if_icmp .ge 7, 3) := by decide +kernel
theorem dX9_aTick_140 : decode cX9_aTick 140 = .ok (.aload_n 0, 1) := by decide +kernel
theorem dX9_aTick_141 : decode cX9_aTick 141 = .ok (.invokevirtual 62, 3) := by decide +kernel
theorem dX9_aTick_144 : decode cX9_aTick 144 = .ok (.aload_n 0, 1) := by decide +kernel
theorem dX9_aTick_145 : decode cX9_aTick 145 = .ok (.getfield 7, 3) := by decide +kernel
theorem dX9_aTick_148 : decode cX9_aTick 148 = .ok (.sipush 220, 3) := by decide +kernel
theorem dX9_aTick_151 : decode cX9_aTick 151 = .ok (.aload_n 0, 1) := by decide +kernel
theorem dX9_aTick_152 : decode cX9_aTick 152 = .ok (.getfield 7, 3) := by decide +kernel
theorem dX9_aTick_155 : decode cX9_aTick 155 = .ok (.bipush 23, 2) := by decide +kernel
theorem dX9_aTick_157 : decode cX9_aTick 157 = .ok (.iaload, 1) := by decide +kernel
theorem dX9_aTick_158 : decode cX9_aTick 158 = .ok (.sipush 512, 3) := by decide +kernel
theorem dX9_aTick_161 : decode cX9_aTick 161 = .ok (.irem, 1) := by decide +kernel
theorem dX9_aTick_162 : decode cX9_aTick 162 = .ok (.iadd, 1) := by decide +kernel
theorem dX9_aTick_163 : decode cX9_aTick 163 = .ok (.aload_n 0, 1) := by decide +kernel
theorem dX9_aTick_164 : decode cX9_aTick 164 = .ok (.invokevirtual 65, 3) := by decide +kernel
theorem dX9_aTick_167 : decode cX9_aTick 167 = .ok (.iastore, 1) := by decide +kernel
theorem dX9_aTick_168 : decode cX9_aTick 168 = .ok (.aload_n 0, 1) := by decide +kernel
theorem dX9_aTick_169 : decode cX9_aTick 169 = .ok (.invokevirtual 68, 3) := by decide +kernel
theorem dX9_aTick_172 : decode cX9_aTick 172 = .ok (.aload_n 0, 1) := by decide +kernel
theorem dX9_aTick_173 : decode cX9_aTick 173 = .ok (.getfield 7, 3) := by decide +kernel
theorem dX9_aTick_176 : decode cX9_aTick 176 = .ok (.bipush 23, 2) := by decide +kernel
theorem dX9_aTick_178 : decode cX9_aTick 178 = .ok (.dup2, 1) := by decide +kernel
theorem dX9_aTick_179 : decode cX9_aTick 179 = .ok (.iaload, 1) := by decide +kernel
theorem dX9_aTick_180 : decode cX9_aTick 180 = .ok (.iconst 1, 1) := by decide +kernel
theorem dX9_aTick_181 : decode cX9_aTick 181 = .ok (.iadd, 1) := by decide +kernel
theorem dX9_aTick_182 : decode cX9_aTick 182 = .ok (.iastore, 1) := by decide +kernel
theorem dX9_aTick_183 : decode cX9_aTick 183 = .ok (.return_, 1) := by decide +kernel
set_option maxRecDepth 20000 in
theorem ggX9_ticks_X9_isIn : GoodIn wsX9_ticks wsX9_isIn := goodIn_r _ [6] (by decide +kernel) (by decide +kernel)
set_option maxRecDepth 20000 in
theorem gX9_ticks_X9_isIn : GoodIn wsX9_ticks (va_wsS RX9 17 yX9_isIn wsX9_isIn) := goodIn_app (goodIn_of _ (by decide +kernel)) ggX9_ticks_X9_isIn
set_option maxRecDepth 20000 in
theorem ggX9_ticks_X9_aTick : GoodIn wsX9_ticks wsX9_aTick := goodIn_r _ [10, 1, 11, 12, 13, 5, 14, 15, 16, 17, 18, 19, 20, 21, 22, 23, 24, 25, 26, 27, 28, 29, 30, 31, 32, 33, 34, 35, 36, 37, 38, 39, 40, 41, 42, 43, 44, 45, 46, 47, 48, 49, 50, 51, 52, 3, 4, 6, 53, 54, 55, 56, 57, 58, 59, 60, 61, 62, 63, 64, 65, 66] (by decide +kernel) (by decide +kernel)
set_option maxRecDepth 20000 in
theorem gX9_ticks_X9_aTick : GoodIn wsX9_ticks (wsV RX9 72 RX9 yX9_aTick wsX9_aTick) := goodIn_app (goodIn_of _ (by decide +kernel)) ggX9_ticks_X9_aTick
theorem dX9_ticks_0 : decode cX9_ticks 0 = .ok (.iload_n 1, 1) := by decide +kernel
theorem dX9_ticks_1 : decode cX9_ticks 1 = .ok (.iconst 1, 1) := by decide +kernel
theorem dX9_ticks_2 : decode cX9_ticks 2 = .ok (.sipush 4000, 3) := by decide +kernel
theorem dX9_ticks_5 : decode cX9_ticks 5 = .ok (.invokestatic 17, 3) := by decide +kernel
theorem dX9_ticks_8 : decode cX9_ticks 8 = .ok (.ifCond .eq 17, 3) := by decide +kernel
theorem dX9_ticks_11 : decode cX9_ticks 11 = .ok (.aload_n 0, 1) := by decide +kernel
theorem dX9_ticks_12 : decode cX9_ticks 12 = .ok (.getfield 7, 3) := by decide +kernel
theorem dX9_ticks_15 : decode cX9_ticks 15 = .ok (.bipush 23, 2) := by decide +kernel
theorem dX9_ticks_17 : decode cX9_ticks 17 = .ok (.iaload, 1) := by decide +kernel
theorem dX9_ticks_18 : decode cX9_ticks 18 = .ok (.iload_n 1, 1) := by decide +kernel
theorem dX9_ticks_19 : decode cX9_ticks 19 = .ok (.iadd, 1) := by decide +kernel
theorem dX9_ticks_20 : decode cX9_ticks 20 = .ok (.ldc 71, 2) := by decide +kernel
theorem dX9_ticks_22 : decode cX9_ticks 22 = .ok (.if_icmp .le 5, 3) := by decide +kernel
theorem dX9_ticks_25 : decode cX9_ticks 25 = .ok (.iconst (-1), 1) := by decide +kernel
theorem dX9_ticks_26 : decode cX9_ticks 26 = .ok (.ireturn, 1) := by decide +kernel
theorem dX9_ticks_27 : decode cX9_ticks 27 = .ok (.iconst 0, 1) := by decide +kernel
theorem dX9_ticks_28 : decode cX9_ticks 28 = .ok (.istore_n 2, 1) := by decide +kernel
theorem dX9_ticks_29 : decode cX9_ticks 29 = .ok (.iload_n 2, 1) := by decide +kernel
theorem dX9_ticks_30 : decode cX9_ticks 30 = .ok (.iload_n 1, 1) := by decide +kernel
theorem dX9_ticks_31 : decode cX9_ticks 31 = .ok (.if_icmp .ge 13, 3) := by decide +kernel
theorem dX9_ticks_34 : decode cX9_ticks 34 = .ok (.aload_n 0, 1) := by decide +kernel
theorem dX9_ticks_35 : decode cX9_ticks 35 = .ok (.invokevirtual 72, 3) := by decide +kernel
theorem dX9_ticks_38 : decode cX9_ticks 38 = .ok (.iinc 2 1, 3) := by decide +kernel
theorem dX9_ticks_41 : decode cX9_ticks 41 = .ok (.goto (-12), 3) := by decide +kernel
theorem dX9_ticks_44 : decode cX9_ticks 44 = .ok (.aload_n 0, 1) := by decide +kernel
theorem dX9_ticks_45 : decode cX9_ticks 45 = .ok (.getfield 7, 3) := by decide +kernel
theorem dX9_ticks_48 : decode cX9_ticks 48 = .ok (.bipush 23, 2) := by decide +kernel
theorem dX9_ticks_50 : decode cX9_ticks 50 = .ok (.iaload, 1) := by decide +kernel
theorem dX9_ticks_51 : decode cX9_ticks 51 = .ok (.ireturn, 1) := by decide +kernel
set_option maxRecDepth 20000 in
theorem ggX9_shown_X9_isIn : GoodIn wsX9_shown wsX9_isIn := goodIn_r _ [5] (by decide +kernel) (by decide +kernel)
set_option maxRecDepth 20000 in
theorem gX9_shown_X9_isIn : GoodIn wsX9_shown (va_wsS RX9 17 yX9_isIn wsX9_isIn) := goodIn_app (goodIn_of _ (by decide +kernel)) ggX9_shown_X9_isIn
theorem dX9_shown_0 : decode cX9_shown 0 = .ok (.iload_n 1, 1) := by decide +kernel
theorem dX9_shown_1 : decode cX9_shown 1 = .ok (.iconst 0, 1) := by decide +kernel
theorem dX9_shown_2 : decode cX9_shown 2 = .ok (.bipush 63, 2) := by decide +kernel
theorem dX9_shown_4 : decode cX9_shown 4 = .ok (.invokestatic 17, 3) := by decide +kernel
theorem dX9_shown_7 : decode cX9_shown 7 = .ok (.ifCond .eq 33, 3) := by decide +kernel
theorem dX9_shown_10 : decode cX9_shown 10 = .ok (.iload_n 2, 1) := by decide +kernel
theorem dX9_shown_11 : decode cX9_shown 11 = .ok (.iconst 0, 1) := by decide +kernel
theorem dX9_shown_12 : decode cX9_shown 12 = .ok (.bipush 63, 2) := by decide +kernel
theorem dX9_shown_14 : decode cX9_shown 14 = .ok (.invokestatic 17, 3) := by decide +kernel
theorem dX9_shown_17 : decode cX9_shown 17 = .ok (.ifCond .eq 23, 3) := by decide +kernel
theorem dX9_shown_20 : decode cX9_shown 20 = .ok (.aload_n 0, 1) := by decide +kernel
theorem dX9_shown_21 : decode cX9_shown 21 = .ok (.getfield 7, 3) := by decide +kernel
theorem dX9_shown_24 : decode cX9_shown 24 = .ok (.sipush 1770, 3) := by decide +kernel
theorem dX9_shown_27 : decode cX9_shown 27 = .ok (.bipush 64, 2) := by decide +kernel
theorem dX9_shown_29 : decode cX9_shown 29 = .ok (.iload_n 2, 1) := by decide +kernel
theorem dX9_shown_30 : decode cX9_shown 30 = .ok (.imul, 1) := by decide +kernel
theorem dX9_shown_31 : decode cX9_shown 31 = .ok (.iadd, 1) := by decide +kernel
theorem dX9_shown_32 : decode cX9_shown 32 = .ok (.iload_n 1, 1) := by decide +kernel
theorem dX9_shown_33 : decode cX9_shown 33 = .ok (.iadd, 1) := by decide +kernel
theorem dX9_shown_34 : decode cX9_shown 34 = .ok (.iaload, 1) := by decide +kernel
theorem dX9_shown_35 : decode cX9_shown 35 = .ok (.iconst 1, 1) := by decide +kernel
theorem dX9_shown_36 : decode cX9_shown 36 = .ok (.isub, 1) := by decide +kernel
theorem dX9_shown_37 : decode cX9_shown 37 = .ok (.goto 5, 3) := by decide +kernel
theorem dX9_shown_40 : decode cX9_shown 40 = .ok (.bipush (-2), 2) := by decide +kernel
theorem dX9_shown_42 : decode cX9_shown 42 = .ok (.ireturn, 1) := by decide +kernel
set_option maxRecDepth 20000 in
theorem ggX9_now_X9_signalsNow : GoodIn wsX9_now wsX9_signalsNow := goodIn_r _ [6, 1, 7, 8, 5, 9, 22, 23] (by decide +kernel) (by decide +kernel)
set_option maxRecDepth 20000 in
theorem gX9_now_X9_signalsNow : GoodIn wsX9_now (wsV RX9 65 RX9 yX9_signalsNow wsX9_signalsNow) := goodIn_app (goodIn_of _ (by decide +kernel)) ggX9_now_X9_signalsNow
set_option maxRecDepth 20000 in
theorem ggX9_now_X9_ticksOf : GoodIn wsX9_now wsX9_ticksOf := goodIn_r _ [13, 1, 22, 23] (by decide +kernel) (by decide +kernel)
set_option maxRecDepth 20000 in
theorem gX9_now_X9_ticksOf : GoodIn wsX9_now (wsV RX9 53 RX9 yX9_ticksOf wsX9_ticksOf) := goodIn_app (goodIn_of _ (by decide +kernel)) ggX9_now_X9_ticksOf
set_option maxRecDepth 20000 in
theorem ggX9_now_X9_linesOf : GoodIn wsX9_now wsX9_linesOf := goodIn_r _ [17, 1, 22, 23] (by decide +kernel) (by decide +kernel)
set_option maxRecDepth 20000 in
theorem gX9_now_X9_linesOf : GoodIn wsX9_now (wsV RX9 28 RX9 yX9_linesOf wsX9_linesOf) := goodIn_app (goodIn_of _ (by decide +kernel)) ggX9_now_X9_linesOf
set_option maxRecDepth 20000 in
theorem ggX9_now_X9_isTaken : GoodIn wsX9_now wsX9_isTaken := goodIn_r _ [21, 1, 22, 23] (by decide +kernel) (by decide +kernel)
set_option maxRecDepth 20000 in
theorem gX9_now_X9_isTaken : GoodIn wsX9_now (wsV RX9 43 RX9 yX9_isTaken wsX9_isTaken) := goodIn_app (goodIn_of _ (by decide +kernel)) ggX9_now_X9_isTaken
theorem dX9_now_0 : decode cX9_now 0 = .ok (.iload_n 1, 1) := by decide +kernel
theorem dX9_now_1 : decode cX9_now 1 = .ok (.tableswitch 157 0 11 #[63, 71, 79, 87, 92, 98, 104, 112, 120, 128, 136, 144], 63) := by decide +kernel
theorem dX9_now_64 : decode cX9_now 64 = .ok (.aload_n 0, 1) := by decide +kernel
theorem dX9_now_65 : decode cX9_now 65 = .ok (.getfield 7, 3) := by decide +kernel
theorem dX9_now_68 : decode cX9_now 68 = .ok (.bipush 20, 2) := by decide +kernel
theorem dX9_now_70 : decode cX9_now 70 = .ok (.iaload, 1) := by decide +kernel
theorem dX9_now_71 : decode cX9_now 71 = .ok (.ireturn, 1) := by decide +kernel
theorem dX9_now_72 : decode cX9_now 72 = .ok (.aload_n 0, 1) := by decide +kernel
theorem dX9_now_73 : decode cX9_now 73 = .ok (.getfield 7, 3) := by decide +kernel
theorem dX9_now_76 : decode cX9_now 76 = .ok (.bipush 21, 2) := by decide +kernel
theorem dX9_now_78 : decode cX9_now 78 = .ok (.iaload, 1) := by decide +kernel
theorem dX9_now_79 : decode cX9_now 79 = .ok (.ireturn, 1) := by decide +kernel
theorem dX9_now_80 : decode cX9_now 80 = .ok (.aload_n 0, 1) := by decide +kernel
theorem dX9_now_81 : decode cX9_now 81 = .ok (.getfield 7, 3) := by decide +kernel
theorem dX9_now_84 : decode cX9_now 84 = .ok (.bipush 22, 2) := by decide +kernel
theorem dX9_now_86 : decode cX9_now 86 = .ok (.iaload, 1) := by decide +kernel
theorem dX9_now_87 : decode cX9_now 87 = .ok (.ireturn, 1) := by decide +kernel
theorem dX9_now_88 : decode cX9_now 88 = .ok (.aload_n 0, 1) := by decide +kernel
theorem dX9_now_89 : decode cX9_now 89 = .ok (.invokevirtual 65, 3) := by decide +kernel
theorem dX9_now_92 : decode cX9_now 92 = .ok (.ireturn, 1) := by decide +kernel
theorem dX9_now_93 : decode cX9_now 93 = .ok (.aload_n 0, 1) := by decide +kernel
theorem dX9_now_94 : decode cX9_now 94 = .ok (.iconst 0, 1) := by decide +kernel
theorem dX9_now_95 : decode cX9_now 95 = .ok (.invokevirtual 53, 3) := by decide +kernel
theorem dX9_now_98 : decode cX9_now 98 = .ok (.ireturn, 1) := by decide +kernel
theorem dX9_now_99 : decode cX9_now 99 = .ok (.aload_n 0, 1) := by decide +kernel
theorem dX9_now_100 : decode cX9_now 100 = .ok (.iconst 0, 1) := by decide +kernel
theorem dX9_now_101 : decode cX9_now 101 = .ok (.invokevirtual 28, 3) := by decide +kernel
theorem dX9_now_104 : decode cX9_now 104 = .ok (.ireturn, 1) := by decide +kernel
theorem dX9_now_105 : decode cX9_now 105 = .ok (.aload_n 0, 1) := by decide +kernel
theorem dX9_now_106 : decode cX9_now 106 = .ok (.getfield 7, 3) := by decide +kernel
theorem dX9_now_109 : decode cX9_now 109 = .ok (.bipush 33, 2) := by decide +kernel
theorem dX9_now_111 : decode cX9_now 111 = .ok (.iaload, 1) := by decide +kernel
theorem dX9_now_112 : decode cX9_now 112 = .ok (.ireturn, 1) := by decide +kernel
theorem dX9_now_113 : decode cX9_now 113 = .ok (.aload_n 0, 1) := by decide +kernel
theorem dX9_now_114 : decode cX9_now 114 = .ok (.getfield 7, 3) := by decide +kernel
theorem dX9_now_117 : decode cX9_now 117 = .ok (.bipush 35, 2) := by decide +kernel
theorem dX9_now_119 : decode cX9_now 119 = .ok (.iaload, 1) := by decide +kernel
theorem dX9_now_120 : decode cX9_now 120 = .ok (.ireturn, 1) := by decide +kernel
theorem dX9_now_121 : decode cX9_now 121 = .ok (.aload_n 0, 1) := by decide +kernel
theorem dX9_now_122 : decode cX9_now 122 = .ok (.getfield 7, 3) := by decide +kernel
theorem dX9_now_125 : decode cX9_now 125 = .ok (.bipush 24, 2) := by decide +kernel
theorem dX9_now_127 : decode cX9_now 127 = .ok (.iaload, 1) := by decide +kernel
theorem dX9_now_128 : decode cX9_now 128 = .ok (.ireturn, 1) := by decide +kernel
theorem dX9_now_129 : decode cX9_now 129 = .ok (.aload_n 0, 1) := by decide +kernel
theorem dX9_now_130 : decode cX9_now 130 = .ok (.getfield 7, 3) := by decide +kernel
theorem dX9_now_133 : decode cX9_now 133 = .ok (.bipush 25, 2) := by decide +kernel
theorem dX9_now_135 : decode cX9_now 135 = .ok (.iaload, 1) := by decide +kernel
theorem dX9_now_136 : decode cX9_now 136 = .ok (.ireturn, 1) := by decide +kernel
theorem dX9_now_137 : decode cX9_now 137 = .ok (.aload_n 0, 1) := by decide +kernel
theorem dX9_now_138 : decode cX9_now 138 = .ok (.getfield 7, 3) := by decide +kernel
theorem dX9_now_141 : decode cX9_now 141 = .ok (.bipush 26, 2) := by decide +kernel
theorem dX9_now_143 : decode cX9_now 143 = .ok (.iaload, 1) := by decide +kernel
theorem dX9_now_144 : decode cX9_now 144 = .ok (.ireturn, 1) := by decide +kernel
theorem dX9_now_145 : decode cX9_now 145 = .ok (.aload_n 0, 1) := by decide +kernel
theorem dX9_now_146 : decode cX9_now 146 = .ok (.invokevirtual 43, 3) := by decide +kernel
theorem dX9_now_149 : decode cX9_now 149 = .ok (.ifCond .eq 7, 3) := by decide +kernel
theorem dX9_now_152 : decode cX9_now 152 = .ok (.iconst 1, 1) := by decide +kernel
theorem dX9_now_153 : decode cX9_now 153 = .ok (.goto 4, 3) := by decide +kernel
theorem dX9_now_156 : decode cX9_now 156 = .ok (.iconst 0, 1) := by decide +kernel
theorem dX9_now_157 : decode cX9_now 157 = .ok (.ireturn, 1) := by decide +kernel
theorem dX9_now_158 : decode cX9_now 158 = .ok (.iconst (-1), 1) := by decide +kernel
theorem dX9_now_159 : decode cX9_now 159 = .ok (.ireturn, 1) := by decide +kernel
set_option maxRecDepth 20000 in
theorem ggX9_signals_X9_isIn : GoodIn wsX9_signals wsX9_isIn := goodIn_r _ [5] (by decide +kernel) (by decide +kernel)
set_option maxRecDepth 20000 in
theorem gX9_signals_X9_isIn : GoodIn wsX9_signals (va_wsS RX9 17 yX9_isIn wsX9_isIn) := goodIn_app (goodIn_of _ (by decide +kernel)) ggX9_signals_X9_isIn
theorem dX9_signals_0 : decode cX9_signals 0 = .ok (.iload_n 1, 1) := by decide +kernel
theorem dX9_signals_1 : decode cX9_signals 1 = .ok (.iconst 1, 1) := by decide +kernel
theorem dX9_signals_2 : decode cX9_signals 2 = .ok (.aload_n 0, 1) := by decide +kernel
theorem dX9_signals_3 : decode cX9_signals 3 = .ok (.getfield 7, 3) := by decide +kernel
theorem dX9_signals_6 : decode cX9_signals 6 = .ok (.bipush 23, 2) := by decide +kernel
theorem dX9_signals_8 : decode cX9_signals 8 = .ok (.iaload, 1) := by decide +kernel
theorem dX9_signals_9 : decode cX9_signals 9 = .ok (.sipush 512, 3) := by decide +kernel
theorem dX9_signals_12 : decode cX9_signals 12 = .ok (.if_icmp .le 9, 3) := by decide +kernel
theorem dX9_signals_15 : decode cX9_signals 15 = .ok (.sipush 512, 3) := by decide +kernel
theorem dX9_signals_18 : decode cX9_signals 18 = .ok (.goto 10, 3) := by decide +kernel
theorem dX9_signals_21 : decode cX9_signals 21 = .ok (.aload_n 0, 1) := by decide +kernel
theorem dX9_signals_22 : decode cX9_signals 22 = .ok (.getfield 7, 3) := by decide +kernel
theorem dX9_signals_25 : decode cX9_signals 25 = .ok (.bipush 23, 2) := by decide +kernel
theorem dX9_signals_27 : decode cX9_signals 27 = .ok (.iaload, 1) := by decide +kernel
theorem dX9_signals_28 : decode cX9_signals 28 = .ok (.invokestatic 17, 3) := by decide +kernel
theorem dX9_signals_31 : decode cX9_signals 31 = .ok (.ifCond .eq 28, 3) := by decide +kernel
theorem dX9_signals_34 : decode cX9_signals 34 = .ok (.aload_n 0, 1) := by decide +kernel
theorem dX9_signals_35 : decode cX9_signals 35 = .ok (.getfield 7, 3) := by decide +kernel
theorem dX9_signals_38 : decode cX9_signals 38 = .ok (.sipush 220, 3) := by decide +kernel
theorem dX9_signals_41 : decode cX9_signals 41 = .ok (.aload_n 0, 1) := by decide +kernel
theorem dX9_signals_42 : decode cX9_signals 42 = .ok (.getfield 7, 3) := by decide +kernel
theorem dX9_signals_45 : decode cX9_signals 45 = .ok (.bipush 23, 2) := by decide +kernel
theorem dX9_signals_47 : decode cX9_signals 47 = .ok (.iaload, 1) := by decide +kernel
theorem dX9_signals_48 : decode cX9_signals 48 = .ok (.iload_n 1, 1) := by decide +kernel
theorem dX9_signals_49 : decode cX9_signals 49 = .ok (.isub, 1) := by decide +kernel
theorem dX9_signals_50 : decode cX9_signals 50 = .ok (.sipush 512, 3) := by decide +kernel
theorem dX9_signals_53 : decode cX9_signals 53 = .ok (.irem, 1) := by decide +kernel
theorem dX9_signals_54 : decode cX9_signals 54 = .ok (.iadd, 1) := by decide +kernel
theorem dX9_signals_55 : decode cX9_signals 55 = .ok (.iaload, 1) := by decide +kernel
theorem dX9_signals_56 : decode cX9_signals 56 = .ok (.goto 4, 3) := by decide +kernel
theorem dX9_signals_59 : decode cX9_signals 59 = .ok (.iconst (-1), 1) := by decide +kernel
theorem dX9_signals_60 : decode cX9_signals 60 = .ok (.ireturn, 1) := by decide +kernel
set_option maxRecDepth 20000 in
theorem ggX9_value_X9_isIn : GoodIn wsX9_value wsX9_isIn := goodIn_r _ [5] (by decide +kernel) (by decide +kernel)
set_option maxRecDepth 20000 in
theorem gX9_value_X9_isIn : GoodIn wsX9_value (va_wsS RX9 17 yX9_isIn wsX9_isIn) := goodIn_app (goodIn_of _ (by decide +kernel)) ggX9_value_X9_isIn
theorem dX9_value_0 : decode cX9_value 0 = .ok (.iload_n 1, 1) := by decide +kernel
theorem dX9_value_1 : decode cX9_value 1 = .ok (.iconst 0, 1) := by decide +kernel
theorem dX9_value_2 : decode cX9_value 2 = .ok (.iconst 4, 1) := by decide +kernel
theorem dX9_value_3 : decode cX9_value 3 = .ok (.invokestatic 17, 3) := by decide +kernel
theorem dX9_value_6 : decode cX9_value 6 = .ok (.ifCond .eq 15, 3) := by decide +kernel
theorem dX9_value_9 : decode cX9_value 9 = .ok (.aload_n 0, 1) := by decide +kernel
theorem dX9_value_10 : decode cX9_value 10 = .ok (.getfield 7, 3) := by decide +kernel
theorem dX9_value_13 : decode cX9_value 13 = .ok (.bipush 40, 2) := by decide +kernel
theorem dX9_value_15 : decode cX9_value 15 = .ok (.iload_n 1, 1) := by decide +kernel
theorem dX9_value_16 : decode cX9_value 16 = .ok (.iadd, 1) := by decide +kernel
theorem dX9_value_17 : decode cX9_value 17 = .ok (.iaload, 1) := by decide +kernel
theorem dX9_value_18 : decode cX9_value 18 = .ok (.goto 4, 3) := by decide +kernel
theorem dX9_value_21 : decode cX9_value 21 = .ok (.iconst (-1), 1) := by decide +kernel
theorem dX9_value_22 : decode cX9_value 22 = .ok (.ireturn, 1) := by decide +kernel
set_option maxRecDepth 20000 in
theorem ggX9_row_X9_isIn : GoodIn wsX9_row wsX9_isIn := goodIn_r _ [4] (by decide +kernel) (by decide +kernel)
set_option maxRecDepth 20000 in
theorem gX9_row_X9_isIn : GoodIn wsX9_row (va_wsS RX9 17 yX9_isIn wsX9_isIn) := goodIn_app (goodIn_of _ (by decide +kernel)) ggX9_row_X9_isIn
set_option maxRecDepth 20000 in
theorem ggX9_row_X9_spritesOf : GoodIn wsX9_row wsX9_spritesOf := goodIn_r _ [8, 9, 10, 11, 3, 12, 13, 14, 15] (by decide +kernel) (by decide +kernel)
set_option maxRecDepth 20000 in
theorem gX9_row_X9_spritesOf : GoodIn wsX9_row (wsV RX9 50 RX9 yX9_spritesOf wsX9_spritesOf) := goodIn_app (goodIn_of _ (by decide +kernel)) ggX9_row_X9_spritesOf
set_option maxRecDepth 20000 in
theorem ggX9_row_X9_hasRow : GoodIn wsX9_row wsX9_hasRow := goodIn_r _ [12, 13, 14, 15] (by decide +kernel) (by decide +kernel)
set_option maxRecDepth 20000 in
theorem gX9_row_X9_hasRow : GoodIn wsX9_row (wsV RX9 25 RX9 yX9_hasRow wsX9_hasRow) := goodIn_app (goodIn_of _ (by decide +kernel)) ggX9_row_X9_hasRow
theorem dX9_row_0 : decode cX9_row 0 = .ok (.iload_n 1, 1) := by decide +kernel
theorem dX9_row_1 : decode cX9_row 1 = .ok (.iconst 0, 1) := by decide +kernel
theorem dX9_row_2 : decode cX9_row 2 = .ok (.bipush 63, 2) := by decide +kernel
theorem dX9_row_4 : decode cX9_row 4 = .ok (.invokestatic 17, 3) := by decide +kernel
theorem dX9_row_7 : decode cX9_row 7 = .ok (.ifCond .eq 12, 3) := by decide +kernel
theorem dX9_row_10 : decode cX9_row 10 = .ok (.iload_n 2, 1) := by decide +kernel
theorem dX9_row_11 : decode cX9_row 11 = .ok (.iconst 0, 1) := by decide +kernel
theorem dX9_row_12 : decode cX9_row 12 = .ok (.iconst 2, 1) := by decide +kernel
theorem dX9_row_13 : decode cX9_row 13 = .ok (.invokestatic 17, 3) := by decide +kernel
theorem dX9_row_16 : decode cX9_row 16 = .ok (.ifCond .ne 5, 3) := by decide +kernel
theorem dX9_row_19 : decode cX9_row 19 = .ok (.iconst (-1), 1) := by decide +kernel
theorem dX9_row_20 : decode cX9_row 20 = .ok (.ireturn, 1) := by decide +kernel
theorem dX9_row_21 : decode cX9_row 21 = .ok (.aload_n 0, 1) := by decide +kernel
theorem dX9_row_22 : decode cX9_row 22 = .ok (.iload_n 1, 1) := by decide +kernel
theorem dX9_row_23 : decode cX9_row 23 = .ok (.invokevirtual 50, 3) := by decide +kernel
theorem dX9_row_26 : decode cX9_row 26 = .ok (.istore_n 3, 1) := by decide +kernel
theorem dX9_row_27 : decode cX9_row 27 = .ok (.iconst 0, 1) := by decide +kernel
theorem dX9_row_28 : decode cX9_row 28 = .ok (.istore 4, 2) := by decide +kernel
theorem dX9_row_30 : decode cX9_row 30 = .ok (.iconst 0, 1) := by decide +kernel
theorem dX9_row_31 : decode cX9_row 31 = .ok (.istore 5, 2) := by decide +kernel
theorem dX9_row_33 : decode cX9_row 33 = .ok (.iconst 0, 1) := by decide +kernel
theorem dX9_row_34 : decode cX9_row 34 = .ok (.istore 6, 2) := by decide +kernel
theorem dX9_row_36 : decode cX9_row 36 = .ok (.iload 6, 2) := by decide +kernel
theorem dX9_row_38 : decode cX9_row 38 = .ok (.bipush 8, 2) := by decide +kernel
theorem dX9_row_40 : decode cX9_row 40 = .ok (.if_icmp .ge 40, 3) := by decide +kernel
theorem dX9_row_43 : decode cX9_row 43 = .ok (.iload 4, 2) := by decide +kernel
theorem dX9_row_45 : decode cX9_row 45 = .ok (.iload_n 3, 1) := by decide +kernel
theorem dX9_row_46 : decode cX9_row 46 = .ok (.iload 6, 2) := by decide +kernel
theorem dX9_row_48 : decode cX9_row 48 = .ok (.ishr, 1) := by decide +kernel
theorem dX9_row_49 : decode cX9_row 49 = .ok (.iconst 1, 1) := by decide +kernel
theorem dX9_row_50 : decode cX9_row 50 = .ok (.iand, 1) := by decide +kernel
theorem dX9_row_51 : decode cX9_row 51 = .ok (.iadd, 1) := by decide +kernel
theorem dX9_row_52 : decode cX9_row 52 = .ok (.istore 4, 2) := by decide +kernel
theorem dX9_row_54 : decode cX9_row 54 = .ok (.iload 5, 2) := by decide +kernel
theorem dX9_row_56 : decode cX9_row 56 = .ok (.aload_n 0, 1) := by decide +kernel
theorem dX9_row_57 : decode cX9_row 57 = .ok (.iload 6, 2) := by decide +kernel
theorem dX9_row_59 : decode cX9_row 59 = .ok (.iload_n 1, 1) := by decide +kernel
theorem dX9_row_60 : decode cX9_row 60 = .ok (.invokevirtual 25, 3) := by decide +kernel
theorem dX9_row_63 : decode cX9_row 63 = .ok (.ifCond .eq 7, 3) := by decide +kernel
theorem dX9_row_66 : decode cX9_row 66 = .ok (.iconst 1, 1) := by decide +kernel
theorem dX9_row_67 : decode cX9_row 67 = .ok (.goto 4, 3) := by decide +kernel
theorem dX9_row_70 : decode cX9_row 70 = .ok (.iconst 0, 1) := by decide +kernel
theorem dX9_row_71 : decode cX9_row 71 = .ok (.iadd, 1) := by decide +kernel
theorem dX9_row_72 : decode cX9_row 72 = .ok (.istore 5, 2) := by decide +kernel
theorem dX9_row_74 : decode cX9_row 74 = .ok (.iinc 6 1, 3) := by decide +kernel
theorem dX9_row_77 : decode cX9_row 77 = .ok (.goto (-41), 3) := by decide +kernel
theorem dX9_row_80 : decode cX9_row 80 = .ok (.iload_n 2, 1) := by decide +kernel
theorem dX9_row_81 : decode cX9_row 81 = .ok (.ifCond .ne 11, 3) := by decide +kernel
theorem dX9_row_84 : decode cX9_row 84 = .ok (.iload 5, 2) := by decide +kernel
theorem dX9_row_86 : decode cX9_row 86 = .ok (.iload 4, 2) := by decide +kernel
theorem dX9_row_88 : decode cX9_row 88 = .ok (.isub, 1) := by decide +kernel
theorem dX9_row_89 : decode cX9_row 89 = .ok (.goto 14, 3) := by decide +kernel
theorem dX9_row_92 : decode cX9_row 92 = .ok (.iload_n 2, 1) := by decide +kernel
theorem dX9_row_93 : decode cX9_row 93 = .ok (.iconst 1, 1) := by decide +kernel
theorem dX9_row_94 : decode cX9_row 94 = .ok (.if_icmp .ne 8, 3) := by decide +kernel
theorem dX9_row_97 : decode cX9_row 97 = .ok (.iload 4, 2) := by decide +kernel
theorem dX9_row_99 : decode cX9_row 99 = .ok (.goto 4, 3) := by decide +kernel
theorem dX9_row_102 : decode cX9_row 102 = .ok (.iload_n 3, 1) := by decide +kernel
theorem dX9_row_103 : decode cX9_row 103 = .ok (.ireturn, 1) := by decide +kernel
set_option maxRecDepth 20000 in
theorem ggX9_leastOf_X9_ticksOf : GoodIn wsX9_leastOf wsX9_ticksOf := goodIn_r _ [6, 1, 10, 11] (by decide +kernel) (by decide +kernel)
set_option maxRecDepth 20000 in
theorem gX9_leastOf_X9_ticksOf : GoodIn wsX9_leastOf (wsV RX9 53 RX9 yX9_ticksOf wsX9_ticksOf) := goodIn_app (goodIn_of _ (by decide +kernel)) ggX9_leastOf_X9_ticksOf
set_option maxRecDepth 20000 in
theorem ggX9_leastOf_X9_bytesOf : GoodIn wsX9_leastOf wsX9_bytesOf := goodIn_r _ [9] (by decide +kernel) (by decide +kernel)
set_option maxRecDepth 20000 in
theorem gX9_leastOf_X9_bytesOf : GoodIn wsX9_leastOf (va_wsS RX9 40 yX9_bytesOf wsX9_bytesOf) := goodIn_app (goodIn_of _ (by decide +kernel)) ggX9_leastOf_X9_bytesOf
theorem dX9_leastOf_0 : decode cX9_leastOf 0 = .ok (.aload_n 0, 1) := by decide +kernel
theorem dX9_leastOf_1 : decode cX9_leastOf 1 = .ok (.getfield 7, 3) := by decide +kernel
theorem dX9_leastOf_4 : decode cX9_leastOf 4 = .ok (.iconst 0, 1) := by decide +kernel
theorem dX9_leastOf_5 : decode cX9_leastOf 5 = .ok (.iaload, 1) := by decide +kernel
theorem dX9_leastOf_6 : decode cX9_leastOf 6 = .ok (.istore_n 3, 1) := by decide +kernel
theorem dX9_leastOf_7 : decode cX9_leastOf 7 = .ok (.aload_n 0, 1) := by decide +kernel
theorem dX9_leastOf_8 : decode cX9_leastOf 8 = .ok (.iconst 0, 1) := by decide +kernel
theorem dX9_leastOf_9 : decode cX9_leastOf 9 = .ok (.invokevirtual 53, 3) := by decide +kernel
theorem dX9_leastOf_12 : decode cX9_leastOf 12 = .ok (.iload_n 3, 1) := by decide +kernel
theorem dX9_leastOf_13 : decode cX9_leastOf 13 = .ok (.isub, 1) := by decide +kernel
theorem dX9_leastOf_14 : decode cX9_leastOf 14 = .ok (.istore 4, 2) := by decide +kernel
theorem dX9_leastOf_16 : decode cX9_leastOf 16 = .ok (.iload_n 3, 1) := by decide +kernel
theorem dX9_leastOf_17 : decode cX9_leastOf 17 = .ok (.invokestatic 40, 3) := by decide +kernel
theorem dX9_leastOf_20 : decode cX9_leastOf 20 = .ok (.istore 5, 2) := by decide +kernel
theorem dX9_leastOf_22 : decode cX9_leastOf 22 = .ok (.iconst 0, 1) := by decide +kernel
theorem dX9_leastOf_23 : decode cX9_leastOf 23 = .ok (.istore 6, 2) := by decide +kernel
theorem dX9_leastOf_25 : decode cX9_leastOf 25 = .ok (.iconst 0, 1) := by decide +kernel
theorem dX9_leastOf_26 : decode cX9_leastOf 26 = .ok (.istore 7, 2) := by decide +kernel
theorem dX9_leastOf_28 : decode cX9_leastOf 28 = .ok (.bipush 9, 2) := by decide +kernel
theorem dX9_leastOf_30 : decode cX9_leastOf 30 = .ok (.istore 8, 2) := by decide +kernel
theorem dX9_leastOf_32 : decode cX9_leastOf 32 = .ok (.iconst 0, 1) := by decide +kernel
theorem dX9_leastOf_33 : decode cX9_leastOf 33 = .ok (.istore 9, 2) := by decide +kernel
theorem dX9_leastOf_35 : decode cX9_leastOf 35 = .ok (.iload 9, 2) := by decide +kernel
theorem dX9_leastOf_37 : decode cX9_leastOf 37 = .ok (.iload 4, 2) := by decide +kernel
theorem dX9_leastOf_39 : decode cX9_leastOf 39 = .ok (.iload_n 3, 1) := by decide +kernel
theorem dX9_leastOf_40 : decode cX9_leastOf 40 = .ok (.iadd, 1) := by decide +kernel
theorem dX9_leastOf_41 : decode cX9_leastOf 41 = .ok (.if_icmp .ge 87, 3) := by decide +kernel
theorem dX9_leastOf_44 : decode cX9_leastOf 44 = .ok (.iload_n 2, 1) := by decide +kernel
theorem dX9_leastOf_45 : decode cX9_leastOf 45 = .ok (.iload 9, 2) := by decide +kernel
theorem dX9_leastOf_47 : decode cX9_leastOf 47 = .ok (.iload_n 1, 1) := by decide +kernel
theorem dX9_leastOf_48 : decode cX9_leastOf 48 = .ok (.irem, 1) := by decide +kernel
theorem dX9_leastOf_49 : decode cX9_leastOf 49 = .ok (.ishr, 1) := by decide +kernel
theorem dX9_leastOf_50 : decode cX9_leastOf 50 = .ok (.iconst 1, 1) := by decide +kernel
theorem dX9_leastOf_51 : decode cX9_leastOf 51 = .ok (.iand, 1) := by decide +kernel
theorem dX9_leastOf_52 : decode cX9_leastOf 52 = .ok (.ifCond .ne 26, 3) := by decide +kernel
theorem dX9_leastOf_55 : decode cX9_leastOf 55 = .ok (.iload 6, 2) := by decide +kernel
theorem dX9_leastOf_57 : decode cX9_leastOf 57 = .ok (.aload_n 0, 1) := by decide +kernel
theorem dX9_leastOf_58 : decode cX9_leastOf 58 = .ok (.getfield 7, 3) := by decide +kernel
theorem dX9_leastOf_61 : decode cX9_leastOf 61 = .ok (.bipush 29, 2) := by decide +kernel
theorem dX9_leastOf_63 : decode cX9_leastOf 63 = .ok (.iaload, 1) := by decide +kernel
theorem dX9_leastOf_64 : decode cX9_leastOf 64 = .ok (.if_icmp .ge 14, 3) := by decide +kernel
theorem dX9_leastOf_67 : decode cX9_leastOf 67 = .ok (.iload 5, 2) := by decide +kernel
theorem dX9_leastOf_69 : decode cX9_leastOf 69 = .ok (.ifCond .le 9, 3) := by decide +kernel
theorem dX9_leastOf_72 : decode cX9_leastOf 72 = .ok (.iinc 6 1, 3) := by decide +kernel
theorem dX9_leastOf_75 : decode cX9_leastOf 75 = .ok (.iinc 5 (-1), 3) := by decide +kernel
theorem dX9_leastOf_78 : decode cX9_leastOf 78 = .ok (.iload 9, 2) := by decide +kernel
theorem dX9_leastOf_80 : decode cX9_leastOf 80 = .ok (.iload 4, 2) := by decide +kernel
theorem dX9_leastOf_82 : decode cX9_leastOf 82 = .ok (.if_icmp .ge 6, 3) := by decide +kernel
theorem dX9_leastOf_85 : decode cX9_leastOf 85 = .ok (.goto 37, 3) := by decide +kernel
theorem dX9_leastOf_88 : decode cX9_leastOf 88 = .ok (.iload 7, 2) := by decide +kernel
theorem dX9_leastOf_90 : decode cX9_leastOf 90 = .ok (.ifCond .ne 29, 3) := by decide +kernel
theorem dX9_leastOf_93 : decode cX9_leastOf 93 = .ok (.iload 6, 2) := by decide +kernel
theorem dX9_leastOf_95 : decode cX9_leastOf 95 = .ok (.iload 8, 2) := by decide +kernel
theorem dX9_leastOf_97 : decode cX9_leastOf 97 = .ok (.if_icmp .ge 7, 3) := by decide +kernel
theorem dX9_leastOf_100 : decode cX9_leastOf 100 = .ok (.iload 6, 2) := by decide +kernel
theorem dX9_leastOf_102 : decode cX9_leastOf 102 = .ok (.istore 8, 2) := by decide +kernel
theorem dX9_leastOf_104 : decode cX9_leastOf 104 = .ok (.iload 6, 2) := by decide +kernel
theorem dX9_leastOf_106 : decode cX9_leastOf 106 = .ok (.ifCond .ne 6, 3) := by decide +kernel
theorem dX9_leastOf_109 : decode cX9_leastOf 109 = .ok (.goto 13, 3) := by decide +kernel
theorem dX9_leastOf_112 : decode cX9_leastOf 112 = .ok (.iinc 6 (-1), 3) := by decide +kernel
theorem dX9_leastOf_115 : decode cX9_leastOf 115 = .ok (.bipush 8, 2) := by decide +kernel
theorem dX9_leastOf_117 : decode cX9_leastOf 117 = .ok (.istore 7, 2) := by decide +kernel
theorem dX9_leastOf_119 : decode cX9_leastOf 119 = .ok (.iinc 7 (-1), 3) := by decide +kernel
theorem dX9_leastOf_122 : decode cX9_leastOf 122 = .ok (.iinc 9 1, 3) := by decide +kernel
theorem dX9_leastOf_125 : decode cX9_leastOf 125 = .ok (.goto (-90), 3) := by decide +kernel
theorem dX9_leastOf_128 : decode cX9_leastOf 128 = .ok (.iload 8, 2) := by decide +kernel
theorem dX9_leastOf_130 : decode cX9_leastOf 130 = .ok (.ireturn, 1) := by decide +kernel
theorem dX9_bitsOf_0 : decode cX9_bitsOf 0 = .ok (.iconst 0, 1) := by decide +kernel
theorem dX9_bitsOf_1 : decode cX9_bitsOf 1 = .ok (.istore_n 1, 1) := by decide +kernel
theorem dX9_bitsOf_2 : decode cX9_bitsOf 2 = .ok (.iconst 0, 1) := by decide +kernel
theorem dX9_bitsOf_3 : decode cX9_bitsOf 3 = .ok (.istore_n 2, 1) := by decide +kernel
theorem dX9_bitsOf_4 : decode cX9_bitsOf 4 = .ok (.iload_n 2, 1) := by decide +kernel
theorem dX9_bitsOf_5 : decode cX9_bitsOf 5 = .ok (.bipush 10, 2) := by decide +kernel
theorem dX9_bitsOf_7 : decode cX9_bitsOf 7 = .ok (.if_icmp .ge 17, 3) := by decide +kernel
theorem dX9_bitsOf_10 : decode cX9_bitsOf 10 = .ok (.iload_n 1, 1) := by decide +kernel
theorem dX9_bitsOf_11 : decode cX9_bitsOf 11 = .ok (.iload_n 0, 1) := by decide +kernel
theorem dX9_bitsOf_12 : decode cX9_bitsOf 12 = .ok (.iload_n 2, 1) := by decide +kernel
theorem dX9_bitsOf_13 : decode cX9_bitsOf 13 = .ok (.ishr, 1) := by decide +kernel
theorem dX9_bitsOf_14 : decode cX9_bitsOf 14 = .ok (.iconst 1, 1) := by decide +kernel
theorem dX9_bitsOf_15 : decode cX9_bitsOf 15 = .ok (.iand, 1) := by decide +kernel
theorem dX9_bitsOf_16 : decode cX9_bitsOf 16 = .ok (.iadd, 1) := by decide +kernel
theorem dX9_bitsOf_17 : decode cX9_bitsOf 17 = .ok (.istore_n 1, 1) := by decide +kernel
theorem dX9_bitsOf_18 : decode cX9_bitsOf 18 = .ok (.iinc 2 1, 3) := by decide +kernel
theorem dX9_bitsOf_21 : decode cX9_bitsOf 21 = .ok (.goto (-17), 3) := by decide +kernel
theorem dX9_bitsOf_24 : decode cX9_bitsOf 24 = .ok (.iload_n 1, 1) := by decide +kernel
theorem dX9_bitsOf_25 : decode cX9_bitsOf 25 = .ok (.ireturn, 1) := by decide +kernel
set_option maxRecDepth 20000 in
theorem ggX9_least_X9_isIn : GoodIn wsX9_least wsX9_isIn := goodIn_r _ [4] (by decide +kernel) (by decide +kernel)
set_option maxRecDepth 20000 in
theorem gX9_least_X9_isIn : GoodIn wsX9_least (va_wsS RX9 17 yX9_isIn wsX9_isIn) := goodIn_app (goodIn_of _ (by decide +kernel)) ggX9_least_X9_isIn
set_option maxRecDepth 20000 in
theorem ggX9_least_X9_bitsOf : GoodIn wsX9_least wsX9_bitsOf := goodIn_r _ [7] (by decide +kernel) (by decide +kernel)
set_option maxRecDepth 20000 in
theorem gX9_least_X9_bitsOf : GoodIn wsX9_least (va_wsS RX9 75 yX9_bitsOf wsX9_bitsOf) := goodIn_app (goodIn_of _ (by decide +kernel)) ggX9_least_X9_bitsOf
set_option maxRecDepth 20000 in
theorem ggX9_least_X9_leastOf : GoodIn wsX9_least wsX9_leastOf := goodIn_r _ [11, 12, 13, 14, 15, 3, 16, 17, 18, 19, 20, 21] (by decide +kernel) (by decide +kernel)
set_option maxRecDepth 20000 in
theorem gX9_least_X9_leastOf : GoodIn wsX9_least (wsV RX9 78 RX9 yX9_leastOf wsX9_leastOf) := goodIn_app (goodIn_of _ (by decide +kernel)) ggX9_least_X9_leastOf
theorem dX9_least_0 : decode cX9_least 0 = .ok (.iload_n 1, 1) := by decide +kernel
theorem dX9_least_1 : decode cX9_least 1 = .ok (.iconst 1, 1) := by decide +kernel
theorem dX9_least_2 : decode cX9_least 2 = .ok (.bipush 10, 2) := by decide +kernel
theorem dX9_least_4 : decode cX9_least 4 = .ok (.invokestatic 17, 3) := by decide +kernel
theorem dX9_least_7 : decode cX9_least 7 = .ok (.ifCond .eq 12, 3) := by decide +kernel
theorem dX9_least_10 : decode cX9_least 10 = .ok (.iload_n 2, 1) := by decide +kernel
theorem dX9_least_11 : decode cX9_least 11 = .ok (.iconst 0, 1) := by decide +kernel
theorem dX9_least_12 : decode cX9_least 12 = .ok (.iload_n 1, 1) := by decide +kernel
theorem dX9_least_13 : decode cX9_least 13 = .ok (.invokestatic 17, 3) := by decide +kernel
theorem dX9_least_16 : decode cX9_least 16 = .ok (.ifCond .ne 5, 3) := by decide +kernel
theorem dX9_least_19 : decode cX9_least 19 = .ok (.iconst (-1), 1) := by decide +kernel
theorem dX9_least_20 : decode cX9_least 20 = .ok (.ireturn, 1) := by decide +kernel
theorem dX9_least_21 : decode cX9_least 21 = .ok (.bipush 9, 2) := by decide +kernel
theorem dX9_least_23 : decode cX9_least 23 = .ok (.istore_n 3, 1) := by decide +kernel
theorem dX9_least_24 : decode cX9_least 24 = .ok (.iconst 0, 1) := by decide +kernel
theorem dX9_least_25 : decode cX9_least 25 = .ok (.istore 4, 2) := by decide +kernel
theorem dX9_least_27 : decode cX9_least 27 = .ok (.iload 4, 2) := by decide +kernel
theorem dX9_least_29 : decode cX9_least 29 = .ok (.iconst 1, 1) := by decide +kernel
theorem dX9_least_30 : decode cX9_least 30 = .ok (.iload_n 1, 1) := by decide +kernel
theorem dX9_least_31 : decode cX9_least 31 = .ok (.ishl, 1) := by decide +kernel
theorem dX9_least_32 : decode cX9_least 32 = .ok (.if_icmp .ge 41, 3) := by decide +kernel
theorem dX9_least_35 : decode cX9_least 35 = .ok (.iload 4, 2) := by decide +kernel
theorem dX9_least_37 : decode cX9_least 37 = .ok (.invokestatic 75, 3) := by decide +kernel
theorem dX9_least_40 : decode cX9_least 40 = .ok (.iload_n 2, 1) := by decide +kernel
theorem dX9_least_41 : decode cX9_least 41 = .ok (.if_icmp .gt 13, 3) := by decide +kernel
theorem dX9_least_44 : decode cX9_least 44 = .ok (.aload_n 0, 1) := by decide +kernel
theorem dX9_least_45 : decode cX9_least 45 = .ok (.iload_n 1, 1) := by decide +kernel
theorem dX9_least_46 : decode cX9_least 46 = .ok (.iload 4, 2) := by decide +kernel
theorem dX9_least_48 : decode cX9_least 48 = .ok (.invokevirtual 78, 3) := by decide +kernel
theorem dX9_least_51 : decode cX9_least 51 = .ok (.goto 5, 3) := by decide +kernel
theorem dX9_least_54 : decode cX9_least 54 = .ok (.bipush 9, 2) := by decide +kernel
theorem dX9_least_56 : decode cX9_least 56 = .ok (.istore 5, 2) := by decide +kernel
theorem dX9_least_58 : decode cX9_least 58 = .ok (.iload 5, 2) := by decide +kernel
theorem dX9_least_60 : decode cX9_least 60 = .ok (.iload_n 3, 1) := by decide +kernel
theorem dX9_least_61 : decode cX9_least 61 = .ok (.if_icmp .ge 6, 3) := by decide +kernel
theorem dX9_least_64 : decode cX9_least 64 = .ok (.iload 5, 2) := by decide +kernel
theorem dX9_least_66 : decode cX9_least 66 = .ok (.istore_n 3, 1) := by decide +kernel
theorem dX9_least_67 : decode cX9_least 67 = .ok (.iinc 4 1, 3) := by decide +kernel
theorem dX9_least_70 : decode cX9_least 70 = .ok (.goto (-43), 3) := by decide +kernel
theorem dX9_least_73 : decode cX9_least 73 = .ok (.iload_n 3, 1) := by decide +kernel
theorem dX9_least_74 : decode cX9_least 74 = .ok (.ireturn, 1) := by decide +kernel
set_option maxRecDepth 20000 in
theorem ggX9_fit_X9_isIn : GoodIn wsX9_fit wsX9_isIn := goodIn_r _ [5] (by decide +kernel) (by decide +kernel)
set_option maxRecDepth 20000 in
theorem gX9_fit_X9_isIn : GoodIn wsX9_fit (va_wsS RX9 17 yX9_isIn wsX9_isIn) := goodIn_app (goodIn_of _ (by decide +kernel)) ggX9_fit_X9_isIn
theorem dX9_fit_0 : decode cX9_fit 0 = .ok (.iload_n 1, 1) := by decide +kernel
theorem dX9_fit_1 : decode cX9_fit 1 = .ok (.iconst 1, 1) := by decide +kernel
theorem dX9_fit_2 : decode cX9_fit 2 = .ok (.ldc 71, 2) := by decide +kernel
theorem dX9_fit_4 : decode cX9_fit 4 = .ok (.invokestatic 17, 3) := by decide +kernel
theorem dX9_fit_7 : decode cX9_fit 7 = .ok (.ifCond .eq 62, 3) := by decide +kernel
theorem dX9_fit_10 : decode cX9_fit 10 = .ok (.iload_n 2, 1) := by decide +kernel
theorem dX9_fit_11 : decode cX9_fit 11 = .ok (.iconst 1, 1) := by decide +kernel
theorem dX9_fit_12 : decode cX9_fit 12 = .ok (.sipush 1000, 3) := by decide +kernel
theorem dX9_fit_15 : decode cX9_fit 15 = .ok (.invokestatic 17, 3) := by decide +kernel
theorem dX9_fit_18 : decode cX9_fit 18 = .ok (.ifCond .eq 51, 3) := by decide +kernel
theorem dX9_fit_21 : decode cX9_fit 21 = .ok (.iload_n 3, 1) := by decide +kernel
theorem dX9_fit_22 : decode cX9_fit 22 = .ok (.iconst 1, 1) := by decide +kernel
theorem dX9_fit_23 : decode cX9_fit 23 = .ok (.sipush 200, 3) := by decide +kernel
theorem dX9_fit_26 : decode cX9_fit 26 = .ok (.invokestatic 17, 3) := by decide +kernel
theorem dX9_fit_29 : decode cX9_fit 29 = .ok (.ifCond .eq 40, 3) := by decide +kernel
theorem dX9_fit_32 : decode cX9_fit 32 = .ok (.iload 4, 2) := by decide +kernel
theorem dX9_fit_34 : decode cX9_fit 34 = .ok (.iload_n 3, 1) := by decide +kernel
theorem dX9_fit_35 : decode cX9_fit 35 = .ok (.sipush 200, 3) := by decide +kernel
theorem dX9_fit_38 : decode cX9_fit 38 = .ok (.invokestatic 17, 3) := by decide +kernel
theorem dX9_fit_41 : decode cX9_fit 41 = .ok (.ifCond .eq 28, 3) := by decide +kernel
theorem dX9_fit_44 : decode cX9_fit 44 = .ok (.iload 5, 2) := by decide +kernel
theorem dX9_fit_46 : decode cX9_fit 46 = .ok (.iconst 1, 1) := by decide +kernel
theorem dX9_fit_47 : decode cX9_fit 47 = .ok (.sipush 200, 3) := by decide +kernel
theorem dX9_fit_50 : decode cX9_fit 50 = .ok (.invokestatic 17, 3) := by decide +kernel
theorem dX9_fit_53 : decode cX9_fit 53 = .ok (.ifCond .eq 16, 3) := by decide +kernel
theorem dX9_fit_56 : decode cX9_fit 56 = .ok (.iload 6, 2) := by decide +kernel
theorem dX9_fit_58 : decode cX9_fit 58 = .ok (.iload 5, 2) := by decide +kernel
theorem dX9_fit_60 : decode cX9_fit 60 = .ok (.sipush 200, 3) := by decide +kernel
theorem dX9_fit_63 : decode cX9_fit 63 = .ok (.invokestatic 17, 3) := by decide +kernel
theorem dX9_fit_66 : decode cX9_fit 66 = .ok (.ifCond .ne 5, 3) := by decide +kernel
theorem dX9_fit_69 : decode cX9_fit 69 = .ok (.iconst (-1), 1) := by decide +kernel
theorem dX9_fit_70 : decode cX9_fit 70 = .ok (.ireturn, 1) := by decide +kernel
theorem dX9_fit_71 : decode cX9_fit 71 = .ok (.iconst (-1), 1) := by decide +kernel
theorem dX9_fit_72 : decode cX9_fit 72 = .ok (.istore 7, 2) := by decide +kernel
theorem dX9_fit_74 : decode cX9_fit 74 = .ok (.lconst 0, 1) := by decide +kernel
theorem dX9_fit_75 : decode cX9_fit 75 = .ok (.lstore 8, 2) := by decide +kernel
theorem dX9_fit_77 : decode cX9_fit 77 = .ok (.lconst 1, 1) := by decide +kernel
theorem dX9_fit_78 : decode cX9_fit 78 = .ok (.lstore 10, 2) := by decide +kernel
theorem dX9_fit_80 : decode cX9_fit 80 = .ok (.iload_n 3, 1) := by decide +kernel
theorem dX9_fit_81 : decode cX9_fit 81 = .ok (.istore 12, 2) := by decide +kernel
theorem dX9_fit_83 : decode cX9_fit 83 = .ok (.iload 12, 2) := by decide +kernel
theorem dX9_fit_85 : decode cX9_fit 85 = .ok (.iload 4, 2) := by decide +kernel
theorem dX9_fit_87 : decode cX9_fit 87 = .ok (.if_icmp .gt 103, 3) := by decide +kernel
theorem dX9_fit_90 : decode cX9_fit 90 = .ok (.iload 5, 2) := by decide +kernel
theorem dX9_fit_92 : decode cX9_fit 92 = .ok (.istore 13, 2) := by decide +kernel
theorem dX9_fit_94 : decode cX9_fit 94 = .ok (.iload 13, 2) := by decide +kernel
theorem dX9_fit_96 : decode cX9_fit 96 = .ok (.iload 6, 2) := by decide +kernel
theorem dX9_fit_98 : decode cX9_fit 98 = .ok (.if_icmp .gt 86, 3) := by decide +kernel
theorem dX9_fit_101 : decode cX9_fit 101 = .ok (.iload_n 1, 1) := by decide +kernel
theorem dX9_fit_102 : decode cX9_fit 102 = .ok (.i2l, 1) := by decide +kernel
theorem dX9_fit_103 : decode cX9_fit 103 = .ok (.iload_n 2, 1) := by decide +kernel
theorem dX9_fit_104 : decode cX9_fit 104 = .ok (.i2l, 1) := by decide +kernel
theorem dX9_fit_105 : decode cX9_fit 105 = .ok (.iload 12, 2) := by decide +kernel
theorem dX9_fit_107 : decode cX9_fit 107 = .ok (.i2l, 1) := by decide +kernel
theorem dX9_fit_108 : decode cX9_fit 108 = .ok (.lmul, 1) := by decide +kernel
theorem dX9_fit_109 : decode cX9_fit 109 = .ok (.iload 13, 2) := by decide +kernel
theorem dX9_fit_111 : decode cX9_fit 111 = .ok (.i2l, 1) := by decide +kernel
theorem dX9_fit_112 : decode cX9_fit 112 = .ok (.lmul, 1) := by decide +kernel
theorem dX9_fit_113 : decode cX9_fit 113 = .ok (.lsub, 1) := by decide +kernel
theorem dX9_fit_114 : decode cX9_fit 114 = .ok (.lstore 14, 2) := by decide +kernel
theorem dX9_fit_116 : decode cX9_fit 116 = .ok (.lload 14, 2) := by decide +kernel
theorem dX9_fit_118 : decode cX9_fit 118 = .ok (.lconst 0, 1) := by decide +kernel
theorem dX9_fit_119 : decode cX9_fit 119 = .ok (.lcmp, 1) := by decide +kernel
theorem dX9_fit_120 : decode cX9_fit 120 = .ok (.ifCond .ge 8, 3) := by decide +kernel
theorem dX9_fit_123 : decode cX9_fit 123 = .ok (.lload 14, 2) := by decide +kernel
theorem dX9_fit_125 : decode cX9_fit 125 = .ok (.lneg, 1) := by decide +kernel
theorem dX9_fit_126 : decode cX9_fit 126 = .ok (.lstore 14, 2) := by decide +kernel
theorem dX9_fit_128 : decode cX9_fit 128 = .ok (.iload 7, 2) := by decide +kernel
theorem dX9_fit_130 : decode cX9_fit 130 = .ok (.ifCond .lt 25, 3) := by decide +kernel
theorem dX9_fit_133 : decode cX9_fit 133 = .ok (.lload 14, 2) := by decide +kernel
theorem dX9_fit_135 : decode cX9_fit 135 = .ok (.lload 10, 2) := by decide +kernel
theorem dX9_fit_137 : decode cX9_fit 137 = .ok (.lmul, 1) := by decide +kernel
theorem dX9_fit_138 : decode cX9_fit 138 = .ok (.lload 8, 2) := by decide +kernel
theorem dX9_fit_140 : decode cX9_fit 140 = .ok (.iload 12, 2) := by decide +kernel
theorem dX9_fit_142 : decode cX9_fit 142 = .ok (.i2l, 1) := by decide +kernel
theorem dX9_fit_143 : decode cX9_fit 143 = .ok (.lmul, 1) := by decide +kernel
theorem dX9_fit_144 : decode cX9_fit 144 = .ok (.iload 13, 2) := by decide +kernel
theorem dX9_fit_146 : decode cX9_fit 146 = .ok (.i2l, 1) := by decide +kernel
theorem dX9_fit_147 : decode cX9_fit 147 = .ok (.lmul, 1) := by decide +kernel
theorem dX9_fit_148 : decode cX9_fit 148 = .ok (.lcmp, 1) := by decide +kernel
theorem dX9_fit_149 : decode cX9_fit 149 = .ok (.ifCond .lt 6, 3) := by decide +kernel
theorem dX9_fit_152 : decode cX9_fit 152 = .ok (.goto 26, 3) := by decide +kernel
theorem dX9_fit_155 : decode cX9_fit 155 = .ok (.sipush 1000, 3) := by decide +kernel
theorem dX9_fit_158 : decode cX9_fit 158 = .ok (.iload 12, 2) := by decide +kernel
theorem dX9_fit_160 : decode cX9_fit 160 = .ok (.imul, 1) := by decide +kernel
theorem dX9_fit_161 : decode cX9_fit 161 = .ok (.iload 13, 2) := by decide +kernel
theorem dX9_fit_163 : decode cX9_fit 163 = .ok (.iadd, 1) := by decide +kernel
theorem dX9_fit_164 : decode cX9_fit 164 = .ok (.istore 7, 2) := by decide +kernel
theorem dX9_fit_166 : decode cX9_fit 166 = .ok (.lload 14, 2) := by decide +kernel
theorem dX9_fit_168 : decode cX9_fit 168 = .ok (.lstore 8, 2) := by decide +kernel
theorem dX9_fit_170 : decode cX9_fit 170 = .ok (.iload 12, 2) := by decide +kernel
theorem dX9_fit_172 : decode cX9_fit 172 = .ok (.iload 13, 2) := by decide +kernel
theorem dX9_fit_174 : decode cX9_fit 174 = .ok (.imul, 1) := by decide +kernel
theorem dX9_fit_175 : decode cX9_fit 175 = .ok (.i2l, 1) := by decide +kernel
theorem dX9_fit_176 : decode cX9_fit 176 = .ok (.lstore 10, 2) := by decide +kernel
theorem dX9_fit_178 : decode cX9_fit 178 = .ok (.iinc 13 1, 3) := by decide +kernel
theorem dX9_fit_181 : decode cX9_fit 181 = .ok (.goto (-87), 3) := by decide +kernel
theorem dX9_fit_184 : decode cX9_fit 184 = .ok (.iinc 12 1, 3) := by decide +kernel
theorem dX9_fit_187 : decode cX9_fit 187 = .ok (.goto (-104), 3) := by decide +kernel
theorem dX9_fit_190 : decode cX9_fit 190 = .ok (.iload 7, 2) := by decide +kernel
theorem dX9_fit_192 : decode cX9_fit 192 = .ok (.ireturn, 1) := by decide +kernel
