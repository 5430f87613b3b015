set_option maxRecDepth 20000 in
theorem ggX0_init_X4_init : GoodIn wsX0_init wsX4_init := goodIn_r _ [16, 17, 2, 3, 18, 19, 20, 21, 22, 23, 24, 25, 26, 27, 28, 29, 30, 45, 46, 47, 48, 35, 36, 37] (by decide +kernel) (by decide +kernel)
set_option maxRecDepth 20000 in
theorem gX0_init_X4_init_n11 : GoodIn wsX0_init (wsX4_init) := ggX0_init_X4_init
set_option maxRecDepth 20000 in
theorem ggX0_init_X6_whole : GoodIn wsX0_init wsX6_whole := goodIn_r _ [34, 27, 28, 29, 30, 45, 46, 47, 48] (by decide +kernel) (by decide +kernel)
set_option maxRecDepth 20000 in
theorem gX0_init_X6_whole : GoodIn wsX0_init (wsV RX0 40 RX6 yX6_whole wsX6_whole) := goodIn_app (goodIn_of _ (by decide +kernel)) ggX0_init_X6_whole
theorem dX0_init_0 : decode cX0_init 0 = .ok (.aload_n 0, 1) := by decide +kernel
theorem dX0_init_1 : decode cX0_init 1 = .ok (.invokespecial 3, 3) := by decide +kernel
theorem dX0_init_4 : decode cX0_init 4 = .ok (.aload_n 0, 1) := by decide +kernel
theorem dX0_init_5 : decode cX0_init 5 = .ok (.new 9, 3) := by decide +kernel
theorem dX0_init_8 : decode cX0_init 8 = .ok (.dup, 1) := by decide +kernel
theorem dX0_init_9 : decode cX0_init 9 = .ok (.invokespecial 11, 3) := by decide +kernel
theorem dX0_init_12 : decode cX0_init 12 = .ok (.putfield 12, 3) := by decide +kernel
theorem dX0_init_15 : decode cX0_init 15 = .ok (.aload_n 0, 1) := by decide +kernel
theorem dX0_init_16 : decode cX0_init 16 = .ok (.new 9, 3) := by decide +kernel
theorem dX0_init_19 : decode cX0_init 19 = .ok (.dup, 1) := by decide +kernel
theorem dX0_init_20 : decode cX0_init 20 = .ok (.invokespecial 11, 3) := by decide +kernel
theorem dX0_init_23 : decode cX0_init 23 = .ok (.putfield 18, 3) := by decide +kernel
theorem dX0_init_26 : decode cX0_init 26 = .ok (.aload_n 0, 1) := by decide +kernel
theorem dX0_init_27 : decode cX0_init 27 = .ok (.new 9, 3) := by decide +kernel
theorem dX0_init_30 : decode cX0_init 30 = .ok (.dup, 1) := by decide +kernel
theorem dX0_init_31 : decode cX0_init 31 = .ok (.invokespecial 11, 3) := by decide +kernel
theorem dX0_init_34 : decode cX0_init 34 = .ok (.putfield 21, 3) := by decide +kernel
theorem dX0_init_37 : decode cX0_init 37 = .ok (.aload_n 0, 1) := by decide +kernel
theorem dX0_init_38 : decode cX0_init 38 = .ok (.aload_n 0, 1) := by decide +kernel
theorem dX0_init_39 : decode cX0_init 39 = .ok (.getfield 12, 3) := by decide +kernel
theorem dX0_init_42 : decode cX0_init 42 = .ok (.getfield 24, 3) := by decide +kernel
theorem dX0_init_45 : decode cX0_init 45 = .ok (.getfield 28, 3) := by decide +kernel
theorem dX0_init_48 : decode cX0_init 48 = .ok (.putfield 34, 3) := by decide +kernel
theorem dX0_init_51 : decode cX0_init 51 = .ok (.aload_n 0, 1) := by decide +kernel
theorem dX0_init_52 : decode cX0_init 52 = .ok (.aload_n 0, 1) := by decide +kernel
theorem dX0_init_53 : decode cX0_init 53 = .ok (.getfield 12, 3) := by decide +kernel
theorem dX0_init_56 : decode cX0_init 56 = .ok (.getfield 37, 3) := by decide +kernel
theorem dX0_init_59 : decode cX0_init 59 = .ok (.invokevirtual 40, 3) := by decide +kernel
theorem dX0_init_62 : decode cX0_init 62 = .ok (.iconst 1, 1) := by decide +kernel
theorem dX0_init_63 : decode cX0_init 63 = .ok (.isub, 1) := by decide +kernel
theorem dX0_init_64 : decode cX0_init 64 = .ok (.putfield 44, 3) := by decide +kernel
theorem dX0_init_67 : decode cX0_init 67 = .ok (.return_, 1) := by decide +kernel
theorem dX0_isBehindSeen_0 : decode cX0_isBehindSeen 0 = .ok (.aload_n 0, 1) := by decide +kernel
theorem dX0_isBehindSeen_1 : decode cX0_isBehindSeen 1 = .ok (.getfield 34, 3) := by decide +kernel
theorem dX0_isBehindSeen_4 : decode cX0_isBehindSeen 4 = .ok (.aload_n 0, 1) := by decide +kernel
theorem dX0_isBehindSeen_5 : decode cX0_isBehindSeen 5 = .ok (.getfield 12, 3) := by decide +kernel
theorem dX0_isBehindSeen_8 : decode cX0_isBehindSeen 8 = .ok (.getfield 24, 3) := by decide +kernel
theorem dX0_isBehindSeen_11 : decode cX0_isBehindSeen 11 = .ok (.getfield 28, 3) := by decide +kernel
theorem dX0_isBehindSeen_14 : decode cX0_isBehindSeen 14 = .ok (.if_icmp .ne 7, 3) := by decide +kernel
theorem dX0_isBehindSeen_17 : decode cX0_isBehindSeen 17 = .ok (.iconst 1, 1) := by decide +kernel
theorem dX0_isBehindSeen_18 : decode cX0_isBehindSeen 18 = .ok (.goto 4, 3) := by decide +kernel
theorem dX0_isBehindSeen_21 : decode cX0_isBehindSeen 21 = .ok (.iconst 0, 1) := by decide +kernel
theorem dX0_isBehindSeen_22 : decode cX0_isBehindSeen 22 = .ok (.ireturn, 1) := by decide +kernel
set_option maxRecDepth 20000 in
theorem ggX0_isOnLastLine_X6_whole : GoodIn wsX0_isOnLastLine wsX6_whole := goodIn_r _ [8, 9, 10, 11, 12, 23, 24, 25, 26] (by decide +kernel) (by decide +kernel)
set_option maxRecDepth 20000 in
theorem gX0_isOnLastLine_X6_whole : GoodIn wsX0_isOnLastLine (wsV RX0 40 RX6 yX6_whole wsX6_whole) := goodIn_app (goodIn_of _ (by decide +kernel)) ggX0_isOnLastLine_X6_whole
theorem dX0_isOnLastLine_0 : decode cX0_isOnLastLine 0 = .ok (.aload_n 0, 1) := by decide +kernel
theorem dX0_isOnLastLine_1 : decode cX0_isOnLastLine 1 = .ok (.getfield 44, 3) := by decide +kernel
theorem dX0_isOnLastLine_4 : decode cX0_isOnLastLine 4 = .ok (.aload_n 0, 1) := by decide +kernel
theorem dX0_isOnLastLine_5 : decode cX0_isOnLastLine 5 = .ok (.getfield 12, 3) := by decide +kernel
theorem dX0_isOnLastLine_8 : decode cX0_isOnLastLine 8 = .ok (.getfield 37, 3) := by decide +kernel
theorem dX0_isOnLastLine_11 : decode cX0_isOnLastLine 11 = .ok (.invokevirtual 40, 3) := by decide +kernel
theorem dX0_isOnLastLine_14 : decode cX0_isOnLastLine 14 = .ok (.iconst 1, 1) := by decide +kernel
theorem dX0_isOnLastLine_15 : decode cX0_isOnLastLine 15 = .ok (.isub, 1) := by decide +kernel
theorem dX0_isOnLastLine_16 : decode cX0_isOnLastLine 16 = .ok (.if_icmp .ne 7, 3) := by decide +kernel
theorem dX0_isOnLastLine_19 : decode cX0_isOnLastLine 19 = .ok (.iconst 1, 1) := by decide +kernel
theorem dX0_isOnLastLine_20 : decode cX0_isOnLastLine 20 = .ok (.goto 4, 3) := by decide +kernel
theorem dX0_isOnLastLine_23 : decode cX0_isOnLastLine 23 = .ok (.iconst 0, 1) := by decide +kernel
theorem dX0_isOnLastLine_24 : decode cX0_isOnLastLine 24 = .ok (.ireturn, 1) := by decide +kernel
set_option maxRecDepth 20000 in
theorem ggX0_isOnDot_X6_isSeen : GoodIn wsX0_isOnDot wsX6_isSeen := goodIn_r _ [10, 11, 22, 23, 24, 25] (by decide +kernel) (by decide +kernel)
set_option maxRecDepth 20000 in
theorem gX0_isOnDot_X6_isSeen : GoodIn wsX0_isOnDot (wsV RX0 47 RX6 yX6_isSeen wsX6_isSeen) := goodIn_app (goodIn_of _ (by decide +kernel)) ggX0_isOnDot_X6_isSeen
theorem dX0_isOnDot_0 : decode cX0_isOnDot 0 = .ok (.aload_n 0, 1) := by decide +kernel
theorem dX0_isOnDot_1 : decode cX0_isOnDot 1 = .ok (.getfield 12, 3) := by decide +kernel
theorem dX0_isOnDot_4 : decode cX0_isOnDot 4 = .ok (.getfield 24, 3) := by decide +kernel
theorem dX0_isOnDot_7 : decode cX0_isOnDot 7 = .ok (.aload_n 0, 1) := by decide +kernel
theorem dX0_isOnDot_8 : decode cX0_isOnDot 8 = .ok (.getfield 34, 3) := by decide +kernel
theorem dX0_isOnDot_11 : decode cX0_isOnDot 11 = .ok (.invokevirtual 47, 3) := by decide +kernel
theorem dX0_isOnDot_14 : decode cX0_isOnDot 14 = .ok (.ifCond .eq 24, 3) := by decide +kernel
theorem dX0_isOnDot_17 : decode cX0_isOnDot 17 = .ok (.aload_n 0, 1) := by decide +kernel
theorem dX0_isOnDot_18 : decode cX0_isOnDot 18 = .ok (.getfield 12, 3) := by decide +kernel
theorem dX0_isOnDot_21 : decode cX0_isOnDot 21 = .ok (.getfield 37, 3) := by decide +kernel
theorem dX0_isOnDot_24 : decode cX0_isOnDot 24 = .ok (.aload_n 0, 1) := by decide +kernel
theorem dX0_isOnDot_25 : decode cX0_isOnDot 25 = .ok (.getfield 44, 3) := by decide +kernel
theorem dX0_isOnDot_28 : decode cX0_isOnDot 28 = .ok (.invokevirtual 47, 3) := by decide +kernel
theorem dX0_isOnDot_31 : decode cX0_isOnDot 31 = .ok (.ifCond .eq 7, 3) := by decide +kernel
theorem dX0_isOnDot_34 : decode cX0_isOnDot 34 = .ok (.iconst 1, 1) := by decide +kernel
theorem dX0_isOnDot_35 : decode cX0_isOnDot 35 = .ok (.goto 4, 3) := by decide +kernel
theorem dX0_isOnDot_38 : decode cX0_isOnDot 38 = .ok (.iconst 0, 1) := by decide +kernel
theorem dX0_isOnDot_39 : decode cX0_isOnDot 39 = .ok (.ireturn, 1) := by decide +kernel
set_option maxRecDepth 20000 in
theorem ggX0_rowHere_X4_rowOf : GoodIn wsX0_rowHere wsX4_rowOf := goodIn_r _ [8, 9, 17, 18, 19] (by decide +kernel) (by decide +kernel)
set_option maxRecDepth 20000 in
theorem gX0_rowHere_X4_rowOf : GoodIn wsX0_rowHere (wsV RX0 54 RX4 yX4_rowOf wsX4_rowOf) := goodIn_app (goodIn_of _ (by decide +kernel)) ggX0_rowHere_X4_rowOf
theorem dX0_rowHere_0 : decode cX0_rowHere 0 = .ok (.aload_n 0, 1) := by decide +kernel
theorem dX0_rowHere_1 : decode cX0_rowHere 1 = .ok (.getfield 12, 3) := by decide +kernel
theorem dX0_rowHere_4 : decode cX0_rowHere 4 = .ok (.aload_n 0, 1) := by decide +kernel
theorem dX0_rowHere_5 : decode cX0_rowHere 5 = .ok (.getfield 44, 3) := by decide +kernel
theorem dX0_rowHere_8 : decode cX0_rowHere 8 = .ok (.aload_n 0, 1) := by decide +kernel
theorem dX0_rowHere_9 : decode cX0_rowHere 9 = .ok (.getfield 51, 3) := by decide +kernel
theorem dX0_rowHere_12 : decode cX0_rowHere 12 = .ok (.invokevirtual 54, 3) := by decide +kernel
theorem dX0_rowHere_15 : decode cX0_rowHere 15 = .ok (.ireturn, 1) := by decide +kernel
set_option maxRecDepth 20000 in
theorem ggX0_signalsHere_X6_isSync : GoodIn wsX0_signalsHere wsX6_isSync := goodIn_r _ [10, 11, 12, 13, 33, 34, 35, 36] (by decide +kernel) (by decide +kernel)
set_option maxRecDepth 20000 in
theorem gX0_signalsHere_X6_isSync : GoodIn wsX0_signalsHere (wsV RX0 58 RX6 yX6_isSync wsX6_isSync) := goodIn_app (goodIn_of _ (by decide +kernel)) ggX0_signalsHere_X6_isSync
set_option maxRecDepth 20000 in
theorem ggX0_signalsHere_X0_isOnDot : GoodIn wsX0_signalsHere wsX0_isOnDot := goodIn_r _ [18, 1, 2, 3, 4, 5, 19, 20, 21, 9, 22, 11, 23, 24, 25, 26, 27, 28, 29, 30, 31, 32, 33, 34, 35, 36] (by decide +kernel) (by decide +kernel)
set_option maxRecDepth 20000 in
theorem gX0_signalsHere_X0_isOnDot : GoodIn wsX0_signalsHere (wsV RX0 61 RX0 yX0_isOnDot wsX0_isOnDot) := goodIn_app (goodIn_of _ (by decide +kernel)) ggX0_signalsHere_X0_isOnDot
theorem dX0_signalsHere_0 : decode cX0_signalsHere 0 = .ok (.aload_n 0, 1) := by decide +kernel
theorem dX0_signalsHere_1 : decode cX0_signalsHere 1 = .ok (.getfield 12, 3) := by decide +kernel
theorem dX0_signalsHere_4 : decode cX0_signalsHere 4 = .ok (.getfield 24, 3) := by decide +kernel
theorem dX0_signalsHere_7 : decode cX0_signalsHere 7 = .ok (.aload_n 0, 1) := by decide +kernel
theorem dX0_signalsHere_8 : decode cX0_signalsHere 8 = .ok (.getfield 34, 3) := by decide +kernel
theorem dX0_signalsHere_11 : decode cX0_signalsHere 11 = .ok (.invokevirtual 58, 3) := by decide +kernel
theorem dX0_signalsHere_14 : decode cX0_signalsHere 14 = .ok (.ifCond .eq 7, 3) := by decide +kernel
theorem dX0_signalsHere_17 : decode cX0_signalsHere 17 = .ok (.iconst 1, 1) := by decide +kernel
theorem dX0_signalsHere_18 : decode cX0_signalsHere 18 = .ok (.goto 4, 3) := by decide +kernel
theorem dX0_signalsHere_21 : decode cX0_signalsHere 21 = .ok (.iconst 0, 1) := by decide +kernel
theorem dX0_signalsHere_22 : decode cX0_signalsHere 22 = .ok (.aload_n 0, 1) := by decide +kernel
theorem dX0_signalsHere_23 : decode cX0_signalsHere 23 = .ok (.getfield 12, 3) := by decide +kernel
theorem dX0_signalsHere_26 : decode cX0_signalsHere 26 = .ok (.getfield 37, 3) := by decide +kernel
theorem dX0_signalsHere_29 : decode cX0_signalsHere 29 = .ok (.aload_n 0, 1) := by decide +kernel
theorem dX0_signalsHere_30 : decode cX0_signalsHere 30 = .ok (.getfield 44, 3) := by decide +kernel
theorem dX0_signalsHere_33 : decode cX0_signalsHere 33 = .ok (.invokevirtual 58, 3) := by decide +kernel
theorem dX0_signalsHere_36 : decode cX0_signalsHere 36 = .ok (.ifCond .eq 7, 3) := by decide +kernel
theorem dX0_signalsHere_39 : decode cX0_signalsHere 39 = .ok (.iconst 2, 1) := by decide +kernel
theorem dX0_signalsHere_40 : decode cX0_signalsHere 40 = .ok (.goto 4, 3) := by decide +kernel
theorem dX0_signalsHere_43 : decode cX0_signalsHere 43 = .ok (.iconst 0, 1) := by decide +kernel
theorem dX0_signalsHere_44 : decode cX0_signalsHere 44 = .ok (.ior, 1) := by decide +kernel
theorem dX0_signalsHere_45 : decode cX0_signalsHere 45 = .ok (.aload_n 0, 1) := by decide +kernel
theorem dX0_signalsHere_46 : decode cX0_signalsHere 46 = .ok (.invokevirtual 61, 3) := by decide +kernel
theorem dX0_signalsHere_49 : decode cX0_signalsHere 49 = .ok (.ifCond .eq 7, 3) := by decide +kernel
theorem dX0_signalsHere_52 : decode cX0_signalsHere 52 = .ok (.iconst 0, 1) := by decide +kernel
theorem dX0_signalsHere_53 : decode cX0_signalsHere 53 = .ok (.goto 4, 3) := by decide +kernel
theorem dX0_signalsHere_56 : decode cX0_signalsHere 56 = .ok (.iconst 4, 1) := by decide +kernel
theorem dX0_signalsHere_57 : decode cX0_signalsHere 57 = .ok (.ior, 1) := by decide +kernel
theorem dX0_signalsHere_58 : decode cX0_signalsHere 58 = .ok (.ireturn, 1) := by decide +kernel
set_option maxRecDepth 20000 in
theorem ggX0_takeUp_X4_copyFrom : GoodIn wsX0_takeUp wsX4_copyFrom := goodIn_r _ [11, 12, 13, 14, 15, 16, 17, 18, 19, 20, 21, 22, 23, 24, 25, 26, 27, 35, 36, 37, 38, 39, 40, 41] (by decide +kernel) (by decide +kernel)
set_option maxRecDepth 20000 in
theorem gX0_takeUp_X4_copyFrom : GoodIn wsX0_takeUp (wsV RX0 65 RX4 yX4_copyFrom wsX4_copyFrom) := goodIn_app (goodIn_of _ (by decide +kernel)) ggX0_takeUp_X4_copyFrom
theorem dX0_takeUp_0 : decode cX0_takeUp 0 = .ok (.aload_n 0, 1) := by decide +kernel
theorem dX0_takeUp_1 : decode cX0_takeUp 1 = .ok (.getfield 18, 3) := by decide +kernel
theorem dX0_takeUp_4 : decode cX0_takeUp 4 = .ok (.aload_n 0, 1) := by decide +kernel
theorem dX0_takeUp_5 : decode cX0_takeUp 5 = .ok (.getfield 21, 3) := by decide +kernel
theorem dX0_takeUp_8 : decode cX0_takeUp 8 = .ok (.invokevirtual 65, 3) := by decide +kernel
theorem dX0_takeUp_11 : decode cX0_takeUp 11 = .ok (.aload_n 0, 1) := by decide +kernel
theorem dX0_takeUp_12 : decode cX0_takeUp 12 = .ok (.aload_n 0, 1) := by decide +kernel
theorem dX0_takeUp_13 : decode cX0_takeUp 13 = .ok (.getfield 12, 3) := by decide +kernel
theorem dX0_takeUp_16 : decode cX0_takeUp 16 = .ok (.getfield 69, 3) := by decide +kernel
theorem dX0_takeUp_19 : decode cX0_takeUp 19 = .ok (.ifCond .eq 22, 3) := by decide +kernel
theorem dX0_takeUp_22 : decode cX0_takeUp 22 = .ok (.aload_n 0, 1) := by decide +kernel
theorem dX0_takeUp_23 : decode cX0_takeUp 23 = .ok (.getfield 18, 3) := by decide +kernel
theorem dX0_takeUp_26 : decode cX0_takeUp 26 = .ok (.getfield 69, 3) := by decide +kernel
theorem dX0_takeUp_29 : decode cX0_takeUp 29 = .ok (.ifCond .eq 12, 3) := by decide +kernel
theorem dX0_takeUp_32 : decode cX0_takeUp 32 = .ok (.iconst 1, 1) := by decide +kernel
theorem dX0_takeUp_33 : decode cX0_takeUp 33 = .ok (.aload_n 0, 1) := by decide +kernel
theorem dX0_takeUp_34 : decode cX0_takeUp 34 = .ok (.getfield 51, 3) := by decide +kernel
theorem dX0_takeUp_37 : decode cX0_takeUp 37 = .ok (.isub, 1) := by decide +kernel
theorem dX0_takeUp_38 : decode cX0_takeUp 38 = .ok (.goto 4, 3) := by decide +kernel
theorem dX0_takeUp_41 : decode cX0_takeUp 41 = .ok (.iconst 0, 1) := by decide +kernel
theorem dX0_takeUp_42 : decode cX0_takeUp 42 = .ok (.putfield 73, 3) := by decide +kernel
theorem dX0_takeUp_45 : decode cX0_takeUp 45 = .ok (.return_, 1) := by decide +kernel
set_option maxRecDepth 20000 in
theorem ggX0_goOn_X6_whole : GoodIn wsX0_goOn wsX6_whole := goodIn_r _ [13, 14, 15, 16, 17, 44, 45, 46, 47] (by decide +kernel) (by decide +kernel)
set_option maxRecDepth 20000 in
theorem gX0_goOn_X6_whole : GoodIn wsX0_goOn (wsV RX0 40 RX6 yX6_whole wsX6_whole) := goodIn_app (goodIn_of _ (by decide +kernel)) ggX0_goOn_X6_whole
set_option maxRecDepth 20000 in
theorem ggX0_goOn_X4_copyFrom : GoodIn wsX0_goOn wsX4_copyFrom := goodIn_r _ [22, 23, 24, 25, 26, 27, 28, 12, 29, 14, 15, 16, 17, 30, 31, 32, 33, 41, 42, 43, 44, 45, 46, 47] (by decide +kernel) (by decide +kernel)
set_option maxRecDepth 20000 in
theorem gX0_goOn_X4_copyFrom : GoodIn wsX0_goOn (wsV RX0 65 RX4 yX4_copyFrom wsX4_copyFrom) := goodIn_app (goodIn_of _ (by decide +kernel)) ggX0_goOn_X4_copyFrom
theorem dX0_goOn_0 : decode cX0_goOn 0 = .ok (.aload_n 0, 1) := by decide +kernel
theorem dX0_goOn_1 : decode cX0_goOn 1 = .ok (.dup, 1) := by decide +kernel
theorem dX0_goOn_2 : decode cX0_goOn 2 = .ok (.getfield 34, 3) := by decide +kernel
theorem dX0_goOn_5 : decode cX0_goOn 5 = .ok (.iconst 1, 1) := by decide +kernel
theorem dX0_goOn_6 : decode cX0_goOn 6 = .ok (.iadd, 1) := by decide +kernel
theorem dX0_goOn_7 : decode cX0_goOn 7 = .ok (.putfield 34, 3) := by decide +kernel
theorem dX0_goOn_10 : decode cX0_goOn 10 = .ok (.aload_n 0, 1) := by decide +kernel
theorem dX0_goOn_11 : decode cX0_goOn 11 = .ok (.getfield 34, 3) := by decide +kernel
theorem dX0_goOn_14 : decode cX0_goOn 14 = .ok (.aload_n 0, 1) := by decide +kernel
theorem dX0_goOn_15 : decode cX0_goOn 15 = .ok (.getfield 12, 3) := by decide +kernel
theorem dX0_goOn_18 : decode cX0_goOn 18 = .ok (.getfield 24, 3) := by decide +kernel
theorem dX0_goOn_21 : decode cX0_goOn 21 = .ok (.invokevirtual 40, 3) := by decide +kernel
theorem dX0_goOn_24 : decode cX0_goOn 24 = .ok (.if_icmp .ge 4, 3) := by decide +kernel
theorem dX0_goOn_27 : decode cX0_goOn 27 = .ok (.return_, 1) := by decide +kernel
theorem dX0_goOn_28 : decode cX0_goOn 28 = .ok (.aload_n 0, 1) := by decide +kernel
theorem dX0_goOn_29 : decode cX0_goOn 29 = .ok (.iconst 0, 1) := by decide +kernel
theorem dX0_goOn_30 : decode cX0_goOn 30 = .ok (.putfield 34, 3) := by decide +kernel
theorem dX0_goOn_33 : decode cX0_goOn 33 = .ok (.aload_n 0, 1) := by decide +kernel
theorem dX0_goOn_34 : decode cX0_goOn 34 = .ok (.dup, 1) := by decide +kernel
theorem dX0_goOn_35 : decode cX0_goOn 35 = .ok (.getfield 44, 3) := by decide +kernel
theorem dX0_goOn_38 : decode cX0_goOn 38 = .ok (.iconst 1, 1) := by decide +kernel
theorem dX0_goOn_39 : decode cX0_goOn 39 = .ok (.iadd, 1) := by decide +kernel
theorem dX0_goOn_40 : decode cX0_goOn 40 = .ok (.putfield 44, 3) := by decide +kernel
theorem dX0_goOn_43 : decode cX0_goOn 43 = .ok (.aload_n 0, 1) := by decide +kernel
theorem dX0_goOn_44 : decode cX0_goOn 44 = .ok (.getfield 44, 3) := by decide +kernel
theorem dX0_goOn_47 : decode cX0_goOn 47 = .ok (.aload_n 0, 1) := by decide +kernel
theorem dX0_goOn_48 : decode cX0_goOn 48 = .ok (.getfield 12, 3) := by decide +kernel
theorem dX0_goOn_51 : decode cX0_goOn 51 = .ok (.getfield 37, 3) := by decide +kernel
theorem dX0_goOn_54 : decode cX0_goOn 54 = .ok (.invokevirtual 40, 3) := by decide +kernel
theorem dX0_goOn_57 : decode cX0_goOn 57 = .ok (.if_icmp .ge 4, 3) := by decide +kernel
theorem dX0_goOn_60 : decode cX0_goOn 60 = .ok (.return_, 1) := by decide +kernel
theorem dX0_goOn_61 : decode cX0_goOn 61 = .ok (.aload_n 0, 1) := by decide +kernel
theorem dX0_goOn_62 : decode cX0_goOn 62 = .ok (.iconst 0, 1) := by decide +kernel
theorem dX0_goOn_63 : decode cX0_goOn 63 = .ok (.putfield 44, 3) := by decide +kernel
theorem dX0_goOn_66 : decode cX0_goOn 66 = .ok (.aload_n 0, 1) := by decide +kernel
theorem dX0_goOn_67 : decode cX0_goOn 67 = .ok (.aload_n 0, 1) := by decide +kernel
theorem dX0_goOn_68 : decode cX0_goOn 68 = .ok (.getfield 73, 3) := by decide +kernel
theorem dX0_goOn_71 : decode cX0_goOn 71 = .ok (.putfield 51, 3) := by decide +kernel
theorem dX0_goOn_74 : decode cX0_goOn 74 = .ok (.aload_n 0, 1) := by decide +kernel
theorem dX0_goOn_75 : decode cX0_goOn 75 = .ok (.getfield 12, 3) := by decide +kernel
theorem dX0_goOn_78 : decode cX0_goOn 78 = .ok (.aload_n 0, 1) := by decide +kernel
theorem dX0_goOn_79 : decode cX0_goOn 79 = .ok (.getfield 18, 3) := by decide +kernel
theorem dX0_goOn_82 : decode cX0_goOn 82 = .ok (.invokevirtual 65, 3) := by decide +kernel
theorem dX0_goOn_85 : decode cX0_goOn 85 = .ok (.return_, 1) := by decide +kernel
set_option maxRecDepth 20000 in
theorem ggX0_copyFrom_X4_copyFrom : GoodIn wsX0_copyFrom wsX4_copyFrom := goodIn_r _ [12, 13, 14, 15, 16, 17, 18, 19, 20, 21, 22, 23, 24, 25, 26, 27, 28, 36, 37, 38, 39, 40, 41, 42] (by decide +kernel) (by decide +kernel)
set_option maxRecDepth 20000 in
theorem gX0_copyFrom_X4_copyFrom : GoodIn wsX0_copyFrom (wsV RX0 65 RX4 yX4_copyFrom wsX4_copyFrom) := goodIn_app (goodIn_of _ (by decide +kernel)) ggX0_copyFrom_X4_copyFrom
theorem dX0_copyFrom_0 : decode cX0_copyFrom 0 = .ok (.aload_n 0, 1) := by decide +kernel
theorem dX0_copyFrom_1 : decode cX0_copyFrom 1 = .ok (.getfield 12, 3) := by decide +kernel
theorem dX0_copyFrom_4 : decode cX0_copyFrom 4 = .ok (.aload_n 1, 1) := by decide +kernel
theorem dX0_copyFrom_5 : decode cX0_copyFrom 5 = .ok (.getfield 12, 3) := by decide +kernel
theorem dX0_copyFrom_8 : decode cX0_copyFrom 8 = .ok (.invokevirtual 65, 3) := by decide +kernel
theorem dX0_copyFrom_11 : decode cX0_copyFrom 11 = .ok (.aload_n 0, 1) := by decide +kernel
theorem dX0_copyFrom_12 : decode cX0_copyFrom 12 = .ok (.getfield 18, 3) := by decide +kernel
theorem dX0_copyFrom_15 : decode cX0_copyFrom 15 = .ok (.aload_n 1, 1) := by decide +kernel
theorem dX0_copyFrom_16 : decode cX0_copyFrom 16 = .ok (.getfield 18, 3) := by decide +kernel
theorem dX0_copyFrom_19 : decode cX0_copyFrom 19 = .ok (.invokevirtual 65, 3) := by decide +kernel
theorem dX0_copyFrom_22 : decode cX0_copyFrom 22 = .ok (.aload_n 0, 1) := by decide +kernel
theorem dX0_copyFrom_23 : decode cX0_copyFrom 23 = .ok (.getfield 21, 3) := by decide +kernel
theorem dX0_copyFrom_26 : decode cX0_copyFrom 26 = .ok (.aload_n 1, 1) := by decide +kernel
theorem dX0_copyFrom_27 : decode cX0_copyFrom 27 = .ok (.getfield 21, 3) := by decide +kernel
theorem dX0_copyFrom_30 : decode cX0_copyFrom 30 = .ok (.invokevirtual 65, 3) := by decide +kernel
theorem dX0_copyFrom_33 : decode cX0_copyFrom 33 = .ok (.aload_n 0, 1) := by decide +kernel
theorem dX0_copyFrom_34 : decode cX0_copyFrom 34 = .ok (.aload_n 1, 1) := by decide +kernel
theorem dX0_copyFrom_35 : decode cX0_copyFrom 35 = .ok (.getfield 34, 3) := by decide +kernel
theorem dX0_copyFrom_38 : decode cX0_copyFrom 38 = .ok (.putfield 34, 3) := by decide +kernel
theorem dX0_copyFrom_41 : decode cX0_copyFrom 41 = .ok (.aload_n 0, 1) := by decide +kernel
theorem dX0_copyFrom_42 : decode cX0_copyFrom 42 = .ok (.aload_n 1, 1) := by decide +kernel
theorem dX0_copyFrom_43 : decode cX0_copyFrom 43 = .ok (.getfield 44, 3) := by decide +kernel
theorem dX0_copyFrom_46 : decode cX0_copyFrom 46 = .ok (.putfield 44, 3) := by decide +kernel
theorem dX0_copyFrom_49 : decode cX0_copyFrom 49 = .ok (.aload_n 0, 1) := by decide +kernel
theorem dX0_copyFrom_50 : decode cX0_copyFrom 50 = .ok (.aload_n 1, 1) := by decide +kernel
theorem dX0_copyFrom_51 : decode cX0_copyFrom 51 = .ok (.getfield 51, 3) := by decide +kernel
theorem dX0_copyFrom_54 : decode cX0_copyFrom 54 = .ok (.putfield 51, 3) := by decide +kernel
theorem dX0_copyFrom_57 : decode cX0_copyFrom 57 = .ok (.aload_n 0, 1) := by decide +kernel
theorem dX0_copyFrom_58 : decode cX0_copyFrom 58 = .ok (.aload_n 1, 1) := by decide +kernel
theorem dX0_copyFrom_59 : decode cX0_copyFrom 59 = .ok (.getfield 73, 3) := by decide +kernel
theorem dX0_copyFrom_62 : decode cX0_copyFrom 62 = .ok (.putfield 73, 3) := by decide +kernel
theorem dX0_copyFrom_65 : decode cX0_copyFrom 65 = .ok (.return_, 1) := by decide +kernel
theorem dX1_init_0 : decode cX1_init 0 = .ok (.aload_n 0, 1) := by decide +kernel
theorem dX1_init_1 : decode cX1_init 1 = .ok (.invokespecial 3, 3) := by decide +kernel
theorem dX1_init_4 : decode cX1_init 4 = .ok (.aload_n 0, 1) := by decide +kernel
theorem dX1_init_5 : decode cX1_init 5 = .ok (.bipush 16, 2) := by decide +kernel
theorem dX1_init_7 : decode cX1_init 7 = .ok (.newarray .int, 2) := by decide +kernel
theorem dX1_init_9 : decode cX1_init 9 = .ok (.putfield 9, 3) := by decide +kernel
theorem dX1_init_12 : decode cX1_init 12 = .ok (.aload_n 0, 1) := by decide +kernel
theorem dX1_init_13 : decode cX1_init 13 = .ok (.bipush 16, 2) := by decide +kernel
theorem dX1_init_15 : decode cX1_init 15 = .ok (.newarray .int, 2) := by decide +kernel
theorem dX1_init_17 : decode cX1_init 17 = .ok (.putfield 15, 3) := by decide +kernel
theorem dX1_init_20 : decode cX1_init 20 = .ok (.aload_n 0, 1) := by decide +kernel
theorem dX1_init_21 : decode cX1_init 21 = .ok (.bipush 16, 2) := by decide +kernel
theorem dX1_init_23 : decode cX1_init 23 = .ok (.newarray .int, 2) := by decide +kernel
theorem dX1_init_25 : decode cX1_init 25 = .ok (.putfield 18, 3) := by decide +kernel
theorem dX1_init_28 : decode cX1_init 28 = .ok (.aload_n 0, 1) := by decide +kernel
theorem dX1_init_29 : decode cX1_init 29 = .ok (.bipush 16, 2) := by decide +kernel
theorem dX1_init_31 : decode cX1_init 31 = .ok (.newarray .int, 2) := by decide +kernel
theorem dX1_init_33 : decode cX1_init 33 = .ok (.putfield 21, 3) := by decide +kernel
theorem dX1_init_36 : decode cX1_init 36 = .ok (.return_, 1) := by decide +kernel
theorem dX1_append_0 : decode cX1_append 0 = .ok (.aload_n 0, 1) := by decide +kernel
theorem dX1_append_1 : decode cX1_append 1 = .ok (.getfield 24, 3) := by decide +kernel
theorem dX1_append_4 : decode cX1_append 4 = .ok (.bipush 16, 2) := by decide +kernel
theorem dX1_append_6 : decode cX1_append 6 = .ok (.if_icmp .lt 5, 3) := by decide +kernel
theorem dX1_append_9 : decode cX1_append 9 = .ok (.iconst (-1), 1) := by decide +kernel
theorem dX1_append_10 : decode cX1_append 10 = .ok (.ireturn, 1) := by decide +kernel
theorem dX1_append_11 : decode cX1_append 11 = .ok (.aload_n 0, 1) := by decide +kernel
theorem dX1_append_12 : decode cX1_append 12 = .ok (.getfield 9, 3) := by decide +kernel
theorem dX1_append_15 : decode cX1_append 15 = .ok (.aload_n 0, 1) := by decide +kernel
theorem dX1_append_16 : decode cX1_append 16 = .ok (.getfield 24, 3) := by decide +kernel
theorem dX1_append_19 : decode cX1_append 19 = .ok (.iload_n 1, 1) := by decide +kernel
theorem dX1_append_20 : decode cX1_append 20 = .ok (.iastore, 1) := by decide +kernel
theorem dX1_append_21 : decode cX1_append 21 = .ok (.aload_n 0, 1) := by decide +kernel
theorem dX1_append_22 : decode cX1_append 22 = .ok (.getfield 15, 3) := by decide +kernel
theorem dX1_append_25 : decode cX1_append 25 = .ok (.aload_n 0, 1) := by decide +kernel
theorem dX1_append_26 : decode cX1_append 26 = .ok (.getfield 24, 3) := by decide +kernel
theorem dX1_append_29 : decode cX1_append 29 = .ok (.iload_n 2, 1) := by decide +kernel
theorem dX1_append_30 : decode cX1_append 30 = .ok (.iastore, 1) := by decide +kernel
theorem dX1_append_31 : decode cX1_append 31 = .ok (.aload_n 0, 1) := by decide +kernel
theorem dX1_append_32 : decode cX1_append 32 = .ok (.getfield 18, 3) := by decide +kernel
theorem dX1_append_35 : decode cX1_append 35 = .ok (.aload_n 0, 1) := by decide +kernel
theorem dX1_append_36 : decode cX1_append 36 = .ok (.getfield 24, 3) := by decide +kernel
theorem dX1_append_39 : decode cX1_append 39 = .ok (.iload_n 3, 1) := by decide +kernel
theorem dX1_append_40 : decode cX1_append 40 = .ok (.iastore, 1) := by decide +kernel
theorem dX1_append_41 : decode cX1_append 41 = .ok (.aload_n 0, 1) := by decide +kernel
theorem dX1_append_42 : decode cX1_append 42 = .ok (.getfield 21, 3) := by decide +kernel
theorem dX1_append_45 : decode cX1_append 45 = .ok (.aload_n 0, 1) := by decide +kernel
theorem dX1_append_46 : decode cX1_append 46 = .ok (.getfield 24, 3) := by decide +kernel
theorem dX1_append_49 : decode cX1_append 49 = .ok (.iload 4, 2) := by decide +kernel
theorem dX1_append_51 : decode cX1_append 51 = .ok (.iastore, 1) := by decide +kernel
theorem dX1_append_52 : decode cX1_append 52 = .ok (.aload_n 0, 1) := by decide +kernel
theorem dX1_append_53 : decode cX1_append 53 = .ok (.dup, 1) := by decide +kernel
theorem dX1_append_54 : decode cX1_append 54 = .ok (.getfield 24, 3) := by decide +kernel
theorem dX1_append_57 : decode cX1_append 57 = .ok (.iconst 1, 1) := by decide +kernel
theorem dX1_append_58 : decode cX1_append 58 = .ok (.iadd, 1) := by decide +kernel
theorem dX1_append_59 : decode cX1_append 59 = .ok (.putfield 24, 3) := by decide +kernel
theorem dX1_append_62 : decode cX1_append 62 = .ok (.aload_n 0, 1) := by decide +kernel
theorem dX1_append_63 : decode cX1_append 63 = .ok (.getfield 24, 3) := by decide +kernel
theorem dX1_append_66 : decode cX1_append 66 = .ok (.ireturn, 1) := by decide +kernel
set_option maxRecDepth 20000 in
theorem ggX1_apply_X5_change : GoodIn wsX1_apply wsX5_change := goodIn_r _ [10, 11, 12, 13, 9, 14, 15, 16, 17, 23] (by decide +kernel) (by decide +kernel)
set_option maxRecDepth 20000 in
theorem gX1_apply_X5_change : GoodIn wsX1_apply (wsV RX1 28 RX5 yX5_change wsX5_change) := goodIn_app (goodIn_of _ (by decide +kernel)) ggX1_apply_X5_change
theorem dX1_apply_0 : decode cX1_apply 0 = .ok (.iconst 0, 1) := by decide +kernel
theorem dX1_apply_1 : decode cX1_apply 1 = .ok (.istore 4, 2) := by decide +kernel
theorem dX1_apply_3 : decode cX1_apply 3 = .ok (.iload 4, 2) := by decide +kernel
theorem dX1_apply_5 : decode cX1_apply 5 = .ok (.aload_n 0, 1) := by decide +kernel
theorem dX1_apply_6 : decode cX1_apply 6 = .ok (.getfield 24, 3) := by decide +kernel
theorem dX1_apply_9 : decode cX1_apply 9 = .ok (.if_icmp .ge 50, 3) := by decide +kernel
theorem dX1_apply_12 : decode cX1_apply 12 = .ok (.aload_n 0, 1) := by decide +kernel
theorem dX1_apply_13 : decode cX1_apply 13 = .ok (.getfield 15, 3) := by decide +kernel
theorem dX1_apply_16 : decode cX1_apply 16 = .ok (.iload 4, 2) := by decide +kernel
theorem dX1_apply_18 : decode cX1_apply 18 = .ok (.iaload, 1) := by decide +kernel
theorem dX1_apply_19 : decode cX1_apply 19 = .ok (.iload_n 2, 1) := by decide +kernel
theorem dX1_apply_20 : decode cX1_apply 20 = .ok (.if_icmp .ne 33, 3) := by decide +kernel
theorem dX1_apply_23 : decode cX1_apply 23 = .ok (.aload_n 0, 1) := by decide +kernel
theorem dX1_apply_24 : decode cX1_apply 24 = .ok (.getfield 9, 3) := by decide +kernel
theorem dX1_apply_27 : decode cX1_apply 27 = .ok (.iload 4, 2) := by decide +kernel
theorem dX1_apply_29 : decode cX1_apply 29 = .ok (.iaload, 1) := by decide +kernel
theorem dX1_apply_30 : decode cX1_apply 30 = .ok (.iload_n 1, 1) := by decide +kernel
theorem dX1_apply_31 : decode cX1_apply 31 = .ok (.if_icmp .ne 22, 3) := by decide +kernel
theorem dX1_apply_34 : decode cX1_apply 34 = .ok (.aload_n 3, 1) := by decide +kernel
theorem dX1_apply_35 : decode cX1_apply 35 = .ok (.aload_n 0, 1) := by decide +kernel
theorem dX1_apply_36 : decode cX1_apply 36 = .ok (.getfield 18, 3) := by decide +kernel
theorem dX1_apply_39 : decode cX1_apply 39 = .ok (.iload 4, 2) := by decide +kernel
theorem dX1_apply_41 : decode cX1_apply 41 = .ok (.iaload, 1) := by decide +kernel
theorem dX1_apply_42 : decode cX1_apply 42 = .ok (.aload_n 0, 1) := by decide +kernel
theorem dX1_apply_43 : decode cX1_apply 43 = .ok (.getfield 21, 3) := by decide +kernel
theorem dX1_apply_46 : decode cX1_apply 46 = .ok (.iload 4, 2) := by decide +kernel
theorem dX1_apply_48 : decode cX1_apply 48 = .ok (.iaload, 1) := by decide +kernel
theorem dX1_apply_49 : decode cX1_apply 49 = .ok (.invokevirtual 28, 3) := by decide +kernel
theorem dX1_apply_52 : decode cX1_apply 52 = .ok (.pop, 1) := by decide +kernel
theorem dX1_apply_53 : decode cX1_apply 53 = .ok (.iinc 4 1, 3) := by decide +kernel
theorem dX1_apply_56 : decode cX1_apply 56 = .ok (.goto (-53), 3) := by decide +kernel
theorem dX1_apply_59 : decode cX1_apply 59 = .ok (.return_, 1) := by decide +kernel
theorem dX1_copyFrom_0 : decode cX1_copyFrom 0 = .ok (.aload_n 1, 1) := by decide +kernel
theorem dX1_copyFrom_1 : decode cX1_copyFrom 1 = .ok (.getfield 9, 3) := by decide +kernel
theorem dX1_copyFrom_4 : decode cX1_copyFrom 4 = .ok (.iconst 0, 1) := by decide +kernel
theorem dX1_copyFrom_5 : decode cX1_copyFrom 5 = .ok (.aload_n 0, 1) := by decide +kernel
theorem dX1_copyFrom_6 : decode cX1_copyFrom 6 = .ok (.getfield 9, 3) := by decide +kernel
theorem dX1_copyFrom_9 : decode cX1_copyFrom 9 = .ok (.iconst 0, 1) := by decide +kernel
theorem dX1_copyFrom_10 : decode cX1_copyFrom 10 = .ok (.bipush 16, 2) := by decide +kernel
theorem dX1_copyFrom_12 : decode cX1_copyFrom 12 = .ok (.invokestatic 34, 3) := by decide +kernel
theorem dX1_copyFrom_15 : decode cX1_copyFrom 15 = .ok (.aload_n 1, 1) := by decide +kernel
theorem dX1_copyFrom_16 : decode cX1_copyFrom 16 = .ok (.getfield 15, 3) := by decide +kernel
theorem dX1_copyFrom_19 : decode cX1_copyFrom 19 = .ok (.iconst 0, 1) := by decide +kernel
theorem dX1_copyFrom_20 : decode cX1_copyFrom 20 = .ok (.aload_n 0, 1) := by decide +kernel
theorem dX1_copyFrom_21 : decode cX1_copyFrom 21 = .ok (.getfield 15, 3) := by decide +kernel
theorem dX1_copyFrom_24 : decode cX1_copyFrom 24 = .ok (.iconst 0, 1) := by decide +kernel
theorem dX1_copyFrom_25 : decode cX1_copyFrom 25 = .ok (.bipush 16, 2) := by decide +kernel
theorem dX1_copyFrom_27 : decode cX1_copyFrom 27 = .ok (.invokestatic 34, 3) := by decide +kernel
theorem dX1_copyFrom_30 : decode cX1_copyFrom 30 = .ok (.aload_n 1, 1) := by decide +kernel
theorem dX1_copyFrom_31 : decode cX1_copyFrom 31 = .ok (.getfield 18, 3) := by decide +kernel
theorem dX1_copyFrom_34 : decode cX1_copyFrom 34 = .ok (.iconst 0, 1) := by decide +kernel
theorem dX1_copyFrom_35 : decode cX1_copyFrom 35 = .ok (.aload_n 0, 1) := by decide +kernel
theorem dX1_copyFrom_36 : decode cX1_copyFrom 36 = .ok (.getfield 18, 3) := by decide +kernel
theorem dX1_copyFrom_39 : decode cX1_copyFrom 39 = .ok (.iconst 0, 1) := by decide +kernel
theorem dX1_copyFrom_40 : decode cX1_copyFrom 40 = .ok (.bipush 16, 2) := by decide +kernel
theorem dX1_copyFrom_42 : decode cX1_copyFrom 42 = .ok (.invokestatic 34, 3) := by decide +kernel
theorem dX1_copyFrom_45 : decode cX1_copyFrom 45 = .ok (.aload_n 1, 1) := by decide +kernel
theorem dX1_copyFrom_46 : decode cX1_copyFrom 46 = .ok (.getfield 21, 3) := by decide +kernel
theorem dX1_copyFrom_49 : decode cX1_copyFrom 49 = .ok (.iconst 0, 1) := by decide +kernel
theorem dX1_copyFrom_50 : decode cX1_copyFrom 50 = .ok (.aload_n 0, 1) := by decide +kernel
theorem dX1_copyFrom_51 : decode cX1_copyFrom 51 = .ok (.getfield 21, 3) := by decide +kernel
theorem dX1_copyFrom_54 : decode cX1_copyFrom 54 = .ok (.iconst 0, 1) := by decide +kernel
theorem dX1_copyFrom_55 : decode cX1_copyFrom 55 = .ok (.bipush 16, 2) := by decide +kernel
theorem dX1_copyFrom_57 : decode cX1_copyFrom 57 = .ok (.invokestatic 34, 3) := by decide +kernel
theorem dX1_copyFrom_60 : decode cX1_copyFrom 60 = .ok (.aload_n 0, 1) := by decide +kernel
theorem dX1_copyFrom_61 : decode cX1_copyFrom 61 = .ok (.aload_n 1, 1) := by decide +kernel
theorem dX1_copyFrom_62 : decode cX1_copyFrom 62 = .ok (.getfield 24, 3) := by decide +kernel
theorem dX1_copyFrom_65 : decode cX1_copyFrom 65 = .ok (.putfield 24, 3) := by decide +kernel
theorem dX1_copyFrom_68 : decode cX1_copyFrom 68 = .ok (.return_, 1) := by decide +kernel
theorem dX2_init_0 : decode cX2_init 0 = .ok (.aload_n 0, 1) := by decide +kernel
theorem dX2_init_1 : decode cX2_init 1 = .ok (.invokespecial 3, 3) := by decide +kernel
theorem dX2_init_4 : decode cX2_init 4 = .ok (.aload_n 0, 1) := by decide +kernel
theorem dX2_init_5 : decode cX2_init 5 = .ok (.bipush 8, 2) := by decide +kernel
theorem dX2_init_7 : decode cX2_init 7 = .ok (.newarray .int, 2) := by decide +kernel
theorem dX2_init_9 : decode cX2_init 9 = .ok (.putfield 9, 3) := by decide +kernel
theorem dX2_init_12 : decode cX2_init 12 = .ok (.aload_n 0, 1) := by decide +kernel
theorem dX2_init_13 : decode cX2_init 13 = .ok (.iconst 2, 1) := by decide +kernel
theorem dX2_init_14 : decode cX2_init 14 = .ok (.putfield 15, 3) := by decide +kernel
theorem dX2_init_17 : decode cX2_init 17 = .ok (.return_, 1) := by decide +kernel
theorem dX2_startLine_0 : decode cX2_startLine 0 = .ok (.aload_n 0, 1) := by decide +kernel
theorem dX2_startLine_1 : decode cX2_startLine 1 = .ok (.iconst 0, 1) := by decide +kernel
theorem dX2_startLine_2 : decode cX2_startLine 2 = .ok (.putfield 19, 3) := by decide +kernel
theorem dX2_startLine_5 : decode cX2_startLine 5 = .ok (.aload_n 0, 1) := by decide +kernel
theorem dX2_startLine_6 : decode cX2_startLine 6 = .ok (.iconst 0, 1) := by decide +kernel
theorem dX2_startLine_7 : decode cX2_startLine 7 = .ok (.putfield 22, 3) := by decide +kernel
theorem dX2_startLine_10 : decode cX2_startLine 10 = .ok (.aload_n 0, 1) := by decide +kernel
theorem dX2_startLine_11 : decode cX2_startLine 11 = .ok (.iload_n 1, 1) := by decide +kernel
theorem dX2_startLine_12 : decode cX2_startLine 12 = .ok (.putfield 25, 3) := by decide +kernel
theorem dX2_startLine_15 : decode cX2_startLine 15 = .ok (.aload_n 0, 1) := by decide +kernel
theorem dX2_startLine_16 : decode cX2_startLine 16 = .ok (.iconst 0, 1) := by decide +kernel
theorem dX2_startLine_17 : decode cX2_startLine 17 = .ok (.putfield 28, 3) := by decide +kernel
theorem dX2_startLine_20 : decode cX2_startLine 20 = .ok (.aload_n 0, 1) := by decide +kernel
theorem dX2_startLine_21 : decode cX2_startLine 21 = .ok (.iload_n 2, 1) := by decide +kernel
theorem dX2_startLine_22 : decode cX2_startLine 22 = .ok (.putfield 31, 3) := by decide +kernel
theorem dX2_startLine_25 : decode cX2_startLine 25 = .ok (.return_, 1) := by decide +kernel
theorem dX2_wantsByte_0 : decode cX2_wantsByte 0 = .ok (.aload_n 0, 1) := by decide +kernel
theorem dX2_wantsByte_1 : decode cX2_wantsByte 1 = .ok (.getfield 19, 3) := by decide +kernel
theorem dX2_wantsByte_4 : decode cX2_wantsByte 4 = .ok (.aload_n 0, 1) := by decide +kernel
theorem dX2_wantsByte_5 : decode cX2_wantsByte 5 = .ok (.getfield 15, 3) := by decide +kernel
theorem dX2_wantsByte_8 : decode cX2_wantsByte 8 = .ok (.if_icmp .ge 18, 3) := by decide +kernel
theorem dX2_wantsByte_11 : decode cX2_wantsByte 11 = .ok (.aload_n 0, 1) := by decide +kernel
theorem dX2_wantsByte_12 : decode cX2_wantsByte 12 = .ok (.getfield 28, 3) := by decide +kernel
theorem dX2_wantsByte_15 : decode cX2_wantsByte 15 = .ok (.aload_n 0, 1) := by decide +kernel
theorem dX2_wantsByte_16 : decode cX2_wantsByte 16 = .ok (.getfield 31, 3) := by decide +kernel
theorem dX2_wantsByte_19 : decode cX2_wantsByte 19 = .ok (.if_icmp .ge 7, 3) := by decide +kernel
theorem dX2_wantsByte_22 : decode cX2_wantsByte 22 = .ok (.iconst 1, 1) := by decide +kernel
theorem dX2_wantsByte_23 : decode cX2_wantsByte 23 = .ok (.goto 4, 3) := by decide +kernel
theorem dX2_wantsByte_26 : decode cX2_wantsByte 26 = .ok (.iconst 0, 1) := by decide +kernel
theorem dX2_wantsByte_27 : decode cX2_wantsByte 27 = .ok (.ireturn, 1) := by decide +kernel
theorem dX2_append_0 : decode cX2_append 0 = .ok (.aload_n 0, 1) := by decide +kernel
theorem dX2_append_1 : decode cX2_append 1 = .ok (.getfield 9, 3) := by decide +kernel
theorem dX2_append_4 : decode cX2_append 4 = .ok (.aload_n 0, 1) := by decide +kernel
theorem dX2_append_5 : decode cX2_append 5 = .ok (.getfield 34, 3) := by decide +kernel
theorem dX2_append_8 : decode cX2_append 8 = .ok (.aload_n 0, 1) := by decide +kernel
theorem dX2_append_9 : decode cX2_append 9 = .ok (.getfield 19, 3) := by decide +kernel
theorem dX2_append_12 : decode cX2_append 12 = .ok (.iadd, 1) := by decide +kernel
theorem dX2_append_13 : decode cX2_append 13 = .ok (.bipush 8, 2) := by decide +kernel
theorem dX2_append_15 : decode cX2_append 15 = .ok (.irem, 1) := by decide +kernel
theorem dX2_append_16 : decode cX2_append 16 = .ok (.iload_n 1, 1) := by decide +kernel
theorem dX2_append_17 : decode cX2_append 17 = .ok (.iastore, 1) := by decide +kernel
theorem dX2_append_18 : decode cX2_append 18 = .ok (.aload_n 0, 1) := by decide +kernel
theorem dX2_append_19 : decode cX2_append 19 = .ok (.dup, 1) := by decide +kernel
theorem dX2_append_20 : decode cX2_append 20 = .ok (.getfield 19, 3) := by decide +kernel
theorem dX2_append_23 : decode cX2_append 23 = .ok (.iconst 1, 1) := by decide +kernel
theorem dX2_append_24 : decode cX2_append 24 = .ok (.iadd, 1) := by decide +kernel
theorem dX2_append_25 : decode cX2_append 25 = .ok (.putfield 19, 3) := by decide +kernel
theorem dX2_append_28 : decode cX2_append 28 = .ok (.aload_n 0, 1) := by decide +kernel
theorem dX2_append_29 : decode cX2_append 29 = .ok (.dup, 1) := by decide +kernel
theorem dX2_append_30 : decode cX2_append 30 = .ok (.getfield 28, 3) := by decide +kernel
theorem dX2_append_33 : decode cX2_append 33 = .ok (.iconst 1, 1) := by decide +kernel
theorem dX2_append_34 : decode cX2_append 34 = .ok (.iadd, 1) := by decide +kernel
theorem dX2_append_35 : decode cX2_append 35 = .ok (.putfield 28, 3) := by decide +kernel
theorem dX2_append_38 : decode cX2_append 38 = .ok (.aload_n 0, 1) := by decide +kernel
theorem dX2_append_39 : decode cX2_append 39 = .ok (.dup, 1) := by decide +kernel
theorem dX2_append_40 : decode cX2_append 40 = .ok (.getfield 37, 3) := by decide +kernel
theorem dX2_append_43 : decode cX2_append 43 = .ok (.iconst 1, 1) := by decide +kernel
theorem dX2_append_44 : decode cX2_append 44 = .ok (.iadd, 1) := by decide +kernel
theorem dX2_append_45 : decode cX2_append 45 = .ok (.putfield 37, 3) := by decide +kernel
theorem dX2_append_48 : decode cX2_append 48 = .ok (.return_, 1) := by decide +kernel
theorem dX2_takeBit_0 : decode cX2_takeBit 0 = .ok (.aload_n 0, 1) := by decide +kernel
theorem dX2_takeBit_1 : decode cX2_takeBit 1 = .ok (.getfield 22, 3) := by decide +kernel
theorem dX2_takeBit_4 : decode cX2_takeBit 4 = .ok (.ifCond .ne 64, 3) := by decide +kernel
theorem dX2_takeBit_7 : decode cX2_takeBit 7 = .ok (.aload_n 0, 1) := by decide +kernel
theorem dX2_takeBit_8 : decode cX2_takeBit 8 = .ok (.getfield 19, 3) := by decide +kernel
theorem dX2_takeBit_11 : decode cX2_takeBit 11 = .ok (.ifCond .ne 15, 3) := by decide +kernel
theorem dX2_takeBit_14 : decode cX2_takeBit 14 = .ok (.aload_n 0, 1) := by decide +kernel
theorem dX2_takeBit_15 : decode cX2_takeBit 15 = .ok (.dup, 1) := by decide +kernel
theorem dX2_takeBit_16 : decode cX2_takeBit 16 = .ok (.getfield 40, 3) := by decide +kernel
theorem dX2_takeBit_19 : decode cX2_takeBit 19 = .ok (.iconst 1, 1) := by decide +kernel
theorem dX2_takeBit_20 : decode cX2_takeBit 20 = .ok (.iadd, 1) := by decide +kernel
theorem dX2_takeBit_21 : decode cX2_takeBit 21 = .ok (.putfield 40, 3) := by decide +kernel
theorem dX2_takeBit_24 : decode cX2_takeBit 24 = .ok (.iconst (-1), 1) := by decide +kernel
theorem dX2_takeBit_25 : decode cX2_takeBit 25 = .ok (.ireturn, 1) := by decide +kernel
theorem dX2_takeBit_26 : decode cX2_takeBit 26 = .ok (.aload_n 0, 1) := by decide +kernel
theorem dX2_takeBit_27 : decode cX2_takeBit 27 = .ok (.aload_n 0, 1) := by decide +kernel
theorem dX2_takeBit_28 : decode cX2_takeBit 28 = .ok (.getfield 9, 3) := by decide +kernel
theorem dX2_takeBit_31 : decode cX2_takeBit 31 = .ok (.aload_n 0, 1) := by decide +kernel
theorem dX2_takeBit_32 : decode cX2_takeBit 32 = .ok (.getfield 34, 3) := by decide +kernel
theorem dX2_takeBit_35 : decode cX2_takeBit 35 = .ok (.iaload, 1) := by decide +kernel
theorem dX2_takeBit_36 : decode cX2_takeBit 36 = .ok (.putfield 43, 3) := by decide +kernel
theorem dX2_takeBit_39 : decode cX2_takeBit 39 = .ok (.aload_n 0, 1) := by decide +kernel
theorem dX2_takeBit_40 : decode cX2_takeBit 40 = .ok (.bipush 8, 2) := by decide +kernel
theorem dX2_takeBit_42 : decode cX2_takeBit 42 = .ok (.putfield 22, 3) := by decide +kernel
theorem dX2_takeBit_45 : decode cX2_takeBit 45 = .ok (.aload_n 0, 1) := by decide +kernel
theorem dX2_takeBit_46 : decode cX2_takeBit 46 = .ok (.aload_n 0, 1) := by decide +kernel
theorem dX2_takeBit_47 : decode cX2_takeBit 47 = .ok (.getfield 34, 3) := by decide +kernel
theorem dX2_takeBit_50 : decode cX2_takeBit 50 = .ok (.iconst 1, 1) := by decide +kernel
theorem dX2_takeBit_51 : decode cX2_takeBit 51 = .ok (.iadd, 1) := by decide +kernel
theorem dX2_takeBit_52 : decode cX2_takeBit 52 = .ok (.bipush 8, 2) := by decide +kernel
theorem dX2_takeBit_54 : decode cX2_takeBit 54 = .ok (.irem, 1) := by decide +kernel
theorem dX2_takeBit_55 : decode cX2_takeBit 55 = .ok (.putfield 34, 3) := by decide +kernel
theorem dX2_takeBit_58 : decode cX2_takeBit 58 = .ok (.aload_n 0, 1) := by decide +kernel
theorem dX2_takeBit_59 : decode cX2_takeBit 59 = .ok (.dup, 1) := by decide +kernel
theorem dX2_takeBit_60 : decode cX2_takeBit 60 = .ok (.getfield 19, 3) := by decide +kernel
theorem dX2_takeBit_63 : decode cX2_takeBit 63 = .ok (.iconst 1, 1) := by decide +kernel
theorem dX2_takeBit_64 : decode cX2_takeBit 64 = .ok (.isub, 1) := by decide +kernel
theorem dX2_takeBit_65 : decode cX2_takeBit 65 = .ok (.putfield 19, 3) := by decide +kernel
theorem dX2_takeBit_68 : decode cX2_takeBit 68 = .ok (.aload_n 0, 1) := by decide +kernel
theorem dX2_takeBit_69 : decode cX2_takeBit 69 = .ok (.dup, 1) := by decide +kernel
theorem dX2_takeBit_70 : decode cX2_takeBit 70 = .ok (.getfield 22, 3) := by decide +kernel
theorem dX2_takeBit_73 : decode cX2_takeBit 73 = .ok (.iconst 1, 1) := by decide +kernel
theorem dX2_takeBit_74 : decode cX2_takeBit 74 = .ok (.isub, 1) := by decide +kernel
theorem dX2_takeBit_75 : decode cX2_takeBit 75 = .ok (.putfield 22, 3) := by decide +kernel
theorem dX2_takeBit_78 : decode cX2_takeBit 78 = .ok (.aload_n 0, 1) := by decide +kernel
theorem dX2_takeBit_79 : decode cX2_takeBit 79 = .ok (.getfield 43, 3) := by decide +kernel
theorem dX2_takeBit_82 : decode cX2_takeBit 82 = .ok (.aload_n 0, 1) := by decide +kernel
theorem dX2_takeBit_83 : decode cX2_takeBit 83 = .ok (.getfield 22, 3) := by decide +kernel
theorem dX2_takeBit_86 : decode cX2_takeBit 86 = .ok (.ishr, 1) := by decide +kernel
theorem dX2_takeBit_87 : decode cX2_takeBit 87 = .ok (.iconst 1, 1) := by decide +kernel
theorem dX2_takeBit_88 : decode cX2_takeBit 88 = .ok (.iand, 1) := by decide +kernel
theorem dX2_takeBit_89 : decode cX2_takeBit 89 = .ok (.ireturn, 1) := by decide +kernel
theorem dX2_copyFrom_0 : decode cX2_copyFrom 0 = .ok (.aload_n 1, 1) := by decide +kernel
theorem dX2_copyFrom_1 : decode cX2_copyFrom 1 = .ok (.getfield 9, 3) := by decide +kernel
theorem dX2_copyFrom_4 : decode cX2_copyFrom 4 = .ok (.iconst 0, 1) := by decide +kernel
theorem dX2_copyFrom_5 : decode cX2_copyFrom 5 = .ok (.aload_n 0, 1) := by decide +kernel
theorem dX2_copyFrom_6 : decode cX2_copyFrom 6 = .ok (.getfield 9, 3) := by decide +kernel
theorem dX2_copyFrom_9 : decode cX2_copyFrom 9 = .ok (.iconst 0, 1) := by decide +kernel
theorem dX2_copyFrom_10 : decode cX2_copyFrom 10 = .ok (.bipush 8, 2) := by decide +kernel
theorem dX2_copyFrom_12 : decode cX2_copyFrom 12 = .ok (.invokestatic 46, 3) := by decide +kernel
theorem dX2_copyFrom_15 : decode cX2_copyFrom 15 = .ok (.aload_n 0, 1) := by decide +kernel
theorem dX2_copyFrom_16 : decode cX2_copyFrom 16 = .ok (.aload_n 1, 1) := by decide +kernel
theorem dX2_copyFrom_17 : decode cX2_copyFrom 17 = .ok (.getfield 34, 3) := by decide +kernel
theorem dX2_copyFrom_20 : decode cX2_copyFrom 20 = .ok (.putfield 34, 3) := by decide +kernel
theorem dX2_copyFrom_23 : decode cX2_copyFrom 23 = .ok (.aload_n 0, 1) := by decide +kernel
theorem dX2_copyFrom_24 : decode cX2_copyFrom 24 = .ok (.aload_n 1, 1) := by decide +kernel
theorem dX2_copyFrom_25 : decode cX2_copyFrom 25 = .ok (.getfield 19, 3) := by decide +kernel
theorem dX2_copyFrom_28 : decode cX2_copyFrom 28 = .ok (.putfield 19, 3) := by decide +kernel
theorem dX2_copyFrom_31 : decode cX2_copyFrom 31 = .ok (.aload_n 0, 1) := by decide +kernel
theorem dX2_copyFrom_32 : decode cX2_copyFrom 32 = .ok (.aload_n 1, 1) := by decide +kernel
theorem dX2_copyFrom_33 : decode cX2_copyFrom 33 = .ok (.getfield 15, 3) := by decide +kernel
theorem dX2_copyFrom_36 : decode cX2_copyFrom 36 = .ok (.putfield 15, 3) := by decide +kernel
theorem dX2_copyFrom_39 : decode cX2_copyFrom 39 = .ok (.aload_n 0, 1) := by decide +kernel
theorem dX2_copyFrom_40 : decode cX2_copyFrom 40 = .ok (.aload_n 1, 1) := by decide +kernel
theorem dX2_copyFrom_41 : decode cX2_copyFrom 41 = .ok (.getfield 43, 3) := by decide +kernel
theorem dX2_copyFrom_44 : decode cX2_copyFrom 44 = .ok (.putfield 43, 3) := by decide +kernel
theorem dX2_copyFrom_47 : decode cX2_copyFrom 47 = .ok (.aload_n 0, 1) := by decide +kernel
theorem dX2_copyFrom_48 : decode cX2_copyFrom 48 = .ok (.aload_n 1, 1) := by decide +kernel
theorem dX2_copyFrom_49 : decode cX2_copyFrom 49 = .ok (.getfield 22, 3) := by decide +kernel
theorem dX2_copyFrom_52 : decode cX2_copyFrom 52 = .ok (.putfield 22, 3) := by decide +kernel
theorem dX2_copyFrom_55 : decode cX2_copyFrom 55 = .ok (.aload_n 0, 1) := by decide +kernel
theorem dX2_copyFrom_56 : decode cX2_copyFrom 56 = .ok (.aload_n 1, 1) := by decide +kernel
theorem dX2_copyFrom_57 : decode cX2_copyFrom 57 = .ok (.getfield 25, 3) := by decide +kernel
theorem dX2_copyFrom_60 : decode cX2_copyFrom 60 = .ok (.putfield 25, 3) := by decide +kernel
theorem dX2_copyFrom_63 : decode cX2_copyFrom 63 = .ok (.aload_n 0, 1) := by decide +kernel
theorem dX2_copyFrom_64 : decode cX2_copyFrom 64 = .ok (.aload_n 1, 1) := by decide +kernel
theorem dX2_copyFrom_65 : decode cX2_copyFrom 65 = .ok (.getfield 28, 3) := by decide +kernel
theorem dX2_copyFrom_68 : decode cX2_copyFrom 68 = .ok (.putfield 28, 3) := by decide +kernel
theorem dX2_copyFrom_71 : decode cX2_copyFrom 71 = .ok (.aload_n 0, 1) := by decide +kernel
theorem dX2_copyFrom_72 : decode cX2_copyFrom 72 = .ok (.aload_n 1, 1) := by decide +kernel
theorem dX2_copyFrom_73 : decode cX2_copyFrom 73 = .ok (.getfield 31, 3) := by decide +kernel
theorem dX2_copyFrom_76 : decode cX2_copyFrom 76 = .ok (.putfield 31, 3) := by decide +kernel
theorem dX2_copyFrom_79 : decode cX2_copyFrom 79 = .ok (.aload_n 0, 1) := by decide +kernel
theorem dX2_copyFrom_80 : decode cX2_copyFrom 80 = .ok (.aload_n 1, 1) := by decide +kernel
theorem dX2_copyFrom_81 : decode cX2_copyFrom 81 = .ok (.getfield 40, 3) := by decide +kernel
theorem dX2_copyFrom_84 : decode cX2_copyFrom 84 = .ok (.putfield 40, 3) := by decide +kernel
theorem dX2_copyFrom_87 : decode cX2_copyFrom 87 = .ok (.aload_n 0, 1) := by decide +kernel
theorem dX2_copyFrom_88 : decode cX2_copyFrom 88 = .ok (.aload_n 1, 1) := by decide +kernel
theorem dX2_copyFrom_89 : decode cX2_copyFrom 89 = .ok (.getfield 37, 3) := by decide +kernel
theorem dX2_copyFrom_92 : decode cX2_copyFrom 92 = .ok (.putfield 37, 3) := by decide +kernel
theorem dX2_copyFrom_95 : decode cX2_copyFrom 95 = .ok (.return_, 1) := by decide +kernel
set_option maxRecDepth 20000 in
theorem ggX3_init_X0_init : GoodIn wsX3_init wsX0_init := goodIn_r _ [30, 31, 2, 3, 32, 33, 34, 35, 36, 37, 38, 39, 40, 41, 42, 43, 44, 45, 46, 47, 48, 49, 50, 51, 52, 53, 54, 55, 56, 57, 58, 59, 60, 61, 62, 132, 133, 134, 91, 92, 93, 94, 95, 96, 97, 135, 136, 137, 138] (by decide +kernel) (by decide +kernel)
set_option maxRecDepth 20000 in
theorem gX3_init_X0_init_n11 : GoodIn wsX3_init (wsX0_init) := ggX3_init_X0_init
set_option maxRecDepth 20000 in
theorem ggX3_init_X2_init : GoodIn wsX3_init wsX2_init := goodIn_r _ [64, 65, 2, 3, 24, 66, 67, 110, 111, 112, 113, 114, 115, 116, 117, 118, 119, 120] (by decide +kernel) (by decide +kernel)
set_option maxRecDepth 20000 in
theorem gX3_init_X2_init_n20 : GoodIn wsX3_init (wsX2_init) := ggX3_init_X2_init
set_option maxRecDepth 20000 in
theorem ggX3_init_X5_init : GoodIn wsX3_init wsX5_init := goodIn_r _ [69, 70, 2, 3, 24, 71, 121] (by decide +kernel) (by decide +kernel)
set_option maxRecDepth 20000 in
theorem gX3_init_X5_init_n27 : GoodIn wsX3_init (wsX5_init) := ggX3_init_X5_init
set_option maxRecDepth 20000 in
theorem ggX3_init_X1_init : GoodIn wsX3_init wsX1_init := goodIn_r _ [73, 74, 2, 3, 24, 75, 76, 77, 78, 122, 123, 124, 125, 126] (by decide +kernel) (by decide +kernel)
set_option maxRecDepth 20000 in
theorem gX3_init_X1_init_n34 : GoodIn wsX3_init (wsX1_init) := ggX3_init_X1_init
set_option maxRecDepth 20000 in
theorem ggX3_init_X7_init : GoodIn wsX3_init wsX7_init := goodIn_r _ [80, 81, 2, 3, 24, 82, 83, 84, 85, 86, 127, 128, 129, 130, 131] (by decide +kernel) (by decide +kernel)
set_option maxRecDepth 20000 in
theorem gX3_init_X7_init_n41 : GoodIn wsX3_init (wsX7_init) := ggX3_init_X7_init
set_option maxRecDepth 20000 in
theorem ggX3_init_J7_fill_53178 : GoodIn wsX3_init wsJ7_fill_53178 := goodIn_r _ [90] (by decide +kernel) (by decide +kernel)
set_option maxRecDepth 20000 in
theorem gX3_init_J7_fill_53178 : GoodIn wsX3_init (va_wsS RX3 60 yJ7_fill_53178 wsJ7_fill_53178) := goodIn_app (goodIn_of _ (by decide +kernel)) ggX3_init_J7_fill_53178
theorem dX3_init_0 : decode cX3_init 0 = .ok (.aload_n 0, 1) := by decide +kernel
theorem dX3_init_1 : decode cX3_init 1 = .ok (.invokespecial 3, 3) := by decide +kernel
theorem dX3_init_4 : decode cX3_init 4 = .ok (.aload_n 0, 1) := by decide +kernel
theorem dX3_init_5 : decode cX3_init 5 = .ok (.new 9, 3) := by decide +kernel
theorem dX3_init_8 : decode cX3_init 8 = .ok (.dup, 1) := by decide +kernel
theorem dX3_init_9 : decode cX3_init 9 = .ok (.invokespecial 11, 3) := by decide +kernel
theorem dX3_init_12 : decode cX3_init 12 = .ok (.putfield 12, 3) := by decide +kernel
theorem dX3_init_15 : decode cX3_init 15 = .ok (.aload_n 0, 1) := by decide +kernel
theorem dX3_init_16 : decode cX3_init 16 = .ok (.new 18, 3) := by decide +kernel
theorem dX3_init_19 : decode cX3_init 19 = .ok (.dup, 1) := by decide +kernel
theorem dX3_init_20 : decode cX3_init 20 = .ok (.invokespecial 20, 3) := by decide +kernel
theorem dX3_init_23 : decode cX3_init 23 = .ok (.putfield 21, 3) := by decide +kernel
theorem dX3_init_26 : decode cX3_init 26 = .ok (.aload_n 0, 1) := by decide +kernel
theorem dX3_init_27 : decode cX3_init 27 = .ok (.new 25, 3) := by decide +kernel
theorem dX3_init_30 : decode cX3_init 30 = .ok (.dup, 1) := by decide +kernel
theorem dX3_init_31 : decode cX3_init 31 = .ok (.invokespecial 27, 3) := by decide +kernel
theorem dX3_init_34 : decode cX3_init 34 = .ok (.putfield 28, 3) := by decide +kernel
theorem dX3_init_37 : decode cX3_init 37 = .ok (.aload_n 0, 1) := by decide +kernel
theorem dX3_init_38 : decode cX3_init 38 = .ok (.new 32, 3) := by decide +kernel
theorem dX3_init_41 : decode cX3_init 41 = .ok (.dup, 1) := by decide +kernel
theorem dX3_init_42 : decode cX3_init 42 = .ok (.invokespecial 34, 3) := by decide +kernel
theorem dX3_init_45 : decode cX3_init 45 = .ok (.putfield 35, 3) := by decide +kernel
theorem dX3_init_48 : decode cX3_init 48 = .ok (.aload_n 0, 1) := by decide +kernel
theorem dX3_init_49 : decode cX3_init 49 = .ok (.new 39, 3) := by decide +kernel
theorem dX3_init_52 : decode cX3_init 52 = .ok (.dup, 1) := by decide +kernel
theorem dX3_init_53 : decode cX3_init 53 = .ok (.invokespecial 41, 3) := by decide +kernel
theorem dX3_init_56 : decode cX3_init 56 = .ok (.putfield 42, 3) := by decide +kernel
theorem dX3_init_59 : decode cX3_init 59 = .ok (.aload_n 0, 1) := by decide +kernel
theorem dX3_init_60 : decode cX3_init 60 = .ok (.sipush 1024, 3) := by decide +kernel
theorem dX3_init_63 : decode cX3_init 63 = .ok (.newarray .int, 2) := by decide +kernel
theorem dX3_init_65 : decode cX3_init 65 = .ok (.putfield 46, 3) := by decide +kernel
theorem dX3_init_68 : decode cX3_init 68 = .ok (.aload_n 0, 1) := by decide +kernel
theorem dX3_init_69 : decode cX3_init 69 = .ok (.sipush 4096, 3) := by decide +kernel
theorem dX3_init_72 : decode cX3_init 72 = .ok (.newarray .int, 2) := by decide +kernel
theorem dX3_init_74 : decode cX3_init 74 = .ok (.putfield 50, 3) := by decide +kernel
theorem dX3_init_77 : decode cX3_init 77 = .ok (.aload_n 0, 1) := by decide +kernel
theorem dX3_init_78 : decode cX3_init 78 = .ok (.sipush 512, 3) := by decide +kernel
theorem dX3_init_81 : decode cX3_init 81 = .ok (.newarray .int, 2) := by decide +kernel
theorem dX3_init_83 : decode cX3_init 83 = .ok (.putfield 53, 3) := by decide +kernel
theorem dX3_init_86 : decode cX3_init 86 = .ok (.aload_n 0, 1) := by decide +kernel
theorem dX3_init_87 : decode cX3_init 87 = .ok (.iconst 1, 1) := by decide +kernel
theorem dX3_init_88 : decode cX3_init 88 = .ok (.putfield 56, 3) := by decide +kernel
theorem dX3_init_91 : decode cX3_init 91 = .ok (.aload_n 0, 1) := by decide +kernel
theorem dX3_init_92 : decode cX3_init 92 = .ok (.getfield 50, 3) := by decide +kernel
theorem dX3_init_95 : decode cX3_init 95 = .ok (.iconst (-1), 1) := by decide +kernel
theorem dX3_init_96 : decode cX3_init 96 = .ok (.invokestatic 60, 3) := by decide +kernel
theorem dX3_init_99 : decode cX3_init 99 = .ok (.return_, 1) := by decide +kernel
theorem dX3_storeByte_0 : decode cX3_storeByte 0 = .ok (.aload_n 0, 1) := by decide +kernel
theorem dX3_storeByte_1 : decode cX3_storeByte 1 = .ok (.getfield 46, 3) := by decide +kernel
theorem dX3_storeByte_4 : decode cX3_storeByte 4 = .ok (.iload_n 1, 1) := by decide +kernel
theorem dX3_storeByte_5 : decode cX3_storeByte 5 = .ok (.sipush 1023, 3) := by decide +kernel
theorem dX3_storeByte_8 : decode cX3_storeByte 8 = .ok (.iand, 1) := by decide +kernel
theorem dX3_storeByte_9 : decode cX3_storeByte 9 = .ok (.iload_n 2, 1) := by decide +kernel
theorem dX3_storeByte_10 : decode cX3_storeByte 10 = .ok (.sipush 255, 3) := by decide +kernel
theorem dX3_storeByte_13 : decode cX3_storeByte 13 = .ok (.iand, 1) := by decide +kernel
theorem dX3_storeByte_14 : decode cX3_storeByte 14 = .ok (.iastore, 1) := by decide +kernel
theorem dX3_storeByte_15 : decode cX3_storeByte 15 = .ok (.return_, 1) := by decide +kernel
theorem dX3_isTaken_0 : decode cX3_isTaken 0 = .ok (.aload_n 0, 1) := by decide +kernel
theorem dX3_isTaken_1 : decode cX3_isTaken 1 = .ok (.getfield 56, 3) := by decide +kernel
theorem dX3_isTaken_4 : decode cX3_isTaken 4 = .ok (.ifCond .le 27, 3) := by decide +kernel
theorem dX3_isTaken_7 : decode cX3_isTaken 7 = .ok (.aload_n 0, 1) := by decide +kernel
theorem dX3_isTaken_8 : decode cX3_isTaken 8 = .ok (.getfield 66, 3) := by decide +kernel
theorem dX3_isTaken_11 : decode cX3_isTaken 11 = .ok (.aload_n 0, 1) := by decide +kernel
theorem dX3_isTaken_12 : decode cX3_isTaken 12 = .ok (.getfield 69, 3) := by decide +kernel
theorem dX3_isTaken_15 : decode cX3_isTaken 15 = .ok (.aload_n 0, 1) := by decide +kernel
theorem dX3_isTaken_16 : decode cX3_isTaken 16 = .ok (.getfield 56, 3) := by decide +kernel
theorem dX3_isTaken_19 : decode cX3_isTaken 19 = .ok (.irem, 1) := by decide +kernel
theorem dX3_isTaken_20 : decode cX3_isTaken 20 = .ok (.ishr, 1) := by decide +kernel
theorem dX3_isTaken_21 : decode cX3_isTaken 21 = .ok (.iconst 1, 1) := by decide +kernel
theorem dX3_isTaken_22 : decode cX3_isTaken 22 = .ok (.iand, 1) := by decide +kernel
theorem dX3_isTaken_23 : decode cX3_isTaken 23 = .ok (.iconst 1, 1) := by decide +kernel
theorem dX3_isTaken_24 : decode cX3_isTaken 24 = .ok (.if_icmp .ne 7, 3) := by decide +kernel
theorem dX3_isTaken_27 : decode cX3_isTaken 27 = .ok (.iconst 1, 1) := by decide +kernel
theorem dX3_isTaken_28 : decode cX3_isTaken 28 = .ok (.goto 4, 3) := by decide +kernel
theorem dX3_isTaken_31 : decode cX3_isTaken 31 = .ok (.iconst 0, 1) := by decide +kernel
theorem dX3_isTaken_32 : decode cX3_isTaken 32 = .ok (.ireturn, 1) := by decide +kernel
set_option maxRecDepth 20000 in
theorem ggX3_tick_X1_apply : GoodIn wsX3_tick wsX1_apply := goodIn_r _ [13, 14, 15, 16, 17, 18, 19, 20, 21, 22, 23, 24, 25, 26, 27, 28, 29, 30, 228, 229, 230, 231, 232, 233] (by decide +kernel) (by decide +kernel)
set_option maxRecDepth 20000 in
theorem gX3_tick_X1_apply : GoodIn wsX3_tick (wsV RX3 78 RX1 yX1_apply wsX1_apply) := goodIn_app (goodIn_of _ (by decide +kernel)) ggX3_tick_X1_apply
set_option maxRecDepth 20000 in
theorem ggX3_tick_X0_isBehindSeen : GoodIn wsX3_tick wsX0_isBehindSeen := goodIn_r _ [35, 36, 37, 38, 39, 221, 222, 223, 224, 225, 226, 227, 234, 235, 236, 237, 238, 239, 240] (by decide +kernel) (by decide +kernel)
set_option maxRecDepth 20000 in
theorem gX3_tick_X0_isBehindSeen : GoodIn wsX3_tick (wsV RX3 82 RX0 yX0_isBehindSeen wsX0_isBehindSeen) := goodIn_app (goodIn_of _ (by decide +kernel)) ggX3_tick_X0_isBehindSeen
set_option maxRecDepth 20000 in
theorem ggX3_tick_X3_turnToNextLine : GoodIn wsX3_tick wsX3_turnToNextLine := goodIn_r _ [44, 2, 45, 46, 47, 3, 48, 49, 50, 51, 34, 52, 53, 37, 54, 55, 56, 57, 58, 59, 60, 61, 62, 63, 64, 65, 66, 67, 68, 69, 70, 71, 72, 73, 74, 75, 76, 77, 78, 79, 80, 81, 82, 83, 84, 85, 86, 87, 88, 89, 90, 91, 43, 92, 93, 94, 95, 6, 96, 97, 98, 99, 100, 29, 101, 102, 103, 104, 105, 106, 107, 108, 109, 110, 111, 112, 113, 114, 115, 209, 210, 211, 212, 213, 214, 215, 216, 217, 218, 219, 220, 221, 222, 223, 224, 225, 226, 227, 234, 235, 236, 237, 238, 239, 240, 241, 242, 243, 244, 245, 246, 247, 248, 249, 250, 251] (by decide +kernel) (by decide +kernel)
set_option maxRecDepth 20000 in
theorem gX3_tick_X3_turnToNextLine : GoodIn wsX3_tick (wsV RX3 86 RX3 yX3_turnToNextLine wsX3_turnToNextLine) := goodIn_app (goodIn_of _ (by decide +kernel)) ggX3_tick_X3_turnToNextLine
set_option maxRecDepth 20000 in
theorem ggX3_tick_X2_wantsByte : GoodIn wsX3_tick wsX2_wantsByte := goodIn_r _ [119, 111, 120, 114, 115, 241, 242, 243, 244, 245, 246, 247, 248, 249, 250, 251] (by decide +kernel) (by decide +kernel)
set_option maxRecDepth 20000 in
theorem gX3_tick_X2_wantsByte : GoodIn wsX3_tick (wsV RX3 89 RX2 yX2_wantsByte wsX2_wantsByte) := goodIn_app (goodIn_of _ (by decide +kernel)) ggX3_tick_X2_wantsByte
set_option maxRecDepth 20000 in
theorem ggX3_tick_X3_isTaken : GoodIn wsX3_tick wsX3_isTaken := goodIn_r _ [124, 125, 126, 8, 209, 210, 211, 212, 213, 214, 215, 216, 217, 218, 219, 220] (by decide +kernel) (by decide +kernel)
set_option maxRecDepth 20000 in
theorem gX3_tick_X3_isTaken : GoodIn wsX3_tick (wsV RX3 92 RX3 yX3_isTaken wsX3_isTaken) := goodIn_app (goodIn_of _ (by decide +kernel)) ggX3_tick_X3_isTaken
set_option maxRecDepth 20000 in
theorem ggX3_tick_X3_fetchByte : GoodIn wsX3_tick wsX3_fetchByte := goodIn_r _ [130, 5, 6, 131, 132, 133, 134, 135, 136, 22, 137, 24, 28, 29, 30, 138, 139, 140, 109, 141, 142, 143, 111, 114, 144, 209, 210, 211, 212, 213, 214, 215, 216, 217, 218, 219, 220, 241, 242, 243, 244, 245, 246, 247, 248, 249, 250, 251, 233] (by decide +kernel) (by decide +kernel)
set_option maxRecDepth 20000 in
theorem gX3_tick_X3_fetchByte : GoodIn wsX3_tick (wsV RX3 95 RX3 yX3_fetchByte wsX3_fetchByte) := goodIn_app (goodIn_of _ (by decide +kernel)) ggX3_tick_X3_fetchByte
set_option maxRecDepth 20000 in
theorem ggX3_tick_X0_isOnDot : GoodIn wsX3_tick wsX0_isOnDot := goodIn_r _ [148, 37, 38, 36, 54, 53, 149, 97, 98, 58, 99, 60, 221, 222, 223, 224, 225, 226, 227, 234, 235, 236, 237, 238, 239, 240] (by decide +kernel) (by decide +kernel)
set_option maxRecDepth 20000 in
theorem gX3_tick_X0_isOnDot : GoodIn wsX3_tick (wsV RX3 98 RX0 yX0_isOnDot wsX0_isOnDot) := goodIn_app (goodIn_of _ (by decide +kernel)) ggX3_tick_X0_isOnDot
set_option maxRecDepth 20000 in
theorem ggX3_tick_X3_makeDot : GoodIn wsX3_tick wsX3_makeDot := goodIn_r _ [153, 2, 4, 6, 154, 155, 156, 157, 158, 159, 43, 160, 5, 134, 135, 136, 22, 137, 24, 28, 29, 30, 161, 162, 163, 109, 164, 112, 111, 165, 142, 143, 166, 167, 168, 169, 34, 170, 37, 53, 71, 171, 103, 104, 76, 105, 80, 172, 173, 174, 175, 176, 177, 178, 179, 180, 181, 182, 183, 184, 185, 186, 187, 188, 189, 190, 191, 192, 193, 194, 195, 209, 210, 211, 212, 213, 214, 215, 216, 217, 218, 219, 220, 221, 222, 223, 224, 225, 226, 227, 233, 241, 242, 243, 244, 245, 246, 247, 248, 249, 250, 251, 234, 235, 236, 252, 253, 254, 255, 256] (by decide +kernel) (by decide +kernel)
set_option maxRecDepth 20000 in
theorem gX3_tick_X3_makeDot : GoodIn wsX3_tick (wsV RX3 101 RX3 yX3_makeDot wsX3_makeDot) := goodIn_app (goodIn_of _ (by decide +kernel)) ggX3_tick_X3_makeDot
set_option maxRecDepth 20000 in
theorem ggX3_tick_X0_signalsHere : GoodIn wsX3_tick wsX0_signalsHere := goodIn_r _ [199, 37, 38, 36, 54, 53, 200, 201, 202, 58, 203, 60, 61, 62, 204, 146, 147, 34, 148, 149, 97, 98, 99, 221, 222, 223, 224, 225, 226, 227, 234, 235, 236, 237, 238, 239, 240] (by decide +kernel) (by decide +kernel)
set_option maxRecDepth 20000 in
theorem gX3_tick_X0_signalsHere : GoodIn wsX3_tick (wsV RX3 104 RX0 yX0_signalsHere wsX0_signalsHere) := goodIn_app (goodIn_of _ (by decide +kernel)) ggX3_tick_X0_signalsHere
set_option maxRecDepth 20000 in
theorem ggX3_tick_X0_goOn : GoodIn wsX3_tick wsX0_goOn := goodIn_r _ [208, 36, 37, 38, 53, 54, 72, 71, 68, 55, 56, 57, 58, 59, 60, 61, 62, 63, 73, 74, 75, 76, 77, 78, 79, 80, 81, 82, 83, 84, 85, 86, 87, 88, 221, 222, 223, 224, 225, 226, 227, 234, 235, 236, 237, 238, 239, 240] (by decide +kernel) (by decide +kernel)
set_option maxRecDepth 20000 in
theorem gX3_tick_X0_goOn : GoodIn wsX3_tick (wsV RX3 108 RX0 yX0_goOn wsX0_goOn) := goodIn_app (goodIn_of _ (by decide +kernel)) ggX3_tick_X0_goOn
theorem dX3_tick_0 : decode cX3_tick 0 = .ok (.aload_n 0, 1) := by decide +kernel
theorem dX3_tick_1 : decode cX3_tick 1 = .ok (.getfield 35, 3) := by decide +kernel
theorem dX3_tick_4 : decode cX3_tick 4 = .ok (.aload_n 0, 1) := by decide +kernel
theorem dX3_tick_5 : decode cX3_tick 5 = .ok (.getfield 12, 3) := by decide +kernel
theorem dX3_tick_8 : decode cX3_tick 8 = .ok (.getfield 72, 3) := by decide +kernel
theorem dX3_tick_11 : decode cX3_tick 11 = .ok (.aload_n 0, 1) := by decide +kernel
theorem dX3_tick_12 : decode cX3_tick 12 = .ok (.getfield 12, 3) := by decide +kernel
theorem dX3_tick_15 : decode cX3_tick 15 = .ok (.getfield 75, 3) := by decide +kernel
theorem dX3_tick_18 : decode cX3_tick 18 = .ok (.aload_n 0, 1) := by decide +kernel
theorem dX3_tick_19 : decode cX3_tick 19 = .ok (.getfield 28, 3) := by decide +kernel
theorem dX3_tick_22 : decode cX3_tick 22 = .ok (.invokevirtual 78, 3) := by decide +kernel
theorem dX3_tick_25 : decode cX3_tick 25 = .ok (.aload_n 0, 1) := by decide +kernel
theorem dX3_tick_26 : decode cX3_tick 26 = .ok (.getfield 12, 3) := by decide +kernel
theorem dX3_tick_29 : decode cX3_tick 29 = .ok (.invokevirtual 82, 3) := by decide +kernel
theorem dX3_tick_32 : decode cX3_tick 32 = .ok (.ifCond .eq 7, 3) := by decide +kernel
theorem dX3_tick_35 : decode cX3_tick 35 = .ok (.aload_n 0, 1) := by decide +kernel
theorem dX3_tick_36 : decode cX3_tick 36 = .ok (.invokevirtual 86, 3) := by decide +kernel
theorem dX3_tick_39 : decode cX3_tick 39 = .ok (.aload_n 0, 1) := by decide +kernel
theorem dX3_tick_40 : decode cX3_tick 40 = .ok (.getfield 21, 3) := by decide +kernel
theorem dX3_tick_43 : decode cX3_tick 43 = .ok (.invokevirtual 89, 3) := by decide +kernel
theorem dX3_tick_46 : decode cX3_tick 46 = .ok (.ifCond .eq 14, 3) := by decide +kernel
theorem dX3_tick_49 : decode cX3_tick 49 = .ok (.aload_n 0, 1) := by decide +kernel
theorem dX3_tick_50 : decode cX3_tick 50 = .ok (.invokevirtual 92, 3) := by decide +kernel
theorem dX3_tick_53 : decode cX3_tick 53 = .ok (.ifCond .ne 7, 3) := by decide +kernel
theorem dX3_tick_56 : decode cX3_tick 56 = .ok (.aload_n 0, 1) := by decide +kernel
theorem dX3_tick_57 : decode cX3_tick 57 = .ok (.invokevirtual 95, 3) := by decide +kernel
theorem dX3_tick_60 : decode cX3_tick 60 = .ok (.aload_n 0, 1) := by decide +kernel
theorem dX3_tick_61 : decode cX3_tick 61 = .ok (.getfield 12, 3) := by decide +kernel
theorem dX3_tick_64 : decode cX3_tick 64 = .ok (.invokevirtual 98, 3) := by decide +kernel
theorem dX3_tick_67 : decode cX3_tick 67 = .ok (.ifCond .eq 7, 3) := by decide +kernel
theorem dX3_tick_70 : decode cX3_tick 70 = .ok (.aload_n 0, 1) := by decide +kernel
theorem dX3_tick_71 : decode cX3_tick 71 = .ok (.invokevirtual 101, 3) := by decide +kernel
theorem dX3_tick_74 : decode cX3_tick 74 = .ok (.aload_n 0, 1) := by decide +kernel
theorem dX3_tick_75 : decode cX3_tick 75 = .ok (.getfield 53, 3) := by decide +kernel
theorem dX3_tick_78 : decode cX3_tick 78 = .ok (.aload_n 0, 1) := by decide +kernel
theorem dX3_tick_79 : decode cX3_tick 79 = .ok (.getfield 69, 3) := by decide +kernel
theorem dX3_tick_82 : decode cX3_tick 82 = .ok (.sipush 512, 3) := by decide +kernel
theorem dX3_tick_85 : decode cX3_tick 85 = .ok (.irem, 1) := by decide +kernel
theorem dX3_tick_86 : decode cX3_tick 86 = .ok (.aload_n 0, 1) := by decide +kernel
theorem dX3_tick_87 : decode cX3_tick 87 = .ok (.getfield 12, 3) := by decide +kernel
theorem dX3_tick_90 : decode cX3_tick 90 = .ok (.invokevirtual 104, 3) := by decide +kernel
theorem dX3_tick_93 : decode cX3_tick 93 = .ok (.iastore, 1) := by decide +kernel
theorem dX3_tick_94 : decode cX3_tick 94 = .ok (.aload_n 0, 1) := by decide +kernel
theorem dX3_tick_95 : decode cX3_tick 95 = .ok (.dup, 1) := by decide +kernel
theorem dX3_tick_96 : decode cX3_tick 96 = .ok (.getfield 69, 3) := by decide +kernel
theorem dX3_tick_99 : decode cX3_tick 99 = .ok (.iconst 1, 1) := by decide +kernel
theorem dX3_tick_100 : decode cX3_tick 100 = .ok (.iadd, 1) := by decide +kernel
theorem dX3_tick_101 : decode cX3_tick 101 = .ok (.putfield 69, 3) := by decide +kernel
theorem dX3_tick_104 : decode cX3_tick 104 = .ok (.aload_n 0, 1) := by decide +kernel
theorem dX3_tick_105 : decode cX3_tick 105 = .ok (.getfield 12, 3) := by decide +kernel
theorem dX3_tick_108 : decode cX3_tick 108 = .ok (.invokevirtual 108, 3) := by decide +kernel
theorem dX3_tick_111 : decode cX3_tick 111 = .ok (.return_, 1) := by decide +kernel
