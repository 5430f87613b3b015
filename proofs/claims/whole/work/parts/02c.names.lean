set_option maxRecDepth 20000 in
theorem ggX3_turnToNextLine_X0_isOnLastLine : GoodIn wsX3_turnToNextLine wsX0_isOnLastLine := goodIn_r _ [11, 12, 13, 14, 15, 16, 17, 18, 19, 20, 21, 22, 23, 91, 92, 93, 94, 95, 96, 97, 98, 99, 100, 101, 102, 103, 104] (by decide +kernel) (by decide +kernel)
set_option maxRecDepth 20000 in
theorem gX3_turnToNextLine_X0_isOnLastLine : GoodIn wsX3_turnToNextLine (wsV RX3 111 RX0 yX0_isOnLastLine wsX0_isOnLastLine) := goodIn_app (goodIn_of _ (by decide +kernel)) ggX3_turnToNextLine_X0_isOnLastLine
set_option maxRecDepth 20000 in
theorem ggX3_turnToNextLine_X0_takeUp : GoodIn wsX3_turnToNextLine wsX0_takeUp := goodIn_r _ [27, 28, 29, 13, 30, 31, 32, 33, 34, 35, 36, 37, 38, 39, 40, 41, 42, 43, 18, 44, 20, 21, 22, 23, 45, 46, 47, 48, 91, 92, 93, 94, 95, 96, 97, 98, 99, 100, 101, 102, 103, 104] (by decide +kernel) (by decide +kernel)
set_option maxRecDepth 20000 in
theorem gX3_turnToNextLine_X0_takeUp : GoodIn wsX3_turnToNextLine (wsV RX3 114 RX0 yX0_takeUp wsX0_takeUp) := goodIn_app (goodIn_of _ (by decide +kernel)) ggX3_turnToNextLine_X0_takeUp
set_option maxRecDepth 20000 in
theorem ggX3_turnToNextLine_X3_startFeed : GoodIn wsX3_turnToNextLine wsX3_startFeed := goodIn_r _ [53, 54, 55, 56, 57, 58, 59, 60, 18, 61, 20, 62, 63, 64, 65, 66, 67, 36, 68, 40, 69, 70, 71, 72, 73, 74, 75, 76, 77, 78, 98, 99, 100, 101, 102, 103, 104, 79, 80, 81, 82, 83, 84, 85, 86, 87, 88, 89, 90, 105, 106, 107, 108, 109, 110, 111, 112, 113, 114, 115] (by decide +kernel) (by decide +kernel)
set_option maxRecDepth 20000 in
theorem gX3_turnToNextLine_X3_startFeed : GoodIn wsX3_turnToNextLine (wsV RX3 124 RX3 yX3_startFeed wsX3_startFeed) := goodIn_app (goodIn_of _ (by decide +kernel)) ggX3_turnToNextLine_X3_startFeed
theorem dX3_turnToNextLine_0 : decode cX3_turnToNextLine 0 = .ok (.aload_n 0, 1) := by decide +kernel
theorem dX3_turnToNextLine_1 : decode cX3_turnToNextLine 1 = .ok (.getfield 12, 3) := by decide +kernel
theorem dX3_turnToNextLine_4 : decode cX3_turnToNextLine 4 = .ok (.invokevirtual 111, 3) := by decide +kernel
theorem dX3_turnToNextLine_7 : decode cX3_turnToNextLine 7 = .ok (.ifCond .eq 32, 3) := by decide +kernel
theorem dX3_turnToNextLine_10 : decode cX3_turnToNextLine 10 = .ok (.aload_n 0, 1) := by decide +kernel
theorem dX3_turnToNextLine_11 : decode cX3_turnToNextLine 11 = .ok (.getfield 12, 3) := by decide +kernel
theorem dX3_turnToNextLine_14 : decode cX3_turnToNextLine 14 = .ok (.invokevirtual 114, 3) := by decide +kernel
theorem dX3_turnToNextLine_17 : decode cX3_turnToNextLine 17 = .ok (.aload_n 0, 1) := by decide +kernel
theorem dX3_turnToNextLine_18 : decode cX3_turnToNextLine 18 = .ok (.aload_n 0, 1) := by decide +kernel
theorem dX3_turnToNextLine_19 : decode cX3_turnToNextLine 19 = .ok (.getfield 12, 3) := by decide +kernel
theorem dX3_turnToNextLine_22 : decode cX3_turnToNextLine 22 = .ok (.getfield 117, 3) := by decide +kernel
theorem dX3_turnToNextLine_25 : decode cX3_turnToNextLine 25 = .ok (.iconst 0, 1) := by decide +kernel
theorem dX3_turnToNextLine_26 : decode cX3_turnToNextLine 26 = .ok (.aload_n 0, 1) := by decide +kernel
theorem dX3_turnToNextLine_27 : decode cX3_turnToNextLine 27 = .ok (.getfield 12, 3) := by decide +kernel
theorem dX3_turnToNextLine_30 : decode cX3_turnToNextLine 30 = .ok (.getfield 121, 3) := by decide +kernel
theorem dX3_turnToNextLine_33 : decode cX3_turnToNextLine 33 = .ok (.invokevirtual 124, 3) := by decide +kernel
theorem dX3_turnToNextLine_36 : decode cX3_turnToNextLine 36 = .ok (.goto 30, 3) := by decide +kernel
theorem dX3_turnToNextLine_39 : decode cX3_turnToNextLine 39 = .ok (.aload_n 0, 1) := by decide +kernel
theorem dX3_turnToNextLine_40 : decode cX3_turnToNextLine 40 = .ok (.aload_n 0, 1) := by decide +kernel
theorem dX3_turnToNextLine_41 : decode cX3_turnToNextLine 41 = .ok (.getfield 12, 3) := by decide +kernel
theorem dX3_turnToNextLine_44 : decode cX3_turnToNextLine 44 = .ok (.getfield 128, 3) := by decide +kernel
theorem dX3_turnToNextLine_47 : decode cX3_turnToNextLine 47 = .ok (.aload_n 0, 1) := by decide +kernel
theorem dX3_turnToNextLine_48 : decode cX3_turnToNextLine 48 = .ok (.getfield 12, 3) := by decide +kernel
theorem dX3_turnToNextLine_51 : decode cX3_turnToNextLine 51 = .ok (.getfield 72, 3) := by decide +kernel
theorem dX3_turnToNextLine_54 : decode cX3_turnToNextLine 54 = .ok (.iconst 1, 1) := by decide +kernel
theorem dX3_turnToNextLine_55 : decode cX3_turnToNextLine 55 = .ok (.iadd, 1) := by decide +kernel
theorem dX3_turnToNextLine_56 : decode cX3_turnToNextLine 56 = .ok (.aload_n 0, 1) := by decide +kernel
theorem dX3_turnToNextLine_57 : decode cX3_turnToNextLine 57 = .ok (.getfield 12, 3) := by decide +kernel
theorem dX3_turnToNextLine_60 : decode cX3_turnToNextLine 60 = .ok (.getfield 131, 3) := by decide +kernel
theorem dX3_turnToNextLine_63 : decode cX3_turnToNextLine 63 = .ok (.invokevirtual 124, 3) := by decide +kernel
theorem dX3_turnToNextLine_66 : decode cX3_turnToNextLine 66 = .ok (.return_, 1) := by decide +kernel
set_option maxRecDepth 20000 in
theorem ggX3_startFeed_X6_isSeen : GoodIn wsX3_startFeed wsX6_isSeen := goodIn_r _ [9, 10, 33, 34, 35, 36] (by decide +kernel) (by decide +kernel)
set_option maxRecDepth 20000 in
theorem gX3_startFeed_X6_isSeen : GoodIn wsX3_startFeed (wsV RX3 140 RX6 yX6_isSeen wsX6_isSeen) := goodIn_app (goodIn_of _ (by decide +kernel)) ggX3_startFeed_X6_isSeen
set_option maxRecDepth 20000 in
theorem ggX3_startFeed_X8_bytesOfLine : GoodIn wsX3_startFeed wsX8_bytesOfLine := goodIn_r _ [13] (by decide +kernel) (by decide +kernel)
set_option maxRecDepth 20000 in
theorem gX3_startFeed_X8_bytesOfLine_n152 : GoodIn wsX3_startFeed (wsX8_bytesOfLine) := ggX3_startFeed_X8_bytesOfLine
set_option maxRecDepth 20000 in
theorem ggX3_startFeed_X4_rowOf : GoodIn wsX3_startFeed wsX4_rowOf := goodIn_r _ [18, 19, 30, 31, 32] (by decide +kernel) (by decide +kernel)
set_option maxRecDepth 20000 in
theorem gX3_startFeed_X4_rowOf : GoodIn wsX3_startFeed (wsV RX3 156 RX4 yX4_rowOf wsX4_rowOf) := goodIn_app (goodIn_of _ (by decide +kernel)) ggX3_startFeed_X4_rowOf
set_option maxRecDepth 20000 in
theorem ggX3_startFeed_X2_startLine : GoodIn wsX3_startFeed wsX2_startLine := goodIn_r _ [24, 25, 26, 27, 28, 29, 49, 50, 51, 52, 53, 54, 55, 56, 57, 58, 59] (by decide +kernel) (by decide +kernel)
set_option maxRecDepth 20000 in
theorem gX3_startFeed_X2_startLine : GoodIn wsX3_startFeed (wsV RX3 160 RX2 yX2_startLine wsX2_startLine) := goodIn_app (goodIn_of _ (by decide +kernel)) ggX3_startFeed_X2_startLine
theorem dX3_startFeed_0 : decode cX3_startFeed 0 = .ok (.aload_n 1, 1) := by decide +kernel
theorem dX3_startFeed_1 : decode cX3_startFeed 1 = .ok (.getfield 134, 3) := by decide +kernel
theorem dX3_startFeed_4 : decode cX3_startFeed 4 = .ok (.iload_n 2, 1) := by decide +kernel
theorem dX3_startFeed_5 : decode cX3_startFeed 5 = .ok (.invokevirtual 140, 3) := by decide +kernel
theorem dX3_startFeed_8 : decode cX3_startFeed 8 = .ok (.ifCond .eq 16, 3) := by decide +kernel
theorem dX3_startFeed_11 : decode cX3_startFeed 11 = .ok (.aload_n 1, 1) := by decide +kernel
theorem dX3_startFeed_12 : decode cX3_startFeed 12 = .ok (.getfield 146, 3) := by decide +kernel
theorem dX3_startFeed_15 : decode cX3_startFeed 15 = .ok (.getfield 149, 3) := by decide +kernel
theorem dX3_startFeed_18 : decode cX3_startFeed 18 = .ok (.invokestatic 152, 3) := by decide +kernel
theorem dX3_startFeed_21 : decode cX3_startFeed 21 = .ok (.goto 4, 3) := by decide +kernel
theorem dX3_startFeed_24 : decode cX3_startFeed 24 = .ok (.iconst 0, 1) := by decide +kernel
theorem dX3_startFeed_25 : decode cX3_startFeed 25 = .ok (.istore 4, 2) := by decide +kernel
theorem dX3_startFeed_27 : decode cX3_startFeed 27 = .ok (.aload_n 0, 1) := by decide +kernel
theorem dX3_startFeed_28 : decode cX3_startFeed 28 = .ok (.getfield 21, 3) := by decide +kernel
theorem dX3_startFeed_31 : decode cX3_startFeed 31 = .ok (.aload_n 1, 1) := by decide +kernel
theorem dX3_startFeed_32 : decode cX3_startFeed 32 = .ok (.iload_n 2, 1) := by decide +kernel
theorem dX3_startFeed_33 : decode cX3_startFeed 33 = .ok (.iload_n 3, 1) := by decide +kernel
theorem dX3_startFeed_34 : decode cX3_startFeed 34 = .ok (.invokevirtual 156, 3) := by decide +kernel
theorem dX3_startFeed_37 : decode cX3_startFeed 37 = .ok (.iload 4, 2) := by decide +kernel
theorem dX3_startFeed_39 : decode cX3_startFeed 39 = .ok (.invokevirtual 160, 3) := by decide +kernel
theorem dX3_startFeed_42 : decode cX3_startFeed 42 = .ok (.return_, 1) := by decide +kernel
set_option maxRecDepth 20000 in
theorem ggX3_fetchByte_X5_read : GoodIn wsX3_fetchByte wsX5_read := goodIn_r _ [10, 11, 12, 13, 14, 48] (by decide +kernel) (by decide +kernel)
set_option maxRecDepth 20000 in
theorem gX3_fetchByte_X5_read : GoodIn wsX3_fetchByte (wsV RX3 164 RX5 yX5_read wsX5_read) := goodIn_app (goodIn_of _ (by decide +kernel)) ggX3_fetchByte_X5_read
set_option maxRecDepth 20000 in
theorem ggX3_fetchByte_X2_append : GoodIn wsX3_fetchByte wsX2_append := goodIn_r _ [19, 20, 21, 22, 23, 24, 37, 38, 39, 40, 41, 42, 43, 44, 45, 46, 47] (by decide +kernel) (by decide +kernel)
set_option maxRecDepth 20000 in
theorem gX3_fetchByte_X2_append : GoodIn wsX3_fetchByte (wsV RX3 173 RX2 yX2_append wsX2_append) := goodIn_app (goodIn_of _ (by decide +kernel)) ggX3_fetchByte_X2_append
theorem dX3_fetchByte_0 : decode cX3_fetchByte 0 = .ok (.aload_n 0, 1) := by decide +kernel
theorem dX3_fetchByte_1 : decode cX3_fetchByte 1 = .ok (.getfield 28, 3) := by decide +kernel
theorem dX3_fetchByte_4 : decode cX3_fetchByte 4 = .ok (.iconst 0, 1) := by decide +kernel
theorem dX3_fetchByte_5 : decode cX3_fetchByte 5 = .ok (.invokevirtual 164, 3) := by decide +kernel
theorem dX3_fetchByte_8 : decode cX3_fetchByte 8 = .ok (.aload_n 0, 1) := by decide +kernel
theorem dX3_fetchByte_9 : decode cX3_fetchByte 9 = .ok (.getfield 28, 3) := by decide +kernel
theorem dX3_fetchByte_12 : decode cX3_fetchByte 12 = .ok (.iconst 1, 1) := by decide +kernel
theorem dX3_fetchByte_13 : decode cX3_fetchByte 13 = .ok (.invokevirtual 164, 3) := by decide +kernel
theorem dX3_fetchByte_16 : decode cX3_fetchByte 16 = .ok (.aload_n 0, 1) := by decide +kernel
theorem dX3_fetchByte_17 : decode cX3_fetchByte 17 = .ok (.getfield 21, 3) := by decide +kernel
theorem dX3_fetchByte_20 : decode cX3_fetchByte 20 = .ok (.getfield 167, 3) := by decide +kernel
theorem dX3_fetchByte_23 : decode cX3_fetchByte 23 = .ok (.imul, 1) := by decide +kernel
theorem dX3_fetchByte_24 : decode cX3_fetchByte 24 = .ok (.iadd, 1) := by decide +kernel
theorem dX3_fetchByte_25 : decode cX3_fetchByte 25 = .ok (.aload_n 0, 1) := by decide +kernel
theorem dX3_fetchByte_26 : decode cX3_fetchByte 26 = .ok (.getfield 21, 3) := by decide +kernel
theorem dX3_fetchByte_29 : decode cX3_fetchByte 29 = .ok (.getfield 170, 3) := by decide +kernel
theorem dX3_fetchByte_32 : decode cX3_fetchByte 32 = .ok (.iadd, 1) := by decide +kernel
theorem dX3_fetchByte_33 : decode cX3_fetchByte 33 = .ok (.istore_n 1, 1) := by decide +kernel
theorem dX3_fetchByte_34 : decode cX3_fetchByte 34 = .ok (.aload_n 0, 1) := by decide +kernel
theorem dX3_fetchByte_35 : decode cX3_fetchByte 35 = .ok (.getfield 21, 3) := by decide +kernel
theorem dX3_fetchByte_38 : decode cX3_fetchByte 38 = .ok (.aload_n 0, 1) := by decide +kernel
theorem dX3_fetchByte_39 : decode cX3_fetchByte 39 = .ok (.getfield 46, 3) := by decide +kernel
theorem dX3_fetchByte_42 : decode cX3_fetchByte 42 = .ok (.iload_n 1, 1) := by decide +kernel
theorem dX3_fetchByte_43 : decode cX3_fetchByte 43 = .ok (.sipush 1023, 3) := by decide +kernel
theorem dX3_fetchByte_46 : decode cX3_fetchByte 46 = .ok (.iand, 1) := by decide +kernel
theorem dX3_fetchByte_47 : decode cX3_fetchByte 47 = .ok (.iaload, 1) := by decide +kernel
theorem dX3_fetchByte_48 : decode cX3_fetchByte 48 = .ok (.invokevirtual 173, 3) := by decide +kernel
theorem dX3_fetchByte_51 : decode cX3_fetchByte 51 = .ok (.return_, 1) := by decide +kernel
set_option maxRecDepth 20000 in
theorem ggX3_makeDot_X3_takeScroll : GoodIn wsX3_makeDot wsX3_takeScroll := goodIn_r _ [11, 12, 3, 13, 14, 15, 16, 17, 18, 19, 20, 21, 22, 23, 24, 25, 26, 27, 28, 29, 30, 31, 32, 71, 72, 73, 74, 75, 76, 77, 78, 79, 80, 81, 82, 90, 91, 92, 93, 94, 95, 96, 97, 98, 99, 100, 101] (by decide +kernel) (by decide +kernel)
set_option maxRecDepth 20000 in
theorem gX3_makeDot_X3_takeScroll : GoodIn wsX3_makeDot (wsV RX3 177 RX3 yX3_takeScroll wsX3_takeScroll) := goodIn_app (goodIn_of _ (by decide +kernel)) ggX3_makeDot_X3_takeScroll
set_option maxRecDepth 20000 in
theorem ggX3_makeDot_X2_takeBit : GoodIn wsX3_makeDot wsX2_takeBit := goodIn_r _ [26, 27, 28, 29, 30, 31, 32, 91, 92, 93, 94, 95, 96, 97, 98, 99, 100, 101] (by decide +kernel) (by decide +kernel)
set_option maxRecDepth 20000 in
theorem gX3_makeDot_X2_takeBit : GoodIn wsX3_makeDot (wsV RX3 180 RX2 yX2_takeBit wsX2_takeBit) := goodIn_app (goodIn_of _ (by decide +kernel)) ggX3_makeDot_X2_takeBit
set_option maxRecDepth 20000 in
theorem ggX3_makeDot_X0_rowHere : GoodIn wsX3_makeDot wsX0_rowHere := goodIn_r _ [37, 38, 39, 40, 41, 42, 43, 44, 45, 46, 83, 84, 85, 86, 87, 88, 89, 102, 103, 104] (by decide +kernel) (by decide +kernel)
set_option maxRecDepth 20000 in
theorem gX3_makeDot_X0_rowHere : GoodIn wsX3_makeDot (wsV RX3 183 RX0 yX0_rowHere wsX0_rowHere) := goodIn_app (goodIn_of _ (by decide +kernel)) ggX3_makeDot_X0_rowHere
set_option maxRecDepth 20000 in
theorem ggX3_makeDot_X8_placeOf : GoodIn wsX3_makeDot wsX8_placeOf := goodIn_r _ [48, 49, 19, 20, 21] (by decide +kernel) (by decide +kernel)
set_option maxRecDepth 20000 in
theorem gX3_makeDot_X8_placeOf_n186 : GoodIn wsX3_makeDot (wsX8_placeOf) := ggX3_makeDot_X8_placeOf
set_option maxRecDepth 20000 in
theorem ggX3_makeDot_X7_showing : GoodIn wsX3_makeDot wsX7_showing := goodIn_r _ [54, 55, 56, 57, 53, 58, 59, 60, 61, 62, 63, 64, 65, 66, 19, 20, 21, 105, 106, 107, 108, 109] (by decide +kernel) (by decide +kernel)
set_option maxRecDepth 20000 in
theorem gX3_makeDot_X7_showing : GoodIn wsX3_makeDot (wsV RX3 189 RX7 yX7_showing wsX7_showing) := goodIn_app (goodIn_of _ (by decide +kernel)) ggX3_makeDot_X7_showing
set_option maxRecDepth 20000 in
theorem ggX3_makeDot_X3_colourOf : GoodIn wsX3_makeDot wsX3_colourOf := goodIn_r _ [70, 12, 13, 14, 15, 16, 17, 18, 19, 20, 21, 71, 72, 73, 74, 75, 76, 77, 78, 79, 80, 81, 82, 90] (by decide +kernel) (by decide +kernel)
set_option maxRecDepth 20000 in
theorem gX3_makeDot_X3_colourOf : GoodIn wsX3_makeDot (wsV RX3 192 RX3 yX3_colourOf wsX3_colourOf) := goodIn_app (goodIn_of _ (by decide +kernel)) ggX3_makeDot_X3_colourOf
theorem dX3_makeDot_0 : decode cX3_makeDot 0 = .ok (.aload_n 0, 1) := by decide +kernel
theorem dX3_makeDot_1 : decode cX3_makeDot 1 = .ok (.getfield 12, 3) := by decide +kernel
theorem dX3_makeDot_4 : decode cX3_makeDot 4 = .ok (.getfield 75, 3) := by decide +kernel
theorem dX3_makeDot_7 : decode cX3_makeDot 7 = .ok (.ifCond .ne 7, 3) := by decide +kernel
theorem dX3_makeDot_10 : decode cX3_makeDot 10 = .ok (.aload_n 0, 1) := by decide +kernel
theorem dX3_makeDot_11 : decode cX3_makeDot 11 = .ok (.invokevirtual 177, 3) := by decide +kernel
theorem dX3_makeDot_14 : decode cX3_makeDot 14 = .ok (.aload_n 0, 1) := by decide +kernel
theorem dX3_makeDot_15 : decode cX3_makeDot 15 = .ok (.getfield 21, 3) := by decide +kernel
theorem dX3_makeDot_18 : decode cX3_makeDot 18 = .ok (.invokevirtual 180, 3) := by decide +kernel
theorem dX3_makeDot_21 : decode cX3_makeDot 21 = .ok (.istore_n 1, 1) := by decide +kernel
theorem dX3_makeDot_22 : decode cX3_makeDot 22 = .ok (.aload_n 0, 1) := by decide +kernel
theorem dX3_makeDot_23 : decode cX3_makeDot 23 = .ok (.getfield 12, 3) := by decide +kernel
theorem dX3_makeDot_26 : decode cX3_makeDot 26 = .ok (.invokevirtual 183, 3) := by decide +kernel
theorem dX3_makeDot_29 : decode cX3_makeDot 29 = .ok (.istore_n 2, 1) := by decide +kernel
theorem dX3_makeDot_30 : decode cX3_makeDot 30 = .ok (.aload_n 0, 1) := by decide +kernel
theorem dX3_makeDot_31 : decode cX3_makeDot 31 = .ok (.getfield 12, 3) := by decide +kernel
theorem dX3_makeDot_34 : decode cX3_makeDot 34 = .ok (.getfield 75, 3) := by decide +kernel
theorem dX3_makeDot_37 : decode cX3_makeDot 37 = .ok (.iload_n 2, 1) := by decide +kernel
theorem dX3_makeDot_38 : decode cX3_makeDot 38 = .ok (.invokestatic 186, 3) := by decide +kernel
theorem dX3_makeDot_41 : decode cX3_makeDot 41 = .ok (.istore_n 3, 1) := by decide +kernel
theorem dX3_makeDot_42 : decode cX3_makeDot 42 = .ok (.iload_n 3, 1) := by decide +kernel
theorem dX3_makeDot_43 : decode cX3_makeDot 43 = .ok (.iconst (-1), 1) := by decide +kernel
theorem dX3_makeDot_44 : decode cX3_makeDot 44 = .ok (.if_icmp .eq 46, 3) := by decide +kernel
theorem dX3_makeDot_47 : decode cX3_makeDot 47 = .ok (.aload_n 0, 1) := by decide +kernel
theorem dX3_makeDot_48 : decode cX3_makeDot 48 = .ok (.getfield 42, 3) := by decide +kernel
theorem dX3_makeDot_51 : decode cX3_makeDot 51 = .ok (.aload_n 0, 1) := by decide +kernel
theorem dX3_makeDot_52 : decode cX3_makeDot 52 = .ok (.getfield 12, 3) := by decide +kernel
theorem dX3_makeDot_55 : decode cX3_makeDot 55 = .ok (.getfield 75, 3) := by decide +kernel
theorem dX3_makeDot_58 : decode cX3_makeDot 58 = .ok (.iload_n 2, 1) := by decide +kernel
theorem dX3_makeDot_59 : decode cX3_makeDot 59 = .ok (.invokevirtual 189, 3) := by decide +kernel
theorem dX3_makeDot_62 : decode cX3_makeDot 62 = .ok (.istore 4, 2) := by decide +kernel
theorem dX3_makeDot_64 : decode cX3_makeDot 64 = .ok (.aload_n 0, 1) := by decide +kernel
theorem dX3_makeDot_65 : decode cX3_makeDot 65 = .ok (.getfield 50, 3) := by decide +kernel
theorem dX3_makeDot_68 : decode cX3_makeDot 68 = .ok (.iload_n 3, 1) := by decide +kernel
theorem dX3_makeDot_69 : decode cX3_makeDot 69 = .ok (.iload 4, 2) := by decide +kernel
theorem dX3_makeDot_71 : decode cX3_makeDot 71 = .ok (.iconst (-1), 1) := by decide +kernel
theorem dX3_makeDot_72 : decode cX3_makeDot 72 = .ok (.if_icmp .ne 11, 3) := by decide +kernel
theorem dX3_makeDot_75 : decode cX3_makeDot 75 = .ok (.aload_n 0, 1) := by decide +kernel
theorem dX3_makeDot_76 : decode cX3_makeDot 76 = .ok (.iload_n 1, 1) := by decide +kernel
theorem dX3_makeDot_77 : decode cX3_makeDot 77 = .ok (.invokevirtual 192, 3) := by decide +kernel
theorem dX3_makeDot_80 : decode cX3_makeDot 80 = .ok (.goto 9, 3) := by decide +kernel
theorem dX3_makeDot_83 : decode cX3_makeDot 83 = .ok (.sipush 256, 3) := by decide +kernel
theorem dX3_makeDot_86 : decode cX3_makeDot 86 = .ok (.iload 4, 2) := by decide +kernel
theorem dX3_makeDot_88 : decode cX3_makeDot 88 = .ok (.iadd, 1) := by decide +kernel
theorem dX3_makeDot_89 : decode cX3_makeDot 89 = .ok (.iastore, 1) := by decide +kernel
theorem dX3_makeDot_90 : decode cX3_makeDot 90 = .ok (.aload_n 0, 1) := by decide +kernel
theorem dX3_makeDot_91 : decode cX3_makeDot 91 = .ok (.dup, 1) := by decide +kernel
theorem dX3_makeDot_92 : decode cX3_makeDot 92 = .ok (.getfield 195, 3) := by decide +kernel
theorem dX3_makeDot_95 : decode cX3_makeDot 95 = .ok (.iconst 1, 1) := by decide +kernel
theorem dX3_makeDot_96 : decode cX3_makeDot 96 = .ok (.iadd, 1) := by decide +kernel
theorem dX3_makeDot_97 : decode cX3_makeDot 97 = .ok (.putfield 195, 3) := by decide +kernel
theorem dX3_makeDot_100 : decode cX3_makeDot 100 = .ok (.return_, 1) := by decide +kernel
set_option maxRecDepth 20000 in
theorem ggX3_takeScroll_X5_read : GoodIn wsX3_takeScroll wsX5_read := goodIn_r _ [7, 8, 9, 10, 11, 35] (by decide +kernel) (by decide +kernel)
set_option maxRecDepth 20000 in
theorem gX3_takeScroll_X5_read : GoodIn wsX3_takeScroll (wsV RX3 164 RX5 yX5_read wsX5_read) := goodIn_app (goodIn_of _ (by decide +kernel)) ggX3_takeScroll_X5_read
set_option maxRecDepth 20000 in
theorem ggX3_takeScroll_X2_takeBit : GoodIn wsX3_takeScroll wsX2_takeBit := goodIn_r _ [16, 17, 18, 19, 20, 21, 22, 36, 37, 38, 39, 40, 41, 42, 43, 44, 45, 46] (by decide +kernel) (by decide +kernel)
set_option maxRecDepth 20000 in
theorem gX3_takeScroll_X2_takeBit : GoodIn wsX3_takeScroll (wsV RX3 180 RX2 yX2_takeBit wsX2_takeBit) := goodIn_app (goodIn_of _ (by decide +kernel)) ggX3_takeScroll_X2_takeBit
theorem dX3_takeScroll_0 : decode cX3_takeScroll 0 = .ok (.aload_n 0, 1) := by decide +kernel
theorem dX3_takeScroll_1 : decode cX3_takeScroll 1 = .ok (.getfield 28, 3) := by decide +kernel
theorem dX3_takeScroll_4 : decode cX3_takeScroll 4 = .ok (.iconst 2, 1) := by decide +kernel
theorem dX3_takeScroll_5 : decode cX3_takeScroll 5 = .ok (.invokevirtual 164, 3) := by decide +kernel
theorem dX3_takeScroll_8 : decode cX3_takeScroll 8 = .ok (.istore_n 1, 1) := by decide +kernel
theorem dX3_takeScroll_9 : decode cX3_takeScroll 9 = .ok (.iconst 0, 1) := by decide +kernel
theorem dX3_takeScroll_10 : decode cX3_takeScroll 10 = .ok (.istore_n 2, 1) := by decide +kernel
theorem dX3_takeScroll_11 : decode cX3_takeScroll 11 = .ok (.iload_n 2, 1) := by decide +kernel
theorem dX3_takeScroll_12 : decode cX3_takeScroll 12 = .ok (.iload_n 1, 1) := by decide +kernel
theorem dX3_takeScroll_13 : decode cX3_takeScroll 13 = .ok (.if_icmp .ge 21, 3) := by decide +kernel
theorem dX3_takeScroll_16 : decode cX3_takeScroll 16 = .ok (.aload_n 0, 1) := by decide +kernel
theorem dX3_takeScroll_17 : decode cX3_takeScroll 17 = .ok (.getfield 21, 3) := by decide +kernel
theorem dX3_takeScroll_20 : decode cX3_takeScroll 20 = .ok (.invokevirtual 180, 3) := by decide +kernel
theorem dX3_takeScroll_23 : decode cX3_takeScroll 23 = .ok (.iconst (-1), 1) := by decide +kernel
theorem dX3_takeScroll_24 : decode cX3_takeScroll 24 = .ok (.if_icmp .ne 4, 3) := by decide +kernel
theorem dX3_takeScroll_27 : decode cX3_takeScroll 27 = .ok (.return_, 1) := by decide +kernel
theorem dX3_takeScroll_28 : decode cX3_takeScroll 28 = .ok (.iinc 2 1, 3) := by decide +kernel
theorem dX3_takeScroll_31 : decode cX3_takeScroll 31 = .ok (.goto (-20), 3) := by decide +kernel
theorem dX3_takeScroll_34 : decode cX3_takeScroll 34 = .ok (.return_, 1) := by decide +kernel
set_option maxRecDepth 20000 in
theorem ggX3_colourOf_X5_read : GoodIn wsX3_colourOf wsX5_read := goodIn_r _ [6, 7, 8, 9, 10, 23] (by decide +kernel) (by decide +kernel)
set_option maxRecDepth 20000 in
theorem gX3_colourOf_X5_read : GoodIn wsX3_colourOf (wsV RX3 164 RX5 yX5_read wsX5_read) := goodIn_app (goodIn_of _ (by decide +kernel)) ggX3_colourOf_X5_read
theorem dX3_colourOf_0 : decode cX3_colourOf 0 = .ok (.iload_n 1, 1) := by decide +kernel
theorem dX3_colourOf_1 : decode cX3_colourOf 1 = .ok (.iconst (-1), 1) := by decide +kernel
theorem dX3_colourOf_2 : decode cX3_colourOf 2 = .ok (.if_icmp .ne 7, 3) := by decide +kernel
theorem dX3_colourOf_5 : decode cX3_colourOf 5 = .ok (.sipush 512, 3) := by decide +kernel
theorem dX3_colourOf_8 : decode cX3_colourOf 8 = .ok (.ireturn, 1) := by decide +kernel
theorem dX3_colourOf_9 : decode cX3_colourOf 9 = .ok (.aload_n 0, 1) := by decide +kernel
theorem dX3_colourOf_10 : decode cX3_colourOf 10 = .ok (.getfield 28, 3) := by decide +kernel
theorem dX3_colourOf_13 : decode cX3_colourOf 13 = .ok (.iload_n 1, 1) := by decide +kernel
theorem dX3_colourOf_14 : decode cX3_colourOf 14 = .ok (.iconst 1, 1) := by decide +kernel
theorem dX3_colourOf_15 : decode cX3_colourOf 15 = .ok (.if_icmp .ne 7, 3) := by decide +kernel
theorem dX3_colourOf_18 : decode cX3_colourOf 18 = .ok (.iconst 3, 1) := by decide +kernel
theorem dX3_colourOf_19 : decode cX3_colourOf 19 = .ok (.goto 4, 3) := by decide +kernel
theorem dX3_colourOf_22 : decode cX3_colourOf 22 = .ok (.iconst 4, 1) := by decide +kernel
theorem dX3_colourOf_23 : decode cX3_colourOf 23 = .ok (.invokevirtual 164, 3) := by decide +kernel
theorem dX3_colourOf_26 : decode cX3_colourOf 26 = .ok (.ireturn, 1) := by decide +kernel
set_option maxRecDepth 20000 in
theorem ggX3_copyFrom_X0_copyFrom : GoodIn wsX3_copyFrom wsX0_copyFrom := goodIn_r _ [21, 22, 23, 24, 25, 26, 27, 28, 29, 30, 31, 32, 33, 34, 35, 36, 37, 38, 39, 40, 41, 42, 43, 44, 45, 46, 47, 48, 49, 108, 109, 110, 111, 112, 113, 114, 115, 116, 117, 118, 119, 120, 121] (by decide +kernel) (by decide +kernel)
set_option maxRecDepth 20000 in
theorem gX3_copyFrom_X0_copyFrom : GoodIn wsX3_copyFrom (wsV RX3 198 RX0 yX0_copyFrom wsX0_copyFrom) := goodIn_app (goodIn_of _ (by decide +kernel)) ggX3_copyFrom_X0_copyFrom
set_option maxRecDepth 20000 in
theorem ggX3_copyFrom_X2_copyFrom : GoodIn wsX3_copyFrom wsX2_copyFrom := goodIn_r _ [54, 55, 56, 8, 9, 10, 57, 58, 59, 60, 61, 62, 63, 64, 65, 66, 122, 123, 124, 125, 126, 127, 128, 129, 130, 131, 132] (by decide +kernel) (by decide +kernel)
set_option maxRecDepth 20000 in
theorem gX3_copyFrom_X2_copyFrom : GoodIn wsX3_copyFrom (wsV RX3 202 RX2 yX2_copyFrom wsX2_copyFrom) := goodIn_app (goodIn_of _ (by decide +kernel)) ggX3_copyFrom_X2_copyFrom
set_option maxRecDepth 20000 in
theorem ggX3_copyFrom_X5_copyFrom : GoodIn wsX3_copyFrom wsX5_copyFrom := goodIn_r _ [71, 72, 73, 8, 9, 10, 133] (by decide +kernel) (by decide +kernel)
set_option maxRecDepth 20000 in
theorem gX3_copyFrom_X5_copyFrom : GoodIn wsX3_copyFrom (wsV RX3 205 RX5 yX5_copyFrom wsX5_copyFrom) := goodIn_app (goodIn_of _ (by decide +kernel)) ggX3_copyFrom_X5_copyFrom
set_option maxRecDepth 20000 in
theorem ggX3_copyFrom_X1_copyFrom : GoodIn wsX3_copyFrom wsX1_copyFrom := goodIn_r _ [78, 79, 80, 8, 9, 10, 81, 82, 83, 84, 134, 135, 136, 137, 138] (by decide +kernel) (by decide +kernel)
set_option maxRecDepth 20000 in
theorem gX3_copyFrom_X1_copyFrom : GoodIn wsX3_copyFrom (wsV RX3 208 RX1 yX1_copyFrom wsX1_copyFrom) := goodIn_app (goodIn_of _ (by decide +kernel)) ggX3_copyFrom_X1_copyFrom
set_option maxRecDepth 20000 in
theorem ggX3_copyFrom_X7_copyFrom : GoodIn wsX3_copyFrom wsX7_copyFrom := goodIn_r _ [89, 90, 91, 8, 9, 10, 92, 93, 94, 95, 139, 140, 141, 142, 143] (by decide +kernel) (by decide +kernel)
set_option maxRecDepth 20000 in
theorem gX3_copyFrom_X7_copyFrom : GoodIn wsX3_copyFrom (wsV RX3 211 RX7 yX7_copyFrom wsX7_copyFrom) := goodIn_app (goodIn_of _ (by decide +kernel)) ggX3_copyFrom_X7_copyFrom
theorem dX3_copyFrom_0 : decode cX3_copyFrom 0 = .ok (.aload_n 0, 1) := by decide +kernel
theorem dX3_copyFrom_1 : decode cX3_copyFrom 1 = .ok (.getfield 12, 3) := by decide +kernel
theorem dX3_copyFrom_4 : decode cX3_copyFrom 4 = .ok (.aload_n 1, 1) := by decide +kernel
theorem dX3_copyFrom_5 : decode cX3_copyFrom 5 = .ok (.getfield 12, 3) := by decide +kernel
theorem dX3_copyFrom_8 : decode cX3_copyFrom 8 = .ok (.invokevirtual 198, 3) := by decide +kernel
theorem dX3_copyFrom_11 : decode cX3_copyFrom 11 = .ok (.aload_n 0, 1) := by decide +kernel
theorem dX3_copyFrom_12 : decode cX3_copyFrom 12 = .ok (.getfield 21, 3) := by decide +kernel
theorem dX3_copyFrom_15 : decode cX3_copyFrom 15 = .ok (.aload_n 1, 1) := by decide +kernel
theorem dX3_copyFrom_16 : decode cX3_copyFrom 16 = .ok (.getfield 21, 3) := by decide +kernel
theorem dX3_copyFrom_19 : decode cX3_copyFrom 19 = .ok (.invokevirtual 202, 3) := by decide +kernel
theorem dX3_copyFrom_22 : decode cX3_copyFrom 22 = .ok (.aload_n 0, 1) := by decide +kernel
theorem dX3_copyFrom_23 : decode cX3_copyFrom 23 = .ok (.getfield 28, 3) := by decide +kernel
theorem dX3_copyFrom_26 : decode cX3_copyFrom 26 = .ok (.aload_n 1, 1) := by decide +kernel
theorem dX3_copyFrom_27 : decode cX3_copyFrom 27 = .ok (.getfield 28, 3) := by decide +kernel
theorem dX3_copyFrom_30 : decode cX3_copyFrom 30 = .ok (.invokevirtual 205, 3) := by decide +kernel
theorem dX3_copyFrom_33 : decode cX3_copyFrom 33 = .ok (.aload_n 0, 1) := by decide +kernel
theorem dX3_copyFrom_34 : decode cX3_copyFrom 34 = .ok (.getfield 35, 3) := by decide +kernel
theorem dX3_copyFrom_37 : decode cX3_copyFrom 37 = .ok (.aload_n 1, 1) := by decide +kernel
theorem dX3_copyFrom_38 : decode cX3_copyFrom 38 = .ok (.getfield 35, 3) := by decide +kernel
theorem dX3_copyFrom_41 : decode cX3_copyFrom 41 = .ok (.invokevirtual 208, 3) := by decide +kernel
theorem dX3_copyFrom_44 : decode cX3_copyFrom 44 = .ok (.aload_n 0, 1) := by decide +kernel
theorem dX3_copyFrom_45 : decode cX3_copyFrom 45 = .ok (.getfield 42, 3) := by decide +kernel
theorem dX3_copyFrom_48 : decode cX3_copyFrom 48 = .ok (.aload_n 1, 1) := by decide +kernel
theorem dX3_copyFrom_49 : decode cX3_copyFrom 49 = .ok (.getfield 42, 3) := by decide +kernel
theorem dX3_copyFrom_52 : decode cX3_copyFrom 52 = .ok (.invokevirtual 211, 3) := by decide +kernel
theorem dX3_copyFrom_55 : decode cX3_copyFrom 55 = .ok (.aload_n 1, 1) := by decide +kernel
theorem dX3_copyFrom_56 : decode cX3_copyFrom 56 = .ok (.getfield 46, 3) := by decide +kernel
theorem dX3_copyFrom_59 : decode cX3_copyFrom 59 = .ok (.iconst 0, 1) := by decide +kernel
theorem dX3_copyFrom_60 : decode cX3_copyFrom 60 = .ok (.aload_n 0, 1) := by decide +kernel
theorem dX3_copyFrom_61 : decode cX3_copyFrom 61 = .ok (.getfield 46, 3) := by decide +kernel
theorem dX3_copyFrom_64 : decode cX3_copyFrom 64 = .ok (.iconst 0, 1) := by decide +kernel
theorem dX3_copyFrom_65 : decode cX3_copyFrom 65 = .ok (.sipush 1024, 3) := by decide +kernel
theorem dX3_copyFrom_68 : decode cX3_copyFrom 68 = .ok (.invokestatic 214, 3) := by decide +kernel
theorem dX3_copyFrom_71 : decode cX3_copyFrom 71 = .ok (.aload_n 1, 1) := by decide +kernel
theorem dX3_copyFrom_72 : decode cX3_copyFrom 72 = .ok (.getfield 50, 3) := by decide +kernel
theorem dX3_copyFrom_75 : decode cX3_copyFrom 75 = .ok (.iconst 0, 1) := by decide +kernel
theorem dX3_copyFrom_76 : decode cX3_copyFrom 76 = .ok (.aload_n 0, 1) := by decide +kernel
theorem dX3_copyFrom_77 : decode cX3_copyFrom 77 = .ok (.getfield 50, 3) := by decide +kernel
theorem dX3_copyFrom_80 : decode cX3_copyFrom 80 = .ok (.iconst 0, 1) := by decide +kernel
theorem dX3_copyFrom_81 : decode cX3_copyFrom 81 = .ok (.aload_n 0, 1) := by decide +kernel
theorem dX3_copyFrom_82 : decode cX3_copyFrom 82 = .ok (.getfield 50, 3) := by decide +kernel
theorem dX3_copyFrom_85 : decode cX3_copyFrom 85 = .ok (.arraylength, 1) := by decide +kernel
theorem dX3_copyFrom_86 : decode cX3_copyFrom 86 = .ok (.invokestatic 214, 3) := by decide +kernel
theorem dX3_copyFrom_89 : decode cX3_copyFrom 89 = .ok (.aload_n 1, 1) := by decide +kernel
theorem dX3_copyFrom_90 : decode cX3_copyFrom 90 = .ok (.getfield 53, 3) := by decide +kernel
theorem dX3_copyFrom_93 : decode cX3_copyFrom 93 = .ok (.iconst 0, 1) := by decide +kernel
theorem dX3_copyFrom_94 : decode cX3_copyFrom 94 = .ok (.aload_n 0, 1) := by decide +kernel
theorem dX3_copyFrom_95 : decode cX3_copyFrom 95 = .ok (.getfield 53, 3) := by decide +kernel
theorem dX3_copyFrom_98 : decode cX3_copyFrom 98 = .ok (.iconst 0, 1) := by decide +kernel
theorem dX3_copyFrom_99 : decode cX3_copyFrom 99 = .ok (.sipush 512, 3) := by decide +kernel
theorem dX3_copyFrom_102 : decode cX3_copyFrom 102 = .ok (.invokestatic 214, 3) := by decide +kernel
theorem dX3_copyFrom_105 : decode cX3_copyFrom 105 = .ok (.aload_n 0, 1) := by decide +kernel
theorem dX3_copyFrom_106 : decode cX3_copyFrom 106 = .ok (.aload_n 1, 1) := by decide +kernel
theorem dX3_copyFrom_107 : decode cX3_copyFrom 107 = .ok (.getfield 56, 3) := by decide +kernel
theorem dX3_copyFrom_110 : decode cX3_copyFrom 110 = .ok (.putfield 56, 3) := by decide +kernel
theorem dX3_copyFrom_113 : decode cX3_copyFrom 113 = .ok (.aload_n 0, 1) := by decide +kernel
theorem dX3_copyFrom_114 : decode cX3_copyFrom 114 = .ok (.aload_n 1, 1) := by decide +kernel
theorem dX3_copyFrom_115 : decode cX3_copyFrom 115 = .ok (.getfield 66, 3) := by decide +kernel
theorem dX3_copyFrom_118 : decode cX3_copyFrom 118 = .ok (.putfield 66, 3) := by decide +kernel
theorem dX3_copyFrom_121 : decode cX3_copyFrom 121 = .ok (.aload_n 0, 1) := by decide +kernel
theorem dX3_copyFrom_122 : decode cX3_copyFrom 122 = .ok (.aload_n 1, 1) := by decide +kernel
theorem dX3_copyFrom_123 : decode cX3_copyFrom 123 = .ok (.getfield 69, 3) := by decide +kernel
theorem dX3_copyFrom_126 : decode cX3_copyFrom 126 = .ok (.putfield 69, 3) := by decide +kernel
theorem dX3_copyFrom_129 : decode cX3_copyFrom 129 = .ok (.aload_n 0, 1) := by decide +kernel
theorem dX3_copyFrom_130 : decode cX3_copyFrom 130 = .ok (.aload_n 1, 1) := by decide +kernel
theorem dX3_copyFrom_131 : decode cX3_copyFrom 131 = .ok (.getfield 195, 3) := by decide +kernel
theorem dX3_copyFrom_134 : decode cX3_copyFrom 134 = .ok (.putfield 195, 3) := by decide +kernel
theorem dX3_copyFrom_137 : decode cX3_copyFrom 137 = .ok (.return_, 1) := by decide +kernel
set_option maxRecDepth 20000 in
theorem ggX4_init_X6_init : GoodIn wsX4_init wsX6_init := goodIn_r _ [11, 12, 2, 3, 13, 14, 15, 16, 17, 18, 19, 20] (by decide +kernel) (by decide +kernel)
set_option maxRecDepth 20000 in
theorem gX4_init_X6_init : GoodIn wsX4_init (wsX6_init) := ggX4_init_X6_init
theorem dX4_init_0 : decode cX4_init 0 = .ok (.aload_n 0, 1) := by decide +kernel
theorem dX4_init_1 : decode cX4_init 1 = .ok (.invokespecial 1, 3) := by decide +kernel
theorem dX4_init_4 : decode cX4_init 4 = .ok (.aload_n 0, 1) := by decide +kernel
theorem dX4_init_5 : decode cX4_init 5 = .ok (.new 7, 3) := by decide +kernel
theorem dX4_init_8 : decode cX4_init 8 = .ok (.dup, 1) := by decide +kernel
theorem dX4_init_9 : decode cX4_init 9 = .ok (.bipush 16, 2) := by decide +kernel
theorem dX4_init_11 : decode cX4_init 11 = .ok (.iconst 2, 1) := by decide +kernel
theorem dX4_init_12 : decode cX4_init 12 = .ok (.iconst 3, 1) := by decide +kernel
theorem dX4_init_13 : decode cX4_init 13 = .ok (.iconst 3, 1) := by decide +kernel
theorem dX4_init_14 : decode cX4_init 14 = .ok (.invokespecial 9, 3) := by decide +kernel
theorem dX4_init_17 : decode cX4_init 17 = .ok (.putfield 12, 3) := by decide +kernel
theorem dX4_init_20 : decode cX4_init 20 = .ok (.aload_n 0, 1) := by decide +kernel
theorem dX4_init_21 : decode cX4_init 21 = .ok (.new 7, 3) := by decide +kernel
theorem dX4_init_24 : decode cX4_init 24 = .ok (.dup, 1) := by decide +kernel
theorem dX4_init_25 : decode cX4_init 25 = .ok (.bipush 8, 2) := by decide +kernel
theorem dX4_init_27 : decode cX4_init 27 = .ok (.iconst 1, 1) := by decide +kernel
theorem dX4_init_28 : decode cX4_init 28 = .ok (.iconst 1, 1) := by decide +kernel
theorem dX4_init_29 : decode cX4_init 29 = .ok (.iconst 1, 1) := by decide +kernel
theorem dX4_init_30 : decode cX4_init 30 = .ok (.invokespecial 9, 3) := by decide +kernel
theorem dX4_init_33 : decode cX4_init 33 = .ok (.putfield 18, 3) := by decide +kernel
theorem dX4_init_36 : decode cX4_init 36 = .ok (.return_, 1) := by decide +kernel
theorem dX4_rowOf_0 : decode cX4_rowOf 0 = .ok (.aload_n 0, 1) := by decide +kernel
theorem dX4_rowOf_1 : decode cX4_rowOf 1 = .ok (.getfield 21, 3) := by decide +kernel
theorem dX4_rowOf_4 : decode cX4_rowOf 4 = .ok (.ifCond .eq 11, 3) := by decide +kernel
theorem dX4_rowOf_7 : decode cX4_rowOf 7 = .ok (.iconst 2, 1) := by decide +kernel
theorem dX4_rowOf_8 : decode cX4_rowOf 8 = .ok (.iload_n 1, 1) := by decide +kernel
theorem dX4_rowOf_9 : decode cX4_rowOf 9 = .ok (.imul, 1) := by decide +kernel
theorem dX4_rowOf_10 : decode cX4_rowOf 10 = .ok (.iload_n 2, 1) := by decide +kernel
theorem dX4_rowOf_11 : decode cX4_rowOf 11 = .ok (.iadd, 1) := by decide +kernel
theorem dX4_rowOf_12 : decode cX4_rowOf 12 = .ok (.goto 4, 3) := by decide +kernel
theorem dX4_rowOf_15 : decode cX4_rowOf 15 = .ok (.iload_n 1, 1) := by decide +kernel
theorem dX4_rowOf_16 : decode cX4_rowOf 16 = .ok (.ireturn, 1) := by decide +kernel
set_option maxRecDepth 20000 in
theorem ggX4_copyFrom_X6_copyFrom : GoodIn wsX4_copyFrom wsX6_copyFrom := goodIn_r _ [8, 9, 10, 11, 12, 13, 14, 15, 7, 16, 20, 21, 22, 23] (by decide +kernel) (by decide +kernel)
set_option maxRecDepth 20000 in
theorem gX4_copyFrom_X6_copyFrom : GoodIn wsX4_copyFrom (wsV RX4 25 RX6 yX6_copyFrom wsX6_copyFrom) := goodIn_app (goodIn_of _ (by decide +kernel)) ggX4_copyFrom_X6_copyFrom
theorem dX4_copyFrom_0 : decode cX4_copyFrom 0 = .ok (.aload_n 0, 1) := by decide +kernel
theorem dX4_copyFrom_1 : decode cX4_copyFrom 1 = .ok (.getfield 12, 3) := by decide +kernel
theorem dX4_copyFrom_4 : decode cX4_copyFrom 4 = .ok (.aload_n 1, 1) := by decide +kernel
theorem dX4_copyFrom_5 : decode cX4_copyFrom 5 = .ok (.getfield 12, 3) := by decide +kernel
theorem dX4_copyFrom_8 : decode cX4_copyFrom 8 = .ok (.invokevirtual 25, 3) := by decide +kernel
theorem dX4_copyFrom_11 : decode cX4_copyFrom 11 = .ok (.aload_n 0, 1) := by decide +kernel
theorem dX4_copyFrom_12 : decode cX4_copyFrom 12 = .ok (.getfield 18, 3) := by decide +kernel
theorem dX4_copyFrom_15 : decode cX4_copyFrom 15 = .ok (.aload_n 1, 1) := by decide +kernel
theorem dX4_copyFrom_16 : decode cX4_copyFrom 16 = .ok (.getfield 18, 3) := by decide +kernel
theorem dX4_copyFrom_19 : decode cX4_copyFrom 19 = .ok (.invokevirtual 25, 3) := by decide +kernel
theorem dX4_copyFrom_22 : decode cX4_copyFrom 22 = .ok (.aload_n 0, 1) := by decide +kernel
theorem dX4_copyFrom_23 : decode cX4_copyFrom 23 = .ok (.aload_n 1, 1) := by decide +kernel
theorem dX4_copyFrom_24 : decode cX4_copyFrom 24 = .ok (.getfield 21, 3) := by decide +kernel
theorem dX4_copyFrom_27 : decode cX4_copyFrom 27 = .ok (.putfield 21, 3) := by decide +kernel
theorem dX4_copyFrom_30 : decode cX4_copyFrom 30 = .ok (.return_, 1) := by decide +kernel
theorem dX5_init_0 : decode cX5_init 0 = .ok (.aload_n 0, 1) := by decide +kernel
theorem dX5_init_1 : decode cX5_init 1 = .ok (.invokespecial 3, 3) := by decide +kernel
theorem dX5_init_4 : decode cX5_init 4 = .ok (.aload_n 0, 1) := by decide +kernel
theorem dX5_init_5 : decode cX5_init 5 = .ok (.iconst 5, 1) := by decide +kernel
theorem dX5_init_6 : decode cX5_init 6 = .ok (.newarray .int, 2) := by decide +kernel
theorem dX5_init_8 : decode cX5_init 8 = .ok (.dup, 1) := by decide +kernel
theorem dX5_init_9 : decode cX5_init 9 = .ok (.iconst 0, 1) := by decide +kernel
theorem dX5_init_10 : decode cX5_init 10 = .ok (.iconst 0, 1) := by decide +kernel
theorem dX5_init_11 : decode cX5_init 11 = .ok (.iastore, 1) := by decide +kernel
theorem dX5_init_12 : decode cX5_init 12 = .ok (.dup, 1) := by decide +kernel
theorem dX5_init_13 : decode cX5_init 13 = .ok (.iconst 1, 1) := by decide +kernel
theorem dX5_init_14 : decode cX5_init 14 = .ok (.bipush 8, 2) := by decide +kernel
theorem dX5_init_16 : decode cX5_init 16 = .ok (.iastore, 1) := by decide +kernel
theorem dX5_init_17 : decode cX5_init 17 = .ok (.dup, 1) := by decide +kernel
theorem dX5_init_18 : decode cX5_init 18 = .ok (.iconst 2, 1) := by decide +kernel
theorem dX5_init_19 : decode cX5_init 19 = .ok (.iconst 0, 1) := by decide +kernel
theorem dX5_init_20 : decode cX5_init 20 = .ok (.iastore, 1) := by decide +kernel
theorem dX5_init_21 : decode cX5_init 21 = .ok (.dup, 1) := by decide +kernel
theorem dX5_init_22 : decode cX5_init 22 = .ok (.iconst 3, 1) := by decide +kernel
theorem dX5_init_23 : decode cX5_init 23 = .ok (.iconst 1, 1) := by decide +kernel
theorem dX5_init_24 : decode cX5_init 24 = .ok (.iastore, 1) := by decide +kernel
theorem dX5_init_25 : decode cX5_init 25 = .ok (.dup, 1) := by decide +kernel
theorem dX5_init_26 : decode cX5_init 26 = .ok (.iconst 4, 1) := by decide +kernel
theorem dX5_init_27 : decode cX5_init 27 = .ok (.iconst 0, 1) := by decide +kernel
theorem dX5_init_28 : decode cX5_init 28 = .ok (.iastore, 1) := by decide +kernel
theorem dX5_init_29 : decode cX5_init 29 = .ok (.putfield 9, 3) := by decide +kernel
theorem dX5_init_32 : decode cX5_init 32 = .ok (.return_, 1) := by decide +kernel
set_option maxRecDepth 20000 in
theorem ggX5_takes_X8_within : GoodIn wsX5_takes wsX8_within := goodIn_r _ [3] (by decide +kernel) (by decide +kernel)
set_option maxRecDepth 20000 in
theorem gX5_takes_X8_within_n18 : GoodIn wsX5_takes (wsX8_within) := ggX5_takes_X8_within
theorem dX5_takes_0 : decode cX5_takes 0 = .ok (.iload_n 0, 1) := by decide +kernel
theorem dX5_takes_1 : decode cX5_takes 1 = .ok (.iconst 0, 1) := by decide +kernel
theorem dX5_takes_2 : decode cX5_takes 2 = .ok (.getstatic 15, 3) := by decide +kernel
theorem dX5_takes_5 : decode cX5_takes 5 = .ok (.arraylength, 1) := by decide +kernel
theorem dX5_takes_6 : decode cX5_takes 6 = .ok (.iconst 1, 1) := by decide +kernel
theorem dX5_takes_7 : decode cX5_takes 7 = .ok (.isub, 1) := by decide +kernel
theorem dX5_takes_8 : decode cX5_takes 8 = .ok (.invokestatic 18, 3) := by decide +kernel
theorem dX5_takes_11 : decode cX5_takes 11 = .ok (.ifCond .eq 20, 3) := by decide +kernel
theorem dX5_takes_14 : decode cX5_takes 14 = .ok (.iload_n 1, 1) := by decide +kernel
theorem dX5_takes_15 : decode cX5_takes 15 = .ok (.iconst 0, 1) := by decide +kernel
theorem dX5_takes_16 : decode cX5_takes 16 = .ok (.getstatic 15, 3) := by decide +kernel
theorem dX5_takes_19 : decode cX5_takes 19 = .ok (.iload_n 0, 1) := by decide +kernel
theorem dX5_takes_20 : decode cX5_takes 20 = .ok (.iaload, 1) := by decide +kernel
theorem dX5_takes_21 : decode cX5_takes 21 = .ok (.invokestatic 18, 3) := by decide +kernel
theorem dX5_takes_24 : decode cX5_takes 24 = .ok (.ifCond .eq 7, 3) := by decide +kernel
theorem dX5_takes_27 : decode cX5_takes 27 = .ok (.iconst 1, 1) := by decide +kernel
theorem dX5_takes_28 : decode cX5_takes 28 = .ok (.goto 4, 3) := by decide +kernel
theorem dX5_takes_31 : decode cX5_takes 31 = .ok (.iconst 0, 1) := by decide +kernel
theorem dX5_takes_32 : decode cX5_takes 32 = .ok (.ireturn, 1) := by decide +kernel
set_option maxRecDepth 20000 in
theorem ggX5_change_X5_takes : GoodIn wsX5_change wsX5_takes := goodIn_r _ [5, 6, 7, 8] (by decide +kernel) (by decide +kernel)
set_option maxRecDepth 20000 in
theorem gX5_change_X5_takes : GoodIn wsX5_change (va_wsS RX5 22 yX5_takes wsX5_takes) := goodIn_app (goodIn_of _ (by decide +kernel)) ggX5_change_X5_takes
theorem dX5_change_0 : decode cX5_change 0 = .ok (.iload_n 1, 1) := by decide +kernel
theorem dX5_change_1 : decode cX5_change 1 = .ok (.iload_n 2, 1) := by decide +kernel
theorem dX5_change_2 : decode cX5_change 2 = .ok (.invokestatic 22, 3) := by decide +kernel
theorem dX5_change_5 : decode cX5_change 5 = .ok (.ifCond .ne 5, 3) := by decide +kernel
theorem dX5_change_8 : decode cX5_change 8 = .ok (.iconst 0, 1) := by decide +kernel
theorem dX5_change_9 : decode cX5_change 9 = .ok (.ireturn, 1) := by decide +kernel
theorem dX5_change_10 : decode cX5_change 10 = .ok (.aload_n 0, 1) := by decide +kernel
theorem dX5_change_11 : decode cX5_change 11 = .ok (.getfield 9, 3) := by decide +kernel
theorem dX5_change_14 : decode cX5_change 14 = .ok (.iload_n 1, 1) := by decide +kernel
theorem dX5_change_15 : decode cX5_change 15 = .ok (.iload_n 2, 1) := by decide +kernel
theorem dX5_change_16 : decode cX5_change 16 = .ok (.iastore, 1) := by decide +kernel
theorem dX5_change_17 : decode cX5_change 17 = .ok (.iconst 1, 1) := by decide +kernel
theorem dX5_change_18 : decode cX5_change 18 = .ok (.ireturn, 1) := by decide +kernel
set_option maxRecDepth 20000 in
theorem ggX5_read_X8_within : GoodIn wsX5_read wsX8_within := goodIn_r _ [4] (by decide +kernel) (by decide +kernel)
set_option maxRecDepth 20000 in
theorem gX5_read_X8_within_n18 : GoodIn wsX5_read (wsX8_within) := ggX5_read_X8_within
theorem dX5_read_0 : decode cX5_read 0 = .ok (.iload_n 1, 1) := by decide +kernel
theorem dX5_read_1 : decode cX5_read 1 = .ok (.iconst 0, 1) := by decide +kernel
theorem dX5_read_2 : decode cX5_read 2 = .ok (.aload_n 0, 1) := by decide +kernel
theorem dX5_read_3 : decode cX5_read 3 = .ok (.getfield 9, 3) := by decide +kernel
theorem dX5_read_6 : decode cX5_read 6 = .ok (.arraylength, 1) := by decide +kernel
theorem dX5_read_7 : decode cX5_read 7 = .ok (.iconst 1, 1) := by decide +kernel
theorem dX5_read_8 : decode cX5_read 8 = .ok (.isub, 1) := by decide +kernel
theorem dX5_read_9 : decode cX5_read 9 = .ok (.invokestatic 18, 3) := by decide +kernel
theorem dX5_read_12 : decode cX5_read 12 = .ok (.ifCond .eq 12, 3) := by decide +kernel
theorem dX5_read_15 : decode cX5_read 15 = .ok (.aload_n 0, 1) := by decide +kernel
theorem dX5_read_16 : decode cX5_read 16 = .ok (.getfield 9, 3) := by decide +kernel
theorem dX5_read_19 : decode cX5_read 19 = .ok (.iload_n 1, 1) := by decide +kernel
theorem dX5_read_20 : decode cX5_read 20 = .ok (.iaload, 1) := by decide +kernel
theorem dX5_read_21 : decode cX5_read 21 = .ok (.goto 4, 3) := by decide +kernel
theorem dX5_read_24 : decode cX5_read 24 = .ok (.iconst (-1), 1) := by decide +kernel
theorem dX5_read_25 : decode cX5_read 25 = .ok (.ireturn, 1) := by decide +kernel
theorem dX5_copyFrom_0 : decode cX5_copyFrom 0 = .ok (.aload_n 1, 1) := by decide +kernel
theorem dX5_copyFrom_1 : decode cX5_copyFrom 1 = .ok (.getfield 9, 3) := by decide +kernel
theorem dX5_copyFrom_4 : decode cX5_copyFrom 4 = .ok (.iconst 0, 1) := by decide +kernel
theorem dX5_copyFrom_5 : decode cX5_copyFrom 5 = .ok (.aload_n 0, 1) := by decide +kernel
theorem dX5_copyFrom_6 : decode cX5_copyFrom 6 = .ok (.getfield 9, 3) := by decide +kernel
theorem dX5_copyFrom_9 : decode cX5_copyFrom 9 = .ok (.iconst 0, 1) := by decide +kernel
theorem dX5_copyFrom_10 : decode cX5_copyFrom 10 = .ok (.aload_n 0, 1) := by decide +kernel
theorem dX5_copyFrom_11 : decode cX5_copyFrom 11 = .ok (.getfield 9, 3) := by decide +kernel
theorem dX5_copyFrom_14 : decode cX5_copyFrom 14 = .ok (.arraylength, 1) := by decide +kernel
theorem dX5_copyFrom_15 : decode cX5_copyFrom 15 = .ok (.invokestatic 26, 3) := by decide +kernel
theorem dX5_copyFrom_18 : decode cX5_copyFrom 18 = .ok (.return_, 1) := by decide +kernel
theorem dX6_init_0 : decode cX6_init 0 = .ok (.aload_n 0, 1) := by decide +kernel
theorem dX6_init_1 : decode cX6_init 1 = .ok (.invokespecial 1, 3) := by decide +kernel
theorem dX6_init_4 : decode cX6_init 4 = .ok (.aload_n 0, 1) := by decide +kernel
theorem dX6_init_5 : decode cX6_init 5 = .ok (.iload_n 1, 1) := by decide +kernel
theorem dX6_init_6 : decode cX6_init 6 = .ok (.putfield 7, 3) := by decide +kernel
theorem dX6_init_9 : decode cX6_init 9 = .ok (.aload_n 0, 1) := by decide +kernel
theorem dX6_init_10 : decode cX6_init 10 = .ok (.iload_n 2, 1) := by decide +kernel
theorem dX6_init_11 : decode cX6_init 11 = .ok (.putfield 13, 3) := by decide +kernel
theorem dX6_init_14 : decode cX6_init 14 = .ok (.aload_n 0, 1) := by decide +kernel
theorem dX6_init_15 : decode cX6_init 15 = .ok (.iload_n 3, 1) := by decide +kernel
theorem dX6_init_16 : decode cX6_init 16 = .ok (.putfield 16, 3) := by decide +kernel
theorem dX6_init_19 : decode cX6_init 19 = .ok (.aload_n 0, 1) := by decide +kernel
theorem dX6_init_20 : decode cX6_init 20 = .ok (.iload 4, 2) := by decide +kernel
theorem dX6_init_22 : decode cX6_init 22 = .ok (.putfield 19, 3) := by decide +kernel
theorem dX6_init_25 : decode cX6_init 25 = .ok (.return_, 1) := by decide +kernel
theorem dX6_tell_0 : decode cX6_tell 0 = .ok (.aload_n 0, 1) := by decide +kernel
theorem dX6_tell_1 : decode cX6_tell 1 = .ok (.iload_n 1, 1) := by decide +kernel
theorem dX6_tell_2 : decode cX6_tell 2 = .ok (.putfield 7, 3) := by decide +kernel
theorem dX6_tell_5 : decode cX6_tell 5 = .ok (.aload_n 0, 1) := by decide +kernel
theorem dX6_tell_6 : decode cX6_tell 6 = .ok (.iload_n 2, 1) := by decide +kernel
theorem dX6_tell_7 : decode cX6_tell 7 = .ok (.putfield 13, 3) := by decide +kernel
theorem dX6_tell_10 : decode cX6_tell 10 = .ok (.aload_n 0, 1) := by decide +kernel
theorem dX6_tell_11 : decode cX6_tell 11 = .ok (.iload_n 3, 1) := by decide +kernel
theorem dX6_tell_12 : decode cX6_tell 12 = .ok (.putfield 16, 3) := by decide +kernel
theorem dX6_tell_15 : decode cX6_tell 15 = .ok (.aload_n 0, 1) := by decide +kernel
theorem dX6_tell_16 : decode cX6_tell 16 = .ok (.iload 4, 2) := by decide +kernel
theorem dX6_tell_18 : decode cX6_tell 18 = .ok (.putfield 19, 3) := by decide +kernel
theorem dX6_tell_21 : decode cX6_tell 21 = .ok (.return_, 1) := by decide +kernel
theorem dX6_whole_0 : decode cX6_whole 0 = .ok (.aload_n 0, 1) := by decide +kernel
theorem dX6_whole_1 : decode cX6_whole 1 = .ok (.getfield 7, 3) := by decide +kernel
theorem dX6_whole_4 : decode cX6_whole 4 = .ok (.aload_n 0, 1) := by decide +kernel
theorem dX6_whole_5 : decode cX6_whole 5 = .ok (.getfield 13, 3) := by decide +kernel
theorem dX6_whole_8 : decode cX6_whole 8 = .ok (.iadd, 1) := by decide +kernel
theorem dX6_whole_9 : decode cX6_whole 9 = .ok (.aload_n 0, 1) := by decide +kernel
theorem dX6_whole_10 : decode cX6_whole 10 = .ok (.getfield 16, 3) := by decide +kernel
theorem dX6_whole_13 : decode cX6_whole 13 = .ok (.iadd, 1) := by decide +kernel
theorem dX6_whole_14 : decode cX6_whole 14 = .ok (.aload_n 0, 1) := by decide +kernel
theorem dX6_whole_15 : decode cX6_whole 15 = .ok (.getfield 19, 3) := by decide +kernel
theorem dX6_whole_18 : decode cX6_whole 18 = .ok (.iadd, 1) := by decide +kernel
theorem dX6_whole_19 : decode cX6_whole 19 = .ok (.ireturn, 1) := by decide +kernel
theorem dX6_isSeen_0 : decode cX6_isSeen 0 = .ok (.iload_n 1, 1) := by decide +kernel
theorem dX6_isSeen_1 : decode cX6_isSeen 1 = .ok (.aload_n 0, 1) := by decide +kernel
theorem dX6_isSeen_2 : decode cX6_isSeen 2 = .ok (.getfield 7, 3) := by decide +kernel
theorem dX6_isSeen_5 : decode cX6_isSeen 5 = .ok (.if_icmp .ge 7, 3) := by decide +kernel
theorem dX6_isSeen_8 : decode cX6_isSeen 8 = .ok (.iconst 1, 1) := by decide +kernel
theorem dX6_isSeen_9 : decode cX6_isSeen 9 = .ok (.goto 4, 3) := by decide +kernel
theorem dX6_isSeen_12 : decode cX6_isSeen 12 = .ok (.iconst 0, 1) := by decide +kernel
theorem dX6_isSeen_13 : decode cX6_isSeen 13 = .ok (.ireturn, 1) := by decide +kernel
theorem dX6_isSync_0 : decode cX6_isSync 0 = .ok (.aload_n 0, 1) := by decide +kernel
theorem dX6_isSync_1 : decode cX6_isSync 1 = .ok (.getfield 7, 3) := by decide +kernel
theorem dX6_isSync_4 : decode cX6_isSync 4 = .ok (.aload_n 0, 1) := by decide +kernel
theorem dX6_isSync_5 : decode cX6_isSync 5 = .ok (.getfield 13, 3) := by decide +kernel
theorem dX6_isSync_8 : decode cX6_isSync 8 = .ok (.iadd, 1) := by decide +kernel
theorem dX6_isSync_9 : decode cX6_isSync 9 = .ok (.istore_n 2, 1) := by decide +kernel
theorem dX6_isSync_10 : decode cX6_isSync 10 = .ok (.iload_n 1, 1) := by decide +kernel
theorem dX6_isSync_11 : decode cX6_isSync 11 = .ok (.iload_n 2, 1) := by decide +kernel
theorem dX6_isSync_12 : decode cX6_isSync 12 = .ok (.if_icmp .lt 17, 3) := by decide +kernel
theorem dX6_isSync_15 : decode cX6_isSync 15 = .ok (.iload_n 1, 1) := by decide +kernel
theorem dX6_isSync_16 : decode cX6_isSync 16 = .ok (.iload_n 2, 1) := by decide +kernel
theorem dX6_isSync_17 : decode cX6_isSync 17 = .ok (.aload_n 0, 1) := by decide +kernel
theorem dX6_isSync_18 : decode cX6_isSync 18 = .ok (.getfield 16, 3) := by decide +kernel
theorem dX6_isSync_21 : decode cX6_isSync 21 = .ok (.iadd, 1) := by decide +kernel
theorem dX6_isSync_22 : decode cX6_isSync 22 = .ok (.if_icmp .ge 7, 3) := by decide +kernel
theorem dX6_isSync_25 : decode cX6_isSync 25 = .ok (.iconst 1, 1) := by decide +kernel
theorem dX6_isSync_26 : decode cX6_isSync 26 = .ok (.goto 4, 3) := by decide +kernel
theorem dX6_isSync_29 : decode cX6_isSync 29 = .ok (.iconst 0, 1) := by decide +kernel
theorem dX6_isSync_30 : decode cX6_isSync 30 = .ok (.ireturn, 1) := by decide +kernel
set_option maxRecDepth 20000 in
theorem ggX6_copyFrom_X6_tell : GoodIn wsX6_copyFrom wsX6_tell := goodIn_r _ [9, 1, 2, 3, 4, 10, 11, 12, 13] (by decide +kernel) (by decide +kernel)
set_option maxRecDepth 20000 in
theorem gX6_copyFrom_X6_tell : GoodIn wsX6_copyFrom (wsV RX6 22 RX6 yX6_tell wsX6_tell) := goodIn_app (goodIn_of _ (by decide +kernel)) ggX6_copyFrom_X6_tell
theorem dX6_copyFrom_0 : decode cX6_copyFrom 0 = .ok (.aload_n 0, 1) := by decide +kernel
theorem dX6_copyFrom_1 : decode cX6_copyFrom 1 = .ok (.aload_n 1, 1) := by decide +kernel
theorem dX6_copyFrom_2 : decode cX6_copyFrom 2 = .ok (.getfield 7, 3) := by decide +kernel
theorem dX6_copyFrom_5 : decode cX6_copyFrom 5 = .ok (.aload_n 1, 1) := by decide +kernel
theorem dX6_copyFrom_6 : decode cX6_copyFrom 6 = .ok (.getfield 13, 3) := by decide +kernel
theorem dX6_copyFrom_9 : decode cX6_copyFrom 9 = .ok (.aload_n 1, 1) := by decide +kernel
theorem dX6_copyFrom_10 : decode cX6_copyFrom 10 = .ok (.getfield 16, 3) := by decide +kernel
theorem dX6_copyFrom_13 : decode cX6_copyFrom 13 = .ok (.aload_n 1, 1) := by decide +kernel
theorem dX6_copyFrom_14 : decode cX6_copyFrom 14 = .ok (.getfield 19, 3) := by decide +kernel
theorem dX6_copyFrom_17 : decode cX6_copyFrom 17 = .ok (.invokevirtual 22, 3) := by decide +kernel
theorem dX6_copyFrom_20 : decode cX6_copyFrom 20 = .ok (.return_, 1) := by decide +kernel
theorem dX7_init_0 : decode cX7_init 0 = .ok (.aload_n 0, 1) := by decide +kernel
theorem dX7_init_1 : decode cX7_init 1 = .ok (.invokespecial 3, 3) := by decide +kernel
theorem dX7_init_4 : decode cX7_init 4 = .ok (.aload_n 0, 1) := by decide +kernel
theorem dX7_init_5 : decode cX7_init 5 = .ok (.bipush 8, 2) := by decide +kernel
theorem dX7_init_7 : decode cX7_init 7 = .ok (.newarray .int, 2) := by decide +kernel
theorem dX7_init_9 : decode cX7_init 9 = .ok (.putfield 9, 3) := by decide +kernel
theorem dX7_init_12 : decode cX7_init 12 = .ok (.aload_n 0, 1) := by decide +kernel
theorem dX7_init_13 : decode cX7_init 13 = .ok (.bipush 8, 2) := by decide +kernel
theorem dX7_init_15 : decode cX7_init 15 = .ok (.newarray .int, 2) := by decide +kernel
theorem dX7_init_17 : decode cX7_init 17 = .ok (.putfield 15, 3) := by decide +kernel
theorem dX7_init_20 : decode cX7_init 20 = .ok (.aload_n 0, 1) := by decide +kernel
theorem dX7_init_21 : decode cX7_init 21 = .ok (.bipush 8, 2) := by decide +kernel
theorem dX7_init_23 : decode cX7_init 23 = .ok (.newarray .int, 2) := by decide +kernel
theorem dX7_init_25 : decode cX7_init 25 = .ok (.putfield 18, 3) := by decide +kernel
theorem dX7_init_28 : decode cX7_init 28 = .ok (.aload_n 0, 1) := by decide +kernel
theorem dX7_init_29 : decode cX7_init 29 = .ok (.bipush 64, 2) := by decide +kernel
theorem dX7_init_31 : decode cX7_init 31 = .ok (.newarray .int, 2) := by decide +kernel
theorem dX7_init_33 : decode cX7_init 33 = .ok (.putfield 21, 3) := by decide +kernel
theorem dX7_init_36 : decode cX7_init 36 = .ok (.aload_n 0, 1) := by decide +kernel
theorem dX7_init_37 : decode cX7_init 37 = .ok (.bipush 64, 2) := by decide +kernel
theorem dX7_init_39 : decode cX7_init 39 = .ok (.newarray .int, 2) := by decide +kernel
theorem dX7_init_41 : decode cX7_init 41 = .ok (.putfield 24, 3) := by decide +kernel
theorem dX7_init_44 : decode cX7_init 44 = .ok (.return_, 1) := by decide +kernel
set_option maxRecDepth 20000 in
theorem ggX7_move_X7_turnPresence : GoodIn wsX7_move wsX7_turnPresence := goodIn_r _ [8, 2, 3, 9, 10, 11, 12, 13, 14, 15, 16, 17, 18] (by decide +kernel) (by decide +kernel)
set_option maxRecDepth 20000 in
theorem gX7_move_X7_turnPresence : GoodIn wsX7_move (wsV RX7 27 RX7 yX7_turnPresence wsX7_turnPresence) := goodIn_app (goodIn_of _ (by decide +kernel)) ggX7_move_X7_turnPresence
theorem dX7_move_0 : decode cX7_move 0 = .ok (.aload_n 0, 1) := by decide +kernel
theorem dX7_move_1 : decode cX7_move 1 = .ok (.iload_n 1, 1) := by decide +kernel
theorem dX7_move_2 : decode cX7_move 2 = .ok (.invokevirtual 27, 3) := by decide +kernel
theorem dX7_move_5 : decode cX7_move 5 = .ok (.aload_n 0, 1) := by decide +kernel
theorem dX7_move_6 : decode cX7_move 6 = .ok (.getfield 9, 3) := by decide +kernel
theorem dX7_move_9 : decode cX7_move 9 = .ok (.iload_n 1, 1) := by decide +kernel
theorem dX7_move_10 : decode cX7_move 10 = .ok (.iload_n 2, 1) := by decide +kernel
theorem dX7_move_11 : decode cX7_move 11 = .ok (.iastore, 1) := by decide +kernel
theorem dX7_move_12 : decode cX7_move 12 = .ok (.aload_n 0, 1) := by decide +kernel
theorem dX7_move_13 : decode cX7_move 13 = .ok (.getfield 15, 3) := by decide +kernel
theorem dX7_move_16 : decode cX7_move 16 = .ok (.iload_n 1, 1) := by decide +kernel
theorem dX7_move_17 : decode cX7_move 17 = .ok (.iload_n 3, 1) := by decide +kernel
theorem dX7_move_18 : decode cX7_move 18 = .ok (.iastore, 1) := by decide +kernel
theorem dX7_move_19 : decode cX7_move 19 = .ok (.aload_n 0, 1) := by decide +kernel
theorem dX7_move_20 : decode cX7_move 20 = .ok (.getfield 18, 3) := by decide +kernel
theorem dX7_move_23 : decode cX7_move 23 = .ok (.iload_n 1, 1) := by decide +kernel
theorem dX7_move_24 : decode cX7_move 24 = .ok (.iload 4, 2) := by decide +kernel
theorem dX7_move_26 : decode cX7_move 26 = .ok (.iastore, 1) := by decide +kernel
theorem dX7_move_27 : decode cX7_move 27 = .ok (.aload_n 0, 1) := by decide +kernel
theorem dX7_move_28 : decode cX7_move 28 = .ok (.iload_n 1, 1) := by decide +kernel
theorem dX7_move_29 : decode cX7_move 29 = .ok (.invokevirtual 27, 3) := by decide +kernel
theorem dX7_move_32 : decode cX7_move 32 = .ok (.return_, 1) := by decide +kernel
theorem dX7_turnPresence_0 : decode cX7_turnPresence 0 = .ok (.aload_n 0, 1) := by decide +kernel
theorem dX7_turnPresence_1 : decode cX7_turnPresence 1 = .ok (.getfield 15, 3) := by decide +kernel
theorem dX7_turnPresence_4 : decode cX7_turnPresence 4 = .ok (.iload_n 1, 1) := by decide +kernel
theorem dX7_turnPresence_5 : decode cX7_turnPresence 5 = .ok (.iaload, 1) := by decide +kernel
theorem dX7_turnPresence_6 : decode cX7_turnPresence 6 = .ok (.aload_n 0, 1) := by decide +kernel
theorem dX7_turnPresence_7 : decode cX7_turnPresence 7 = .ok (.getfield 18, 3) := by decide +kernel
theorem dX7_turnPresence_10 : decode cX7_turnPresence 10 = .ok (.iload_n 1, 1) := by decide +kernel
theorem dX7_turnPresence_11 : decode cX7_turnPresence 11 = .ok (.iaload, 1) := by decide +kernel
theorem dX7_turnPresence_12 : decode cX7_turnPresence 12 = .ok (.iadd, 1) := by decide +kernel
theorem dX7_turnPresence_13 : decode cX7_turnPresence 13 = .ok (.bipush 64, 2) := by decide +kernel
theorem dX7_turnPresence_15 : decode cX7_turnPresence 15 = .ok (.invokestatic 31, 3) := by decide +kernel
theorem dX7_turnPresence_18 : decode cX7_turnPresence 18 = .ok (.istore_n 2, 1) := by decide +kernel
theorem dX7_turnPresence_19 : decode cX7_turnPresence 19 = .ok (.aload_n 0, 1) := by decide +kernel
theorem dX7_turnPresence_20 : decode cX7_turnPresence 20 = .ok (.getfield 15, 3) := by decide +kernel
theorem dX7_turnPresence_23 : decode cX7_turnPresence 23 = .ok (.iload_n 1, 1) := by decide +kernel
theorem dX7_turnPresence_24 : decode cX7_turnPresence 24 = .ok (.iaload, 1) := by decide +kernel
theorem dX7_turnPresence_25 : decode cX7_turnPresence 25 = .ok (.istore_n 3, 1) := by decide +kernel
theorem dX7_turnPresence_26 : decode cX7_turnPresence 26 = .ok (.iload_n 3, 1) := by decide +kernel
theorem dX7_turnPresence_27 : decode cX7_turnPresence 27 = .ok (.iload_n 2, 1) := by decide +kernel
theorem dX7_turnPresence_28 : decode cX7_turnPresence 28 = .ok (.if_icmp .ge 21, 3) := by decide +kernel
theorem dX7_turnPresence_31 : decode cX7_turnPresence 31 = .ok (.aload_n 0, 1) := by decide +kernel
theorem dX7_turnPresence_32 : decode cX7_turnPresence 32 = .ok (.getfield 24, 3) := by decide +kernel
theorem dX7_turnPresence_35 : decode cX7_turnPresence 35 = .ok (.iload_n 3, 1) := by decide +kernel
theorem dX7_turnPresence_36 : decode cX7_turnPresence 36 = .ok (.dup2, 1) := by decide +kernel
theorem dX7_turnPresence_37 : decode cX7_turnPresence 37 = .ok (.iaload, 1) := by decide +kernel
theorem dX7_turnPresence_38 : decode cX7_turnPresence 38 = .ok (.iconst 1, 1) := by decide +kernel
theorem dX7_turnPresence_39 : decode cX7_turnPresence 39 = .ok (.iload_n 1, 1) := by decide +kernel
theorem dX7_turnPresence_40 : decode cX7_turnPresence 40 = .ok (.ishl, 1) := by decide +kernel
theorem dX7_turnPresence_41 : decode cX7_turnPresence 41 = .ok (.ixor, 1) := by decide +kernel
theorem dX7_turnPresence_42 : decode cX7_turnPresence 42 = .ok (.iastore, 1) := by decide +kernel
theorem dX7_turnPresence_43 : decode cX7_turnPresence 43 = .ok (.iinc 3 1, 3) := by decide +kernel
theorem dX7_turnPresence_46 : decode cX7_turnPresence 46 = .ok (.goto (-20), 3) := by decide +kernel
theorem dX7_turnPresence_49 : decode cX7_turnPresence 49 = .ok (.return_, 1) := by decide +kernel
theorem dX7_draw_0 : decode cX7_draw 0 = .ok (.iconst 0, 1) := by decide +kernel
theorem dX7_draw_1 : decode cX7_draw 1 = .ok (.istore 4, 2) := by decide +kernel
theorem dX7_draw_3 : decode cX7_draw 3 = .ok (.iload 4, 2) := by decide +kernel
theorem dX7_draw_5 : decode cX7_draw 5 = .ok (.iconst 4, 1) := by decide +kernel
theorem dX7_draw_6 : decode cX7_draw 6 = .ok (.if_icmp .ge 37, 3) := by decide +kernel
theorem dX7_draw_9 : decode cX7_draw 9 = .ok (.aload_n 0, 1) := by decide +kernel
theorem dX7_draw_10 : decode cX7_draw 10 = .ok (.getfield 21, 3) := by decide +kernel
theorem dX7_draw_13 : decode cX7_draw 13 = .ok (.iload_n 1, 1) := by decide +kernel
theorem dX7_draw_14 : decode cX7_draw 14 = .ok (.bipush 8, 2) := by decide +kernel
theorem dX7_draw_16 : decode cX7_draw 16 = .ok (.imul, 1) := by decide +kernel
theorem dX7_draw_17 : decode cX7_draw 17 = .ok (.iload_n 2, 1) := by decide +kernel
theorem dX7_draw_18 : decode cX7_draw 18 = .ok (.iadd, 1) := by decide +kernel
theorem dX7_draw_19 : decode cX7_draw 19 = .ok (.iload 4, 2) := by decide +kernel
theorem dX7_draw_21 : decode cX7_draw 21 = .ok (.iadd, 1) := by decide +kernel
theorem dX7_draw_22 : decode cX7_draw 22 = .ok (.iload_n 3, 1) := by decide +kernel
theorem dX7_draw_23 : decode cX7_draw 23 = .ok (.bipush 24, 2) := by decide +kernel
theorem dX7_draw_25 : decode cX7_draw 25 = .ok (.bipush 8, 2) := by decide +kernel
theorem dX7_draw_27 : decode cX7_draw 27 = .ok (.iload 4, 2) := by decide +kernel
theorem dX7_draw_29 : decode cX7_draw 29 = .ok (.imul, 1) := by decide +kernel
theorem dX7_draw_30 : decode cX7_draw 30 = .ok (.isub, 1) := by decide +kernel
theorem dX7_draw_31 : decode cX7_draw 31 = .ok (.iushr, 1) := by decide +kernel
theorem dX7_draw_32 : decode cX7_draw 32 = .ok (.sipush 255, 3) := by decide +kernel
theorem dX7_draw_35 : decode cX7_draw 35 = .ok (.iand, 1) := by decide +kernel
theorem dX7_draw_36 : decode cX7_draw 36 = .ok (.iastore, 1) := by decide +kernel
theorem dX7_draw_37 : decode cX7_draw 37 = .ok (.iinc 4 1, 3) := by decide +kernel
theorem dX7_draw_40 : decode cX7_draw 40 = .ok (.goto (-37), 3) := by decide +kernel
theorem dX7_draw_43 : decode cX7_draw 43 = .ok (.return_, 1) := by decide +kernel
theorem dX7_membersOf_0 : decode cX7_membersOf 0 = .ok (.aload_n 0, 1) := by decide +kernel
theorem dX7_membersOf_1 : decode cX7_membersOf 1 = .ok (.getfield 24, 3) := by decide +kernel
theorem dX7_membersOf_4 : decode cX7_membersOf 4 = .ok (.iload_n 1, 1) := by decide +kernel
theorem dX7_membersOf_5 : decode cX7_membersOf 5 = .ok (.iaload, 1) := by decide +kernel
theorem dX7_membersOf_6 : decode cX7_membersOf 6 = .ok (.istore_n 2, 1) := by decide +kernel
theorem dX7_membersOf_7 : decode cX7_membersOf 7 = .ok (.iconst 0, 1) := by decide +kernel
theorem dX7_membersOf_8 : decode cX7_membersOf 8 = .ok (.istore_n 3, 1) := by decide +kernel
theorem dX7_membersOf_9 : decode cX7_membersOf 9 = .ok (.iconst 0, 1) := by decide +kernel
theorem dX7_membersOf_10 : decode cX7_membersOf 10 = .ok (.istore 4, 2) := by decide +kernel
theorem dX7_membersOf_12 : decode cX7_membersOf 12 = .ok (.iload 4, 2) := by decide +kernel
theorem dX7_membersOf_14 : decode cX7_membersOf 14 = .ok (.iconst 3, 1) := by decide +kernel
theorem dX7_membersOf_15 : decode cX7_membersOf 15 = .ok (.if_icmp .ge 25, 3) := by decide +kernel
theorem dX7_membersOf_18 : decode cX7_membersOf 18 = .ok (.iload_n 2, 1) := by decide +kernel
theorem dX7_membersOf_19 : decode cX7_membersOf 19 = .ok (.iload_n 2, 1) := by decide +kernel
theorem dX7_membersOf_20 : decode cX7_membersOf 20 = .ok (.ineg, 1) := by decide +kernel
theorem dX7_membersOf_21 : decode cX7_membersOf 21 = .ok (.iand, 1) := by decide +kernel
theorem dX7_membersOf_22 : decode cX7_membersOf 22 = .ok (.istore 5, 2) := by decide +kernel
theorem dX7_membersOf_24 : decode cX7_membersOf 24 = .ok (.iload_n 3, 1) := by decide +kernel
theorem dX7_membersOf_25 : decode cX7_membersOf 25 = .ok (.iload 5, 2) := by decide +kernel
theorem dX7_membersOf_27 : decode cX7_membersOf 27 = .ok (.ior, 1) := by decide +kernel
theorem dX7_membersOf_28 : decode cX7_membersOf 28 = .ok (.istore_n 3, 1) := by decide +kernel
theorem dX7_membersOf_29 : decode cX7_membersOf 29 = .ok (.iload_n 2, 1) := by decide +kernel
theorem dX7_membersOf_30 : decode cX7_membersOf 30 = .ok (.iload 5, 2) := by decide +kernel
theorem dX7_membersOf_32 : decode cX7_membersOf 32 = .ok (.ixor, 1) := by decide +kernel
theorem dX7_membersOf_33 : decode cX7_membersOf 33 = .ok (.istore_n 2, 1) := by decide +kernel
theorem dX7_membersOf_34 : decode cX7_membersOf 34 = .ok (.iinc 4 1, 3) := by decide +kernel
theorem dX7_membersOf_37 : decode cX7_membersOf 37 = .ok (.goto (-25), 3) := by decide +kernel
theorem dX7_membersOf_40 : decode cX7_membersOf 40 = .ok (.iload_n 3, 1) := by decide +kernel
theorem dX7_membersOf_41 : decode cX7_membersOf 41 = .ok (.ireturn, 1) := by decide +kernel
set_option maxRecDepth 20000 in
theorem ggX7_showing_X7_membersOf : GoodIn wsX7_showing wsX7_membersOf := goodIn_r _ [5, 6, 17, 18, 19, 20, 21] (by decide +kernel) (by decide +kernel)
set_option maxRecDepth 20000 in
theorem gX7_showing_X7_membersOf : GoodIn wsX7_showing (wsV RX7 37 RX7 yX7_membersOf wsX7_membersOf) := goodIn_app (goodIn_of _ (by decide +kernel)) ggX7_showing_X7_membersOf
set_option maxRecDepth 20000 in
theorem ggX7_showing_X7_hasBit : GoodIn wsX7_showing wsX7_hasBit := goodIn_r _ [10, 11, 12, 13, 14, 15, 16, 17, 18, 19, 20, 21] (by decide +kernel) (by decide +kernel)
set_option maxRecDepth 20000 in
theorem gX7_showing_X7_hasBit : GoodIn wsX7_showing (wsV RX7 41 RX7 yX7_hasBit wsX7_hasBit) := goodIn_app (goodIn_of _ (by decide +kernel)) ggX7_showing_X7_hasBit
theorem dX7_showing_0 : decode cX7_showing 0 = .ok (.aload_n 0, 1) := by decide +kernel
theorem dX7_showing_1 : decode cX7_showing 1 = .ok (.iload_n 2, 1) := by decide +kernel
theorem dX7_showing_2 : decode cX7_showing 2 = .ok (.invokevirtual 37, 3) := by decide +kernel
theorem dX7_showing_5 : decode cX7_showing 5 = .ok (.istore_n 3, 1) := by decide +kernel
theorem dX7_showing_6 : decode cX7_showing 6 = .ok (.iconst 0, 1) := by decide +kernel
theorem dX7_showing_7 : decode cX7_showing 7 = .ok (.istore 4, 2) := by decide +kernel
theorem dX7_showing_9 : decode cX7_showing 9 = .ok (.iload 4, 2) := by decide +kernel
theorem dX7_showing_11 : decode cX7_showing 11 = .ok (.bipush 8, 2) := by decide +kernel
theorem dX7_showing_13 : decode cX7_showing 13 = .ok (.if_icmp .ge 40, 3) := by decide +kernel
theorem dX7_showing_16 : decode cX7_showing 16 = .ok (.iload_n 3, 1) := by decide +kernel
theorem dX7_showing_17 : decode cX7_showing 17 = .ok (.iload 4, 2) := by decide +kernel
theorem dX7_showing_19 : decode cX7_showing 19 = .ok (.ishr, 1) := by decide +kernel
theorem dX7_showing_20 : decode cX7_showing 20 = .ok (.ifCond .eq 33, 3) := by decide +kernel
theorem dX7_showing_23 : decode cX7_showing 23 = .ok (.iload_n 3, 1) := by decide +kernel
theorem dX7_showing_24 : decode cX7_showing 24 = .ok (.iload 4, 2) := by decide +kernel
theorem dX7_showing_26 : decode cX7_showing 26 = .ok (.ishr, 1) := by decide +kernel
theorem dX7_showing_27 : decode cX7_showing 27 = .ok (.iconst 1, 1) := by decide +kernel
theorem dX7_showing_28 : decode cX7_showing 28 = .ok (.iand, 1) := by decide +kernel
theorem dX7_showing_29 : decode cX7_showing 29 = .ok (.iconst 1, 1) := by decide +kernel
theorem dX7_showing_30 : decode cX7_showing 30 = .ok (.if_icmp .ne 17, 3) := by decide +kernel
theorem dX7_showing_33 : decode cX7_showing 33 = .ok (.aload_n 0, 1) := by decide +kernel
theorem dX7_showing_34 : decode cX7_showing 34 = .ok (.iload 4, 2) := by decide +kernel
theorem dX7_showing_36 : decode cX7_showing 36 = .ok (.iload_n 1, 1) := by decide +kernel
theorem dX7_showing_37 : decode cX7_showing 37 = .ok (.iload_n 2, 1) := by decide +kernel
theorem dX7_showing_38 : decode cX7_showing 38 = .ok (.invokevirtual 41, 3) := by decide +kernel
theorem dX7_showing_41 : decode cX7_showing 41 = .ok (.ifCond .eq 6, 3) := by decide +kernel
theorem dX7_showing_44 : decode cX7_showing 44 = .ok (.iload 4, 2) := by decide +kernel
theorem dX7_showing_46 : decode cX7_showing 46 = .ok (.ireturn, 1) := by decide +kernel
theorem dX7_showing_47 : decode cX7_showing 47 = .ok (.iinc 4 1, 3) := by decide +kernel
theorem dX7_showing_50 : decode cX7_showing 50 = .ok (.goto (-41), 3) := by decide +kernel
theorem dX7_showing_53 : decode cX7_showing 53 = .ok (.iconst (-1), 1) := by decide +kernel
theorem dX7_showing_54 : decode cX7_showing 54 = .ok (.ireturn, 1) := by decide +kernel
