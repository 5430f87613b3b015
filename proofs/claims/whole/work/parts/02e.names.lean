set_option maxRecDepth 20000 in
theorem ggX8_image_X8_within : GoodIn wsX8_image wsX8_within := goodIn_r _ [9] (by decide +kernel) (by decide +kernel)
set_option maxRecDepth 20000 in
theorem gX8_image_X8_within : GoodIn wsX8_image (va_wsS RX8 20 yX8_within wsX8_within) := goodIn_app (goodIn_of _ (by decide +kernel)) ggX8_image_X8_within
set_option maxRecDepth 20000 in
theorem ggX8_image_X3_init : GoodIn wsX8_image wsX3_init := goodIn_r _ [12, 13, 14, 15, 16, 17, 18, 19, 20, 21, 22, 23, 24, 25, 26, 27, 28, 29, 30, 31, 32, 33, 34, 35, 36, 37, 38, 39, 40, 41, 42, 43, 44, 45, 46, 47, 48, 49, 50, 51, 52, 53, 54, 55, 56, 57, 58, 59, 60, 61, 62, 63, 64, 65, 66, 67, 68, 69, 70, 71, 72, 73, 74, 75, 76, 77, 78, 79, 80, 81, 82, 83, 84, 85, 86, 87, 88, 89, 90, 91, 92, 93, 94, 95, 96, 97, 98, 99, 100, 101, 102, 177, 178, 179, 180, 181, 182, 183, 165, 166, 167, 168, 169, 170, 171, 172, 173, 174, 175, 176, 184, 185, 186, 187, 188, 189, 190, 191, 192, 193, 194, 195, 196, 197, 198, 199, 200, 201, 202, 203, 204, 205, 206, 207, 208, 209, 210, 211, 212] (by decide +kernel) (by decide +kernel)
set_option maxRecDepth 20000 in
theorem gX8_image_X3_init : GoodIn wsX8_image (wsX3_init) := ggX8_image_X3_init
set_option maxRecDepth 20000 in
theorem ggX8_image_X3_copyFrom : GoodIn wsX8_image wsX3_copyFrom := goodIn_r _ [106, 19, 23, 27, 31, 35, 37, 107, 108, 109, 110, 38, 39, 40, 111, 112, 113, 114, 115, 116, 18, 117, 47, 48, 49, 52, 54, 118, 119, 120, 121, 122, 46, 123, 61, 62, 124, 125, 126, 127, 60, 128, 67, 68, 69, 70, 129, 130, 131, 132, 133, 134, 135, 22, 136, 78, 137, 138, 139, 79, 140, 141, 142, 143, 144, 145, 146, 147, 148, 149, 26, 150, 83, 151, 152, 153, 154, 30, 155, 87, 156, 88, 89, 90, 157, 158, 159, 160, 34, 161, 94, 162, 95, 96, 97, 98, 165, 166, 167, 168, 169, 170, 171, 172, 173, 174, 175, 176, 177, 178, 179, 180, 181, 182, 183, 206, 207, 208, 209, 210, 211, 212, 184, 185, 186, 187, 188, 189, 190, 191, 192, 193, 194, 195, 196, 197, 198, 199, 200, 201, 202, 203, 204, 205] (by decide +kernel) (by decide +kernel)
set_option maxRecDepth 20000 in
theorem gX8_image_X3_copyFrom : GoodIn wsX8_image (wsV RX8 200 RX3 yX3_copyFrom wsX3_copyFrom) := goodIn_app (goodIn_of _ (by decide +kernel)) ggX8_image_X3_copyFrom
theorem dX8_image_0 : decode cX8_image 0 = .ok (.iload_n 1, 1) := by decide +kernel
theorem dX8_image_1 : decode cX8_image 1 = .ok (.iconst 0, 1) := by decide +kernel
theorem dX8_image_2 : decode cX8_image 2 = .ok (.iconst 2, 1) := by decide +kernel
theorem dX8_image_3 : decode cX8_image 3 = .ok (.invokestatic 20, 3) := by decide +kernel
theorem dX8_image_6 : decode cX8_image 6 = .ok (.ifCond .ne 5, 3) := by decide +kernel
theorem dX8_image_9 : decode cX8_image 9 = .ok (.iconst 0, 1) := by decide +kernel
theorem dX8_image_10 : decode cX8_image 10 = .ok (.ireturn, 1) := by decide +kernel
theorem dX8_image_11 : decode cX8_image 11 = .ok (.aload_n 0, 1) := by decide +kernel
theorem dX8_image_12 : decode cX8_image 12 = .ok (.getfield 16, 3) := by decide +kernel
theorem dX8_image_15 : decode cX8_image 15 = .ok (.iload_n 1, 1) := by decide +kernel
theorem dX8_image_16 : decode cX8_image 16 = .ok (.aaload, 1) := by decide +kernel
theorem dX8_image_17 : decode cX8_image 17 = .ok (.ifnonnull 16, 3) := by decide +kernel
theorem dX8_image_20 : decode cX8_image 20 = .ok (.aload_n 0, 1) := by decide +kernel
theorem dX8_image_21 : decode cX8_image 21 = .ok (.getfield 16, 3) := by decide +kernel
theorem dX8_image_24 : decode cX8_image 24 = .ok (.iload_n 1, 1) := by decide +kernel
theorem dX8_image_25 : decode cX8_image 25 = .ok (.new 7, 3) := by decide +kernel
theorem dX8_image_28 : decode cX8_image 28 = .ok (.dup, 1) := by decide +kernel
theorem dX8_image_29 : decode cX8_image 29 = .ok (.invokespecial 9, 3) := by decide +kernel
theorem dX8_image_32 : decode cX8_image 32 = .ok (.aastore, 1) := by decide +kernel
theorem dX8_image_33 : decode cX8_image 33 = .ok (.aload_n 0, 1) := by decide +kernel
theorem dX8_image_34 : decode cX8_image 34 = .ok (.getfield 16, 3) := by decide +kernel
theorem dX8_image_37 : decode cX8_image 37 = .ok (.iload_n 1, 1) := by decide +kernel
theorem dX8_image_38 : decode cX8_image 38 = .ok (.aaload, 1) := by decide +kernel
theorem dX8_image_39 : decode cX8_image 39 = .ok (.aload_n 0, 1) := by decide +kernel
theorem dX8_image_40 : decode cX8_image 40 = .ok (.getfield 10, 3) := by decide +kernel
theorem dX8_image_43 : decode cX8_image 43 = .ok (.invokevirtual 200, 3) := by decide +kernel
theorem dX8_image_46 : decode cX8_image 46 = .ok (.iconst 1, 1) := by decide +kernel
theorem dX8_image_47 : decode cX8_image 47 = .ok (.ireturn, 1) := by decide +kernel
set_option maxRecDepth 20000 in
theorem ggX8_again_X8_within : GoodIn wsX8_again wsX8_within := goodIn_r _ [6] (by decide +kernel) (by decide +kernel)
set_option maxRecDepth 20000 in
theorem gX8_again_X8_within : GoodIn wsX8_again (va_wsS RX8 20 yX8_within wsX8_within) := goodIn_app (goodIn_of _ (by decide +kernel)) ggX8_again_X8_within
set_option maxRecDepth 20000 in
theorem ggX8_again_X3_copyFrom : GoodIn wsX8_again wsX3_copyFrom := goodIn_r _ [11, 12, 13, 14, 15, 16, 17, 18, 19, 20, 21, 22, 23, 24, 25, 26, 27, 28, 29, 30, 31, 32, 33, 34, 35, 36, 37, 38, 39, 40, 41, 42, 43, 44, 45, 46, 47, 48, 49, 50, 51, 52, 53, 54, 55, 56, 57, 58, 59, 60, 61, 62, 63, 64, 65, 66, 67, 68, 69, 70, 71, 72, 73, 74, 75, 76, 77, 78, 79, 80, 81, 82, 83, 84, 85, 86, 87, 88, 89, 90, 91, 92, 93, 94, 95, 96, 97, 98, 99, 100, 101, 102, 103, 104, 105, 106, 109, 110, 111, 112, 113, 114, 115, 116, 117, 118, 119, 120, 121, 122, 123, 124, 125, 126, 127, 128, 129, 130, 131, 132, 133, 134, 135, 136, 137, 138, 139, 140, 141, 142, 143, 144, 145, 146, 147, 148, 149, 150, 151, 152, 153, 154, 155, 156] (by decide +kernel) (by decide +kernel)
set_option maxRecDepth 20000 in
theorem gX8_again_X3_copyFrom : GoodIn wsX8_again (wsV RX8 200 RX3 yX3_copyFrom wsX3_copyFrom) := goodIn_app (goodIn_of _ (by decide +kernel)) ggX8_again_X3_copyFrom
theorem dX8_again_0 : decode cX8_again 0 = .ok (.iload_n 1, 1) := by decide +kernel
theorem dX8_again_1 : decode cX8_again 1 = .ok (.iconst 0, 1) := by decide +kernel
theorem dX8_again_2 : decode cX8_again 2 = .ok (.iconst 2, 1) := by decide +kernel
theorem dX8_again_3 : decode cX8_again 3 = .ok (.invokestatic 20, 3) := by decide +kernel
theorem dX8_again_6 : decode cX8_again 6 = .ok (.ifCond .eq 12, 3) := by decide +kernel
theorem dX8_again_9 : decode cX8_again 9 = .ok (.aload_n 0, 1) := by decide +kernel
theorem dX8_again_10 : decode cX8_again 10 = .ok (.getfield 16, 3) := by decide +kernel
theorem dX8_again_13 : decode cX8_again 13 = .ok (.iload_n 1, 1) := by decide +kernel
theorem dX8_again_14 : decode cX8_again 14 = .ok (.aaload, 1) := by decide +kernel
theorem dX8_again_15 : decode cX8_again 15 = .ok (.ifnonnull 5, 3) := by decide +kernel
theorem dX8_again_18 : decode cX8_again 18 = .ok (.iconst 0, 1) := by decide +kernel
theorem dX8_again_19 : decode cX8_again 19 = .ok (.ireturn, 1) := by decide +kernel
theorem dX8_again_20 : decode cX8_again 20 = .ok (.aload_n 0, 1) := by decide +kernel
theorem dX8_again_21 : decode cX8_again 21 = .ok (.getfield 10, 3) := by decide +kernel
theorem dX8_again_24 : decode cX8_again 24 = .ok (.aload_n 0, 1) := by decide +kernel
theorem dX8_again_25 : decode cX8_again 25 = .ok (.getfield 16, 3) := by decide +kernel
theorem dX8_again_28 : decode cX8_again 28 = .ok (.iload_n 1, 1) := by decide +kernel
theorem dX8_again_29 : decode cX8_again 29 = .ok (.aaload, 1) := by decide +kernel
theorem dX8_again_30 : decode cX8_again 30 = .ok (.invokevirtual 200, 3) := by decide +kernel
theorem dX8_again_33 : decode cX8_again 33 = .ok (.iconst 1, 1) := by decide +kernel
theorem dX8_again_34 : decode cX8_again 34 = .ok (.ireturn, 1) := by decide +kernel
theorem dX8_within_0 : decode cX8_within 0 = .ok (.iload_n 0, 1) := by decide +kernel
theorem dX8_within_1 : decode cX8_within 1 = .ok (.iload_n 1, 1) := by decide +kernel
theorem dX8_within_2 : decode cX8_within 2 = .ok (.if_icmp .lt 12, 3) := by decide +kernel
theorem dX8_within_5 : decode cX8_within 5 = .ok (.iload_n 0, 1) := by decide +kernel
theorem dX8_within_6 : decode cX8_within 6 = .ok (.iload_n 2, 1) := by decide +kernel
theorem dX8_within_7 : decode cX8_within 7 = .ok (.if_icmp .gt 7, 3) := by decide +kernel
theorem dX8_within_10 : decode cX8_within 10 = .ok (.iconst 1, 1) := by decide +kernel
theorem dX8_within_11 : decode cX8_within 11 = .ok (.goto 4, 3) := by decide +kernel
theorem dX8_within_14 : decode cX8_within 14 = .ok (.iconst 0, 1) := by decide +kernel
theorem dX8_within_15 : decode cX8_within 15 = .ok (.ireturn, 1) := by decide +kernel
set_option maxRecDepth 20000 in
theorem ggX8_placeOf_X8_within : GoodIn wsX8_placeOf wsX8_within := goodIn_r _ [4] (by decide +kernel) (by decide +kernel)
set_option maxRecDepth 20000 in
theorem gX8_placeOf_X8_within : GoodIn wsX8_placeOf (va_wsS RX8 20 yX8_within wsX8_within) := goodIn_app (goodIn_of _ (by decide +kernel)) ggX8_placeOf_X8_within
theorem dX8_placeOf_0 : decode cX8_placeOf 0 = .ok (.iload_n 0, 1) := by decide +kernel
theorem dX8_placeOf_1 : decode cX8_placeOf 1 = .ok (.iconst 0, 1) := by decide +kernel
theorem dX8_placeOf_2 : decode cX8_placeOf 2 = .ok (.bipush 63, 2) := by decide +kernel
theorem dX8_placeOf_4 : decode cX8_placeOf 4 = .ok (.invokestatic 20, 3) := by decide +kernel
theorem dX8_placeOf_7 : decode cX8_placeOf 7 = .ok (.ifCond .eq 13, 3) := by decide +kernel
theorem dX8_placeOf_10 : decode cX8_placeOf 10 = .ok (.iload_n 1, 1) := by decide +kernel
theorem dX8_placeOf_11 : decode cX8_placeOf 11 = .ok (.iconst 0, 1) := by decide +kernel
theorem dX8_placeOf_12 : decode cX8_placeOf 12 = .ok (.bipush 63, 2) := by decide +kernel
theorem dX8_placeOf_14 : decode cX8_placeOf 14 = .ok (.invokestatic 20, 3) := by decide +kernel
theorem dX8_placeOf_17 : decode cX8_placeOf 17 = .ok (.ifCond .ne 5, 3) := by decide +kernel
theorem dX8_placeOf_20 : decode cX8_placeOf 20 = .ok (.iconst (-1), 1) := by decide +kernel
theorem dX8_placeOf_21 : decode cX8_placeOf 21 = .ok (.ireturn, 1) := by decide +kernel
theorem dX8_placeOf_22 : decode cX8_placeOf 22 = .ok (.iload_n 1, 1) := by decide +kernel
theorem dX8_placeOf_23 : decode cX8_placeOf 23 = .ok (.bipush 64, 2) := by decide +kernel
theorem dX8_placeOf_25 : decode cX8_placeOf 25 = .ok (.imul, 1) := by decide +kernel
theorem dX8_placeOf_26 : decode cX8_placeOf 26 = .ok (.iload_n 0, 1) := by decide +kernel
theorem dX8_placeOf_27 : decode cX8_placeOf 27 = .ok (.iadd, 1) := by decide +kernel
theorem dX8_placeOf_28 : decode cX8_placeOf 28 = .ok (.ireturn, 1) := by decide +kernel
theorem dX8_bytesOfLine_0 : decode cX8_bytesOfLine 0 = .ok (.iload_n 0, 1) := by decide +kernel
theorem dX8_bytesOfLine_1 : decode cX8_bytesOfLine 1 = .ok (.bipush 7, 2) := by decide +kernel
theorem dX8_bytesOfLine_3 : decode cX8_bytesOfLine 3 = .ok (.iadd, 1) := by decide +kernel
theorem dX8_bytesOfLine_4 : decode cX8_bytesOfLine 4 = .ok (.bipush 8, 2) := by decide +kernel
theorem dX8_bytesOfLine_6 : decode cX8_bytesOfLine 6 = .ok (.idiv, 1) := by decide +kernel
theorem dX8_bytesOfLine_7 : decode cX8_bytesOfLine 7 = .ok (.iconst 1, 1) := by decide +kernel
theorem dX8_bytesOfLine_8 : decode cX8_bytesOfLine 8 = .ok (.iadd, 1) := by decide +kernel
theorem dX8_bytesOfLine_9 : decode cX8_bytesOfLine 9 = .ok (.ireturn, 1) := by decide +kernel
set_option maxRecDepth 20000 in
theorem ggX8_fewestQueued_X8_bytesOfLine : GoodIn wsX8_fewestQueued wsX8_bytesOfLine := goodIn_r _ [15] (by decide +kernel) (by decide +kernel)
set_option maxRecDepth 20000 in
theorem gX8_fewestQueued_X8_bytesOfLine : GoodIn wsX8_fewestQueued (va_wsS RX8 207 yX8_bytesOfLine wsX8_bytesOfLine) := goodIn_app (goodIn_of _ (by decide +kernel)) ggX8_fewestQueued_X8_bytesOfLine
set_option maxRecDepth 20000 in
theorem ggX8_fewestQueued_X6_whole : GoodIn wsX8_fewestQueued wsX6_whole := goodIn_r _ [20, 21, 22, 23, 24, 60, 61, 62, 63] (by decide +kernel) (by decide +kernel)
set_option maxRecDepth 20000 in
theorem gX8_fewestQueued_X6_whole : GoodIn wsX8_fewestQueued (wsV RX8 143 RX6 yX6_whole wsX6_whole) := goodIn_app (goodIn_of _ (by decide +kernel)) ggX8_fewestQueued_X6_whole
theorem dX8_fewestQueued_0 : decode cX8_fewestQueued 0 = .ok (.aload_n 0, 1) := by decide +kernel
theorem dX8_fewestQueued_1 : decode cX8_fewestQueued 1 = .ok (.getfield 10, 3) := by decide +kernel
theorem dX8_fewestQueued_4 : decode cX8_fewestQueued 4 = .ok (.getfield 24, 3) := by decide +kernel
theorem dX8_fewestQueued_7 : decode cX8_fewestQueued 7 = .ok (.getfield 140, 3) := by decide +kernel
theorem dX8_fewestQueued_10 : decode cX8_fewestQueued 10 = .ok (.getfield 34, 3) := by decide +kernel
theorem dX8_fewestQueued_13 : decode cX8_fewestQueued 13 = .ok (.astore 4, 2) := by decide +kernel
theorem dX8_fewestQueued_15 : decode cX8_fewestQueued 15 = .ok (.aload_n 0, 1) := by decide +kernel
theorem dX8_fewestQueued_16 : decode cX8_fewestQueued 16 = .ok (.getfield 10, 3) := by decide +kernel
theorem dX8_fewestQueued_19 : decode cX8_fewestQueued 19 = .ok (.getfield 90, 3) := by decide +kernel
theorem dX8_fewestQueued_22 : decode cX8_fewestQueued 22 = .ok (.getfield 94, 3) := by decide +kernel
theorem dX8_fewestQueued_25 : decode cX8_fewestQueued 25 = .ok (.istore 5, 2) := by decide +kernel
theorem dX8_fewestQueued_27 : decode cX8_fewestQueued 27 = .ok (.aload 4, 2) := by decide +kernel
theorem dX8_fewestQueued_29 : decode cX8_fewestQueued 29 = .ok (.getfield 204, 3) := by decide +kernel
theorem dX8_fewestQueued_32 : decode cX8_fewestQueued 32 = .ok (.invokestatic 207, 3) := by decide +kernel
theorem dX8_fewestQueued_35 : decode cX8_fewestQueued 35 = .ok (.istore 6, 2) := by decide +kernel
theorem dX8_fewestQueued_37 : decode cX8_fewestQueued 37 = .ok (.aload 4, 2) := by decide +kernel
theorem dX8_fewestQueued_39 : decode cX8_fewestQueued 39 = .ok (.invokevirtual 143, 3) := by decide +kernel
theorem dX8_fewestQueued_42 : decode cX8_fewestQueued 42 = .ok (.aload 4, 2) := by decide +kernel
theorem dX8_fewestQueued_44 : decode cX8_fewestQueued 44 = .ok (.getfield 204, 3) := by decide +kernel
theorem dX8_fewestQueued_47 : decode cX8_fewestQueued 47 = .ok (.isub, 1) := by decide +kernel
theorem dX8_fewestQueued_48 : decode cX8_fewestQueued 48 = .ok (.istore 7, 2) := by decide +kernel
theorem dX8_fewestQueued_50 : decode cX8_fewestQueued 50 = .ok (.iload 5, 2) := by decide +kernel
theorem dX8_fewestQueued_52 : decode cX8_fewestQueued 52 = .ok (.istore 8, 2) := by decide +kernel
theorem dX8_fewestQueued_54 : decode cX8_fewestQueued 54 = .ok (.iconst 0, 1) := by decide +kernel
theorem dX8_fewestQueued_55 : decode cX8_fewestQueued 55 = .ok (.istore 9, 2) := by decide +kernel
theorem dX8_fewestQueued_57 : decode cX8_fewestQueued 57 = .ok (.iload_n 3, 1) := by decide +kernel
theorem dX8_fewestQueued_58 : decode cX8_fewestQueued 58 = .ok (.istore 10, 2) := by decide +kernel
theorem dX8_fewestQueued_60 : decode cX8_fewestQueued 60 = .ok (.iconst 0, 1) := by decide +kernel
theorem dX8_fewestQueued_61 : decode cX8_fewestQueued 61 = .ok (.istore 11, 2) := by decide +kernel
theorem dX8_fewestQueued_63 : decode cX8_fewestQueued 63 = .ok (.iload 11, 2) := by decide +kernel
theorem dX8_fewestQueued_65 : decode cX8_fewestQueued 65 = .ok (.aload 4, 2) := by decide +kernel
theorem dX8_fewestQueued_67 : decode cX8_fewestQueued 67 = .ok (.invokevirtual 143, 3) := by decide +kernel
theorem dX8_fewestQueued_70 : decode cX8_fewestQueued 70 = .ok (.if_icmp .ge 88, 3) := by decide +kernel
theorem dX8_fewestQueued_73 : decode cX8_fewestQueued 73 = .ok (.iload 10, 2) := by decide +kernel
theorem dX8_fewestQueued_75 : decode cX8_fewestQueued 75 = .ok (.iload_n 2, 1) := by decide +kernel
theorem dX8_fewestQueued_76 : decode cX8_fewestQueued 76 = .ok (.if_icmp .lt 21, 3) := by decide +kernel
theorem dX8_fewestQueued_79 : decode cX8_fewestQueued 79 = .ok (.iload 9, 2) := by decide +kernel
theorem dX8_fewestQueued_81 : decode cX8_fewestQueued 81 = .ok (.iload 5, 2) := by decide +kernel
theorem dX8_fewestQueued_83 : decode cX8_fewestQueued 83 = .ok (.if_icmp .ge 14, 3) := by decide +kernel
theorem dX8_fewestQueued_86 : decode cX8_fewestQueued 86 = .ok (.iload 6, 2) := by decide +kernel
theorem dX8_fewestQueued_88 : decode cX8_fewestQueued 88 = .ok (.ifCond .le 9, 3) := by decide +kernel
theorem dX8_fewestQueued_91 : decode cX8_fewestQueued 91 = .ok (.iinc 9 1, 3) := by decide +kernel
theorem dX8_fewestQueued_94 : decode cX8_fewestQueued 94 = .ok (.iinc 6 (-1), 3) := by decide +kernel
theorem dX8_fewestQueued_97 : decode cX8_fewestQueued 97 = .ok (.iload 10, 2) := by decide +kernel
theorem dX8_fewestQueued_99 : decode cX8_fewestQueued 99 = .ok (.iconst 1, 1) := by decide +kernel
theorem dX8_fewestQueued_100 : decode cX8_fewestQueued 100 = .ok (.iadd, 1) := by decide +kernel
theorem dX8_fewestQueued_101 : decode cX8_fewestQueued 101 = .ok (.iload_n 1, 1) := by decide +kernel
theorem dX8_fewestQueued_102 : decode cX8_fewestQueued 102 = .ok (.if_icmp .ge 10, 3) := by decide +kernel
theorem dX8_fewestQueued_105 : decode cX8_fewestQueued 105 = .ok (.iload 10, 2) := by decide +kernel
theorem dX8_fewestQueued_107 : decode cX8_fewestQueued 107 = .ok (.iconst 1, 1) := by decide +kernel
theorem dX8_fewestQueued_108 : decode cX8_fewestQueued 108 = .ok (.iadd, 1) := by decide +kernel
theorem dX8_fewestQueued_109 : decode cX8_fewestQueued 109 = .ok (.goto 4, 3) := by decide +kernel
theorem dX8_fewestQueued_112 : decode cX8_fewestQueued 112 = .ok (.iconst 0, 1) := by decide +kernel
theorem dX8_fewestQueued_113 : decode cX8_fewestQueued 113 = .ok (.istore 10, 2) := by decide +kernel
theorem dX8_fewestQueued_115 : decode cX8_fewestQueued 115 = .ok (.iload 11, 2) := by decide +kernel
theorem dX8_fewestQueued_117 : decode cX8_fewestQueued 117 = .ok (.iload 7, 2) := by decide +kernel
theorem dX8_fewestQueued_119 : decode cX8_fewestQueued 119 = .ok (.if_icmp .lt 33, 3) := by decide +kernel
theorem dX8_fewestQueued_122 : decode cX8_fewestQueued 122 = .ok (.iload 11, 2) := by decide +kernel
theorem dX8_fewestQueued_124 : decode cX8_fewestQueued 124 = .ok (.iload 7, 2) := by decide +kernel
theorem dX8_fewestQueued_126 : decode cX8_fewestQueued 126 = .ok (.isub, 1) := by decide +kernel
theorem dX8_fewestQueued_127 : decode cX8_fewestQueued 127 = .ok (.bipush 8, 2) := by decide +kernel
theorem dX8_fewestQueued_129 : decode cX8_fewestQueued 129 = .ok (.irem, 1) := by decide +kernel
theorem dX8_fewestQueued_130 : decode cX8_fewestQueued 130 = .ok (.ifCond .ne 22, 3) := by decide +kernel
theorem dX8_fewestQueued_133 : decode cX8_fewestQueued 133 = .ok (.iload 9, 2) := by decide +kernel
theorem dX8_fewestQueued_135 : decode cX8_fewestQueued 135 = .ok (.ifCond .ne 5, 3) := by decide +kernel
theorem dX8_fewestQueued_138 : decode cX8_fewestQueued 138 = .ok (.iconst 0, 1) := by decide +kernel
theorem dX8_fewestQueued_139 : decode cX8_fewestQueued 139 = .ok (.ireturn, 1) := by decide +kernel
theorem dX8_fewestQueued_140 : decode cX8_fewestQueued 140 = .ok (.iload 8, 2) := by decide +kernel
theorem dX8_fewestQueued_142 : decode cX8_fewestQueued 142 = .ok (.iload 9, 2) := by decide +kernel
theorem dX8_fewestQueued_144 : decode cX8_fewestQueued 144 = .ok (.invokestatic 183, 3) := by decide +kernel
theorem dX8_fewestQueued_147 : decode cX8_fewestQueued 147 = .ok (.istore 8, 2) := by decide +kernel
theorem dX8_fewestQueued_149 : decode cX8_fewestQueued 149 = .ok (.iinc 9 (-1), 3) := by decide +kernel
theorem dX8_fewestQueued_152 : decode cX8_fewestQueued 152 = .ok (.iinc 11 1, 3) := by decide +kernel
theorem dX8_fewestQueued_155 : decode cX8_fewestQueued 155 = .ok (.goto (-92), 3) := by decide +kernel
theorem dX8_fewestQueued_158 : decode cX8_fewestQueued 158 = .ok (.iload 8, 2) := by decide +kernel
theorem dX8_fewestQueued_160 : decode cX8_fewestQueued 160 = .ok (.ireturn, 1) := by decide +kernel
set_option maxRecDepth 20000 in
theorem ggX8_areFitBounds_X8_within : GoodIn wsX8_areFitBounds wsX8_within := goodIn_r _ [4] (by decide +kernel) (by decide +kernel)
set_option maxRecDepth 20000 in
theorem gX8_areFitBounds_X8_within : GoodIn wsX8_areFitBounds (va_wsS RX8 20 yX8_within wsX8_within) := goodIn_app (goodIn_of _ (by decide +kernel)) ggX8_areFitBounds_X8_within
theorem dX8_areFitBounds_0 : decode cX8_areFitBounds 0 = .ok (.iload_n 0, 1) := by decide +kernel
theorem dX8_areFitBounds_1 : decode cX8_areFitBounds 1 = .ok (.iconst 1, 1) := by decide +kernel
theorem dX8_areFitBounds_2 : decode cX8_areFitBounds 2 = .ok (.sipush 200, 3) := by decide +kernel
theorem dX8_areFitBounds_5 : decode cX8_areFitBounds 5 = .ok (.invokestatic 20, 3) := by decide +kernel
theorem dX8_areFitBounds_8 : decode cX8_areFitBounds 8 = .ok (.ifCond .eq 18, 3) := by decide +kernel
theorem dX8_areFitBounds_11 : decode cX8_areFitBounds 11 = .ok (.iload_n 1, 1) := by decide +kernel
theorem dX8_areFitBounds_12 : decode cX8_areFitBounds 12 = .ok (.iload_n 0, 1) := by decide +kernel
theorem dX8_areFitBounds_13 : decode cX8_areFitBounds 13 = .ok (.sipush 200, 3) := by decide +kernel
theorem dX8_areFitBounds_16 : decode cX8_areFitBounds 16 = .ok (.invokestatic 20, 3) := by decide +kernel
theorem dX8_areFitBounds_19 : decode cX8_areFitBounds 19 = .ok (.ifCond .eq 7, 3) := by decide +kernel
theorem dX8_areFitBounds_22 : decode cX8_areFitBounds 22 = .ok (.iconst 1, 1) := by decide +kernel
theorem dX8_areFitBounds_23 : decode cX8_areFitBounds 23 = .ok (.goto 4, 3) := by decide +kernel
theorem dX8_areFitBounds_26 : decode cX8_areFitBounds 26 = .ok (.iconst 0, 1) := by decide +kernel
theorem dX8_areFitBounds_27 : decode cX8_areFitBounds 27 = .ok (.ireturn, 1) := by decide +kernel
theorem dX8_isNearer_0 : decode cX8_isNearer 0 = .ok (.iload_n 0, 1) := by decide +kernel
theorem dX8_isNearer_1 : decode cX8_isNearer 1 = .ok (.i2l, 1) := by decide +kernel
theorem dX8_isNearer_2 : decode cX8_isNearer 2 = .ok (.iload_n 1, 1) := by decide +kernel
theorem dX8_isNearer_3 : decode cX8_isNearer 3 = .ok (.i2l, 1) := by decide +kernel
theorem dX8_isNearer_4 : decode cX8_isNearer 4 = .ok (.iload_n 2, 1) := by decide +kernel
theorem dX8_isNearer_5 : decode cX8_isNearer 5 = .ok (.i2l, 1) := by decide +kernel
theorem dX8_isNearer_6 : decode cX8_isNearer 6 = .ok (.lmul, 1) := by decide +kernel
theorem dX8_isNearer_7 : decode cX8_isNearer 7 = .ok (.lsub, 1) := by decide +kernel
theorem dX8_isNearer_8 : decode cX8_isNearer 8 = .ok (.invokestatic 210, 3) := by decide +kernel
theorem dX8_isNearer_11 : decode cX8_isNearer 11 = .ok (.lstore 4, 2) := by decide +kernel
theorem dX8_isNearer_13 : decode cX8_isNearer 13 = .ok (.iload_n 0, 1) := by decide +kernel
theorem dX8_isNearer_14 : decode cX8_isNearer 14 = .ok (.i2l, 1) := by decide +kernel
theorem dX8_isNearer_15 : decode cX8_isNearer 15 = .ok (.iload_n 1, 1) := by decide +kernel
theorem dX8_isNearer_16 : decode cX8_isNearer 16 = .ok (.i2l, 1) := by decide +kernel
theorem dX8_isNearer_17 : decode cX8_isNearer 17 = .ok (.iload_n 3, 1) := by decide +kernel
theorem dX8_isNearer_18 : decode cX8_isNearer 18 = .ok (.i2l, 1) := by decide +kernel
theorem dX8_isNearer_19 : decode cX8_isNearer 19 = .ok (.lmul, 1) := by decide +kernel
theorem dX8_isNearer_20 : decode cX8_isNearer 20 = .ok (.lsub, 1) := by decide +kernel
theorem dX8_isNearer_21 : decode cX8_isNearer 21 = .ok (.invokestatic 210, 3) := by decide +kernel
theorem dX8_isNearer_24 : decode cX8_isNearer 24 = .ok (.lstore 6, 2) := by decide +kernel
theorem dX8_isNearer_26 : decode cX8_isNearer 26 = .ok (.lload 4, 2) := by decide +kernel
theorem dX8_isNearer_28 : decode cX8_isNearer 28 = .ok (.iload_n 3, 1) := by decide +kernel
theorem dX8_isNearer_29 : decode cX8_isNearer 29 = .ok (.i2l, 1) := by decide +kernel
theorem dX8_isNearer_30 : decode cX8_isNearer 30 = .ok (.lmul, 1) := by decide +kernel
theorem dX8_isNearer_31 : decode cX8_isNearer 31 = .ok (.lload 6, 2) := by decide +kernel
theorem dX8_isNearer_33 : decode cX8_isNearer 33 = .ok (.iload_n 2, 1) := by decide +kernel
theorem dX8_isNearer_34 : decode cX8_isNearer 34 = .ok (.i2l, 1) := by decide +kernel
theorem dX8_isNearer_35 : decode cX8_isNearer 35 = .ok (.lmul, 1) := by decide +kernel
theorem dX8_isNearer_36 : decode cX8_isNearer 36 = .ok (.lcmp, 1) := by decide +kernel
theorem dX8_isNearer_37 : decode cX8_isNearer 37 = .ok (.ifCond .ge 7, 3) := by decide +kernel
theorem dX8_isNearer_40 : decode cX8_isNearer 40 = .ok (.iconst 1, 1) := by decide +kernel
theorem dX8_isNearer_41 : decode cX8_isNearer 41 = .ok (.goto 4, 3) := by decide +kernel
theorem dX8_isNearer_44 : decode cX8_isNearer 44 = .ok (.iconst 0, 1) := by decide +kernel
theorem dX8_isNearer_45 : decode cX8_isNearer 45 = .ok (.ireturn, 1) := by decide +kernel
theorem dX9_init_0 : decode cX9_init 0 = .ok (.aload_n 0, 1) := by decide +kernel
theorem dX9_init_1 : decode cX9_init 1 = .ok (.invokespecial 1, 3) := by decide +kernel
theorem dX9_init_4 : decode cX9_init 4 = .ok (.aload_n 0, 1) := by decide +kernel
theorem dX9_init_5 : decode cX9_init 5 = .ok (.sipush 23520, 3) := by decide +kernel
theorem dX9_init_8 : decode cX9_init 8 = .ok (.newarray .int, 2) := by decide +kernel
theorem dX9_init_10 : decode cX9_init 10 = .ok (.putfield 7, 3) := by decide +kernel
theorem dX9_init_13 : decode cX9_init 13 = .ok (.aload_n 0, 1) := by decide +kernel
theorem dX9_init_14 : decode cX9_init 14 = .ok (.iconst 3, 1) := by decide +kernel
theorem dX9_init_15 : decode cX9_init 15 = .ok (.newarray .boolean, 2) := by decide +kernel
theorem dX9_init_17 : decode cX9_init 17 = .ok (.putfield 13, 3) := by decide +kernel
theorem dX9_init_20 : decode cX9_init 20 = .ok (.iconst 0, 1) := by decide +kernel
theorem dX9_init_21 : decode cX9_init 21 = .ok (.istore_n 1, 1) := by decide +kernel
theorem dX9_init_22 : decode cX9_init 22 = .ok (.iload_n 1, 1) := by decide +kernel
theorem dX9_init_23 : decode cX9_init 23 = .ok (.bipush 20, 2) := by decide +kernel
theorem dX9_init_25 : decode cX9_init 25 = .ok (.if_icmp .ge 83, 3) := by decide +kernel
theorem dX9_init_28 : decode cX9_init 28 = .ok (.aload_n 0, 1) := by decide +kernel
theorem dX9_init_29 : decode cX9_init 29 = .ok (.getfield 7, 3) := by decide +kernel
theorem dX9_init_32 : decode cX9_init 32 = .ok (.iload_n 1, 1) := by decide +kernel
theorem dX9_init_33 : decode cX9_init 33 = .ok (.bipush 16, 2) := by decide +kernel
theorem dX9_init_35 : decode cX9_init 35 = .ok (.iastore, 1) := by decide +kernel
theorem dX9_init_36 : decode cX9_init 36 = .ok (.aload_n 0, 1) := by decide +kernel
theorem dX9_init_37 : decode cX9_init 37 = .ok (.getfield 7, 3) := by decide +kernel
theorem dX9_init_40 : decode cX9_init 40 = .ok (.iload_n 1, 1) := by decide +kernel
theorem dX9_init_41 : decode cX9_init 41 = .ok (.iconst 1, 1) := by decide +kernel
theorem dX9_init_42 : decode cX9_init 42 = .ok (.iadd, 1) := by decide +kernel
theorem dX9_init_43 : decode cX9_init 43 = .ok (.iconst 2, 1) := by decide +kernel
theorem dX9_init_44 : decode cX9_init 44 = .ok (.iastore, 1) := by decide +kernel
theorem dX9_init_45 : decode cX9_init 45 = .ok (.aload_n 0, 1) := by decide +kernel
theorem dX9_init_46 : decode cX9_init 46 = .ok (.getfield 7, 3) := by decide +kernel
theorem dX9_init_49 : decode cX9_init 49 = .ok (.iload_n 1, 1) := by decide +kernel
theorem dX9_init_50 : decode cX9_init 50 = .ok (.iconst 2, 1) := by decide +kernel
theorem dX9_init_51 : decode cX9_init 51 = .ok (.iadd, 1) := by decide +kernel
theorem dX9_init_52 : decode cX9_init 52 = .ok (.iconst 3, 1) := by decide +kernel
theorem dX9_init_53 : decode cX9_init 53 = .ok (.iastore, 1) := by decide +kernel
theorem dX9_init_54 : decode cX9_init 54 = .ok (.aload_n 0, 1) := by decide +kernel
theorem dX9_init_55 : decode cX9_init 55 = .ok (.getfield 7, 3) := by decide +kernel
theorem dX9_init_58 : decode cX9_init 58 = .ok (.iload_n 1, 1) := by decide +kernel
theorem dX9_init_59 : decode cX9_init 59 = .ok (.iconst 3, 1) := by decide +kernel
theorem dX9_init_60 : decode cX9_init 60 = .ok (.iadd, 1) := by decide +kernel
theorem dX9_init_61 : decode cX9_init 61 = .ok (.iconst 3, 1) := by decide +kernel
theorem dX9_init_62 : decode cX9_init 62 = .ok (.iastore, 1) := by decide +kernel
theorem dX9_init_63 : decode cX9_init 63 = .ok (.aload_n 0, 1) := by decide +kernel
theorem dX9_init_64 : decode cX9_init 64 = .ok (.getfield 7, 3) := by decide +kernel
theorem dX9_init_67 : decode cX9_init 67 = .ok (.iload_n 1, 1) := by decide +kernel
theorem dX9_init_68 : decode cX9_init 68 = .ok (.iconst 4, 1) := by decide +kernel
theorem dX9_init_69 : decode cX9_init 69 = .ok (.iadd, 1) := by decide +kernel
theorem dX9_init_70 : decode cX9_init 70 = .ok (.bipush 8, 2) := by decide +kernel
theorem dX9_init_72 : decode cX9_init 72 = .ok (.iastore, 1) := by decide +kernel
theorem dX9_init_73 : decode cX9_init 73 = .ok (.aload_n 0, 1) := by decide +kernel
theorem dX9_init_74 : decode cX9_init 74 = .ok (.getfield 7, 3) := by decide +kernel
theorem dX9_init_77 : decode cX9_init 77 = .ok (.iload_n 1, 1) := by decide +kernel
theorem dX9_init_78 : decode cX9_init 78 = .ok (.iconst 5, 1) := by decide +kernel
theorem dX9_init_79 : decode cX9_init 79 = .ok (.iadd, 1) := by decide +kernel
theorem dX9_init_80 : decode cX9_init 80 = .ok (.iconst 1, 1) := by decide +kernel
theorem dX9_init_81 : decode cX9_init 81 = .ok (.iastore, 1) := by decide +kernel
theorem dX9_init_82 : decode cX9_init 82 = .ok (.aload_n 0, 1) := by decide +kernel
theorem dX9_init_83 : decode cX9_init 83 = .ok (.getfield 7, 3) := by decide +kernel
theorem dX9_init_86 : decode cX9_init 86 = .ok (.iload_n 1, 1) := by decide +kernel
theorem dX9_init_87 : decode cX9_init 87 = .ok (.bipush 6, 2) := by decide +kernel
theorem dX9_init_89 : decode cX9_init 89 = .ok (.iadd, 1) := by decide +kernel
theorem dX9_init_90 : decode cX9_init 90 = .ok (.iconst 1, 1) := by decide +kernel
theorem dX9_init_91 : decode cX9_init 91 = .ok (.iastore, 1) := by decide +kernel
theorem dX9_init_92 : decode cX9_init 92 = .ok (.aload_n 0, 1) := by decide +kernel
theorem dX9_init_93 : decode cX9_init 93 = .ok (.getfield 7, 3) := by decide +kernel
theorem dX9_init_96 : decode cX9_init 96 = .ok (.iload_n 1, 1) := by decide +kernel
theorem dX9_init_97 : decode cX9_init 97 = .ok (.bipush 7, 2) := by decide +kernel
theorem dX9_init_99 : decode cX9_init 99 = .ok (.iadd, 1) := by decide +kernel
theorem dX9_init_100 : decode cX9_init 100 = .ok (.iconst 1, 1) := by decide +kernel
theorem dX9_init_101 : decode cX9_init 101 = .ok (.iastore, 1) := by decide +kernel
theorem dX9_init_102 : decode cX9_init 102 = .ok (.iinc 1 10, 3) := by decide +kernel
theorem dX9_init_105 : decode cX9_init 105 = .ok (.goto (-83), 3) := by decide +kernel
theorem dX9_init_108 : decode cX9_init 108 = .ok (.aload_n 0, 1) := by decide +kernel
theorem dX9_init_109 : decode cX9_init 109 = .ok (.getfield 7, 3) := by decide +kernel
theorem dX9_init_112 : decode cX9_init 112 = .ok (.bipush 20, 2) := by decide +kernel
theorem dX9_init_114 : decode cX9_init 114 = .ok (.bipush 16, 2) := by decide +kernel
theorem dX9_init_116 : decode cX9_init 116 = .ok (.iastore, 1) := by decide +kernel
theorem dX9_init_117 : decode cX9_init 117 = .ok (.aload_n 0, 1) := by decide +kernel
theorem dX9_init_118 : decode cX9_init 118 = .ok (.getfield 7, 3) := by decide +kernel
theorem dX9_init_121 : decode cX9_init 121 = .ok (.bipush 21, 2) := by decide +kernel
theorem dX9_init_123 : decode cX9_init 123 = .ok (.bipush 10, 2) := by decide +kernel
theorem dX9_init_125 : decode cX9_init 125 = .ok (.iastore, 1) := by decide +kernel
theorem dX9_init_126 : decode cX9_init 126 = .ok (.aload_n 0, 1) := by decide +kernel
theorem dX9_init_127 : decode cX9_init 127 = .ok (.getfield 7, 3) := by decide +kernel
theorem dX9_init_130 : decode cX9_init 130 = .ok (.bipush 27, 2) := by decide +kernel
theorem dX9_init_132 : decode cX9_init 132 = .ok (.iconst 1, 1) := by decide +kernel
theorem dX9_init_133 : decode cX9_init 133 = .ok (.iastore, 1) := by decide +kernel
theorem dX9_init_134 : decode cX9_init 134 = .ok (.aload_n 0, 1) := by decide +kernel
theorem dX9_init_135 : decode cX9_init 135 = .ok (.getfield 7, 3) := by decide +kernel
theorem dX9_init_138 : decode cX9_init 138 = .ok (.bipush 29, 2) := by decide +kernel
theorem dX9_init_140 : decode cX9_init 140 = .ok (.iconst 2, 1) := by decide +kernel
theorem dX9_init_141 : decode cX9_init 141 = .ok (.iastore, 1) := by decide +kernel
theorem dX9_init_142 : decode cX9_init 142 = .ok (.aload_n 0, 1) := by decide +kernel
theorem dX9_init_143 : decode cX9_init 143 = .ok (.getfield 7, 3) := by decide +kernel
theorem dX9_init_146 : decode cX9_init 146 = .ok (.bipush 41, 2) := by decide +kernel
theorem dX9_init_148 : decode cX9_init 148 = .ok (.bipush 8, 2) := by decide +kernel
theorem dX9_init_150 : decode cX9_init 150 = .ok (.iastore, 1) := by decide +kernel
theorem dX9_init_151 : decode cX9_init 151 = .ok (.aload_n 0, 1) := by decide +kernel
theorem dX9_init_152 : decode cX9_init 152 = .ok (.getfield 7, 3) := by decide +kernel
theorem dX9_init_155 : decode cX9_init 155 = .ok (.bipush 43, 2) := by decide +kernel
theorem dX9_init_157 : decode cX9_init 157 = .ok (.iconst 1, 1) := by decide +kernel
theorem dX9_init_158 : decode cX9_init 158 = .ok (.iastore, 1) := by decide +kernel
theorem dX9_init_159 : decode cX9_init 159 = .ok (.return_, 1) := by decide +kernel
theorem dX9_isIn_0 : decode cX9_isIn 0 = .ok (.iload_n 0, 1) := by decide +kernel
theorem dX9_isIn_1 : decode cX9_isIn 1 = .ok (.iload_n 1, 1) := by decide +kernel
theorem dX9_isIn_2 : decode cX9_isIn 2 = .ok (.if_icmp .lt 12, 3) := by decide +kernel
theorem dX9_isIn_5 : decode cX9_isIn 5 = .ok (.iload_n 0, 1) := by decide +kernel
theorem dX9_isIn_6 : decode cX9_isIn 6 = .ok (.iload_n 2, 1) := by decide +kernel
theorem dX9_isIn_7 : decode cX9_isIn 7 = .ok (.if_icmp .gt 7, 3) := by decide +kernel
theorem dX9_isIn_10 : decode cX9_isIn 10 = .ok (.iconst 1, 1) := by decide +kernel
theorem dX9_isIn_11 : decode cX9_isIn 11 = .ok (.goto 4, 3) := by decide +kernel
theorem dX9_isIn_14 : decode cX9_isIn 14 = .ok (.iconst 0, 1) := by decide +kernel
theorem dX9_isIn_15 : decode cX9_isIn 15 = .ok (.ireturn, 1) := by decide +kernel
set_option maxRecDepth 20000 in
theorem ggX9_line_X9_isIn : GoodIn wsX9_line wsX9_isIn := goodIn_r _ [5] (by decide +kernel) (by decide +kernel)
set_option maxRecDepth 20000 in
theorem gX9_line_X9_isIn : GoodIn wsX9_line (va_wsS RX9 17 yX9_isIn wsX9_isIn) := goodIn_app (goodIn_of _ (by decide +kernel)) ggX9_line_X9_isIn
theorem dX9_line_0 : decode cX9_line 0 = .ok (.iload_n 1, 1) := by decide +kernel
theorem dX9_line_1 : decode cX9_line 1 = .ok (.bipush 8, 2) := by decide +kernel
theorem dX9_line_3 : decode cX9_line 3 = .ok (.bipush 64, 2) := by decide +kernel
theorem dX9_line_5 : decode cX9_line 5 = .ok (.invokestatic 17, 3) := by decide +kernel
theorem dX9_line_8 : decode cX9_line 8 = .ok (.ifCond .eq 34, 3) := by decide +kernel
theorem dX9_line_11 : decode cX9_line 11 = .ok (.iload_n 2, 1) := by decide +kernel
theorem dX9_line_12 : decode cX9_line 12 = .ok (.iconst 1, 1) := by decide +kernel
theorem dX9_line_13 : decode cX9_line 13 = .ok (.bipush 32, 2) := by decide +kernel
theorem dX9_line_15 : decode cX9_line 15 = .ok (.invokestatic 17, 3) := by decide +kernel
theorem dX9_line_18 : decode cX9_line 18 = .ok (.ifCond .eq 24, 3) := by decide +kernel
theorem dX9_line_21 : decode cX9_line 21 = .ok (.iload_n 3, 1) := by decide +kernel
theorem dX9_line_22 : decode cX9_line 22 = .ok (.iconst 1, 1) := by decide +kernel
theorem dX9_line_23 : decode cX9_line 23 = .ok (.bipush 32, 2) := by decide +kernel
theorem dX9_line_25 : decode cX9_line 25 = .ok (.invokestatic 17, 3) := by decide +kernel
theorem dX9_line_28 : decode cX9_line 28 = .ok (.ifCond .eq 14, 3) := by decide +kernel
theorem dX9_line_31 : decode cX9_line 31 = .ok (.iload 4, 2) := by decide +kernel
theorem dX9_line_33 : decode cX9_line 33 = .ok (.iconst 1, 1) := by decide +kernel
theorem dX9_line_34 : decode cX9_line 34 = .ok (.bipush 32, 2) := by decide +kernel
theorem dX9_line_36 : decode cX9_line 36 = .ok (.invokestatic 17, 3) := by decide +kernel
theorem dX9_line_39 : decode cX9_line 39 = .ok (.ifCond .ne 5, 3) := by decide +kernel
theorem dX9_line_42 : decode cX9_line 42 = .ok (.iconst 0, 1) := by decide +kernel
theorem dX9_line_43 : decode cX9_line 43 = .ok (.ireturn, 1) := by decide +kernel
theorem dX9_line_44 : decode cX9_line 44 = .ok (.aload_n 0, 1) := by decide +kernel
theorem dX9_line_45 : decode cX9_line 45 = .ok (.getfield 7, 3) := by decide +kernel
theorem dX9_line_48 : decode cX9_line 48 = .ok (.bipush 10, 2) := by decide +kernel
theorem dX9_line_50 : decode cX9_line 50 = .ok (.iload_n 1, 1) := by decide +kernel
theorem dX9_line_51 : decode cX9_line 51 = .ok (.iastore, 1) := by decide +kernel
theorem dX9_line_52 : decode cX9_line 52 = .ok (.aload_n 0, 1) := by decide +kernel
theorem dX9_line_53 : decode cX9_line 53 = .ok (.getfield 7, 3) := by decide +kernel
theorem dX9_line_56 : decode cX9_line 56 = .ok (.bipush 11, 2) := by decide +kernel
theorem dX9_line_58 : decode cX9_line 58 = .ok (.iload_n 2, 1) := by decide +kernel
theorem dX9_line_59 : decode cX9_line 59 = .ok (.iastore, 1) := by decide +kernel
theorem dX9_line_60 : decode cX9_line 60 = .ok (.aload_n 0, 1) := by decide +kernel
theorem dX9_line_61 : decode cX9_line 61 = .ok (.getfield 7, 3) := by decide +kernel
theorem dX9_line_64 : decode cX9_line 64 = .ok (.bipush 12, 2) := by decide +kernel
theorem dX9_line_66 : decode cX9_line 66 = .ok (.iload_n 3, 1) := by decide +kernel
theorem dX9_line_67 : decode cX9_line 67 = .ok (.iastore, 1) := by decide +kernel
theorem dX9_line_68 : decode cX9_line 68 = .ok (.aload_n 0, 1) := by decide +kernel
theorem dX9_line_69 : decode cX9_line 69 = .ok (.getfield 7, 3) := by decide +kernel
theorem dX9_line_72 : decode cX9_line 72 = .ok (.bipush 13, 2) := by decide +kernel
theorem dX9_line_74 : decode cX9_line 74 = .ok (.iload 4, 2) := by decide +kernel
theorem dX9_line_76 : decode cX9_line 76 = .ok (.iastore, 1) := by decide +kernel
theorem dX9_line_77 : decode cX9_line 77 = .ok (.iconst 1, 1) := by decide +kernel
theorem dX9_line_78 : decode cX9_line 78 = .ok (.ireturn, 1) := by decide +kernel
set_option maxRecDepth 20000 in
theorem ggX9_field_X9_isIn : GoodIn wsX9_field wsX9_isIn := goodIn_r _ [5] (by decide +kernel) (by decide +kernel)
set_option maxRecDepth 20000 in
theorem gX9_field_X9_isIn : GoodIn wsX9_field (va_wsS RX9 17 yX9_isIn wsX9_isIn) := goodIn_app (goodIn_of _ (by decide +kernel)) ggX9_field_X9_isIn
theorem dX9_field_0 : decode cX9_field 0 = .ok (.iload_n 1, 1) := by decide +kernel
theorem dX9_field_1 : decode cX9_field 1 = .ok (.iconst 1, 1) := by decide +kernel
theorem dX9_field_2 : decode cX9_field 2 = .ok (.bipush 32, 2) := by decide +kernel
theorem dX9_field_4 : decode cX9_field 4 = .ok (.invokestatic 17, 3) := by decide +kernel
theorem dX9_field_7 : decode cX9_field 7 = .ok (.ifCond .eq 34, 3) := by decide +kernel
theorem dX9_field_10 : decode cX9_field 10 = .ok (.iload_n 2, 1) := by decide +kernel
theorem dX9_field_11 : decode cX9_field 11 = .ok (.iconst 1, 1) := by decide +kernel
theorem dX9_field_12 : decode cX9_field 12 = .ok (.bipush 8, 2) := by decide +kernel
theorem dX9_field_14 : decode cX9_field 14 = .ok (.invokestatic 17, 3) := by decide +kernel
theorem dX9_field_17 : decode cX9_field 17 = .ok (.ifCond .eq 24, 3) := by decide +kernel
theorem dX9_field_20 : decode cX9_field 20 = .ok (.iload_n 3, 1) := by decide +kernel
theorem dX9_field_21 : decode cX9_field 21 = .ok (.iconst 1, 1) := by decide +kernel
theorem dX9_field_22 : decode cX9_field 22 = .ok (.bipush 8, 2) := by decide +kernel
theorem dX9_field_24 : decode cX9_field 24 = .ok (.invokestatic 17, 3) := by decide +kernel
theorem dX9_field_27 : decode cX9_field 27 = .ok (.ifCond .eq 14, 3) := by decide +kernel
theorem dX9_field_30 : decode cX9_field 30 = .ok (.iload 4, 2) := by decide +kernel
theorem dX9_field_32 : decode cX9_field 32 = .ok (.iconst 1, 1) := by decide +kernel
theorem dX9_field_33 : decode cX9_field 33 = .ok (.bipush 8, 2) := by decide +kernel
theorem dX9_field_35 : decode cX9_field 35 = .ok (.invokestatic 17, 3) := by decide +kernel
theorem dX9_field_38 : decode cX9_field 38 = .ok (.ifCond .ne 5, 3) := by decide +kernel
theorem dX9_field_41 : decode cX9_field 41 = .ok (.iconst 0, 1) := by decide +kernel
theorem dX9_field_42 : decode cX9_field 42 = .ok (.ireturn, 1) := by decide +kernel
theorem dX9_field_43 : decode cX9_field 43 = .ok (.aload_n 0, 1) := by decide +kernel
theorem dX9_field_44 : decode cX9_field 44 = .ok (.getfield 7, 3) := by decide +kernel
theorem dX9_field_47 : decode cX9_field 47 = .ok (.bipush 14, 2) := by decide +kernel
theorem dX9_field_49 : decode cX9_field 49 = .ok (.iload_n 1, 1) := by decide +kernel
theorem dX9_field_50 : decode cX9_field 50 = .ok (.iastore, 1) := by decide +kernel
theorem dX9_field_51 : decode cX9_field 51 = .ok (.aload_n 0, 1) := by decide +kernel
theorem dX9_field_52 : decode cX9_field 52 = .ok (.getfield 7, 3) := by decide +kernel
theorem dX9_field_55 : decode cX9_field 55 = .ok (.bipush 15, 2) := by decide +kernel
theorem dX9_field_57 : decode cX9_field 57 = .ok (.iload_n 2, 1) := by decide +kernel
theorem dX9_field_58 : decode cX9_field 58 = .ok (.iastore, 1) := by decide +kernel
theorem dX9_field_59 : decode cX9_field 59 = .ok (.aload_n 0, 1) := by decide +kernel
theorem dX9_field_60 : decode cX9_field 60 = .ok (.getfield 7, 3) := by decide +kernel
theorem dX9_field_63 : decode cX9_field 63 = .ok (.bipush 16, 2) := by decide +kernel
theorem dX9_field_65 : decode cX9_field 65 = .ok (.iload_n 3, 1) := by decide +kernel
theorem dX9_field_66 : decode cX9_field 66 = .ok (.iastore, 1) := by decide +kernel
theorem dX9_field_67 : decode cX9_field 67 = .ok (.aload_n 0, 1) := by decide +kernel
theorem dX9_field_68 : decode cX9_field 68 = .ok (.getfield 7, 3) := by decide +kernel
theorem dX9_field_71 : decode cX9_field 71 = .ok (.bipush 17, 2) := by decide +kernel
theorem dX9_field_73 : decode cX9_field 73 = .ok (.iload 4, 2) := by decide +kernel
theorem dX9_field_75 : decode cX9_field 75 = .ok (.iastore, 1) := by decide +kernel
theorem dX9_field_76 : decode cX9_field 76 = .ok (.aload_n 0, 1) := by decide +kernel
theorem dX9_field_77 : decode cX9_field 77 = .ok (.getfield 7, 3) := by decide +kernel
theorem dX9_field_80 : decode cX9_field 80 = .ok (.bipush 18, 2) := by decide +kernel
theorem dX9_field_82 : decode cX9_field 82 = .ok (.iload 5, 2) := by decide +kernel
theorem dX9_field_84 : decode cX9_field 84 = .ok (.ifCond .eq 7, 3) := by decide +kernel
theorem dX9_field_87 : decode cX9_field 87 = .ok (.iconst 1, 1) := by decide +kernel
theorem dX9_field_88 : decode cX9_field 88 = .ok (.goto 4, 3) := by decide +kernel
theorem dX9_field_91 : decode cX9_field 91 = .ok (.iconst 0, 1) := by decide +kernel
theorem dX9_field_92 : decode cX9_field 92 = .ok (.iastore, 1) := by decide +kernel
theorem dX9_field_93 : decode cX9_field 93 = .ok (.iconst 1, 1) := by decide +kernel
theorem dX9_field_94 : decode cX9_field 94 = .ok (.ireturn, 1) := by decide +kernel
theorem dX9_ticksOf_0 : decode cX9_ticksOf 0 = .ok (.aload_n 0, 1) := by decide +kernel
theorem dX9_ticksOf_1 : decode cX9_ticksOf 1 = .ok (.getfield 7, 3) := by decide +kernel
theorem dX9_ticksOf_4 : decode cX9_ticksOf 4 = .ok (.iload_n 1, 1) := by decide +kernel
theorem dX9_ticksOf_5 : decode cX9_ticksOf 5 = .ok (.iaload, 1) := by decide +kernel
theorem dX9_ticksOf_6 : decode cX9_ticksOf 6 = .ok (.aload_n 0, 1) := by decide +kernel
theorem dX9_ticksOf_7 : decode cX9_ticksOf 7 = .ok (.getfield 7, 3) := by decide +kernel
theorem dX9_ticksOf_10 : decode cX9_ticksOf 10 = .ok (.iload_n 1, 1) := by decide +kernel
theorem dX9_ticksOf_11 : decode cX9_ticksOf 11 = .ok (.iconst 1, 1) := by decide +kernel
theorem dX9_ticksOf_12 : decode cX9_ticksOf 12 = .ok (.iadd, 1) := by decide +kernel
theorem dX9_ticksOf_13 : decode cX9_ticksOf 13 = .ok (.iaload, 1) := by decide +kernel
theorem dX9_ticksOf_14 : decode cX9_ticksOf 14 = .ok (.iadd, 1) := by decide +kernel
theorem dX9_ticksOf_15 : decode cX9_ticksOf 15 = .ok (.aload_n 0, 1) := by decide +kernel
theorem dX9_ticksOf_16 : decode cX9_ticksOf 16 = .ok (.getfield 7, 3) := by decide +kernel
theorem dX9_ticksOf_19 : decode cX9_ticksOf 19 = .ok (.iload_n 1, 1) := by decide +kernel
theorem dX9_ticksOf_20 : decode cX9_ticksOf 20 = .ok (.iconst 2, 1) := by decide +kernel
theorem dX9_ticksOf_21 : decode cX9_ticksOf 21 = .ok (.iadd, 1) := by decide +kernel
theorem dX9_ticksOf_22 : decode cX9_ticksOf 22 = .ok (.iaload, 1) := by decide +kernel
theorem dX9_ticksOf_23 : decode cX9_ticksOf 23 = .ok (.iadd, 1) := by decide +kernel
theorem dX9_ticksOf_24 : decode cX9_ticksOf 24 = .ok (.aload_n 0, 1) := by decide +kernel
theorem dX9_ticksOf_25 : decode cX9_ticksOf 25 = .ok (.getfield 7, 3) := by decide +kernel
theorem dX9_ticksOf_28 : decode cX9_ticksOf 28 = .ok (.iload_n 1, 1) := by decide +kernel
theorem dX9_ticksOf_29 : decode cX9_ticksOf 29 = .ok (.iconst 3, 1) := by decide +kernel
theorem dX9_ticksOf_30 : decode cX9_ticksOf 30 = .ok (.iadd, 1) := by decide +kernel
theorem dX9_ticksOf_31 : decode cX9_ticksOf 31 = .ok (.iaload, 1) := by decide +kernel
theorem dX9_ticksOf_32 : decode cX9_ticksOf 32 = .ok (.iadd, 1) := by decide +kernel
theorem dX9_ticksOf_33 : decode cX9_ticksOf 33 = .ok (.ireturn, 1) := by decide +kernel
theorem dX9_linesOf_0 : decode cX9_linesOf 0 = .ok (.aload_n 0, 1) := by decide +kernel
theorem dX9_linesOf_1 : decode cX9_linesOf 1 = .ok (.getfield 7, 3) := by decide +kernel
theorem dX9_linesOf_4 : decode cX9_linesOf 4 = .ok (.iload_n 1, 1) := by decide +kernel
theorem dX9_linesOf_5 : decode cX9_linesOf 5 = .ok (.iconst 4, 1) := by decide +kernel
theorem dX9_linesOf_6 : decode cX9_linesOf 6 = .ok (.iadd, 1) := by decide +kernel
theorem dX9_linesOf_7 : decode cX9_linesOf 7 = .ok (.iaload, 1) := by decide +kernel
theorem dX9_linesOf_8 : decode cX9_linesOf 8 = .ok (.aload_n 0, 1) := by decide +kernel
theorem dX9_linesOf_9 : decode cX9_linesOf 9 = .ok (.getfield 7, 3) := by decide +kernel
theorem dX9_linesOf_12 : decode cX9_linesOf 12 = .ok (.iload_n 1, 1) := by decide +kernel
theorem dX9_linesOf_13 : decode cX9_linesOf 13 = .ok (.iconst 5, 1) := by decide +kernel
theorem dX9_linesOf_14 : decode cX9_linesOf 14 = .ok (.iadd, 1) := by decide +kernel
theorem dX9_linesOf_15 : decode cX9_linesOf 15 = .ok (.iaload, 1) := by decide +kernel
theorem dX9_linesOf_16 : decode cX9_linesOf 16 = .ok (.iadd, 1) := by decide +kernel
theorem dX9_linesOf_17 : decode cX9_linesOf 17 = .ok (.aload_n 0, 1) := by decide +kernel
theorem dX9_linesOf_18 : decode cX9_linesOf 18 = .ok (.getfield 7, 3) := by decide +kernel
theorem dX9_linesOf_21 : decode cX9_linesOf 21 = .ok (.iload_n 1, 1) := by decide +kernel
theorem dX9_linesOf_22 : decode cX9_linesOf 22 = .ok (.bipush 6, 2) := by decide +kernel
theorem dX9_linesOf_24 : decode cX9_linesOf 24 = .ok (.iadd, 1) := by decide +kernel
theorem dX9_linesOf_25 : decode cX9_linesOf 25 = .ok (.iaload, 1) := by decide +kernel
theorem dX9_linesOf_26 : decode cX9_linesOf 26 = .ok (.iadd, 1) := by decide +kernel
theorem dX9_linesOf_27 : decode cX9_linesOf 27 = .ok (.aload_n 0, 1) := by decide +kernel
theorem dX9_linesOf_28 : decode cX9_linesOf 28 = .ok (.getfield 7, 3) := by decide +kernel
theorem dX9_linesOf_31 : decode cX9_linesOf 31 = .ok (.iload_n 1, 1) := by decide +kernel
theorem dX9_linesOf_32 : decode cX9_linesOf 32 = .ok (.bipush 7, 2) := by decide +kernel
theorem dX9_linesOf_34 : decode cX9_linesOf 34 = .ok (.iadd, 1) := by decide +kernel
theorem dX9_linesOf_35 : decode cX9_linesOf 35 = .ok (.iaload, 1) := by decide +kernel
theorem dX9_linesOf_36 : decode cX9_linesOf 36 = .ok (.iadd, 1) := by decide +kernel
theorem dX9_linesOf_37 : decode cX9_linesOf 37 = .ok (.ireturn, 1) := by decide +kernel
theorem dX9_nextField_0 : decode cX9_nextField 0 = .ok (.aload_n 0, 1) := by decide +kernel
theorem dX9_nextField_1 : decode cX9_nextField 1 = .ok (.getfield 7, 3) := by decide +kernel
theorem dX9_nextField_4 : decode cX9_nextField 4 = .ok (.bipush 8, 2) := by decide +kernel
theorem dX9_nextField_6 : decode cX9_nextField 6 = .ok (.iaload, 1) := by decide +kernel
theorem dX9_nextField_7 : decode cX9_nextField 7 = .ok (.iconst 1, 1) := by decide +kernel
theorem dX9_nextField_8 : decode cX9_nextField 8 = .ok (.if_icmp .ne 27, 3) := by decide +kernel
theorem dX9_nextField_11 : decode cX9_nextField 11 = .ok (.aload_n 0, 1) := by decide +kernel
theorem dX9_nextField_12 : decode cX9_nextField 12 = .ok (.getfield 7, 3) := by decide +kernel
theorem dX9_nextField_15 : decode cX9_nextField 15 = .ok (.sipush 5878, 3) := by decide +kernel
theorem dX9_nextField_18 : decode cX9_nextField 18 = .ok (.iaload, 1) := by decide +kernel
theorem dX9_nextField_19 : decode cX9_nextField 19 = .ok (.iconst 1, 1) := by decide +kernel
theorem dX9_nextField_20 : decode cX9_nextField 20 = .ok (.if_icmp .ne 15, 3) := by decide +kernel
theorem dX9_nextField_23 : decode cX9_nextField 23 = .ok (.iconst 1, 1) := by decide +kernel
theorem dX9_nextField_24 : decode cX9_nextField 24 = .ok (.aload_n 0, 1) := by decide +kernel
theorem dX9_nextField_25 : decode cX9_nextField 25 = .ok (.getfield 7, 3) := by decide +kernel
theorem dX9_nextField_28 : decode cX9_nextField 28 = .ok (.bipush 22, 2) := by decide +kernel
theorem dX9_nextField_30 : decode cX9_nextField 30 = .ok (.iaload, 1) := by decide +kernel
theorem dX9_nextField_31 : decode cX9_nextField 31 = .ok (.isub, 1) := by decide +kernel
theorem dX9_nextField_32 : decode cX9_nextField 32 = .ok (.goto 4, 3) := by decide +kernel
theorem dX9_nextField_35 : decode cX9_nextField 35 = .ok (.iconst 0, 1) := by decide +kernel
theorem dX9_nextField_36 : decode cX9_nextField 36 = .ok (.ireturn, 1) := by decide +kernel
theorem dX9_rowOf_0 : decode cX9_rowOf 0 = .ok (.iload_n 2, 1) := by decide +kernel
theorem dX9_rowOf_1 : decode cX9_rowOf 1 = .ok (.iconst 1, 1) := by decide +kernel
theorem dX9_rowOf_2 : decode cX9_rowOf 2 = .ok (.if_icmp .ne 11, 3) := by decide +kernel
theorem dX9_rowOf_5 : decode cX9_rowOf 5 = .ok (.iconst 2, 1) := by decide +kernel
theorem dX9_rowOf_6 : decode cX9_rowOf 6 = .ok (.iload_n 0, 1) := by decide +kernel
theorem dX9_rowOf_7 : decode cX9_rowOf 7 = .ok (.imul, 1) := by decide +kernel
theorem dX9_rowOf_8 : decode cX9_rowOf 8 = .ok (.iload_n 1, 1) := by decide +kernel
theorem dX9_rowOf_9 : decode cX9_rowOf 9 = .ok (.iadd, 1) := by decide +kernel
theorem dX9_rowOf_10 : decode cX9_rowOf 10 = .ok (.goto 4, 3) := by decide +kernel
theorem dX9_rowOf_13 : decode cX9_rowOf 13 = .ok (.iload_n 0, 1) := by decide +kernel
theorem dX9_rowOf_14 : decode cX9_rowOf 14 = .ok (.ireturn, 1) := by decide +kernel
set_option maxRecDepth 20000 in
theorem ggX9_put_X9_isIn : GoodIn wsX9_put wsX9_isIn := goodIn_r _ [5] (by decide +kernel) (by decide +kernel)
set_option maxRecDepth 20000 in
theorem gX9_put_X9_isIn : GoodIn wsX9_put (va_wsS RX9 17 yX9_isIn wsX9_isIn) := goodIn_app (goodIn_of _ (by decide +kernel)) ggX9_put_X9_isIn
theorem dX9_put_0 : decode cX9_put 0 = .ok (.iload_n 1, 1) := by decide +kernel
theorem dX9_put_1 : decode cX9_put 1 = .ok (.iconst 0, 1) := by decide +kernel
theorem dX9_put_2 : decode cX9_put 2 = .ok (.sipush 1023, 3) := by decide +kernel
theorem dX9_put_5 : decode cX9_put 5 = .ok (.invokestatic 17, 3) := by decide +kernel
theorem dX9_put_8 : decode cX9_put 8 = .ok (.ifCond .ne 5, 3) := by decide +kernel
theorem dX9_put_11 : decode cX9_put 11 = .ok (.iconst 0, 1) := by decide +kernel
theorem dX9_put_12 : decode cX9_put 12 = .ok (.ireturn, 1) := by decide +kernel
theorem dX9_put_13 : decode cX9_put 13 = .ok (.aload_n 0, 1) := by decide +kernel
theorem dX9_put_14 : decode cX9_put 14 = .ok (.getfield 7, 3) := by decide +kernel
theorem dX9_put_17 : decode cX9_put 17 = .ok (.sipush 740, 3) := by decide +kernel
theorem dX9_put_20 : decode cX9_put 20 = .ok (.iload_n 1, 1) := by decide +kernel
theorem dX9_put_21 : decode cX9_put 21 = .ok (.iadd, 1) := by decide +kernel
theorem dX9_put_22 : decode cX9_put 22 = .ok (.iload_n 2, 1) := by decide +kernel
theorem dX9_put_23 : decode cX9_put 23 = .ok (.sipush 255, 3) := by decide +kernel
theorem dX9_put_26 : decode cX9_put 26 = .ok (.iand, 1) := by decide +kernel
theorem dX9_put_27 : decode cX9_put 27 = .ok (.iastore, 1) := by decide +kernel
theorem dX9_put_28 : decode cX9_put 28 = .ok (.iconst 1, 1) := by decide +kernel
theorem dX9_put_29 : decode cX9_put 29 = .ok (.ireturn, 1) := by decide +kernel
set_option maxRecDepth 20000 in
theorem ggX9_four_X9_isIn : GoodIn wsX9_four wsX9_isIn := goodIn_r _ [5] (by decide +kernel) (by decide +kernel)
set_option maxRecDepth 20000 in
theorem gX9_four_X9_isIn : GoodIn wsX9_four (va_wsS RX9 17 yX9_isIn wsX9_isIn) := goodIn_app (goodIn_of _ (by decide +kernel)) ggX9_four_X9_isIn
theorem dX9_four_0 : decode cX9_four 0 = .ok (.iload_n 1, 1) := by decide +kernel
theorem dX9_four_1 : decode cX9_four 1 = .ok (.iconst 0, 1) := by decide +kernel
theorem dX9_four_2 : decode cX9_four 2 = .ok (.sipush 1023, 3) := by decide +kernel
theorem dX9_four_5 : decode cX9_four 5 = .ok (.invokestatic 17, 3) := by decide +kernel
theorem dX9_four_8 : decode cX9_four 8 = .ok (.ifCond .ne 5, 3) := by decide +kernel
theorem dX9_four_11 : decode cX9_four 11 = .ok (.iconst 0, 1) := by decide +kernel
theorem dX9_four_12 : decode cX9_four 12 = .ok (.ireturn, 1) := by decide +kernel
theorem dX9_four_13 : decode cX9_four 13 = .ok (.iconst 0, 1) := by decide +kernel
theorem dX9_four_14 : decode cX9_four 14 = .ok (.istore_n 3, 1) := by decide +kernel
theorem dX9_four_15 : decode cX9_four 15 = .ok (.iload_n 3, 1) := by decide +kernel
theorem dX9_four_16 : decode cX9_four 16 = .ok (.iconst 4, 1) := by decide +kernel
theorem dX9_four_17 : decode cX9_four 17 = .ok (.if_icmp .ge 38, 3) := by decide +kernel
theorem dX9_four_20 : decode cX9_four 20 = .ok (.aload_n 0, 1) := by decide +kernel
theorem dX9_four_21 : decode cX9_four 21 = .ok (.getfield 7, 3) := by decide +kernel
theorem dX9_four_24 : decode cX9_four 24 = .ok (.sipush 740, 3) := by decide +kernel
theorem dX9_four_27 : decode cX9_four 27 = .ok (.iload_n 1, 1) := by decide +kernel
theorem dX9_four_28 : decode cX9_four 28 = .ok (.iload_n 3, 1) := by decide +kernel
theorem dX9_four_29 : decode cX9_four 29 = .ok (.iadd, 1) := by decide +kernel
theorem dX9_four_30 : decode cX9_four 30 = .ok (.sipush 1024, 3) := by decide +kernel
theorem dX9_four_33 : decode cX9_four 33 = .ok (.irem, 1) := by decide +kernel
theorem dX9_four_34 : decode cX9_four 34 = .ok (.iadd, 1) := by decide +kernel
theorem dX9_four_35 : decode cX9_four 35 = .ok (.iload_n 2, 1) := by decide +kernel
theorem dX9_four_36 : decode cX9_four 36 = .ok (.bipush 24, 2) := by decide +kernel
theorem dX9_four_38 : decode cX9_four 38 = .ok (.bipush 8, 2) := by decide +kernel
theorem dX9_four_40 : decode cX9_four 40 = .ok (.iload_n 3, 1) := by decide +kernel
theorem dX9_four_41 : decode cX9_four 41 = .ok (.imul, 1) := by decide +kernel
theorem dX9_four_42 : decode cX9_four 42 = .ok (.isub, 1) := by decide +kernel
theorem dX9_four_43 : decode cX9_four 43 = .ok (.ishr, 1) := by decide +kernel
theorem dX9_four_44 : decode cX9_four 44 = .ok (.sipush 255, 3) := by decide +kernel
theorem dX9_four_47 : decode cX9_four 47 = .ok (.iand, 1) := by decide +kernel
theorem dX9_four_48 : decode cX9_four 48 = .ok (.iastore, 1) := by decide +kernel
theorem dX9_four_49 : decode cX9_four 49 = .ok (.iinc 3 1, 3) := by decide +kernel
theorem dX9_four_52 : decode cX9_four 52 = .ok (.goto (-37), 3) := by decide +kernel
theorem dX9_four_55 : decode cX9_four 55 = .ok (.iconst 1, 1) := by decide +kernel
theorem dX9_four_56 : decode cX9_four 56 = .ok (.ireturn, 1) := by decide +kernel
set_option maxRecDepth 20000 in
theorem ggX9_isValue_X9_isIn : GoodIn wsX9_isValue wsX9_isIn := goodIn_r _ [4] (by decide +kernel) (by decide +kernel)
set_option maxRecDepth 20000 in
theorem gX9_isValue_X9_isIn : GoodIn wsX9_isValue (va_wsS RX9 17 yX9_isIn wsX9_isIn) := goodIn_app (goodIn_of _ (by decide +kernel)) ggX9_isValue_X9_isIn
theorem dX9_isValue_0 : decode cX9_isValue 0 = .ok (.iload_n 0, 1) := by decide +kernel
theorem dX9_isValue_1 : decode cX9_isValue 1 = .ok (.tableswitch 69 0 4 #[35, 44, 52, 60, 60], 35) := by decide +kernel
theorem dX9_isValue_36 : decode cX9_isValue 36 = .ok (.iload_n 1, 1) := by decide +kernel
theorem dX9_isValue_37 : decode cX9_isValue 37 = .ok (.iconst 0, 1) := by decide +kernel
theorem dX9_isValue_38 : decode cX9_isValue 38 = .ok (.sipush 1023, 3) := by decide +kernel
theorem dX9_isValue_41 : decode cX9_isValue 41 = .ok (.invokestatic 17, 3) := by decide +kernel
theorem dX9_isValue_44 : decode cX9_isValue 44 = .ok (.ireturn, 1) := by decide +kernel
theorem dX9_isValue_45 : decode cX9_isValue 45 = .ok (.iload_n 1, 1) := by decide +kernel
theorem dX9_isValue_46 : decode cX9_isValue 46 = .ok (.iconst 0, 1) := by decide +kernel
theorem dX9_isValue_47 : decode cX9_isValue 47 = .ok (.bipush 64, 2) := by decide +kernel
theorem dX9_isValue_49 : decode cX9_isValue 49 = .ok (.invokestatic 17, 3) := by decide +kernel
theorem dX9_isValue_52 : decode cX9_isValue 52 = .ok (.ireturn, 1) := by decide +kernel
theorem dX9_isValue_53 : decode cX9_isValue 53 = .ok (.iload_n 1, 1) := by decide +kernel
theorem dX9_isValue_54 : decode cX9_isValue 54 = .ok (.iconst 0, 1) := by decide +kernel
theorem dX9_isValue_55 : decode cX9_isValue 55 = .ok (.bipush 7, 2) := by decide +kernel
theorem dX9_isValue_57 : decode cX9_isValue 57 = .ok (.invokestatic 17, 3) := by decide +kernel
theorem dX9_isValue_60 : decode cX9_isValue 60 = .ok (.ireturn, 1) := by decide +kernel
theorem dX9_isValue_61 : decode cX9_isValue 61 = .ok (.iload_n 1, 1) := by decide +kernel
theorem dX9_isValue_62 : decode cX9_isValue 62 = .ok (.iconst 0, 1) := by decide +kernel
theorem dX9_isValue_63 : decode cX9_isValue 63 = .ok (.sipush 255, 3) := by decide +kernel
theorem dX9_isValue_66 : decode cX9_isValue 66 = .ok (.invokestatic 17, 3) := by decide +kernel
theorem dX9_isValue_69 : decode cX9_isValue 69 = .ok (.ireturn, 1) := by decide +kernel
theorem dX9_isValue_70 : decode cX9_isValue 70 = .ok (.iconst 0, 1) := by decide +kernel
theorem dX9_isValue_71 : decode cX9_isValue 71 = .ok (.ireturn, 1) := by decide +kernel
set_option maxRecDepth 20000 in
theorem ggX9_register_X9_isValue : GoodIn wsX9_register wsX9_isValue := goodIn_r _ [5, 6, 7, 4, 8] (by decide +kernel) (by decide +kernel)
set_option maxRecDepth 20000 in
theorem gX9_register_X9_isValue : GoodIn wsX9_register (va_wsS RX9 21 yX9_isValue wsX9_isValue) := goodIn_app (goodIn_of _ (by decide +kernel)) ggX9_register_X9_isValue
theorem dX9_register_0 : decode cX9_register 0 = .ok (.iload_n 1, 1) := by decide +kernel
theorem dX9_register_1 : decode cX9_register 1 = .ok (.iload_n 2, 1) := by decide +kernel
theorem dX9_register_2 : decode cX9_register 2 = .ok (.invokestatic 21, 3) := by decide +kernel
theorem dX9_register_5 : decode cX9_register 5 = .ok (.ifCond .ne 5, 3) := by decide +kernel
theorem dX9_register_8 : decode cX9_register 8 = .ok (.iconst 0, 1) := by decide +kernel
theorem dX9_register_9 : decode cX9_register 9 = .ok (.ireturn, 1) := by decide +kernel
theorem dX9_register_10 : decode cX9_register 10 = .ok (.aload_n 0, 1) := by decide +kernel
theorem dX9_register_11 : decode cX9_register 11 = .ok (.getfield 7, 3) := by decide +kernel
theorem dX9_register_14 : decode cX9_register 14 = .ok (.bipush 40, 2) := by decide +kernel
theorem dX9_register_16 : decode cX9_register 16 = .ok (.iload_n 1, 1) := by decide +kernel
theorem dX9_register_17 : decode cX9_register 17 = .ok (.iadd, 1) := by decide +kernel
theorem dX9_register_18 : decode cX9_register 18 = .ok (.iload_n 2, 1) := by decide +kernel
theorem dX9_register_19 : decode cX9_register 19 = .ok (.iastore, 1) := by decide +kernel
theorem dX9_register_20 : decode cX9_register 20 = .ok (.iconst 1, 1) := by decide +kernel
theorem dX9_register_21 : decode cX9_register 21 = .ok (.ireturn, 1) := by decide +kernel
set_option maxRecDepth 20000 in
theorem ggX9_entry_X9_isIn : GoodIn wsX9_entry wsX9_isIn := goodIn_r _ [5] (by decide +kernel) (by decide +kernel)
set_option maxRecDepth 20000 in
theorem gX9_entry_X9_isIn : GoodIn wsX9_entry (va_wsS RX9 17 yX9_isIn wsX9_isIn) := goodIn_app (goodIn_of _ (by decide +kernel)) ggX9_entry_X9_isIn
set_option maxRecDepth 20000 in
theorem ggX9_entry_X9_isValue : GoodIn wsX9_entry wsX9_isValue := goodIn_r _ [8, 2, 3, 4, 5] (by decide +kernel) (by decide +kernel)
set_option maxRecDepth 20000 in
theorem gX9_entry_X9_isValue : GoodIn wsX9_entry (va_wsS RX9 21 yX9_isValue wsX9_isValue) := goodIn_app (goodIn_of _ (by decide +kernel)) ggX9_entry_X9_isValue
theorem dX9_entry_0 : decode cX9_entry 0 = .ok (.aload_n 0, 1) := by decide +kernel
theorem dX9_entry_1 : decode cX9_entry 1 = .ok (.getfield 7, 3) := by decide +kernel
theorem dX9_entry_4 : decode cX9_entry 4 = .ok (.bipush 36, 2) := by decide +kernel
theorem dX9_entry_6 : decode cX9_entry 6 = .ok (.iaload, 1) := by decide +kernel
theorem dX9_entry_7 : decode cX9_entry 7 = .ok (.bipush 16, 2) := by decide +kernel
theorem dX9_entry_9 : decode cX9_entry 9 = .ok (.if_icmp .eq 33, 3) := by decide +kernel
theorem dX9_entry_12 : decode cX9_entry 12 = .ok (.iload_n 1, 1) := by decide +kernel
theorem dX9_entry_13 : decode cX9_entry 13 = .ok (.iconst 0, 1) := by decide +kernel
theorem dX9_entry_14 : decode cX9_entry 14 = .ok (.bipush 63, 2) := by decide +kernel
theorem dX9_entry_16 : decode cX9_entry 16 = .ok (.invokestatic 17, 3) := by decide +kernel
theorem dX9_entry_19 : decode cX9_entry 19 = .ok (.ifCond .eq 23, 3) := by decide +kernel
theorem dX9_entry_22 : decode cX9_entry 22 = .ok (.iload_n 2, 1) := by decide +kernel
theorem dX9_entry_23 : decode cX9_entry 23 = .ok (.iconst 0, 1) := by decide +kernel
theorem dX9_entry_24 : decode cX9_entry 24 = .ok (.sipush 159, 3) := by decide +kernel
theorem dX9_entry_27 : decode cX9_entry 27 = .ok (.invokestatic 17, 3) := by decide +kernel
theorem dX9_entry_30 : decode cX9_entry 30 = .ok (.ifCond .eq 12, 3) := by decide +kernel
theorem dX9_entry_33 : decode cX9_entry 33 = .ok (.iload_n 3, 1) := by decide +kernel
theorem dX9_entry_34 : decode cX9_entry 34 = .ok (.iload 4, 2) := by decide +kernel
theorem dX9_entry_36 : decode cX9_entry 36 = .ok (.invokestatic 21, 3) := by decide +kernel
theorem dX9_entry_39 : decode cX9_entry 39 = .ok (.ifCond .ne 5, 3) := by decide +kernel
theorem dX9_entry_42 : decode cX9_entry 42 = .ok (.iconst (-1), 1) := by decide +kernel
theorem dX9_entry_43 : decode cX9_entry 43 = .ok (.ireturn, 1) := by decide +kernel
theorem dX9_entry_44 : decode cX9_entry 44 = .ok (.bipush 60, 2) := by decide +kernel
theorem dX9_entry_46 : decode cX9_entry 46 = .ok (.iconst 4, 1) := by decide +kernel
theorem dX9_entry_47 : decode cX9_entry 47 = .ok (.aload_n 0, 1) := by decide +kernel
theorem dX9_entry_48 : decode cX9_entry 48 = .ok (.getfield 7, 3) := by decide +kernel
theorem dX9_entry_51 : decode cX9_entry 51 = .ok (.bipush 36, 2) := by decide +kernel
theorem dX9_entry_53 : decode cX9_entry 53 = .ok (.iaload, 1) := by decide +kernel
theorem dX9_entry_54 : decode cX9_entry 54 = .ok (.imul, 1) := by decide +kernel
theorem dX9_entry_55 : decode cX9_entry 55 = .ok (.iadd, 1) := by decide +kernel
theorem dX9_entry_56 : decode cX9_entry 56 = .ok (.istore 5, 2) := by decide +kernel
theorem dX9_entry_58 : decode cX9_entry 58 = .ok (.aload_n 0, 1) := by decide +kernel
theorem dX9_entry_59 : decode cX9_entry 59 = .ok (.getfield 7, 3) := by decide +kernel
theorem dX9_entry_62 : decode cX9_entry 62 = .ok (.iload 5, 2) := by decide +kernel
theorem dX9_entry_64 : decode cX9_entry 64 = .ok (.iload_n 1, 1) := by decide +kernel
theorem dX9_entry_65 : decode cX9_entry 65 = .ok (.iastore, 1) := by decide +kernel
theorem dX9_entry_66 : decode cX9_entry 66 = .ok (.aload_n 0, 1) := by decide +kernel
theorem dX9_entry_67 : decode cX9_entry 67 = .ok (.getfield 7, 3) := by decide +kernel
theorem dX9_entry_70 : decode cX9_entry 70 = .ok (.iload 5, 2) := by decide +kernel
theorem dX9_entry_72 : decode cX9_entry 72 = .ok (.iconst 1, 1) := by decide +kernel
theorem dX9_entry_73 : decode cX9_entry 73 = .ok (.iadd, 1) := by decide +kernel
theorem dX9_entry_74 : decode cX9_entry 74 = .ok (.iload_n 2, 1) := by decide +kernel
theorem dX9_entry_75 : decode cX9_entry 75 = .ok (.iastore, 1) := by decide +kernel
theorem dX9_entry_76 : decode cX9_entry 76 = .ok (.aload_n 0, 1) := by decide +kernel
theorem dX9_entry_77 : decode cX9_entry 77 = .ok (.getfield 7, 3) := by decide +kernel
theorem dX9_entry_80 : decode cX9_entry 80 = .ok (.iload 5, 2) := by decide +kernel
theorem dX9_entry_82 : decode cX9_entry 82 = .ok (.iconst 2, 1) := by decide +kernel
theorem dX9_entry_83 : decode cX9_entry 83 = .ok (.iadd, 1) := by decide +kernel
theorem dX9_entry_84 : decode cX9_entry 84 = .ok (.iload_n 3, 1) := by decide +kernel
theorem dX9_entry_85 : decode cX9_entry 85 = .ok (.iastore, 1) := by decide +kernel
theorem dX9_entry_86 : decode cX9_entry 86 = .ok (.aload_n 0, 1) := by decide +kernel
theorem dX9_entry_87 : decode cX9_entry 87 = .ok (.getfield 7, 3) := by decide +kernel
theorem dX9_entry_90 : decode cX9_entry 90 = .ok (.iload 5, 2) := by decide +kernel
theorem dX9_entry_92 : decode cX9_entry 92 = .ok (.iconst 3, 1) := by decide +kernel
theorem dX9_entry_93 : decode cX9_entry 93 = .ok (.iadd, 1) := by decide +kernel
theorem dX9_entry_94 : decode cX9_entry 94 = .ok (.iload 4, 2) := by decide +kernel
theorem dX9_entry_96 : decode cX9_entry 96 = .ok (.iastore, 1) := by decide +kernel
theorem dX9_entry_97 : decode cX9_entry 97 = .ok (.aload_n 0, 1) := by decide +kernel
theorem dX9_entry_98 : decode cX9_entry 98 = .ok (.getfield 7, 3) := by decide +kernel
theorem dX9_entry_101 : decode cX9_entry 101 = .ok (.bipush 36, 2) := by decide +kernel
theorem dX9_entry_103 : decode cX9_entry 103 = .ok (.dup2, 1) := by decide +kernel
theorem dX9_entry_104 : decode cX9_entry 104 = .ok (.iaload, 1) := by decide +kernel
theorem dX9_entry_105 : decode cX9_entry 105 = .ok (.iconst 1, 1) := by decide +kernel
theorem dX9_entry_106 : decode cX9_entry 106 = .ok (.iadd, 1) := by decide +kernel
theorem dX9_entry_107 : decode cX9_entry 107 = .ok (.iastore, 1) := by decide +kernel
theorem dX9_entry_108 : decode cX9_entry 108 = .ok (.aload_n 0, 1) := by decide +kernel
theorem dX9_entry_109 : decode cX9_entry 109 = .ok (.getfield 7, 3) := by decide +kernel
theorem dX9_entry_112 : decode cX9_entry 112 = .ok (.bipush 36, 2) := by decide +kernel
theorem dX9_entry_114 : decode cX9_entry 114 = .ok (.iaload, 1) := by decide +kernel
theorem dX9_entry_115 : decode cX9_entry 115 = .ok (.ireturn, 1) := by decide +kernel
theorem dX9_clear_0 : decode cX9_clear 0 = .ok (.aload_n 0, 1) := by decide +kernel
theorem dX9_clear_1 : decode cX9_clear 1 = .ok (.getfield 7, 3) := by decide +kernel
theorem dX9_clear_4 : decode cX9_clear 4 = .ok (.bipush 36, 2) := by decide +kernel
theorem dX9_clear_6 : decode cX9_clear 6 = .ok (.iconst 0, 1) := by decide +kernel
theorem dX9_clear_7 : decode cX9_clear 7 = .ok (.iastore, 1) := by decide +kernel
theorem dX9_clear_8 : decode cX9_clear 8 = .ok (.return_, 1) := by decide +kernel
