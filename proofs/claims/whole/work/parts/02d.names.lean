set_option maxRecDepth 20000 in
theorem ggX7_hasBit_X8_within : GoodIn wsX7_hasBit wsX8_within := goodIn_r _ [6] (by decide +kernel) (by decide +kernel)
set_option maxRecDepth 20000 in
theorem gX7_hasBit_X8_within_n45 : GoodIn wsX7_hasBit (wsX8_within) := ggX7_hasBit_X8_within
theorem dX7_hasBit_0 : decode cX7_hasBit 0 = .ok (.iload_n 2, 1) := by decide +kernel
theorem dX7_hasBit_1 : decode cX7_hasBit 1 = .ok (.aload_n 0, 1) := by decide +kernel
theorem dX7_hasBit_2 : decode cX7_hasBit 2 = .ok (.getfield 9, 3) := by decide +kernel
theorem dX7_hasBit_5 : decode cX7_hasBit 5 = .ok (.iload_n 1, 1) := by decide +kernel
theorem dX7_hasBit_6 : decode cX7_hasBit 6 = .ok (.iaload, 1) := by decide +kernel
theorem dX7_hasBit_7 : decode cX7_hasBit 7 = .ok (.isub, 1) := by decide +kernel
theorem dX7_hasBit_8 : decode cX7_hasBit 8 = .ok (.istore 4, 2) := by decide +kernel
theorem dX7_hasBit_10 : decode cX7_hasBit 10 = .ok (.iload_n 3, 1) := by decide +kernel
theorem dX7_hasBit_11 : decode cX7_hasBit 11 = .ok (.aload_n 0, 1) := by decide +kernel
theorem dX7_hasBit_12 : decode cX7_hasBit 12 = .ok (.getfield 15, 3) := by decide +kernel
theorem dX7_hasBit_15 : decode cX7_hasBit 15 = .ok (.iload_n 1, 1) := by decide +kernel
theorem dX7_hasBit_16 : decode cX7_hasBit 16 = .ok (.iaload, 1) := by decide +kernel
theorem dX7_hasBit_17 : decode cX7_hasBit 17 = .ok (.isub, 1) := by decide +kernel
theorem dX7_hasBit_18 : decode cX7_hasBit 18 = .ok (.istore 5, 2) := by decide +kernel
theorem dX7_hasBit_20 : decode cX7_hasBit 20 = .ok (.iload 4, 2) := by decide +kernel
theorem dX7_hasBit_22 : decode cX7_hasBit 22 = .ok (.iconst 0, 1) := by decide +kernel
theorem dX7_hasBit_23 : decode cX7_hasBit 23 = .ok (.bipush 7, 2) := by decide +kernel
theorem dX7_hasBit_25 : decode cX7_hasBit 25 = .ok (.invokestatic 45, 3) := by decide +kernel
theorem dX7_hasBit_28 : decode cX7_hasBit 28 = .ok (.ifCond .eq 14, 3) := by decide +kernel
theorem dX7_hasBit_31 : decode cX7_hasBit 31 = .ok (.iload 5, 2) := by decide +kernel
theorem dX7_hasBit_33 : decode cX7_hasBit 33 = .ok (.iconst 0, 1) := by decide +kernel
theorem dX7_hasBit_34 : decode cX7_hasBit 34 = .ok (.bipush 7, 2) := by decide +kernel
theorem dX7_hasBit_36 : decode cX7_hasBit 36 = .ok (.invokestatic 45, 3) := by decide +kernel
theorem dX7_hasBit_39 : decode cX7_hasBit 39 = .ok (.ifCond .ne 5, 3) := by decide +kernel
theorem dX7_hasBit_42 : decode cX7_hasBit 42 = .ok (.iconst 0, 1) := by decide +kernel
theorem dX7_hasBit_43 : decode cX7_hasBit 43 = .ok (.ireturn, 1) := by decide +kernel
theorem dX7_hasBit_44 : decode cX7_hasBit 44 = .ok (.aload_n 0, 1) := by decide +kernel
theorem dX7_hasBit_45 : decode cX7_hasBit 45 = .ok (.getfield 21, 3) := by decide +kernel
theorem dX7_hasBit_48 : decode cX7_hasBit 48 = .ok (.iload_n 1, 1) := by decide +kernel
theorem dX7_hasBit_49 : decode cX7_hasBit 49 = .ok (.bipush 8, 2) := by decide +kernel
theorem dX7_hasBit_51 : decode cX7_hasBit 51 = .ok (.imul, 1) := by decide +kernel
theorem dX7_hasBit_52 : decode cX7_hasBit 52 = .ok (.iload 5, 2) := by decide +kernel
theorem dX7_hasBit_54 : decode cX7_hasBit 54 = .ok (.iadd, 1) := by decide +kernel
theorem dX7_hasBit_55 : decode cX7_hasBit 55 = .ok (.iaload, 1) := by decide +kernel
theorem dX7_hasBit_56 : decode cX7_hasBit 56 = .ok (.bipush 7, 2) := by decide +kernel
theorem dX7_hasBit_58 : decode cX7_hasBit 58 = .ok (.iload 4, 2) := by decide +kernel
theorem dX7_hasBit_60 : decode cX7_hasBit 60 = .ok (.isub, 1) := by decide +kernel
theorem dX7_hasBit_61 : decode cX7_hasBit 61 = .ok (.ishr, 1) := by decide +kernel
theorem dX7_hasBit_62 : decode cX7_hasBit 62 = .ok (.iconst 1, 1) := by decide +kernel
theorem dX7_hasBit_63 : decode cX7_hasBit 63 = .ok (.iand, 1) := by decide +kernel
theorem dX7_hasBit_64 : decode cX7_hasBit 64 = .ok (.iconst 1, 1) := by decide +kernel
theorem dX7_hasBit_65 : decode cX7_hasBit 65 = .ok (.if_icmp .ne 7, 3) := by decide +kernel
theorem dX7_hasBit_68 : decode cX7_hasBit 68 = .ok (.iconst 1, 1) := by decide +kernel
theorem dX7_hasBit_69 : decode cX7_hasBit 69 = .ok (.goto 4, 3) := by decide +kernel
theorem dX7_hasBit_72 : decode cX7_hasBit 72 = .ok (.iconst 0, 1) := by decide +kernel
theorem dX7_hasBit_73 : decode cX7_hasBit 73 = .ok (.ireturn, 1) := by decide +kernel
theorem dX7_copyFrom_0 : decode cX7_copyFrom 0 = .ok (.aload_n 1, 1) := by decide +kernel
theorem dX7_copyFrom_1 : decode cX7_copyFrom 1 = .ok (.getfield 9, 3) := by decide +kernel
theorem dX7_copyFrom_4 : decode cX7_copyFrom 4 = .ok (.iconst 0, 1) := by decide +kernel
theorem dX7_copyFrom_5 : decode cX7_copyFrom 5 = .ok (.aload_n 0, 1) := by decide +kernel
theorem dX7_copyFrom_6 : decode cX7_copyFrom 6 = .ok (.getfield 9, 3) := by decide +kernel
theorem dX7_copyFrom_9 : decode cX7_copyFrom 9 = .ok (.iconst 0, 1) := by decide +kernel
theorem dX7_copyFrom_10 : decode cX7_copyFrom 10 = .ok (.bipush 8, 2) := by decide +kernel
theorem dX7_copyFrom_12 : decode cX7_copyFrom 12 = .ok (.invokestatic 48, 3) := by decide +kernel
theorem dX7_copyFrom_15 : decode cX7_copyFrom 15 = .ok (.aload_n 1, 1) := by decide +kernel
theorem dX7_copyFrom_16 : decode cX7_copyFrom 16 = .ok (.getfield 15, 3) := by decide +kernel
theorem dX7_copyFrom_19 : decode cX7_copyFrom 19 = .ok (.iconst 0, 1) := by decide +kernel
theorem dX7_copyFrom_20 : decode cX7_copyFrom 20 = .ok (.aload_n 0, 1) := by decide +kernel
theorem dX7_copyFrom_21 : decode cX7_copyFrom 21 = .ok (.getfield 15, 3) := by decide +kernel
theorem dX7_copyFrom_24 : decode cX7_copyFrom 24 = .ok (.iconst 0, 1) := by decide +kernel
theorem dX7_copyFrom_25 : decode cX7_copyFrom 25 = .ok (.bipush 8, 2) := by decide +kernel
theorem dX7_copyFrom_27 : decode cX7_copyFrom 27 = .ok (.invokestatic 48, 3) := by decide +kernel
theorem dX7_copyFrom_30 : decode cX7_copyFrom 30 = .ok (.aload_n 1, 1) := by decide +kernel
theorem dX7_copyFrom_31 : decode cX7_copyFrom 31 = .ok (.getfield 18, 3) := by decide +kernel
theorem dX7_copyFrom_34 : decode cX7_copyFrom 34 = .ok (.iconst 0, 1) := by decide +kernel
theorem dX7_copyFrom_35 : decode cX7_copyFrom 35 = .ok (.aload_n 0, 1) := by decide +kernel
theorem dX7_copyFrom_36 : decode cX7_copyFrom 36 = .ok (.getfield 18, 3) := by decide +kernel
theorem dX7_copyFrom_39 : decode cX7_copyFrom 39 = .ok (.iconst 0, 1) := by decide +kernel
theorem dX7_copyFrom_40 : decode cX7_copyFrom 40 = .ok (.bipush 8, 2) := by decide +kernel
theorem dX7_copyFrom_42 : decode cX7_copyFrom 42 = .ok (.invokestatic 48, 3) := by decide +kernel
theorem dX7_copyFrom_45 : decode cX7_copyFrom 45 = .ok (.aload_n 1, 1) := by decide +kernel
theorem dX7_copyFrom_46 : decode cX7_copyFrom 46 = .ok (.getfield 21, 3) := by decide +kernel
theorem dX7_copyFrom_49 : decode cX7_copyFrom 49 = .ok (.iconst 0, 1) := by decide +kernel
theorem dX7_copyFrom_50 : decode cX7_copyFrom 50 = .ok (.aload_n 0, 1) := by decide +kernel
theorem dX7_copyFrom_51 : decode cX7_copyFrom 51 = .ok (.getfield 21, 3) := by decide +kernel
theorem dX7_copyFrom_54 : decode cX7_copyFrom 54 = .ok (.iconst 0, 1) := by decide +kernel
theorem dX7_copyFrom_55 : decode cX7_copyFrom 55 = .ok (.aload_n 0, 1) := by decide +kernel
theorem dX7_copyFrom_56 : decode cX7_copyFrom 56 = .ok (.getfield 21, 3) := by decide +kernel
theorem dX7_copyFrom_59 : decode cX7_copyFrom 59 = .ok (.arraylength, 1) := by decide +kernel
theorem dX7_copyFrom_60 : decode cX7_copyFrom 60 = .ok (.invokestatic 48, 3) := by decide +kernel
theorem dX7_copyFrom_63 : decode cX7_copyFrom 63 = .ok (.aload_n 1, 1) := by decide +kernel
theorem dX7_copyFrom_64 : decode cX7_copyFrom 64 = .ok (.getfield 24, 3) := by decide +kernel
theorem dX7_copyFrom_67 : decode cX7_copyFrom 67 = .ok (.iconst 0, 1) := by decide +kernel
theorem dX7_copyFrom_68 : decode cX7_copyFrom 68 = .ok (.aload_n 0, 1) := by decide +kernel
theorem dX7_copyFrom_69 : decode cX7_copyFrom 69 = .ok (.getfield 24, 3) := by decide +kernel
theorem dX7_copyFrom_72 : decode cX7_copyFrom 72 = .ok (.iconst 0, 1) := by decide +kernel
theorem dX7_copyFrom_73 : decode cX7_copyFrom 73 = .ok (.bipush 64, 2) := by decide +kernel
theorem dX7_copyFrom_75 : decode cX7_copyFrom 75 = .ok (.invokestatic 48, 3) := by decide +kernel
theorem dX7_copyFrom_78 : decode cX7_copyFrom 78 = .ok (.return_, 1) := by decide +kernel
set_option maxRecDepth 20000 in
theorem ggX8_init_X3_init : GoodIn wsX8_init wsX3_init := goodIn_r _ [11, 12, 2, 3, 13, 14, 15, 16, 17, 18, 19, 20, 21, 22, 23, 24, 25, 26, 27, 28, 29, 30, 31, 32, 33, 34, 35, 36, 37, 38, 39, 40, 41, 42, 43, 44, 45, 46, 47, 48, 49, 50, 51, 52, 53, 54, 55, 56, 57, 58, 59, 60, 61, 62, 63, 64, 65, 66, 67, 68, 69, 70, 71, 72, 73, 74, 75, 76, 77, 78, 79, 80, 81, 82, 83, 84, 85, 86, 87, 88, 89, 90, 91, 92, 93, 94, 95, 96, 97, 98, 99, 114, 115, 116, 117, 118, 119, 120, 100, 101, 102, 103, 104, 105, 106, 107, 108, 109, 110, 111, 121, 122, 123, 124, 125, 126, 127, 128, 129, 130, 131, 132, 133, 134, 135, 136, 137, 138, 139, 140, 141, 142, 143, 144, 145, 146, 147, 148, 149] (by decide +kernel) (by decide +kernel)
set_option maxRecDepth 20000 in
theorem gX8_init_X3_init : GoodIn wsX8_init (wsX3_init) := ggX8_init_X3_init
theorem dX8_init_0 : decode cX8_init 0 = .ok (.aload_n 0, 1) := by decide +kernel
theorem dX8_init_1 : decode cX8_init 1 = .ok (.invokespecial 1, 3) := by decide +kernel
theorem dX8_init_4 : decode cX8_init 4 = .ok (.aload_n 0, 1) := by decide +kernel
theorem dX8_init_5 : decode cX8_init 5 = .ok (.new 7, 3) := by decide +kernel
theorem dX8_init_8 : decode cX8_init 8 = .ok (.dup, 1) := by decide +kernel
theorem dX8_init_9 : decode cX8_init 9 = .ok (.invokespecial 9, 3) := by decide +kernel
theorem dX8_init_12 : decode cX8_init 12 = .ok (.putfield 10, 3) := by decide +kernel
theorem dX8_init_15 : decode cX8_init 15 = .ok (.aload_n 0, 1) := by decide +kernel
theorem dX8_init_16 : decode cX8_init 16 = .ok (.iconst 3, 1) := by decide +kernel
theorem dX8_init_17 : decode cX8_init 17 = .ok (.anewarray 7, 3) := by decide +kernel
theorem dX8_init_20 : decode cX8_init 20 = .ok (.putfield 16, 3) := by decide +kernel
theorem dX8_init_23 : decode cX8_init 23 = .ok (.return_, 1) := by decide +kernel
set_option maxRecDepth 20000 in
theorem ggX8_line_X8_within : GoodIn wsX8_line wsX8_within := goodIn_r _ [8] (by decide +kernel) (by decide +kernel)
set_option maxRecDepth 20000 in
theorem gX8_line_X8_within : GoodIn wsX8_line (va_wsS RX8 20 yX8_within wsX8_within) := goodIn_app (goodIn_of _ (by decide +kernel)) ggX8_line_X8_within
set_option maxRecDepth 20000 in
theorem ggX8_line_X6_tell : GoodIn wsX8_line wsX6_tell := goodIn_r _ [13, 14, 15, 16, 17, 42, 43, 44, 45] (by decide +kernel) (by decide +kernel)
set_option maxRecDepth 20000 in
theorem gX8_line_X6_tell : GoodIn wsX8_line (wsV RX8 40 RX6 yX6_tell wsX6_tell) := goodIn_app (goodIn_of _ (by decide +kernel)) ggX8_line_X6_tell
theorem dX8_line_0 : decode cX8_line 0 = .ok (.iload_n 1, 1) := by decide +kernel
theorem dX8_line_1 : decode cX8_line 1 = .ok (.bipush 8, 2) := by decide +kernel
theorem dX8_line_3 : decode cX8_line 3 = .ok (.bipush 64, 2) := by decide +kernel
theorem dX8_line_5 : decode cX8_line 5 = .ok (.invokestatic 20, 3) := by decide +kernel
theorem dX8_line_8 : decode cX8_line 8 = .ok (.ifCond .eq 34, 3) := by decide +kernel
theorem dX8_line_11 : decode cX8_line 11 = .ok (.iload_n 2, 1) := by decide +kernel
theorem dX8_line_12 : decode cX8_line 12 = .ok (.iconst 1, 1) := by decide +kernel
theorem dX8_line_13 : decode cX8_line 13 = .ok (.bipush 32, 2) := by decide +kernel
theorem dX8_line_15 : decode cX8_line 15 = .ok (.invokestatic 20, 3) := by decide +kernel
theorem dX8_line_18 : decode cX8_line 18 = .ok (.ifCond .eq 24, 3) := by decide +kernel
theorem dX8_line_21 : decode cX8_line 21 = .ok (.iload_n 3, 1) := by decide +kernel
theorem dX8_line_22 : decode cX8_line 22 = .ok (.iconst 1, 1) := by decide +kernel
theorem dX8_line_23 : decode cX8_line 23 = .ok (.bipush 32, 2) := by decide +kernel
theorem dX8_line_25 : decode cX8_line 25 = .ok (.invokestatic 20, 3) := by decide +kernel
theorem dX8_line_28 : decode cX8_line 28 = .ok (.ifCond .eq 14, 3) := by decide +kernel
theorem dX8_line_31 : decode cX8_line 31 = .ok (.iload 4, 2) := by decide +kernel
theorem dX8_line_33 : decode cX8_line 33 = .ok (.iconst 1, 1) := by decide +kernel
theorem dX8_line_34 : decode cX8_line 34 = .ok (.bipush 32, 2) := by decide +kernel
theorem dX8_line_36 : decode cX8_line 36 = .ok (.invokestatic 20, 3) := by decide +kernel
theorem dX8_line_39 : decode cX8_line 39 = .ok (.ifCond .ne 5, 3) := by decide +kernel
theorem dX8_line_42 : decode cX8_line 42 = .ok (.iconst 0, 1) := by decide +kernel
theorem dX8_line_43 : decode cX8_line 43 = .ok (.ireturn, 1) := by decide +kernel
theorem dX8_line_44 : decode cX8_line 44 = .ok (.aload_n 0, 1) := by decide +kernel
theorem dX8_line_45 : decode cX8_line 45 = .ok (.getfield 10, 3) := by decide +kernel
theorem dX8_line_48 : decode cX8_line 48 = .ok (.getfield 24, 3) := by decide +kernel
theorem dX8_line_51 : decode cX8_line 51 = .ok (.getfield 28, 3) := by decide +kernel
theorem dX8_line_54 : decode cX8_line 54 = .ok (.getfield 34, 3) := by decide +kernel
theorem dX8_line_57 : decode cX8_line 57 = .ok (.iload_n 1, 1) := by decide +kernel
theorem dX8_line_58 : decode cX8_line 58 = .ok (.iload_n 2, 1) := by decide +kernel
theorem dX8_line_59 : decode cX8_line 59 = .ok (.iload_n 3, 1) := by decide +kernel
theorem dX8_line_60 : decode cX8_line 60 = .ok (.iload 4, 2) := by decide +kernel
theorem dX8_line_62 : decode cX8_line 62 = .ok (.invokevirtual 40, 3) := by decide +kernel
theorem dX8_line_65 : decode cX8_line 65 = .ok (.iconst 1, 1) := by decide +kernel
theorem dX8_line_66 : decode cX8_line 66 = .ok (.ireturn, 1) := by decide +kernel
set_option maxRecDepth 20000 in
theorem ggX8_field_X8_within : GoodIn wsX8_field wsX8_within := goodIn_r _ [9] (by decide +kernel) (by decide +kernel)
set_option maxRecDepth 20000 in
theorem gX8_field_X8_within : GoodIn wsX8_field (va_wsS RX8 20 yX8_within wsX8_within) := goodIn_app (goodIn_of _ (by decide +kernel)) ggX8_field_X8_within
set_option maxRecDepth 20000 in
theorem ggX8_field_X6_tell : GoodIn wsX8_field wsX6_tell := goodIn_r _ [14, 15, 16, 17, 18, 43, 44, 45, 46] (by decide +kernel) (by decide +kernel)
set_option maxRecDepth 20000 in
theorem gX8_field_X6_tell : GoodIn wsX8_field (wsV RX8 40 RX6 yX6_tell wsX6_tell) := goodIn_app (goodIn_of _ (by decide +kernel)) ggX8_field_X6_tell
theorem dX8_field_0 : decode cX8_field 0 = .ok (.iload_n 1, 1) := by decide +kernel
theorem dX8_field_1 : decode cX8_field 1 = .ok (.iconst 1, 1) := by decide +kernel
theorem dX8_field_2 : decode cX8_field 2 = .ok (.bipush 32, 2) := by decide +kernel
theorem dX8_field_4 : decode cX8_field 4 = .ok (.invokestatic 20, 3) := by decide +kernel
theorem dX8_field_7 : decode cX8_field 7 = .ok (.ifCond .eq 34, 3) := by decide +kernel
theorem dX8_field_10 : decode cX8_field 10 = .ok (.iload_n 2, 1) := by decide +kernel
theorem dX8_field_11 : decode cX8_field 11 = .ok (.iconst 1, 1) := by decide +kernel
theorem dX8_field_12 : decode cX8_field 12 = .ok (.bipush 8, 2) := by decide +kernel
theorem dX8_field_14 : decode cX8_field 14 = .ok (.invokestatic 20, 3) := by decide +kernel
theorem dX8_field_17 : decode cX8_field 17 = .ok (.ifCond .eq 24, 3) := by decide +kernel
theorem dX8_field_20 : decode cX8_field 20 = .ok (.iload_n 3, 1) := by decide +kernel
theorem dX8_field_21 : decode cX8_field 21 = .ok (.iconst 1, 1) := by decide +kernel
theorem dX8_field_22 : decode cX8_field 22 = .ok (.bipush 8, 2) := by decide +kernel
theorem dX8_field_24 : decode cX8_field 24 = .ok (.invokestatic 20, 3) := by decide +kernel
theorem dX8_field_27 : decode cX8_field 27 = .ok (.ifCond .eq 14, 3) := by decide +kernel
theorem dX8_field_30 : decode cX8_field 30 = .ok (.iload 4, 2) := by decide +kernel
theorem dX8_field_32 : decode cX8_field 32 = .ok (.iconst 1, 1) := by decide +kernel
theorem dX8_field_33 : decode cX8_field 33 = .ok (.bipush 8, 2) := by decide +kernel
theorem dX8_field_35 : decode cX8_field 35 = .ok (.invokestatic 20, 3) := by decide +kernel
theorem dX8_field_38 : decode cX8_field 38 = .ok (.ifCond .ne 5, 3) := by decide +kernel
theorem dX8_field_41 : decode cX8_field 41 = .ok (.iconst 0, 1) := by decide +kernel
theorem dX8_field_42 : decode cX8_field 42 = .ok (.ireturn, 1) := by decide +kernel
theorem dX8_field_43 : decode cX8_field 43 = .ok (.aload_n 0, 1) := by decide +kernel
theorem dX8_field_44 : decode cX8_field 44 = .ok (.getfield 10, 3) := by decide +kernel
theorem dX8_field_47 : decode cX8_field 47 = .ok (.getfield 24, 3) := by decide +kernel
theorem dX8_field_50 : decode cX8_field 50 = .ok (.getfield 28, 3) := by decide +kernel
theorem dX8_field_53 : decode cX8_field 53 = .ok (.getfield 46, 3) := by decide +kernel
theorem dX8_field_56 : decode cX8_field 56 = .ok (.iload_n 1, 1) := by decide +kernel
theorem dX8_field_57 : decode cX8_field 57 = .ok (.iload_n 2, 1) := by decide +kernel
theorem dX8_field_58 : decode cX8_field 58 = .ok (.iload_n 3, 1) := by decide +kernel
theorem dX8_field_59 : decode cX8_field 59 = .ok (.iload 4, 2) := by decide +kernel
theorem dX8_field_61 : decode cX8_field 61 = .ok (.invokevirtual 40, 3) := by decide +kernel
theorem dX8_field_64 : decode cX8_field 64 = .ok (.aload_n 0, 1) := by decide +kernel
theorem dX8_field_65 : decode cX8_field 65 = .ok (.getfield 10, 3) := by decide +kernel
theorem dX8_field_68 : decode cX8_field 68 = .ok (.getfield 24, 3) := by decide +kernel
theorem dX8_field_71 : decode cX8_field 71 = .ok (.getfield 28, 3) := by decide +kernel
theorem dX8_field_74 : decode cX8_field 74 = .ok (.iload 5, 2) := by decide +kernel
theorem dX8_field_76 : decode cX8_field 76 = .ok (.putfield 49, 3) := by decide +kernel
theorem dX8_field_79 : decode cX8_field 79 = .ok (.iconst 1, 1) := by decide +kernel
theorem dX8_field_80 : decode cX8_field 80 = .ok (.ireturn, 1) := by decide +kernel
set_option maxRecDepth 20000 in
theorem ggX8_put_X8_within : GoodIn wsX8_put wsX8_within := goodIn_r _ [5] (by decide +kernel) (by decide +kernel)
set_option maxRecDepth 20000 in
theorem gX8_put_X8_within : GoodIn wsX8_put (va_wsS RX8 20 yX8_within wsX8_within) := goodIn_app (goodIn_of _ (by decide +kernel)) ggX8_put_X8_within
set_option maxRecDepth 20000 in
theorem ggX8_put_X3_storeByte : GoodIn wsX8_put wsX3_storeByte := goodIn_r _ [10, 11, 14, 15, 16, 17, 18, 19, 20, 21, 22, 23, 24, 25] (by decide +kernel) (by decide +kernel)
set_option maxRecDepth 20000 in
theorem gX8_put_X3_storeByte : GoodIn wsX8_put (wsV RX8 53 RX3 yX3_storeByte wsX3_storeByte) := goodIn_app (goodIn_of _ (by decide +kernel)) ggX8_put_X3_storeByte
theorem dX8_put_0 : decode cX8_put 0 = .ok (.iload_n 1, 1) := by decide +kernel
theorem dX8_put_1 : decode cX8_put 1 = .ok (.iconst 0, 1) := by decide +kernel
theorem dX8_put_2 : decode cX8_put 2 = .ok (.sipush 1023, 3) := by decide +kernel
theorem dX8_put_5 : decode cX8_put 5 = .ok (.invokestatic 20, 3) := by decide +kernel
theorem dX8_put_8 : decode cX8_put 8 = .ok (.ifCond .ne 5, 3) := by decide +kernel
theorem dX8_put_11 : decode cX8_put 11 = .ok (.iconst 0, 1) := by decide +kernel
theorem dX8_put_12 : decode cX8_put 12 = .ok (.ireturn, 1) := by decide +kernel
theorem dX8_put_13 : decode cX8_put 13 = .ok (.aload_n 0, 1) := by decide +kernel
theorem dX8_put_14 : decode cX8_put 14 = .ok (.getfield 10, 3) := by decide +kernel
theorem dX8_put_17 : decode cX8_put 17 = .ok (.iload_n 1, 1) := by decide +kernel
theorem dX8_put_18 : decode cX8_put 18 = .ok (.iload_n 2, 1) := by decide +kernel
theorem dX8_put_19 : decode cX8_put 19 = .ok (.invokevirtual 53, 3) := by decide +kernel
theorem dX8_put_22 : decode cX8_put 22 = .ok (.iconst 1, 1) := by decide +kernel
theorem dX8_put_23 : decode cX8_put 23 = .ok (.ireturn, 1) := by decide +kernel
set_option maxRecDepth 20000 in
theorem ggX8_four_X8_within : GoodIn wsX8_four wsX8_within := goodIn_r _ [5] (by decide +kernel) (by decide +kernel)
set_option maxRecDepth 20000 in
theorem gX8_four_X8_within : GoodIn wsX8_four (va_wsS RX8 20 yX8_within wsX8_within) := goodIn_app (goodIn_of _ (by decide +kernel)) ggX8_four_X8_within
set_option maxRecDepth 20000 in
theorem ggX8_four_X3_storeByte : GoodIn wsX8_four wsX3_storeByte := goodIn_r _ [10, 11, 14, 15, 16, 17, 18, 19, 20, 21, 22, 23, 24, 25] (by decide +kernel) (by decide +kernel)
set_option maxRecDepth 20000 in
theorem gX8_four_X3_storeByte : GoodIn wsX8_four (wsV RX8 53 RX3 yX3_storeByte wsX3_storeByte) := goodIn_app (goodIn_of _ (by decide +kernel)) ggX8_four_X3_storeByte
theorem dX8_four_0 : decode cX8_four 0 = .ok (.iload_n 1, 1) := by decide +kernel
theorem dX8_four_1 : decode cX8_four 1 = .ok (.iconst 0, 1) := by decide +kernel
theorem dX8_four_2 : decode cX8_four 2 = .ok (.sipush 1023, 3) := by decide +kernel
theorem dX8_four_5 : decode cX8_four 5 = .ok (.invokestatic 20, 3) := by decide +kernel
theorem dX8_four_8 : decode cX8_four 8 = .ok (.ifCond .ne 5, 3) := by decide +kernel
theorem dX8_four_11 : decode cX8_four 11 = .ok (.iconst 0, 1) := by decide +kernel
theorem dX8_four_12 : decode cX8_four 12 = .ok (.ireturn, 1) := by decide +kernel
theorem dX8_four_13 : decode cX8_four 13 = .ok (.iconst 0, 1) := by decide +kernel
theorem dX8_four_14 : decode cX8_four 14 = .ok (.istore_n 3, 1) := by decide +kernel
theorem dX8_four_15 : decode cX8_four 15 = .ok (.iload_n 3, 1) := by decide +kernel
theorem dX8_four_16 : decode cX8_four 16 = .ok (.iconst 4, 1) := by decide +kernel
theorem dX8_four_17 : decode cX8_four 17 = .ok (.if_icmp .ge 28, 3) := by decide +kernel
theorem dX8_four_20 : decode cX8_four 20 = .ok (.aload_n 0, 1) := by decide +kernel
theorem dX8_four_21 : decode cX8_four 21 = .ok (.getfield 10, 3) := by decide +kernel
theorem dX8_four_24 : decode cX8_four 24 = .ok (.iload_n 1, 1) := by decide +kernel
theorem dX8_four_25 : decode cX8_four 25 = .ok (.iload_n 3, 1) := by decide +kernel
theorem dX8_four_26 : decode cX8_four 26 = .ok (.iadd, 1) := by decide +kernel
theorem dX8_four_27 : decode cX8_four 27 = .ok (.iload_n 2, 1) := by decide +kernel
theorem dX8_four_28 : decode cX8_four 28 = .ok (.bipush 24, 2) := by decide +kernel
theorem dX8_four_30 : decode cX8_four 30 = .ok (.bipush 8, 2) := by decide +kernel
theorem dX8_four_32 : decode cX8_four 32 = .ok (.iload_n 3, 1) := by decide +kernel
theorem dX8_four_33 : decode cX8_four 33 = .ok (.imul, 1) := by decide +kernel
theorem dX8_four_34 : decode cX8_four 34 = .ok (.isub, 1) := by decide +kernel
theorem dX8_four_35 : decode cX8_four 35 = .ok (.iushr, 1) := by decide +kernel
theorem dX8_four_36 : decode cX8_four 36 = .ok (.invokevirtual 53, 3) := by decide +kernel
theorem dX8_four_39 : decode cX8_four 39 = .ok (.iinc 3 1, 3) := by decide +kernel
theorem dX8_four_42 : decode cX8_four 42 = .ok (.goto (-27), 3) := by decide +kernel
theorem dX8_four_45 : decode cX8_four 45 = .ok (.iconst 1, 1) := by decide +kernel
theorem dX8_four_46 : decode cX8_four 46 = .ok (.ireturn, 1) := by decide +kernel
set_option maxRecDepth 20000 in
theorem ggX8_register_X5_change : GoodIn wsX8_register wsX5_change := goodIn_r _ [7, 8, 9, 10, 6, 11, 12, 13, 14, 29] (by decide +kernel) (by decide +kernel)
set_option maxRecDepth 20000 in
theorem gX8_register_X5_change : GoodIn wsX8_register (wsV RX8 61 RX5 yX5_change wsX5_change) := goodIn_app (goodIn_of _ (by decide +kernel)) ggX8_register_X5_change
theorem dX8_register_0 : decode cX8_register 0 = .ok (.aload_n 0, 1) := by decide +kernel
theorem dX8_register_1 : decode cX8_register 1 = .ok (.getfield 10, 3) := by decide +kernel
theorem dX8_register_4 : decode cX8_register 4 = .ok (.getfield 57, 3) := by decide +kernel
theorem dX8_register_7 : decode cX8_register 7 = .ok (.iload_n 1, 1) := by decide +kernel
theorem dX8_register_8 : decode cX8_register 8 = .ok (.iload_n 2, 1) := by decide +kernel
theorem dX8_register_9 : decode cX8_register 9 = .ok (.invokevirtual 61, 3) := by decide +kernel
theorem dX8_register_12 : decode cX8_register 12 = .ok (.ireturn, 1) := by decide +kernel
set_option maxRecDepth 20000 in
theorem ggX8_entry_X8_within : GoodIn wsX8_entry wsX8_within := goodIn_r _ [6] (by decide +kernel) (by decide +kernel)
set_option maxRecDepth 20000 in
theorem gX8_entry_X8_within : GoodIn wsX8_entry (va_wsS RX8 20 yX8_within wsX8_within) := goodIn_app (goodIn_of _ (by decide +kernel)) ggX8_entry_X8_within
set_option maxRecDepth 20000 in
theorem ggX8_entry_X5_takes : GoodIn wsX8_entry wsX5_takes := goodIn_r _ [10, 4, 5, 6] (by decide +kernel) (by decide +kernel)
set_option maxRecDepth 20000 in
theorem gX8_entry_X5_takes : GoodIn wsX8_entry (va_wsS RX8 67 yX5_takes wsX5_takes) := goodIn_app (goodIn_of _ (by decide +kernel)) ggX8_entry_X5_takes
set_option maxRecDepth 20000 in
theorem ggX8_entry_X1_append : GoodIn wsX8_entry wsX1_append := goodIn_r _ [15, 16, 17, 18, 19, 20, 35, 36, 37, 38, 39] (by decide +kernel) (by decide +kernel)
set_option maxRecDepth 20000 in
theorem gX8_entry_X1_append : GoodIn wsX8_entry (wsV RX8 74 RX1 yX1_append wsX1_append) := goodIn_app (goodIn_of _ (by decide +kernel)) ggX8_entry_X1_append
theorem dX8_entry_0 : decode cX8_entry 0 = .ok (.iload_n 1, 1) := by decide +kernel
theorem dX8_entry_1 : decode cX8_entry 1 = .ok (.iconst 0, 1) := by decide +kernel
theorem dX8_entry_2 : decode cX8_entry 2 = .ok (.bipush 63, 2) := by decide +kernel
theorem dX8_entry_4 : decode cX8_entry 4 = .ok (.invokestatic 20, 3) := by decide +kernel
theorem dX8_entry_7 : decode cX8_entry 7 = .ok (.ifCond .eq 23, 3) := by decide +kernel
theorem dX8_entry_10 : decode cX8_entry 10 = .ok (.iload_n 2, 1) := by decide +kernel
theorem dX8_entry_11 : decode cX8_entry 11 = .ok (.iconst 0, 1) := by decide +kernel
theorem dX8_entry_12 : decode cX8_entry 12 = .ok (.sipush 159, 3) := by decide +kernel
theorem dX8_entry_15 : decode cX8_entry 15 = .ok (.invokestatic 20, 3) := by decide +kernel
theorem dX8_entry_18 : decode cX8_entry 18 = .ok (.ifCond .eq 12, 3) := by decide +kernel
theorem dX8_entry_21 : decode cX8_entry 21 = .ok (.iload_n 3, 1) := by decide +kernel
theorem dX8_entry_22 : decode cX8_entry 22 = .ok (.iload 4, 2) := by decide +kernel
theorem dX8_entry_24 : decode cX8_entry 24 = .ok (.invokestatic 67, 3) := by decide +kernel
theorem dX8_entry_27 : decode cX8_entry 27 = .ok (.ifCond .ne 5, 3) := by decide +kernel
theorem dX8_entry_30 : decode cX8_entry 30 = .ok (.iconst (-1), 1) := by decide +kernel
theorem dX8_entry_31 : decode cX8_entry 31 = .ok (.ireturn, 1) := by decide +kernel
theorem dX8_entry_32 : decode cX8_entry 32 = .ok (.aload_n 0, 1) := by decide +kernel
theorem dX8_entry_33 : decode cX8_entry 33 = .ok (.getfield 10, 3) := by decide +kernel
theorem dX8_entry_36 : decode cX8_entry 36 = .ok (.getfield 70, 3) := by decide +kernel
theorem dX8_entry_39 : decode cX8_entry 39 = .ok (.iload_n 1, 1) := by decide +kernel
theorem dX8_entry_40 : decode cX8_entry 40 = .ok (.iload_n 2, 1) := by decide +kernel
theorem dX8_entry_41 : decode cX8_entry 41 = .ok (.iload_n 3, 1) := by decide +kernel
theorem dX8_entry_42 : decode cX8_entry 42 = .ok (.iload 4, 2) := by decide +kernel
theorem dX8_entry_44 : decode cX8_entry 44 = .ok (.invokevirtual 74, 3) := by decide +kernel
theorem dX8_entry_47 : decode cX8_entry 47 = .ok (.ireturn, 1) := by decide +kernel
theorem dX8_clear_0 : decode cX8_clear 0 = .ok (.aload_n 0, 1) := by decide +kernel
theorem dX8_clear_1 : decode cX8_clear 1 = .ok (.getfield 10, 3) := by decide +kernel
theorem dX8_clear_4 : decode cX8_clear 4 = .ok (.getfield 70, 3) := by decide +kernel
theorem dX8_clear_7 : decode cX8_clear 7 = .ok (.iconst 0, 1) := by decide +kernel
theorem dX8_clear_8 : decode cX8_clear 8 = .ok (.putfield 80, 3) := by decide +kernel
theorem dX8_clear_11 : decode cX8_clear 11 = .ok (.return_, 1) := by decide +kernel
set_option maxRecDepth 20000 in
theorem ggX8_readers_X8_within : GoodIn wsX8_readers wsX8_within := goodIn_r _ [7] (by decide +kernel) (by decide +kernel)
set_option maxRecDepth 20000 in
theorem gX8_readers_X8_within : GoodIn wsX8_readers (va_wsS RX8 20 yX8_within wsX8_within) := goodIn_app (goodIn_of _ (by decide +kernel)) ggX8_readers_X8_within
theorem dX8_readers_0 : decode cX8_readers 0 = .ok (.iload_n 1, 1) := by decide +kernel
theorem dX8_readers_1 : decode cX8_readers 1 = .ok (.iconst 1, 1) := by decide +kernel
theorem dX8_readers_2 : decode cX8_readers 2 = .ok (.bipush 16, 2) := by decide +kernel
theorem dX8_readers_4 : decode cX8_readers 4 = .ok (.invokestatic 20, 3) := by decide +kernel
theorem dX8_readers_7 : decode cX8_readers 7 = .ok (.ifCond .ne 5, 3) := by decide +kernel
theorem dX8_readers_10 : decode cX8_readers 10 = .ok (.iconst 0, 1) := by decide +kernel
theorem dX8_readers_11 : decode cX8_readers 11 = .ok (.ireturn, 1) := by decide +kernel
theorem dX8_readers_12 : decode cX8_readers 12 = .ok (.aload_n 0, 1) := by decide +kernel
theorem dX8_readers_13 : decode cX8_readers 13 = .ok (.getfield 10, 3) := by decide +kernel
theorem dX8_readers_16 : decode cX8_readers 16 = .ok (.iload_n 1, 1) := by decide +kernel
theorem dX8_readers_17 : decode cX8_readers 17 = .ok (.putfield 84, 3) := by decide +kernel
theorem dX8_readers_20 : decode cX8_readers 20 = .ok (.aload_n 0, 1) := by decide +kernel
theorem dX8_readers_21 : decode cX8_readers 21 = .ok (.getfield 10, 3) := by decide +kernel
theorem dX8_readers_24 : decode cX8_readers 24 = .ok (.iload_n 2, 1) := by decide +kernel
theorem dX8_readers_25 : decode cX8_readers 25 = .ok (.putfield 87, 3) := by decide +kernel
theorem dX8_readers_28 : decode cX8_readers 28 = .ok (.iconst 1, 1) := by decide +kernel
theorem dX8_readers_29 : decode cX8_readers 29 = .ok (.ireturn, 1) := by decide +kernel
set_option maxRecDepth 20000 in
theorem ggX8_depth_X8_within : GoodIn wsX8_depth wsX8_within := goodIn_r _ [7] (by decide +kernel) (by decide +kernel)
set_option maxRecDepth 20000 in
theorem gX8_depth_X8_within : GoodIn wsX8_depth (va_wsS RX8 20 yX8_within wsX8_within) := goodIn_app (goodIn_of _ (by decide +kernel)) ggX8_depth_X8_within
theorem dX8_depth_0 : decode cX8_depth 0 = .ok (.iload_n 1, 1) := by decide +kernel
theorem dX8_depth_1 : decode cX8_depth 1 = .ok (.iconst 1, 1) := by decide +kernel
theorem dX8_depth_2 : decode cX8_depth 2 = .ok (.bipush 8, 2) := by decide +kernel
theorem dX8_depth_4 : decode cX8_depth 4 = .ok (.invokestatic 20, 3) := by decide +kernel
theorem dX8_depth_7 : decode cX8_depth 7 = .ok (.ifCond .ne 5, 3) := by decide +kernel
theorem dX8_depth_10 : decode cX8_depth 10 = .ok (.iconst 0, 1) := by decide +kernel
theorem dX8_depth_11 : decode cX8_depth 11 = .ok (.ireturn, 1) := by decide +kernel
theorem dX8_depth_12 : decode cX8_depth 12 = .ok (.aload_n 0, 1) := by decide +kernel
theorem dX8_depth_13 : decode cX8_depth 13 = .ok (.getfield 10, 3) := by decide +kernel
theorem dX8_depth_16 : decode cX8_depth 16 = .ok (.getfield 90, 3) := by decide +kernel
theorem dX8_depth_19 : decode cX8_depth 19 = .ok (.iload_n 1, 1) := by decide +kernel
theorem dX8_depth_20 : decode cX8_depth 20 = .ok (.putfield 94, 3) := by decide +kernel
theorem dX8_depth_23 : decode cX8_depth 23 = .ok (.iconst 1, 1) := by decide +kernel
theorem dX8_depth_24 : decode cX8_depth 24 = .ok (.ireturn, 1) := by decide +kernel
set_option maxRecDepth 20000 in
theorem ggX8_sprite_X8_within : GoodIn wsX8_sprite wsX8_within := goodIn_r _ [6] (by decide +kernel) (by decide +kernel)
set_option maxRecDepth 20000 in
theorem gX8_sprite_X8_within : GoodIn wsX8_sprite (va_wsS RX8 20 yX8_within wsX8_within) := goodIn_app (goodIn_of _ (by decide +kernel)) ggX8_sprite_X8_within
set_option maxRecDepth 20000 in
theorem ggX8_sprite_X7_move : GoodIn wsX8_sprite wsX7_move := goodIn_r _ [11, 12, 13, 14, 15, 16, 17, 10, 18, 19, 20, 21, 22, 23, 38, 39, 40, 41, 42] (by decide +kernel) (by decide +kernel)
set_option maxRecDepth 20000 in
theorem gX8_sprite_X7_move : GoodIn wsX8_sprite (wsV RX8 103 RX7 yX7_move wsX7_move) := goodIn_app (goodIn_of _ (by decide +kernel)) ggX8_sprite_X7_move
theorem dX8_sprite_0 : decode cX8_sprite 0 = .ok (.iload_n 1, 1) := by decide +kernel
theorem dX8_sprite_1 : decode cX8_sprite 1 = .ok (.iconst 0, 1) := by decide +kernel
theorem dX8_sprite_2 : decode cX8_sprite 2 = .ok (.bipush 7, 2) := by decide +kernel
theorem dX8_sprite_4 : decode cX8_sprite 4 = .ok (.invokestatic 20, 3) := by decide +kernel
theorem dX8_sprite_7 : decode cX8_sprite 7 = .ok (.ifCond .eq 35, 3) := by decide +kernel
theorem dX8_sprite_10 : decode cX8_sprite 10 = .ok (.iload_n 2, 1) := by decide +kernel
theorem dX8_sprite_11 : decode cX8_sprite 11 = .ok (.bipush (-8), 2) := by decide +kernel
theorem dX8_sprite_13 : decode cX8_sprite 13 = .ok (.bipush 63, 2) := by decide +kernel
theorem dX8_sprite_15 : decode cX8_sprite 15 = .ok (.invokestatic 20, 3) := by decide +kernel
theorem dX8_sprite_18 : decode cX8_sprite 18 = .ok (.ifCond .eq 24, 3) := by decide +kernel
theorem dX8_sprite_21 : decode cX8_sprite 21 = .ok (.iload_n 3, 1) := by decide +kernel
theorem dX8_sprite_22 : decode cX8_sprite 22 = .ok (.iconst 0, 1) := by decide +kernel
theorem dX8_sprite_23 : decode cX8_sprite 23 = .ok (.bipush 63, 2) := by decide +kernel
theorem dX8_sprite_25 : decode cX8_sprite 25 = .ok (.invokestatic 20, 3) := by decide +kernel
theorem dX8_sprite_28 : decode cX8_sprite 28 = .ok (.ifCond .eq 14, 3) := by decide +kernel
theorem dX8_sprite_31 : decode cX8_sprite 31 = .ok (.iload 4, 2) := by decide +kernel
theorem dX8_sprite_33 : decode cX8_sprite 33 = .ok (.iconst 0, 1) := by decide +kernel
theorem dX8_sprite_34 : decode cX8_sprite 34 = .ok (.bipush 8, 2) := by decide +kernel
theorem dX8_sprite_36 : decode cX8_sprite 36 = .ok (.invokestatic 20, 3) := by decide +kernel
theorem dX8_sprite_39 : decode cX8_sprite 39 = .ok (.ifCond .ne 5, 3) := by decide +kernel
theorem dX8_sprite_42 : decode cX8_sprite 42 = .ok (.iconst 0, 1) := by decide +kernel
theorem dX8_sprite_43 : decode cX8_sprite 43 = .ok (.ireturn, 1) := by decide +kernel
theorem dX8_sprite_44 : decode cX8_sprite 44 = .ok (.aload_n 0, 1) := by decide +kernel
theorem dX8_sprite_45 : decode cX8_sprite 45 = .ok (.getfield 10, 3) := by decide +kernel
theorem dX8_sprite_48 : decode cX8_sprite 48 = .ok (.getfield 99, 3) := by decide +kernel
theorem dX8_sprite_51 : decode cX8_sprite 51 = .ok (.iload_n 1, 1) := by decide +kernel
theorem dX8_sprite_52 : decode cX8_sprite 52 = .ok (.iload_n 2, 1) := by decide +kernel
theorem dX8_sprite_53 : decode cX8_sprite 53 = .ok (.iload_n 3, 1) := by decide +kernel
theorem dX8_sprite_54 : decode cX8_sprite 54 = .ok (.iload 4, 2) := by decide +kernel
theorem dX8_sprite_56 : decode cX8_sprite 56 = .ok (.invokevirtual 103, 3) := by decide +kernel
theorem dX8_sprite_59 : decode cX8_sprite 59 = .ok (.iconst 1, 1) := by decide +kernel
theorem dX8_sprite_60 : decode cX8_sprite 60 = .ok (.ireturn, 1) := by decide +kernel
set_option maxRecDepth 20000 in
theorem ggX8_bits_X8_within : GoodIn wsX8_bits wsX8_within := goodIn_r _ [6] (by decide +kernel) (by decide +kernel)
set_option maxRecDepth 20000 in
theorem gX8_bits_X8_within : GoodIn wsX8_bits (va_wsS RX8 20 yX8_within wsX8_within) := goodIn_app (goodIn_of _ (by decide +kernel)) ggX8_bits_X8_within
set_option maxRecDepth 20000 in
theorem ggX8_bits_X7_draw : GoodIn wsX8_bits wsX7_draw := goodIn_r _ [11, 12, 27, 28, 29, 30, 31] (by decide +kernel) (by decide +kernel)
set_option maxRecDepth 20000 in
theorem gX8_bits_X7_draw : GoodIn wsX8_bits (wsV RX8 108 RX7 yX7_draw wsX7_draw) := goodIn_app (goodIn_of _ (by decide +kernel)) ggX8_bits_X7_draw
theorem dX8_bits_0 : decode cX8_bits 0 = .ok (.iload_n 1, 1) := by decide +kernel
theorem dX8_bits_1 : decode cX8_bits 1 = .ok (.iconst 0, 1) := by decide +kernel
theorem dX8_bits_2 : decode cX8_bits 2 = .ok (.bipush 7, 2) := by decide +kernel
theorem dX8_bits_4 : decode cX8_bits 4 = .ok (.invokestatic 20, 3) := by decide +kernel
theorem dX8_bits_7 : decode cX8_bits 7 = .ok (.ifCond .ne 5, 3) := by decide +kernel
theorem dX8_bits_10 : decode cX8_bits 10 = .ok (.iconst 0, 1) := by decide +kernel
theorem dX8_bits_11 : decode cX8_bits 11 = .ok (.ireturn, 1) := by decide +kernel
theorem dX8_bits_12 : decode cX8_bits 12 = .ok (.aload_n 0, 1) := by decide +kernel
theorem dX8_bits_13 : decode cX8_bits 13 = .ok (.getfield 10, 3) := by decide +kernel
theorem dX8_bits_16 : decode cX8_bits 16 = .ok (.getfield 99, 3) := by decide +kernel
theorem dX8_bits_19 : decode cX8_bits 19 = .ok (.iload_n 1, 1) := by decide +kernel
theorem dX8_bits_20 : decode cX8_bits 20 = .ok (.iload_n 2, 1) := by decide +kernel
theorem dX8_bits_21 : decode cX8_bits 21 = .ok (.ifCond .eq 7, 3) := by decide +kernel
theorem dX8_bits_24 : decode cX8_bits 24 = .ok (.iconst 0, 1) := by decide +kernel
theorem dX8_bits_25 : decode cX8_bits 25 = .ok (.goto 4, 3) := by decide +kernel
theorem dX8_bits_28 : decode cX8_bits 28 = .ok (.iconst 4, 1) := by decide +kernel
theorem dX8_bits_29 : decode cX8_bits 29 = .ok (.iload_n 3, 1) := by decide +kernel
theorem dX8_bits_30 : decode cX8_bits 30 = .ok (.invokevirtual 108, 3) := by decide +kernel
theorem dX8_bits_33 : decode cX8_bits 33 = .ok (.iconst 1, 1) := by decide +kernel
theorem dX8_bits_34 : decode cX8_bits 34 = .ok (.ireturn, 1) := by decide +kernel
set_option maxRecDepth 20000 in
theorem ggX8_ticks_X8_within : GoodIn wsX8_ticks wsX8_within := goodIn_r _ [7] (by decide +kernel) (by decide +kernel)
set_option maxRecDepth 20000 in
theorem gX8_ticks_X8_within : GoodIn wsX8_ticks (va_wsS RX8 20 yX8_within wsX8_within) := goodIn_app (goodIn_of _ (by decide +kernel)) ggX8_ticks_X8_within
set_option maxRecDepth 20000 in
theorem ggX8_ticks_X3_tick : GoodIn wsX8_ticks wsX3_tick := goodIn_r _ [12, 13, 14, 15, 16, 17, 18, 19, 20, 21, 22, 23, 24, 25, 26, 27, 28, 29, 30, 31, 32, 33, 34, 35, 36, 37, 38, 39, 5, 6, 7, 40, 41, 42, 43, 44, 45, 46, 47, 48, 49, 50, 51, 11, 52, 53, 54, 55, 56, 57, 58, 59, 60, 61, 62, 63, 64, 65, 66, 67, 68, 69, 70, 71, 72, 73, 74, 75, 76, 77, 78, 79, 80, 81, 82, 83, 84, 85, 86, 87, 88, 89, 90, 91, 92, 93, 94, 95, 96, 97, 98, 99, 100, 101, 102, 103, 104, 105, 106, 107, 108, 109, 110, 111, 112, 113, 114, 115, 116, 117, 118, 119, 120, 121, 122, 123, 124, 125, 126, 127, 128, 129, 130, 131, 132, 133, 134, 135, 136, 137, 138, 139, 140, 141, 142, 143, 144, 145, 146, 147, 148, 149, 150, 151, 152, 153, 154, 155, 156, 157, 158, 159, 160, 161, 162, 163, 164, 165, 166, 167, 168, 169, 170, 171, 172, 173, 174, 175, 176, 177, 178, 179, 180, 181, 4, 182, 183, 184, 185, 186, 187, 188, 189, 190, 191, 192, 193, 194, 195, 196, 197, 198, 199, 200, 201, 202, 203, 204, 205, 206, 207, 208, 209, 210, 211, 212, 213, 214, 215, 218, 219, 220, 221, 222, 223, 224, 225, 226, 227, 228, 229, 230, 231, 232, 233, 234, 235, 236, 237, 238, 239, 240, 241, 242, 243, 244, 245, 246, 247, 248, 249, 250, 251, 252, 253, 254, 255, 256, 257, 258, 259, 260, 261, 262, 263, 264, 265] (by decide +kernel) (by decide +kernel)
set_option maxRecDepth 20000 in
theorem gX8_ticks_X3_tick : GoodIn wsX8_ticks (wsV RX8 116 RX3 yX3_tick wsX3_tick) := goodIn_app (goodIn_of _ (by decide +kernel)) ggX8_ticks_X3_tick
theorem dX8_ticks_0 : decode cX8_ticks 0 = .ok (.iload_n 1, 1) := by decide +kernel
theorem dX8_ticks_1 : decode cX8_ticks 1 = .ok (.iconst 1, 1) := by decide +kernel
theorem dX8_ticks_2 : decode cX8_ticks 2 = .ok (.sipush 4000, 3) := by decide +kernel
theorem dX8_ticks_5 : decode cX8_ticks 5 = .ok (.invokestatic 20, 3) := by decide +kernel
theorem dX8_ticks_8 : decode cX8_ticks 8 = .ok (.ifCond .eq 17, 3) := by decide +kernel
theorem dX8_ticks_11 : decode cX8_ticks 11 = .ok (.aload_n 0, 1) := by decide +kernel
theorem dX8_ticks_12 : decode cX8_ticks 12 = .ok (.getfield 10, 3) := by decide +kernel
theorem dX8_ticks_15 : decode cX8_ticks 15 = .ok (.getfield 112, 3) := by decide +kernel
theorem dX8_ticks_18 : decode cX8_ticks 18 = .ok (.ldc 115, 2) := by decide +kernel
theorem dX8_ticks_20 : decode cX8_ticks 20 = .ok (.iload_n 1, 1) := by decide +kernel
theorem dX8_ticks_21 : decode cX8_ticks 21 = .ok (.isub, 1) := by decide +kernel
theorem dX8_ticks_22 : decode cX8_ticks 22 = .ok (.if_icmp .le 5, 3) := by decide +kernel
theorem dX8_ticks_25 : decode cX8_ticks 25 = .ok (.iconst (-1), 1) := by decide +kernel
theorem dX8_ticks_26 : decode cX8_ticks 26 = .ok (.ireturn, 1) := by decide +kernel
theorem dX8_ticks_27 : decode cX8_ticks 27 = .ok (.iconst 0, 1) := by decide +kernel
theorem dX8_ticks_28 : decode cX8_ticks 28 = .ok (.istore_n 2, 1) := by decide +kernel
theorem dX8_ticks_29 : decode cX8_ticks 29 = .ok (.iload_n 2, 1) := by decide +kernel
theorem dX8_ticks_30 : decode cX8_ticks 30 = .ok (.iload_n 1, 1) := by decide +kernel
theorem dX8_ticks_31 : decode cX8_ticks 31 = .ok (.if_icmp .ge 16, 3) := by decide +kernel
theorem dX8_ticks_34 : decode cX8_ticks 34 = .ok (.aload_n 0, 1) := by decide +kernel
theorem dX8_ticks_35 : decode cX8_ticks 35 = .ok (.getfield 10, 3) := by decide +kernel
theorem dX8_ticks_38 : decode cX8_ticks 38 = .ok (.invokevirtual 116, 3) := by decide +kernel
theorem dX8_ticks_41 : decode cX8_ticks 41 = .ok (.iinc 2 1, 3) := by decide +kernel
theorem dX8_ticks_44 : decode cX8_ticks 44 = .ok (.goto (-15), 3) := by decide +kernel
theorem dX8_ticks_47 : decode cX8_ticks 47 = .ok (.aload_n 0, 1) := by decide +kernel
theorem dX8_ticks_48 : decode cX8_ticks 48 = .ok (.getfield 10, 3) := by decide +kernel
theorem dX8_ticks_51 : decode cX8_ticks 51 = .ok (.getfield 112, 3) := by decide +kernel
theorem dX8_ticks_54 : decode cX8_ticks 54 = .ok (.ireturn, 1) := by decide +kernel
set_option maxRecDepth 20000 in
theorem ggX8_shown_X8_placeOf : GoodIn wsX8_shown wsX8_placeOf := goodIn_r _ [6, 7, 8, 5, 9] (by decide +kernel) (by decide +kernel)
set_option maxRecDepth 20000 in
theorem gX8_shown_X8_placeOf : GoodIn wsX8_shown (va_wsS RX8 119 yX8_placeOf wsX8_placeOf) := goodIn_app (goodIn_of _ (by decide +kernel)) ggX8_shown_X8_placeOf
theorem dX8_shown_0 : decode cX8_shown 0 = .ok (.iload_n 1, 1) := by decide +kernel
theorem dX8_shown_1 : decode cX8_shown 1 = .ok (.iload_n 2, 1) := by decide +kernel
theorem dX8_shown_2 : decode cX8_shown 2 = .ok (.invokestatic 119, 3) := by decide +kernel
theorem dX8_shown_5 : decode cX8_shown 5 = .ok (.istore_n 3, 1) := by decide +kernel
theorem dX8_shown_6 : decode cX8_shown 6 = .ok (.iload_n 3, 1) := by decide +kernel
theorem dX8_shown_7 : decode cX8_shown 7 = .ok (.iconst (-1), 1) := by decide +kernel
theorem dX8_shown_8 : decode cX8_shown 8 = .ok (.if_icmp .ne 8, 3) := by decide +kernel
theorem dX8_shown_11 : decode cX8_shown 11 = .ok (.bipush (-2), 2) := by decide +kernel
theorem dX8_shown_13 : decode cX8_shown 13 = .ok (.goto 12, 3) := by decide +kernel
theorem dX8_shown_16 : decode cX8_shown 16 = .ok (.aload_n 0, 1) := by decide +kernel
theorem dX8_shown_17 : decode cX8_shown 17 = .ok (.getfield 10, 3) := by decide +kernel
theorem dX8_shown_20 : decode cX8_shown 20 = .ok (.getfield 123, 3) := by decide +kernel
theorem dX8_shown_23 : decode cX8_shown 23 = .ok (.iload_n 3, 1) := by decide +kernel
theorem dX8_shown_24 : decode cX8_shown 24 = .ok (.iaload, 1) := by decide +kernel
theorem dX8_shown_25 : decode cX8_shown 25 = .ok (.ireturn, 1) := by decide +kernel
set_option maxRecDepth 20000 in
theorem ggX8_now_X0_signalsHere : GoodIn wsX8_now wsX0_signalsHere := goodIn_r _ [19, 20, 21, 22, 23, 24, 25, 26, 27, 28, 29, 30, 31, 32, 33, 34, 35, 18, 36, 37, 38, 39, 40, 68, 69, 70, 71, 72, 73, 74, 75, 76, 77, 89, 90, 91, 92] (by decide +kernel) (by decide +kernel)
set_option maxRecDepth 20000 in
theorem gX8_now_X0_signalsHere : GoodIn wsX8_now (wsV RX8 136 RX0 yX0_signalsHere wsX0_signalsHere) := goodIn_app (goodIn_of _ (by decide +kernel)) ggX8_now_X0_signalsHere
set_option maxRecDepth 20000 in
theorem ggX8_now_X6_whole : GoodIn wsX8_now wsX6_whole := goodIn_r _ [44, 30, 31, 32, 45, 89, 90, 91, 92] (by decide +kernel) (by decide +kernel)
set_option maxRecDepth 20000 in
theorem gX8_now_X6_whole : GoodIn wsX8_now (wsV RX8 143 RX6 yX6_whole wsX6_whole) := goodIn_app (goodIn_of _ (by decide +kernel)) ggX8_now_X6_whole
set_option maxRecDepth 20000 in
theorem ggX8_now_X3_isTaken : GoodIn wsX8_now wsX3_isTaken := goodIn_r _ [50, 51, 52, 53, 56, 57, 58, 59, 60, 61, 62, 63, 64, 65, 66, 67] (by decide +kernel) (by decide +kernel)
set_option maxRecDepth 20000 in
theorem gX8_now_X3_isTaken : GoodIn wsX8_now (wsV RX8 159 RX3 yX3_isTaken wsX3_isTaken) := goodIn_app (goodIn_of _ (by decide +kernel)) ggX8_now_X3_isTaken
theorem dX8_now_0 : decode cX8_now 0 = .ok (.aload_n 0, 1) := by decide +kernel
theorem dX8_now_1 : decode cX8_now 1 = .ok (.getfield 10, 3) := by decide +kernel
theorem dX8_now_4 : decode cX8_now 4 = .ok (.getfield 24, 3) := by decide +kernel
theorem dX8_now_7 : decode cX8_now 7 = .ok (.astore_n 2, 1) := by decide +kernel
theorem dX8_now_8 : decode cX8_now 8 = .ok (.iload_n 1, 1) := by decide +kernel
theorem dX8_now_9 : decode cX8_now 9 = .ok (.tableswitch 173 0 11 #[63, 68, 73, 78, 83, 94, 105, 116, 127, 138, 146, 157], 63) := by decide +kernel
theorem dX8_now_72 : decode cX8_now 72 = .ok (.aload_n 2, 1) := by decide +kernel
theorem dX8_now_73 : decode cX8_now 73 = .ok (.getfield 127, 3) := by decide +kernel
theorem dX8_now_76 : decode cX8_now 76 = .ok (.ireturn, 1) := by decide +kernel
theorem dX8_now_77 : decode cX8_now 77 = .ok (.aload_n 2, 1) := by decide +kernel
theorem dX8_now_78 : decode cX8_now 78 = .ok (.getfield 130, 3) := by decide +kernel
theorem dX8_now_81 : decode cX8_now 81 = .ok (.ireturn, 1) := by decide +kernel
theorem dX8_now_82 : decode cX8_now 82 = .ok (.aload_n 2, 1) := by decide +kernel
theorem dX8_now_83 : decode cX8_now 83 = .ok (.getfield 133, 3) := by decide +kernel
theorem dX8_now_86 : decode cX8_now 86 = .ok (.ireturn, 1) := by decide +kernel
theorem dX8_now_87 : decode cX8_now 87 = .ok (.aload_n 2, 1) := by decide +kernel
theorem dX8_now_88 : decode cX8_now 88 = .ok (.invokevirtual 136, 3) := by decide +kernel
theorem dX8_now_91 : decode cX8_now 91 = .ok (.ireturn, 1) := by decide +kernel
theorem dX8_now_92 : decode cX8_now 92 = .ok (.aload_n 2, 1) := by decide +kernel
theorem dX8_now_93 : decode cX8_now 93 = .ok (.getfield 140, 3) := by decide +kernel
theorem dX8_now_96 : decode cX8_now 96 = .ok (.getfield 34, 3) := by decide +kernel
theorem dX8_now_99 : decode cX8_now 99 = .ok (.invokevirtual 143, 3) := by decide +kernel
theorem dX8_now_102 : decode cX8_now 102 = .ok (.ireturn, 1) := by decide +kernel
theorem dX8_now_103 : decode cX8_now 103 = .ok (.aload_n 2, 1) := by decide +kernel
theorem dX8_now_104 : decode cX8_now 104 = .ok (.getfield 140, 3) := by decide +kernel
theorem dX8_now_107 : decode cX8_now 107 = .ok (.getfield 46, 3) := by decide +kernel
theorem dX8_now_110 : decode cX8_now 110 = .ok (.invokevirtual 143, 3) := by decide +kernel
theorem dX8_now_113 : decode cX8_now 113 = .ok (.ireturn, 1) := by decide +kernel
theorem dX8_now_114 : decode cX8_now 114 = .ok (.aload_n 0, 1) := by decide +kernel
theorem dX8_now_115 : decode cX8_now 115 = .ok (.getfield 10, 3) := by decide +kernel
theorem dX8_now_118 : decode cX8_now 118 = .ok (.getfield 90, 3) := by decide +kernel
theorem dX8_now_121 : decode cX8_now 121 = .ok (.getfield 146, 3) := by decide +kernel
theorem dX8_now_124 : decode cX8_now 124 = .ok (.ireturn, 1) := by decide +kernel
theorem dX8_now_125 : decode cX8_now 125 = .ok (.aload_n 0, 1) := by decide +kernel
theorem dX8_now_126 : decode cX8_now 126 = .ok (.getfield 10, 3) := by decide +kernel
theorem dX8_now_129 : decode cX8_now 129 = .ok (.getfield 90, 3) := by decide +kernel
theorem dX8_now_132 : decode cX8_now 132 = .ok (.getfield 147, 3) := by decide +kernel
theorem dX8_now_135 : decode cX8_now 135 = .ok (.ireturn, 1) := by decide +kernel
theorem dX8_now_136 : decode cX8_now 136 = .ok (.aload_n 0, 1) := by decide +kernel
theorem dX8_now_137 : decode cX8_now 137 = .ok (.getfield 10, 3) := by decide +kernel
theorem dX8_now_140 : decode cX8_now 140 = .ok (.getfield 90, 3) := by decide +kernel
theorem dX8_now_143 : decode cX8_now 143 = .ok (.getfield 150, 3) := by decide +kernel
theorem dX8_now_146 : decode cX8_now 146 = .ok (.ireturn, 1) := by decide +kernel
theorem dX8_now_147 : decode cX8_now 147 = .ok (.aload_n 0, 1) := by decide +kernel
theorem dX8_now_148 : decode cX8_now 148 = .ok (.getfield 10, 3) := by decide +kernel
theorem dX8_now_151 : decode cX8_now 151 = .ok (.getfield 153, 3) := by decide +kernel
theorem dX8_now_154 : decode cX8_now 154 = .ok (.ireturn, 1) := by decide +kernel
theorem dX8_now_155 : decode cX8_now 155 = .ok (.aload_n 0, 1) := by decide +kernel
theorem dX8_now_156 : decode cX8_now 156 = .ok (.getfield 10, 3) := by decide +kernel
theorem dX8_now_159 : decode cX8_now 159 = .ok (.getfield 90, 3) := by decide +kernel
theorem dX8_now_162 : decode cX8_now 162 = .ok (.getfield 156, 3) := by decide +kernel
theorem dX8_now_165 : decode cX8_now 165 = .ok (.ireturn, 1) := by decide +kernel
theorem dX8_now_166 : decode cX8_now 166 = .ok (.aload_n 0, 1) := by decide +kernel
theorem dX8_now_167 : decode cX8_now 167 = .ok (.getfield 10, 3) := by decide +kernel
theorem dX8_now_170 : decode cX8_now 170 = .ok (.invokevirtual 159, 3) := by decide +kernel
theorem dX8_now_173 : decode cX8_now 173 = .ok (.ifCond .eq 7, 3) := by decide +kernel
theorem dX8_now_176 : decode cX8_now 176 = .ok (.iconst 1, 1) := by decide +kernel
theorem dX8_now_177 : decode cX8_now 177 = .ok (.goto 4, 3) := by decide +kernel
theorem dX8_now_180 : decode cX8_now 180 = .ok (.iconst 0, 1) := by decide +kernel
theorem dX8_now_181 : decode cX8_now 181 = .ok (.ireturn, 1) := by decide +kernel
theorem dX8_now_182 : decode cX8_now 182 = .ok (.iconst (-1), 1) := by decide +kernel
theorem dX8_now_183 : decode cX8_now 183 = .ok (.ireturn, 1) := by decide +kernel
set_option maxRecDepth 20000 in
theorem ggX8_signals_X8_within : GoodIn wsX8_signals wsX8_within := goodIn_r _ [7] (by decide +kernel) (by decide +kernel)
set_option maxRecDepth 20000 in
theorem gX8_signals_X8_within : GoodIn wsX8_signals (va_wsS RX8 20 yX8_within wsX8_within) := goodIn_app (goodIn_of _ (by decide +kernel)) ggX8_signals_X8_within
theorem dX8_signals_0 : decode cX8_signals 0 = .ok (.iload_n 1, 1) := by decide +kernel
theorem dX8_signals_1 : decode cX8_signals 1 = .ok (.iconst 1, 1) := by decide +kernel
theorem dX8_signals_2 : decode cX8_signals 2 = .ok (.sipush 512, 3) := by decide +kernel
theorem dX8_signals_5 : decode cX8_signals 5 = .ok (.invokestatic 20, 3) := by decide +kernel
theorem dX8_signals_8 : decode cX8_signals 8 = .ok (.ifCond .eq 14, 3) := by decide +kernel
theorem dX8_signals_11 : decode cX8_signals 11 = .ok (.iload_n 1, 1) := by decide +kernel
theorem dX8_signals_12 : decode cX8_signals 12 = .ok (.aload_n 0, 1) := by decide +kernel
theorem dX8_signals_13 : decode cX8_signals 13 = .ok (.getfield 10, 3) := by decide +kernel
theorem dX8_signals_16 : decode cX8_signals 16 = .ok (.getfield 112, 3) := by decide +kernel
theorem dX8_signals_19 : decode cX8_signals 19 = .ok (.if_icmp .le 5, 3) := by decide +kernel
theorem dX8_signals_22 : decode cX8_signals 22 = .ok (.iconst (-1), 1) := by decide +kernel
theorem dX8_signals_23 : decode cX8_signals 23 = .ok (.ireturn, 1) := by decide +kernel
theorem dX8_signals_24 : decode cX8_signals 24 = .ok (.aload_n 0, 1) := by decide +kernel
theorem dX8_signals_25 : decode cX8_signals 25 = .ok (.getfield 10, 3) := by decide +kernel
theorem dX8_signals_28 : decode cX8_signals 28 = .ok (.getfield 163, 3) := by decide +kernel
theorem dX8_signals_31 : decode cX8_signals 31 = .ok (.aload_n 0, 1) := by decide +kernel
theorem dX8_signals_32 : decode cX8_signals 32 = .ok (.getfield 10, 3) := by decide +kernel
theorem dX8_signals_35 : decode cX8_signals 35 = .ok (.getfield 112, 3) := by decide +kernel
theorem dX8_signals_38 : decode cX8_signals 38 = .ok (.iload_n 1, 1) := by decide +kernel
theorem dX8_signals_39 : decode cX8_signals 39 = .ok (.isub, 1) := by decide +kernel
theorem dX8_signals_40 : decode cX8_signals 40 = .ok (.sipush 512, 3) := by decide +kernel
theorem dX8_signals_43 : decode cX8_signals 43 = .ok (.irem, 1) := by decide +kernel
theorem dX8_signals_44 : decode cX8_signals 44 = .ok (.iaload, 1) := by decide +kernel
theorem dX8_signals_45 : decode cX8_signals 45 = .ok (.ireturn, 1) := by decide +kernel
set_option maxRecDepth 20000 in
theorem ggX8_value_X5_read : GoodIn wsX8_value wsX5_read := goodIn_r _ [7, 8, 9, 10, 11, 26] (by decide +kernel) (by decide +kernel)
set_option maxRecDepth 20000 in
theorem gX8_value_X5_read : GoodIn wsX8_value (wsV RX8 166 RX5 yX5_read wsX5_read) := goodIn_app (goodIn_of _ (by decide +kernel)) ggX8_value_X5_read
theorem dX8_value_0 : decode cX8_value 0 = .ok (.aload_n 0, 1) := by decide +kernel
theorem dX8_value_1 : decode cX8_value 1 = .ok (.getfield 10, 3) := by decide +kernel
theorem dX8_value_4 : decode cX8_value 4 = .ok (.getfield 57, 3) := by decide +kernel
theorem dX8_value_7 : decode cX8_value 7 = .ok (.iload_n 1, 1) := by decide +kernel
theorem dX8_value_8 : decode cX8_value 8 = .ok (.invokevirtual 166, 3) := by decide +kernel
theorem dX8_value_11 : decode cX8_value 11 = .ok (.ireturn, 1) := by decide +kernel
set_option maxRecDepth 20000 in
theorem ggX8_row_X8_within : GoodIn wsX8_row wsX8_within := goodIn_r _ [14] (by decide +kernel) (by decide +kernel)
set_option maxRecDepth 20000 in
theorem gX8_row_X8_within : GoodIn wsX8_row (va_wsS RX8 20 yX8_within wsX8_within) := goodIn_app (goodIn_of _ (by decide +kernel)) ggX8_row_X8_within
set_option maxRecDepth 20000 in
theorem ggX8_row_J6_bitCount_0f7a4 : GoodIn wsX8_row wsJ6_bitCount_0f7a4 := goodIn_r _ [18, 19, 20, 21] (by decide +kernel) (by decide +kernel)
set_option maxRecDepth 20000 in
theorem gX8_row_J6_bitCount_0f7a4 : GoodIn wsX8_row (va_wsS RX8 173 yJ6_bitCount_0f7a4 wsJ6_bitCount_0f7a4) := goodIn_app (goodIn_of _ (by decide +kernel)) ggX8_row_J6_bitCount_0f7a4
set_option maxRecDepth 20000 in
theorem ggX8_row_X7_membersOf : GoodIn wsX8_row wsX7_membersOf := goodIn_r _ [26, 27, 42, 43, 44, 45, 46] (by decide +kernel) (by decide +kernel)
set_option maxRecDepth 20000 in
theorem gX8_row_X7_membersOf : GoodIn wsX8_row (wsV RX8 186 RX7 yX7_membersOf wsX7_membersOf) := goodIn_app (goodIn_of _ (by decide +kernel)) ggX8_row_X7_membersOf
theorem dX8_row_0 : decode cX8_row 0 = .ok (.iload_n 1, 1) := by decide +kernel
theorem dX8_row_1 : decode cX8_row 1 = .ok (.iconst 0, 1) := by decide +kernel
theorem dX8_row_2 : decode cX8_row 2 = .ok (.bipush 63, 2) := by decide +kernel
theorem dX8_row_4 : decode cX8_row 4 = .ok (.invokestatic 20, 3) := by decide +kernel
theorem dX8_row_7 : decode cX8_row 7 = .ok (.ifCond .ne 5, 3) := by decide +kernel
theorem dX8_row_10 : decode cX8_row 10 = .ok (.iconst (-1), 1) := by decide +kernel
theorem dX8_row_11 : decode cX8_row 11 = .ok (.ireturn, 1) := by decide +kernel
theorem dX8_row_12 : decode cX8_row 12 = .ok (.aload_n 0, 1) := by decide +kernel
theorem dX8_row_13 : decode cX8_row 13 = .ok (.getfield 10, 3) := by decide +kernel
theorem dX8_row_16 : decode cX8_row 16 = .ok (.getfield 99, 3) := by decide +kernel
theorem dX8_row_19 : decode cX8_row 19 = .ok (.getfield 170, 3) := by decide +kernel
theorem dX8_row_22 : decode cX8_row 22 = .ok (.iload_n 1, 1) := by decide +kernel
theorem dX8_row_23 : decode cX8_row 23 = .ok (.iaload, 1) := by decide +kernel
theorem dX8_row_24 : decode cX8_row 24 = .ok (.invokestatic 173, 3) := by decide +kernel
theorem dX8_row_27 : decode cX8_row 27 = .ok (.istore_n 3, 1) := by decide +kernel
theorem dX8_row_28 : decode cX8_row 28 = .ok (.iload_n 2, 1) := by decide +kernel
theorem dX8_row_29 : decode cX8_row 29 = .ok (.tableswitch 53 0 2 #[27, 35, 41], 27) := by decide +kernel
theorem dX8_row_56 : decode cX8_row 56 = .ok (.iload_n 3, 1) := by decide +kernel
theorem dX8_row_57 : decode cX8_row 57 = .ok (.iconst 3, 1) := by decide +kernel
theorem dX8_row_58 : decode cX8_row 58 = .ok (.isub, 1) := by decide +kernel
theorem dX8_row_59 : decode cX8_row 59 = .ok (.iconst 0, 1) := by decide +kernel
theorem dX8_row_60 : decode cX8_row 60 = .ok (.invokestatic 178, 3) := by decide +kernel
theorem dX8_row_63 : decode cX8_row 63 = .ok (.ireturn, 1) := by decide +kernel
theorem dX8_row_64 : decode cX8_row 64 = .ok (.iload_n 3, 1) := by decide +kernel
theorem dX8_row_65 : decode cX8_row 65 = .ok (.iconst 3, 1) := by decide +kernel
theorem dX8_row_66 : decode cX8_row 66 = .ok (.invokestatic 183, 3) := by decide +kernel
theorem dX8_row_69 : decode cX8_row 69 = .ok (.ireturn, 1) := by decide +kernel
theorem dX8_row_70 : decode cX8_row 70 = .ok (.aload_n 0, 1) := by decide +kernel
theorem dX8_row_71 : decode cX8_row 71 = .ok (.getfield 10, 3) := by decide +kernel
theorem dX8_row_74 : decode cX8_row 74 = .ok (.getfield 99, 3) := by decide +kernel
theorem dX8_row_77 : decode cX8_row 77 = .ok (.iload_n 1, 1) := by decide +kernel
theorem dX8_row_78 : decode cX8_row 78 = .ok (.invokevirtual 186, 3) := by decide +kernel
theorem dX8_row_81 : decode cX8_row 81 = .ok (.ireturn, 1) := by decide +kernel
theorem dX8_row_82 : decode cX8_row 82 = .ok (.iconst (-1), 1) := by decide +kernel
theorem dX8_row_83 : decode cX8_row 83 = .ok (.ireturn, 1) := by decide +kernel
set_option maxRecDepth 20000 in
theorem ggX8_least_X8_within : GoodIn wsX8_least wsX8_within := goodIn_r _ [11] (by decide +kernel) (by decide +kernel)
set_option maxRecDepth 20000 in
theorem gX8_least_X8_within : GoodIn wsX8_least (va_wsS RX8 20 yX8_within wsX8_within) := goodIn_app (goodIn_of _ (by decide +kernel)) ggX8_least_X8_within
set_option maxRecDepth 20000 in
theorem ggX8_least_X8_fewestQueued : GoodIn wsX8_least wsX8_fewestQueued := goodIn_r _ [15, 1, 16, 17, 18, 2, 3, 19, 4, 5, 6, 7, 20, 21, 10, 22, 23, 24, 25, 26, 27, 28, 29, 30, 31, 32, 33, 34, 35, 36, 37, 38, 39, 40, 41, 42, 43, 44, 45, 57, 58, 59, 60, 61, 62, 63, 64, 65, 66, 46, 47, 48, 49, 50, 51, 52, 53, 54, 55, 56, 67, 68, 69, 70] (by decide +kernel) (by decide +kernel)
set_option maxRecDepth 20000 in
theorem gX8_least_X8_fewestQueued : GoodIn wsX8_least (wsV RX8 189 RX8 yX8_fewestQueued wsX8_fewestQueued) := goodIn_app (goodIn_of _ (by decide +kernel)) ggX8_least_X8_fewestQueued
theorem dX8_least_0 : decode cX8_least 0 = .ok (.iload_n 1, 1) := by decide +kernel
theorem dX8_least_1 : decode cX8_least 1 = .ok (.iconst 1, 1) := by decide +kernel
theorem dX8_least_2 : decode cX8_least 2 = .ok (.bipush 10, 2) := by decide +kernel
theorem dX8_least_4 : decode cX8_least 4 = .ok (.invokestatic 20, 3) := by decide +kernel
theorem dX8_least_7 : decode cX8_least 7 = .ok (.ifCond .eq 12, 3) := by decide +kernel
theorem dX8_least_10 : decode cX8_least 10 = .ok (.iload_n 2, 1) := by decide +kernel
theorem dX8_least_11 : decode cX8_least 11 = .ok (.iconst 0, 1) := by decide +kernel
theorem dX8_least_12 : decode cX8_least 12 = .ok (.iload_n 1, 1) := by decide +kernel
theorem dX8_least_13 : decode cX8_least 13 = .ok (.invokestatic 20, 3) := by decide +kernel
theorem dX8_least_16 : decode cX8_least 16 = .ok (.ifCond .ne 5, 3) := by decide +kernel
theorem dX8_least_19 : decode cX8_least 19 = .ok (.iconst (-1), 1) := by decide +kernel
theorem dX8_least_20 : decode cX8_least 20 = .ok (.ireturn, 1) := by decide +kernel
theorem dX8_least_21 : decode cX8_least 21 = .ok (.aload_n 0, 1) := by decide +kernel
theorem dX8_least_22 : decode cX8_least 22 = .ok (.getfield 10, 3) := by decide +kernel
theorem dX8_least_25 : decode cX8_least 25 = .ok (.getfield 90, 3) := by decide +kernel
theorem dX8_least_28 : decode cX8_least 28 = .ok (.getfield 94, 3) := by decide +kernel
theorem dX8_least_31 : decode cX8_least 31 = .ok (.istore_n 3, 1) := by decide +kernel
theorem dX8_least_32 : decode cX8_least 32 = .ok (.iconst 0, 1) := by decide +kernel
theorem dX8_least_33 : decode cX8_least 33 = .ok (.istore 4, 2) := by decide +kernel
theorem dX8_least_35 : decode cX8_least 35 = .ok (.iload 4, 2) := by decide +kernel
theorem dX8_least_37 : decode cX8_least 37 = .ok (.iload_n 1, 1) := by decide +kernel
theorem dX8_least_38 : decode cX8_least 38 = .ok (.if_icmp .ge 22, 3) := by decide +kernel
theorem dX8_least_41 : decode cX8_least 41 = .ok (.iload_n 3, 1) := by decide +kernel
theorem dX8_least_42 : decode cX8_least 42 = .ok (.aload_n 0, 1) := by decide +kernel
theorem dX8_least_43 : decode cX8_least 43 = .ok (.iload_n 1, 1) := by decide +kernel
theorem dX8_least_44 : decode cX8_least 44 = .ok (.iload_n 2, 1) := by decide +kernel
theorem dX8_least_45 : decode cX8_least 45 = .ok (.iload 4, 2) := by decide +kernel
theorem dX8_least_47 : decode cX8_least 47 = .ok (.invokevirtual 189, 3) := by decide +kernel
theorem dX8_least_50 : decode cX8_least 50 = .ok (.invokestatic 183, 3) := by decide +kernel
theorem dX8_least_53 : decode cX8_least 53 = .ok (.istore_n 3, 1) := by decide +kernel
theorem dX8_least_54 : decode cX8_least 54 = .ok (.iinc 4 1, 3) := by decide +kernel
theorem dX8_least_57 : decode cX8_least 57 = .ok (.goto (-22), 3) := by decide +kernel
theorem dX8_least_60 : decode cX8_least 60 = .ok (.iload_n 3, 1) := by decide +kernel
theorem dX8_least_61 : decode cX8_least 61 = .ok (.ireturn, 1) := by decide +kernel
set_option maxRecDepth 20000 in
theorem ggX8_fit_X8_within : GoodIn wsX8_fit wsX8_within := goodIn_r _ [12] (by decide +kernel) (by decide +kernel)
set_option maxRecDepth 20000 in
theorem gX8_fit_X8_within : GoodIn wsX8_fit (va_wsS RX8 20 yX8_within wsX8_within) := goodIn_app (goodIn_of _ (by decide +kernel)) ggX8_fit_X8_within
set_option maxRecDepth 20000 in
theorem ggX8_fit_X8_areFitBounds : GoodIn wsX8_fit wsX8_areFitBounds := goodIn_r _ [15, 9, 10, 11, 12] (by decide +kernel) (by decide +kernel)
set_option maxRecDepth 20000 in
theorem gX8_fit_X8_areFitBounds : GoodIn wsX8_fit (va_wsS RX8 193 yX8_areFitBounds wsX8_areFitBounds) := goodIn_app (goodIn_of _ (by decide +kernel)) ggX8_fit_X8_areFitBounds
set_option maxRecDepth 20000 in
theorem ggX8_fit_X8_isNearer : GoodIn wsX8_fit wsX8_isNearer := goodIn_r _ [18, 19, 20, 4, 21] (by decide +kernel) (by decide +kernel)
set_option maxRecDepth 20000 in
theorem gX8_fit_X8_isNearer : GoodIn wsX8_fit (va_wsS RX8 196 yX8_isNearer wsX8_isNearer) := goodIn_app (goodIn_of _ (by decide +kernel)) ggX8_fit_X8_isNearer
theorem dX8_fit_0 : decode cX8_fit 0 = .ok (.iload_n 1, 1) := by decide +kernel
theorem dX8_fit_1 : decode cX8_fit 1 = .ok (.iconst 1, 1) := by decide +kernel
theorem dX8_fit_2 : decode cX8_fit 2 = .ok (.ldc 115, 2) := by decide +kernel
theorem dX8_fit_4 : decode cX8_fit 4 = .ok (.invokestatic 20, 3) := by decide +kernel
theorem dX8_fit_7 : decode cX8_fit 7 = .ok (.ifCond .eq 33, 3) := by decide +kernel
theorem dX8_fit_10 : decode cX8_fit 10 = .ok (.iload_n 2, 1) := by decide +kernel
theorem dX8_fit_11 : decode cX8_fit 11 = .ok (.iconst 1, 1) := by decide +kernel
theorem dX8_fit_12 : decode cX8_fit 12 = .ok (.sipush 1000, 3) := by decide +kernel
theorem dX8_fit_15 : decode cX8_fit 15 = .ok (.invokestatic 20, 3) := by decide +kernel
theorem dX8_fit_18 : decode cX8_fit 18 = .ok (.ifCond .eq 22, 3) := by decide +kernel
theorem dX8_fit_21 : decode cX8_fit 21 = .ok (.iload_n 3, 1) := by decide +kernel
theorem dX8_fit_22 : decode cX8_fit 22 = .ok (.iload 4, 2) := by decide +kernel
theorem dX8_fit_24 : decode cX8_fit 24 = .ok (.invokestatic 193, 3) := by decide +kernel
theorem dX8_fit_27 : decode cX8_fit 27 = .ok (.ifCond .eq 13, 3) := by decide +kernel
theorem dX8_fit_30 : decode cX8_fit 30 = .ok (.iload 5, 2) := by decide +kernel
theorem dX8_fit_32 : decode cX8_fit 32 = .ok (.iload 6, 2) := by decide +kernel
theorem dX8_fit_34 : decode cX8_fit 34 = .ok (.invokestatic 193, 3) := by decide +kernel
theorem dX8_fit_37 : decode cX8_fit 37 = .ok (.ifCond .ne 5, 3) := by decide +kernel
theorem dX8_fit_40 : decode cX8_fit 40 = .ok (.iconst (-1), 1) := by decide +kernel
theorem dX8_fit_41 : decode cX8_fit 41 = .ok (.ireturn, 1) := by decide +kernel
theorem dX8_fit_42 : decode cX8_fit 42 = .ok (.iload_n 3, 1) := by decide +kernel
theorem dX8_fit_43 : decode cX8_fit 43 = .ok (.istore 7, 2) := by decide +kernel
theorem dX8_fit_45 : decode cX8_fit 45 = .ok (.iload 5, 2) := by decide +kernel
theorem dX8_fit_47 : decode cX8_fit 47 = .ok (.istore 8, 2) := by decide +kernel
theorem dX8_fit_49 : decode cX8_fit 49 = .ok (.iload_n 3, 1) := by decide +kernel
theorem dX8_fit_50 : decode cX8_fit 50 = .ok (.istore 9, 2) := by decide +kernel
theorem dX8_fit_52 : decode cX8_fit 52 = .ok (.iload 9, 2) := by decide +kernel
theorem dX8_fit_54 : decode cX8_fit 54 = .ok (.iload 4, 2) := by decide +kernel
theorem dX8_fit_56 : decode cX8_fit 56 = .ok (.if_icmp .gt 90, 3) := by decide +kernel
theorem dX8_fit_59 : decode cX8_fit 59 = .ok (.iload_n 1, 1) := by decide +kernel
theorem dX8_fit_60 : decode cX8_fit 60 = .ok (.iload_n 2, 1) := by decide +kernel
theorem dX8_fit_61 : decode cX8_fit 61 = .ok (.iload 9, 2) := by decide +kernel
theorem dX8_fit_63 : decode cX8_fit 63 = .ok (.imul, 1) := by decide +kernel
theorem dX8_fit_64 : decode cX8_fit 64 = .ok (.idiv, 1) := by decide +kernel
theorem dX8_fit_65 : decode cX8_fit 65 = .ok (.istore 10, 2) := by decide +kernel
theorem dX8_fit_67 : decode cX8_fit 67 = .ok (.iload 5, 2) := by decide +kernel
theorem dX8_fit_69 : decode cX8_fit 69 = .ok (.iload 10, 2) := by decide +kernel
theorem dX8_fit_71 : decode cX8_fit 71 = .ok (.iload 6, 2) := by decide +kernel
theorem dX8_fit_73 : decode cX8_fit 73 = .ok (.invokestatic 183, 3) := by decide +kernel
theorem dX8_fit_76 : decode cX8_fit 76 = .ok (.invokestatic 178, 3) := by decide +kernel
theorem dX8_fit_79 : decode cX8_fit 79 = .ok (.istore 11, 2) := by decide +kernel
theorem dX8_fit_81 : decode cX8_fit 81 = .ok (.iload 5, 2) := by decide +kernel
theorem dX8_fit_83 : decode cX8_fit 83 = .ok (.iload 10, 2) := by decide +kernel
theorem dX8_fit_85 : decode cX8_fit 85 = .ok (.iconst 1, 1) := by decide +kernel
theorem dX8_fit_86 : decode cX8_fit 86 = .ok (.iadd, 1) := by decide +kernel
theorem dX8_fit_87 : decode cX8_fit 87 = .ok (.iload 6, 2) := by decide +kernel
theorem dX8_fit_89 : decode cX8_fit 89 = .ok (.invokestatic 183, 3) := by decide +kernel
theorem dX8_fit_92 : decode cX8_fit 92 = .ok (.invokestatic 178, 3) := by decide +kernel
theorem dX8_fit_95 : decode cX8_fit 95 = .ok (.istore 12, 2) := by decide +kernel
theorem dX8_fit_97 : decode cX8_fit 97 = .ok (.iload 11, 2) := by decide +kernel
theorem dX8_fit_99 : decode cX8_fit 99 = .ok (.istore 13, 2) := by decide +kernel
theorem dX8_fit_101 : decode cX8_fit 101 = .ok (.iload 13, 2) := by decide +kernel
theorem dX8_fit_103 : decode cX8_fit 103 = .ok (.iload 12, 2) := by decide +kernel
theorem dX8_fit_105 : decode cX8_fit 105 = .ok (.if_icmp .gt 35, 3) := by decide +kernel
theorem dX8_fit_108 : decode cX8_fit 108 = .ok (.iload_n 1, 1) := by decide +kernel
theorem dX8_fit_109 : decode cX8_fit 109 = .ok (.iload_n 2, 1) := by decide +kernel
theorem dX8_fit_110 : decode cX8_fit 110 = .ok (.iload 9, 2) := by decide +kernel
theorem dX8_fit_112 : decode cX8_fit 112 = .ok (.iload 13, 2) := by decide +kernel
theorem dX8_fit_114 : decode cX8_fit 114 = .ok (.imul, 1) := by decide +kernel
theorem dX8_fit_115 : decode cX8_fit 115 = .ok (.iload 7, 2) := by decide +kernel
theorem dX8_fit_117 : decode cX8_fit 117 = .ok (.iload 8, 2) := by decide +kernel
theorem dX8_fit_119 : decode cX8_fit 119 = .ok (.imul, 1) := by decide +kernel
theorem dX8_fit_120 : decode cX8_fit 120 = .ok (.invokestatic 196, 3) := by decide +kernel
theorem dX8_fit_123 : decode cX8_fit 123 = .ok (.ifCond .eq 11, 3) := by decide +kernel
theorem dX8_fit_126 : decode cX8_fit 126 = .ok (.iload 9, 2) := by decide +kernel
theorem dX8_fit_128 : decode cX8_fit 128 = .ok (.istore 7, 2) := by decide +kernel
theorem dX8_fit_130 : decode cX8_fit 130 = .ok (.iload 13, 2) := by decide +kernel
theorem dX8_fit_132 : decode cX8_fit 132 = .ok (.istore 8, 2) := by decide +kernel
theorem dX8_fit_134 : decode cX8_fit 134 = .ok (.iinc 13 1, 3) := by decide +kernel
theorem dX8_fit_137 : decode cX8_fit 137 = .ok (.goto (-36), 3) := by decide +kernel
theorem dX8_fit_140 : decode cX8_fit 140 = .ok (.iinc 9 1, 3) := by decide +kernel
theorem dX8_fit_143 : decode cX8_fit 143 = .ok (.goto (-91), 3) := by decide +kernel
theorem dX8_fit_146 : decode cX8_fit 146 = .ok (.iload 7, 2) := by decide +kernel
theorem dX8_fit_148 : decode cX8_fit 148 = .ok (.sipush 1000, 3) := by decide +kernel
theorem dX8_fit_151 : decode cX8_fit 151 = .ok (.imul, 1) := by decide +kernel
theorem dX8_fit_152 : decode cX8_fit 152 = .ok (.iload 8, 2) := by decide +kernel
theorem dX8_fit_154 : decode cX8_fit 154 = .ok (.iadd, 1) := by decide +kernel
theorem dX8_fit_155 : decode cX8_fit 155 = .ok (.ireturn, 1) := by decide +kernel
