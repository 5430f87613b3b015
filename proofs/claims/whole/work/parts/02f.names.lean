set_option maxRecDepth 20000 in
theorem ggX9_readers_X9_isIn : GoodIn wsX9_readers wsX9_isIn := goodIn_r _ [5] (by decide +kernel) (by decide +kernel)
set_option maxRecDepth 20000 in
theorem gX9_readers_X9_isIn : GoodIn wsX9_readers (va_wsS RX9 17 yX9_isIn wsX9_isIn) := goodIn_app (goodIn_of _ (by decide +kernel)) ggX9_readers_X9_isIn
theorem dX9_readers_0 : decode cX9_readers 0 = .ok (.iload_n 1, 1) := by decide +kernel
theorem dX9_readers_1 : decode cX9_readers 1 = .ok (.iconst 1, 1) := by decide +kernel
theorem dX9_readers_2 : decode cX9_readers 2 = .ok (.bipush 16, 2) := by decide +kernel
theorem dX9_readers_4 : decode cX9_readers 4 = .ok (.invokestatic 17, 3) := by decide +kernel
theorem dX9_readers_7 : decode cX9_readers 7 = .ok (.ifCond .ne 5, 3) := by decide +kernel
theorem dX9_readers_10 : decode cX9_readers 10 = .ok (.iconst 0, 1) := by decide +kernel
theorem dX9_readers_11 : decode cX9_readers 11 = .ok (.ireturn, 1) := by decide +kernel
theorem dX9_readers_12 : decode cX9_readers 12 = .ok (.aload_n 0, 1) := by decide +kernel
theorem dX9_readers_13 : decode cX9_readers 13 = .ok (.getfield 7, 3) := by decide +kernel
theorem dX9_readers_16 : decode cX9_readers 16 = .ok (.bipush 27, 2) := by decide +kernel
theorem dX9_readers_18 : decode cX9_readers 18 = .ok (.iload_n 1, 1) := by decide +kernel
theorem dX9_readers_19 : decode cX9_readers 19 = .ok (.iastore, 1) := by decide +kernel
theorem dX9_readers_20 : decode cX9_readers 20 = .ok (.aload_n 0, 1) := by decide +kernel
theorem dX9_readers_21 : decode cX9_readers 21 = .ok (.getfield 7, 3) := by decide +kernel
theorem dX9_readers_24 : decode cX9_readers 24 = .ok (.bipush 28, 2) := by decide +kernel
theorem dX9_readers_26 : decode cX9_readers 26 = .ok (.iload_n 2, 1) := by decide +kernel
theorem dX9_readers_27 : decode cX9_readers 27 = .ok (.iastore, 1) := by decide +kernel
theorem dX9_readers_28 : decode cX9_readers 28 = .ok (.iconst 1, 1) := by decide +kernel
theorem dX9_readers_29 : decode cX9_readers 29 = .ok (.ireturn, 1) := by decide +kernel
set_option maxRecDepth 20000 in
theorem ggX9_depth_X9_isIn : GoodIn wsX9_depth wsX9_isIn := goodIn_r _ [5] (by decide +kernel) (by decide +kernel)
set_option maxRecDepth 20000 in
theorem gX9_depth_X9_isIn : GoodIn wsX9_depth (va_wsS RX9 17 yX9_isIn wsX9_isIn) := goodIn_app (goodIn_of _ (by decide +kernel)) ggX9_depth_X9_isIn
theorem dX9_depth_0 : decode cX9_depth 0 = .ok (.iload_n 1, 1) := by decide +kernel
theorem dX9_depth_1 : decode cX9_depth 1 = .ok (.iconst 1, 1) := by decide +kernel
theorem dX9_depth_2 : decode cX9_depth 2 = .ok (.bipush 8, 2) := by decide +kernel
theorem dX9_depth_4 : decode cX9_depth 4 = .ok (.invokestatic 17, 3) := by decide +kernel
theorem dX9_depth_7 : decode cX9_depth 7 = .ok (.ifCond .ne 5, 3) := by decide +kernel
theorem dX9_depth_10 : decode cX9_depth 10 = .ok (.iconst 0, 1) := by decide +kernel
theorem dX9_depth_11 : decode cX9_depth 11 = .ok (.ireturn, 1) := by decide +kernel
theorem dX9_depth_12 : decode cX9_depth 12 = .ok (.aload_n 0, 1) := by decide +kernel
theorem dX9_depth_13 : decode cX9_depth 13 = .ok (.getfield 7, 3) := by decide +kernel
theorem dX9_depth_16 : decode cX9_depth 16 = .ok (.bipush 29, 2) := by decide +kernel
theorem dX9_depth_18 : decode cX9_depth 18 = .ok (.iload_n 1, 1) := by decide +kernel
theorem dX9_depth_19 : decode cX9_depth 19 = .ok (.iastore, 1) := by decide +kernel
theorem dX9_depth_20 : decode cX9_depth 20 = .ok (.iconst 1, 1) := by decide +kernel
theorem dX9_depth_21 : decode cX9_depth 21 = .ok (.ireturn, 1) := by decide +kernel
set_option maxRecDepth 20000 in
theorem ggX9_sprite_X9_isIn : GoodIn wsX9_sprite wsX9_isIn := goodIn_r _ [5] (by decide +kernel) (by decide +kernel)
set_option maxRecDepth 20000 in
theorem gX9_sprite_X9_isIn : GoodIn wsX9_sprite (va_wsS RX9 17 yX9_isIn wsX9_isIn) := goodIn_app (goodIn_of _ (by decide +kernel)) ggX9_sprite_X9_isIn
theorem dX9_sprite_0 : decode cX9_sprite 0 = .ok (.iload_n 1, 1) := by decide +kernel
theorem dX9_sprite_1 : decode cX9_sprite 1 = .ok (.iconst 0, 1) := by decide +kernel
theorem dX9_sprite_2 : decode cX9_sprite 2 = .ok (.bipush 7, 2) := by decide +kernel
theorem dX9_sprite_4 : decode cX9_sprite 4 = .ok (.invokestatic 17, 3) := by decide +kernel
theorem dX9_sprite_7 : decode cX9_sprite 7 = .ok (.ifCond .eq 35, 3) := by decide +kernel
theorem dX9_sprite_10 : decode cX9_sprite 10 = .ok (.iload_n 2, 1) := by decide +kernel
theorem dX9_sprite_11 : decode cX9_sprite 11 = .ok (.bipush (-8), 2) := by decide +kernel
theorem dX9_sprite_13 : decode cX9_sprite 13 = .ok (.bipush 63, 2) := by decide +kernel
theorem dX9_sprite_15 : decode cX9_sprite 15 = .ok (.invokestatic 17, 3) := by decide +kernel
theorem dX9_sprite_18 : decode cX9_sprite 18 = .ok (.ifCond .eq 24, 3) := by decide +kernel
theorem dX9_sprite_21 : decode cX9_sprite 21 = .ok (.iload_n 3, 1) := by decide +kernel
theorem dX9_sprite_22 : decode cX9_sprite 22 = .ok (.iconst 0, 1) := by decide +kernel
theorem dX9_sprite_23 : decode cX9_sprite 23 = .ok (.bipush 63, 2) := by decide +kernel
theorem dX9_sprite_25 : decode cX9_sprite 25 = .ok (.invokestatic 17, 3) := by decide +kernel
theorem dX9_sprite_28 : decode cX9_sprite 28 = .ok (.ifCond .eq 14, 3) := by decide +kernel
theorem dX9_sprite_31 : decode cX9_sprite 31 = .ok (.iload 4, 2) := by decide +kernel
theorem dX9_sprite_33 : decode cX9_sprite 33 = .ok (.iconst 0, 1) := by decide +kernel
theorem dX9_sprite_34 : decode cX9_sprite 34 = .ok (.bipush 8, 2) := by decide +kernel
theorem dX9_sprite_36 : decode cX9_sprite 36 = .ok (.invokestatic 17, 3) := by decide +kernel
theorem dX9_sprite_39 : decode cX9_sprite 39 = .ok (.ifCond .ne 5, 3) := by decide +kernel
theorem dX9_sprite_42 : decode cX9_sprite 42 = .ok (.iconst 0, 1) := by decide +kernel
theorem dX9_sprite_43 : decode cX9_sprite 43 = .ok (.ireturn, 1) := by decide +kernel
theorem dX9_sprite_44 : decode cX9_sprite 44 = .ok (.aload_n 0, 1) := by decide +kernel
theorem dX9_sprite_45 : decode cX9_sprite 45 = .ok (.getfield 7, 3) := by decide +kernel
theorem dX9_sprite_48 : decode cX9_sprite 48 = .ok (.sipush 130, 3) := by decide +kernel
theorem dX9_sprite_51 : decode cX9_sprite 51 = .ok (.bipush 11, 2) := by decide +kernel
theorem dX9_sprite_53 : decode cX9_sprite 53 = .ok (.iload_n 1, 1) := by decide +kernel
theorem dX9_sprite_54 : decode cX9_sprite 54 = .ok (.imul, 1) := by decide +kernel
theorem dX9_sprite_55 : decode cX9_sprite 55 = .ok (.iadd, 1) := by decide +kernel
theorem dX9_sprite_56 : decode cX9_sprite 56 = .ok (.iload_n 2, 1) := by decide +kernel
theorem dX9_sprite_57 : decode cX9_sprite 57 = .ok (.iastore, 1) := by decide +kernel
theorem dX9_sprite_58 : decode cX9_sprite 58 = .ok (.aload_n 0, 1) := by decide +kernel
theorem dX9_sprite_59 : decode cX9_sprite 59 = .ok (.getfield 7, 3) := by decide +kernel
theorem dX9_sprite_62 : decode cX9_sprite 62 = .ok (.sipush 130, 3) := by decide +kernel
theorem dX9_sprite_65 : decode cX9_sprite 65 = .ok (.bipush 11, 2) := by decide +kernel
theorem dX9_sprite_67 : decode cX9_sprite 67 = .ok (.iload_n 1, 1) := by decide +kernel
theorem dX9_sprite_68 : decode cX9_sprite 68 = .ok (.imul, 1) := by decide +kernel
theorem dX9_sprite_69 : decode cX9_sprite 69 = .ok (.iadd, 1) := by decide +kernel
theorem dX9_sprite_70 : decode cX9_sprite 70 = .ok (.iconst 1, 1) := by decide +kernel
theorem dX9_sprite_71 : decode cX9_sprite 71 = .ok (.iadd, 1) := by decide +kernel
theorem dX9_sprite_72 : decode cX9_sprite 72 = .ok (.iload_n 3, 1) := by decide +kernel
theorem dX9_sprite_73 : decode cX9_sprite 73 = .ok (.iastore, 1) := by decide +kernel
theorem dX9_sprite_74 : decode cX9_sprite 74 = .ok (.aload_n 0, 1) := by decide +kernel
theorem dX9_sprite_75 : decode cX9_sprite 75 = .ok (.getfield 7, 3) := by decide +kernel
theorem dX9_sprite_78 : decode cX9_sprite 78 = .ok (.sipush 130, 3) := by decide +kernel
theorem dX9_sprite_81 : decode cX9_sprite 81 = .ok (.bipush 11, 2) := by decide +kernel
theorem dX9_sprite_83 : decode cX9_sprite 83 = .ok (.iload_n 1, 1) := by decide +kernel
theorem dX9_sprite_84 : decode cX9_sprite 84 = .ok (.imul, 1) := by decide +kernel
theorem dX9_sprite_85 : decode cX9_sprite 85 = .ok (.iadd, 1) := by decide +kernel
theorem dX9_sprite_86 : decode cX9_sprite 86 = .ok (.iconst 2, 1) := by decide +kernel
theorem dX9_sprite_87 : decode cX9_sprite 87 = .ok (.iadd, 1) := by decide +kernel
theorem dX9_sprite_88 : decode cX9_sprite 88 = .ok (.iload 4, 2) := by decide +kernel
theorem dX9_sprite_90 : decode cX9_sprite 90 = .ok (.iastore, 1) := by decide +kernel
theorem dX9_sprite_91 : decode cX9_sprite 91 = .ok (.iconst 1, 1) := by decide +kernel
theorem dX9_sprite_92 : decode cX9_sprite 92 = .ok (.ireturn, 1) := by decide +kernel
set_option maxRecDepth 20000 in
theorem ggX9_bits_X9_isIn : GoodIn wsX9_bits wsX9_isIn := goodIn_r _ [5] (by decide +kernel) (by decide +kernel)
set_option maxRecDepth 20000 in
theorem gX9_bits_X9_isIn : GoodIn wsX9_bits (va_wsS RX9 17 yX9_isIn wsX9_isIn) := goodIn_app (goodIn_of _ (by decide +kernel)) ggX9_bits_X9_isIn
theorem dX9_bits_0 : decode cX9_bits 0 = .ok (.iload_n 1, 1) := by decide +kernel
theorem dX9_bits_1 : decode cX9_bits 1 = .ok (.iconst 0, 1) := by decide +kernel
theorem dX9_bits_2 : decode cX9_bits 2 = .ok (.bipush 7, 2) := by decide +kernel
theorem dX9_bits_4 : decode cX9_bits 4 = .ok (.invokestatic 17, 3) := by decide +kernel
theorem dX9_bits_7 : decode cX9_bits 7 = .ok (.ifCond .ne 5, 3) := by decide +kernel
theorem dX9_bits_10 : decode cX9_bits 10 = .ok (.iconst 0, 1) := by decide +kernel
theorem dX9_bits_11 : decode cX9_bits 11 = .ok (.ireturn, 1) := by decide +kernel
theorem dX9_bits_12 : decode cX9_bits 12 = .ok (.iconst 0, 1) := by decide +kernel
theorem dX9_bits_13 : decode cX9_bits 13 = .ok (.istore 4, 2) := by decide +kernel
theorem dX9_bits_15 : decode cX9_bits 15 = .ok (.iload 4, 2) := by decide +kernel
theorem dX9_bits_17 : decode cX9_bits 17 = .ok (.iconst 4, 1) := by decide +kernel
theorem dX9_bits_18 : decode cX9_bits 18 = .ok (.if_icmp .ge 50, 3) := by decide +kernel
theorem dX9_bits_21 : decode cX9_bits 21 = .ok (.aload_n 0, 1) := by decide +kernel
theorem dX9_bits_22 : decode cX9_bits 22 = .ok (.getfield 7, 3) := by decide +kernel
theorem dX9_bits_25 : decode cX9_bits 25 = .ok (.sipush 130, 3) := by decide +kernel
theorem dX9_bits_28 : decode cX9_bits 28 = .ok (.bipush 11, 2) := by decide +kernel
theorem dX9_bits_30 : decode cX9_bits 30 = .ok (.iload_n 1, 1) := by decide +kernel
theorem dX9_bits_31 : decode cX9_bits 31 = .ok (.imul, 1) := by decide +kernel
theorem dX9_bits_32 : decode cX9_bits 32 = .ok (.iadd, 1) := by decide +kernel
theorem dX9_bits_33 : decode cX9_bits 33 = .ok (.iload_n 2, 1) := by decide +kernel
theorem dX9_bits_34 : decode cX9_bits 34 = .ok (.ifCond .eq 7, 3) := by decide +kernel
theorem dX9_bits_37 : decode cX9_bits 37 = .ok (.iconst 3, 1) := by decide +kernel
theorem dX9_bits_38 : decode cX9_bits 38 = .ok (.goto 5, 3) := by decide +kernel
theorem dX9_bits_41 : decode cX9_bits 41 = .ok (.bipush 7, 2) := by decide +kernel
theorem dX9_bits_43 : decode cX9_bits 43 = .ok (.iadd, 1) := by decide +kernel
theorem dX9_bits_44 : decode cX9_bits 44 = .ok (.iload 4, 2) := by decide +kernel
theorem dX9_bits_46 : decode cX9_bits 46 = .ok (.iadd, 1) := by decide +kernel
theorem dX9_bits_47 : decode cX9_bits 47 = .ok (.iload_n 3, 1) := by decide +kernel
theorem dX9_bits_48 : decode cX9_bits 48 = .ok (.bipush 24, 2) := by decide +kernel
theorem dX9_bits_50 : decode cX9_bits 50 = .ok (.bipush 8, 2) := by decide +kernel
theorem dX9_bits_52 : decode cX9_bits 52 = .ok (.iload 4, 2) := by decide +kernel
theorem dX9_bits_54 : decode cX9_bits 54 = .ok (.imul, 1) := by decide +kernel
theorem dX9_bits_55 : decode cX9_bits 55 = .ok (.isub, 1) := by decide +kernel
theorem dX9_bits_56 : decode cX9_bits 56 = .ok (.ishr, 1) := by decide +kernel
theorem dX9_bits_57 : decode cX9_bits 57 = .ok (.sipush 255, 3) := by decide +kernel
theorem dX9_bits_60 : decode cX9_bits 60 = .ok (.iand, 1) := by decide +kernel
theorem dX9_bits_61 : decode cX9_bits 61 = .ok (.iastore, 1) := by decide +kernel
theorem dX9_bits_62 : decode cX9_bits 62 = .ok (.iinc 4 1, 3) := by decide +kernel
theorem dX9_bits_65 : decode cX9_bits 65 = .ok (.goto (-50), 3) := by decide +kernel
theorem dX9_bits_68 : decode cX9_bits 68 = .ok (.iconst 1, 1) := by decide +kernel
theorem dX9_bits_69 : decode cX9_bits 69 = .ok (.ireturn, 1) := by decide +kernel
theorem dX9_hasRow_0 : decode cX9_hasRow 0 = .ok (.iload_n 2, 1) := by decide +kernel
theorem dX9_hasRow_1 : decode cX9_hasRow 1 = .ok (.aload_n 0, 1) := by decide +kernel
theorem dX9_hasRow_2 : decode cX9_hasRow 2 = .ok (.getfield 7, 3) := by decide +kernel
theorem dX9_hasRow_5 : decode cX9_hasRow 5 = .ok (.sipush 130, 3) := by decide +kernel
theorem dX9_hasRow_8 : decode cX9_hasRow 8 = .ok (.bipush 11, 2) := by decide +kernel
theorem dX9_hasRow_10 : decode cX9_hasRow 10 = .ok (.iload_n 1, 1) := by decide +kernel
theorem dX9_hasRow_11 : decode cX9_hasRow 11 = .ok (.imul, 1) := by decide +kernel
theorem dX9_hasRow_12 : decode cX9_hasRow 12 = .ok (.iadd, 1) := by decide +kernel
theorem dX9_hasRow_13 : decode cX9_hasRow 13 = .ok (.iconst 1, 1) := by decide +kernel
theorem dX9_hasRow_14 : decode cX9_hasRow 14 = .ok (.iadd, 1) := by decide +kernel
theorem dX9_hasRow_15 : decode cX9_hasRow 15 = .ok (.iaload, 1) := by decide +kernel
theorem dX9_hasRow_16 : decode cX9_hasRow 16 = .ok (.isub, 1) := by decide +kernel
theorem dX9_hasRow_17 : decode cX9_hasRow 17 = .ok (.istore_n 3, 1) := by decide +kernel
theorem dX9_hasRow_18 : decode cX9_hasRow 18 = .ok (.iload_n 3, 1) := by decide +kernel
theorem dX9_hasRow_19 : decode cX9_hasRow 19 = .ok (.ifCond .lt 26, 3) := by decide +kernel
theorem dX9_hasRow_22 : decode cX9_hasRow 22 = .ok (.iload_n 3, 1) := by decide +kernel
theorem dX9_hasRow_23 : decode cX9_hasRow 23 = .ok (.aload_n 0, 1) := by decide +kernel
theorem dX9_hasRow_24 : decode cX9_hasRow 24 = .ok (.getfield 7, 3) := by decide +kernel
theorem dX9_hasRow_27 : decode cX9_hasRow 27 = .ok (.sipush 130, 3) := by decide +kernel
theorem dX9_hasRow_30 : decode cX9_hasRow 30 = .ok (.bipush 11, 2) := by decide +kernel
theorem dX9_hasRow_32 : decode cX9_hasRow 32 = .ok (.iload_n 1, 1) := by decide +kernel
theorem dX9_hasRow_33 : decode cX9_hasRow 33 = .ok (.imul, 1) := by decide +kernel
theorem dX9_hasRow_34 : decode cX9_hasRow 34 = .ok (.iadd, 1) := by decide +kernel
theorem dX9_hasRow_35 : decode cX9_hasRow 35 = .ok (.iconst 2, 1) := by decide +kernel
theorem dX9_hasRow_36 : decode cX9_hasRow 36 = .ok (.iadd, 1) := by decide +kernel
theorem dX9_hasRow_37 : decode cX9_hasRow 37 = .ok (.iaload, 1) := by decide +kernel
theorem dX9_hasRow_38 : decode cX9_hasRow 38 = .ok (.if_icmp .ge 7, 3) := by decide +kernel
theorem dX9_hasRow_41 : decode cX9_hasRow 41 = .ok (.iconst 1, 1) := by decide +kernel
theorem dX9_hasRow_42 : decode cX9_hasRow 42 = .ok (.goto 4, 3) := by decide +kernel
theorem dX9_hasRow_45 : decode cX9_hasRow 45 = .ok (.iconst 0, 1) := by decide +kernel
theorem dX9_hasRow_46 : decode cX9_hasRow 46 = .ok (.ireturn, 1) := by decide +kernel
set_option maxRecDepth 20000 in
theorem ggX9_spritesOf_X9_hasRow : GoodIn wsX9_spritesOf wsX9_hasRow := goodIn_r _ [5, 6, 7, 8] (by decide +kernel) (by decide +kernel)
set_option maxRecDepth 20000 in
theorem gX9_spritesOf_X9_hasRow : GoodIn wsX9_spritesOf (wsV RX9 25 RX9 yX9_hasRow wsX9_hasRow) := goodIn_app (goodIn_of _ (by decide +kernel)) ggX9_spritesOf_X9_hasRow
theorem dX9_spritesOf_0 : decode cX9_spritesOf 0 = .ok (.iconst 0, 1) := by decide +kernel
theorem dX9_spritesOf_1 : decode cX9_spritesOf 1 = .ok (.istore_n 2, 1) := by decide +kernel
theorem dX9_spritesOf_2 : decode cX9_spritesOf 2 = .ok (.iconst 0, 1) := by decide +kernel
theorem dX9_spritesOf_3 : decode cX9_spritesOf 3 = .ok (.istore_n 3, 1) := by decide +kernel
theorem dX9_spritesOf_4 : decode cX9_spritesOf 4 = .ok (.iconst 0, 1) := by decide +kernel
theorem dX9_spritesOf_5 : decode cX9_spritesOf 5 = .ok (.istore 4, 2) := by decide +kernel
theorem dX9_spritesOf_7 : decode cX9_spritesOf 7 = .ok (.iload 4, 2) := by decide +kernel
theorem dX9_spritesOf_9 : decode cX9_spritesOf 9 = .ok (.bipush 8, 2) := by decide +kernel
theorem dX9_spritesOf_11 : decode cX9_spritesOf 11 = .ok (.if_icmp .ge 37, 3) := by decide +kernel
theorem dX9_spritesOf_14 : decode cX9_spritesOf 14 = .ok (.aload_n 0, 1) := by decide +kernel
theorem dX9_spritesOf_15 : decode cX9_spritesOf 15 = .ok (.iload 4, 2) := by decide +kernel
theorem dX9_spritesOf_17 : decode cX9_spritesOf 17 = .ok (.iload_n 1, 1) := by decide +kernel
theorem dX9_spritesOf_18 : decode cX9_spritesOf 18 = .ok (.invokevirtual 25, 3) := by decide +kernel
theorem dX9_spritesOf_21 : decode cX9_spritesOf 21 = .ok (.ifCond .eq 21, 3) := by decide +kernel
theorem dX9_spritesOf_24 : decode cX9_spritesOf 24 = .ok (.iload_n 3, 1) := by decide +kernel
theorem dX9_spritesOf_25 : decode cX9_spritesOf 25 = .ok (.iconst 3, 1) := by decide +kernel
theorem dX9_spritesOf_26 : decode cX9_spritesOf 26 = .ok (.if_icmp .ne 6, 3) := by decide +kernel
theorem dX9_spritesOf_29 : decode cX9_spritesOf 29 = .ok (.goto 13, 3) := by decide +kernel
theorem dX9_spritesOf_32 : decode cX9_spritesOf 32 = .ok (.iload_n 2, 1) := by decide +kernel
theorem dX9_spritesOf_33 : decode cX9_spritesOf 33 = .ok (.iconst 1, 1) := by decide +kernel
theorem dX9_spritesOf_34 : decode cX9_spritesOf 34 = .ok (.iload 4, 2) := by decide +kernel
theorem dX9_spritesOf_36 : decode cX9_spritesOf 36 = .ok (.ishl, 1) := by decide +kernel
theorem dX9_spritesOf_37 : decode cX9_spritesOf 37 = .ok (.ior, 1) := by decide +kernel
theorem dX9_spritesOf_38 : decode cX9_spritesOf 38 = .ok (.istore_n 2, 1) := by decide +kernel
theorem dX9_spritesOf_39 : decode cX9_spritesOf 39 = .ok (.iinc 3 1, 3) := by decide +kernel
theorem dX9_spritesOf_42 : decode cX9_spritesOf 42 = .ok (.iinc 4 1, 3) := by decide +kernel
theorem dX9_spritesOf_45 : decode cX9_spritesOf 45 = .ok (.goto (-38), 3) := by decide +kernel
theorem dX9_spritesOf_48 : decode cX9_spritesOf 48 = .ok (.iload_n 2, 1) := by decide +kernel
theorem dX9_spritesOf_49 : decode cX9_spritesOf 49 = .ok (.ireturn, 1) := by decide +kernel
theorem dX9_isTaken_0 : decode cX9_isTaken 0 = .ok (.aload_n 0, 1) := by decide +kernel
theorem dX9_isTaken_1 : decode cX9_isTaken 1 = .ok (.getfield 7, 3) := by decide +kernel
theorem dX9_isTaken_4 : decode cX9_isTaken 4 = .ok (.bipush 28, 2) := by decide +kernel
theorem dX9_isTaken_6 : decode cX9_isTaken 6 = .ok (.iaload, 1) := by decide +kernel
theorem dX9_isTaken_7 : decode cX9_isTaken 7 = .ok (.aload_n 0, 1) := by decide +kernel
theorem dX9_isTaken_8 : decode cX9_isTaken 8 = .ok (.getfield 7, 3) := by decide +kernel
theorem dX9_isTaken_11 : decode cX9_isTaken 11 = .ok (.bipush 23, 2) := by decide +kernel
theorem dX9_isTaken_13 : decode cX9_isTaken 13 = .ok (.iaload, 1) := by decide +kernel
theorem dX9_isTaken_14 : decode cX9_isTaken 14 = .ok (.aload_n 0, 1) := by decide +kernel
theorem dX9_isTaken_15 : decode cX9_isTaken 15 = .ok (.getfield 7, 3) := by decide +kernel
theorem dX9_isTaken_18 : decode cX9_isTaken 18 = .ok (.bipush 27, 2) := by decide +kernel
theorem dX9_isTaken_20 : decode cX9_isTaken 20 = .ok (.iaload, 1) := by decide +kernel
theorem dX9_isTaken_21 : decode cX9_isTaken 21 = .ok (.irem, 1) := by decide +kernel
theorem dX9_isTaken_22 : decode cX9_isTaken 22 = .ok (.ishr, 1) := by decide +kernel
theorem dX9_isTaken_23 : decode cX9_isTaken 23 = .ok (.iconst 1, 1) := by decide +kernel
theorem dX9_isTaken_24 : decode cX9_isTaken 24 = .ok (.iand, 1) := by decide +kernel
theorem dX9_isTaken_25 : decode cX9_isTaken 25 = .ok (.iconst 1, 1) := by decide +kernel
theorem dX9_isTaken_26 : decode cX9_isTaken 26 = .ok (.if_icmp .ne 7, 3) := by decide +kernel
theorem dX9_isTaken_29 : decode cX9_isTaken 29 = .ok (.iconst 1, 1) := by decide +kernel
theorem dX9_isTaken_30 : decode cX9_isTaken 30 = .ok (.goto 4, 3) := by decide +kernel
theorem dX9_isTaken_33 : decode cX9_isTaken 33 = .ok (.iconst 0, 1) := by decide +kernel
theorem dX9_isTaken_34 : decode cX9_isTaken 34 = .ok (.ireturn, 1) := by decide +kernel
set_option maxRecDepth 20000 in
theorem ggX9_signalsNow_X9_isIn : GoodIn wsX9_signalsNow wsX9_isIn := goodIn_r _ [5] (by decide +kernel) (by decide +kernel)
set_option maxRecDepth 20000 in
theorem gX9_signalsNow_X9_isIn : GoodIn wsX9_signalsNow (va_wsS RX9 17 yX9_isIn wsX9_isIn) := goodIn_app (goodIn_of _ (by decide +kernel)) ggX9_signalsNow_X9_isIn
theorem dX9_signalsNow_0 : decode cX9_signalsNow 0 = .ok (.aload_n 0, 1) := by decide +kernel
theorem dX9_signalsNow_1 : decode cX9_signalsNow 1 = .ok (.getfield 7, 3) := by decide +kernel
theorem dX9_signalsNow_4 : decode cX9_signalsNow 4 = .ok (.bipush 20, 2) := by decide +kernel
theorem dX9_signalsNow_6 : decode cX9_signalsNow 6 = .ok (.iaload, 1) := by decide +kernel
theorem dX9_signalsNow_7 : decode cX9_signalsNow 7 = .ok (.aload_n 0, 1) := by decide +kernel
theorem dX9_signalsNow_8 : decode cX9_signalsNow 8 = .ok (.getfield 7, 3) := by decide +kernel
theorem dX9_signalsNow_11 : decode cX9_signalsNow 11 = .ok (.iconst 0, 1) := by decide +kernel
theorem dX9_signalsNow_12 : decode cX9_signalsNow 12 = .ok (.iaload, 1) := by decide +kernel
theorem dX9_signalsNow_13 : decode cX9_signalsNow 13 = .ok (.isub, 1) := by decide +kernel
theorem dX9_signalsNow_14 : decode cX9_signalsNow 14 = .ok (.aload_n 0, 1) := by decide +kernel
theorem dX9_signalsNow_15 : decode cX9_signalsNow 15 = .ok (.getfield 7, 3) := by decide +kernel
theorem dX9_signalsNow_18 : decode cX9_signalsNow 18 = .ok (.iconst 1, 1) := by decide +kernel
theorem dX9_signalsNow_19 : decode cX9_signalsNow 19 = .ok (.iaload, 1) := by decide +kernel
theorem dX9_signalsNow_20 : decode cX9_signalsNow 20 = .ok (.isub, 1) := by decide +kernel
theorem dX9_signalsNow_21 : decode cX9_signalsNow 21 = .ok (.istore_n 1, 1) := by decide +kernel
theorem dX9_signalsNow_22 : decode cX9_signalsNow 22 = .ok (.aload_n 0, 1) := by decide +kernel
theorem dX9_signalsNow_23 : decode cX9_signalsNow 23 = .ok (.getfield 7, 3) := by decide +kernel
theorem dX9_signalsNow_26 : decode cX9_signalsNow 26 = .ok (.bipush 21, 2) := by decide +kernel
theorem dX9_signalsNow_28 : decode cX9_signalsNow 28 = .ok (.iaload, 1) := by decide +kernel
theorem dX9_signalsNow_29 : decode cX9_signalsNow 29 = .ok (.aload_n 0, 1) := by decide +kernel
theorem dX9_signalsNow_30 : decode cX9_signalsNow 30 = .ok (.getfield 7, 3) := by decide +kernel
theorem dX9_signalsNow_33 : decode cX9_signalsNow 33 = .ok (.iconst 4, 1) := by decide +kernel
theorem dX9_signalsNow_34 : decode cX9_signalsNow 34 = .ok (.iaload, 1) := by decide +kernel
theorem dX9_signalsNow_35 : decode cX9_signalsNow 35 = .ok (.isub, 1) := by decide +kernel
theorem dX9_signalsNow_36 : decode cX9_signalsNow 36 = .ok (.aload_n 0, 1) := by decide +kernel
theorem dX9_signalsNow_37 : decode cX9_signalsNow 37 = .ok (.getfield 7, 3) := by decide +kernel
theorem dX9_signalsNow_40 : decode cX9_signalsNow 40 = .ok (.iconst 5, 1) := by decide +kernel
theorem dX9_signalsNow_41 : decode cX9_signalsNow 41 = .ok (.iaload, 1) := by decide +kernel
theorem dX9_signalsNow_42 : decode cX9_signalsNow 42 = .ok (.isub, 1) := by decide +kernel
theorem dX9_signalsNow_43 : decode cX9_signalsNow 43 = .ok (.istore_n 2, 1) := by decide +kernel
theorem dX9_signalsNow_44 : decode cX9_signalsNow 44 = .ok (.iload_n 1, 1) := by decide +kernel
theorem dX9_signalsNow_45 : decode cX9_signalsNow 45 = .ok (.iconst 0, 1) := by decide +kernel
theorem dX9_signalsNow_46 : decode cX9_signalsNow 46 = .ok (.aload_n 0, 1) := by decide +kernel
theorem dX9_signalsNow_47 : decode cX9_signalsNow 47 = .ok (.getfield 7, 3) := by decide +kernel
theorem dX9_signalsNow_50 : decode cX9_signalsNow 50 = .ok (.iconst 2, 1) := by decide +kernel
theorem dX9_signalsNow_51 : decode cX9_signalsNow 51 = .ok (.iaload, 1) := by decide +kernel
theorem dX9_signalsNow_52 : decode cX9_signalsNow 52 = .ok (.iconst 1, 1) := by decide +kernel
theorem dX9_signalsNow_53 : decode cX9_signalsNow 53 = .ok (.isub, 1) := by decide +kernel
theorem dX9_signalsNow_54 : decode cX9_signalsNow 54 = .ok (.invokestatic 17, 3) := by decide +kernel
theorem dX9_signalsNow_57 : decode cX9_signalsNow 57 = .ok (.ifCond .eq 7, 3) := by decide +kernel
theorem dX9_signalsNow_60 : decode cX9_signalsNow 60 = .ok (.iconst 1, 1) := by decide +kernel
theorem dX9_signalsNow_61 : decode cX9_signalsNow 61 = .ok (.goto 4, 3) := by decide +kernel
theorem dX9_signalsNow_64 : decode cX9_signalsNow 64 = .ok (.iconst 0, 1) := by decide +kernel
theorem dX9_signalsNow_65 : decode cX9_signalsNow 65 = .ok (.istore_n 3, 1) := by decide +kernel
theorem dX9_signalsNow_66 : decode cX9_signalsNow 66 = .ok (.iload_n 2, 1) := by decide +kernel
theorem dX9_signalsNow_67 : decode cX9_signalsNow 67 = .ok (.iconst 0, 1) := by decide +kernel
theorem dX9_signalsNow_68 : decode cX9_signalsNow 68 = .ok (.aload_n 0, 1) := by decide +kernel
theorem dX9_signalsNow_69 : decode cX9_signalsNow 69 = .ok (.getfield 7, 3) := by decide +kernel
theorem dX9_signalsNow_72 : decode cX9_signalsNow 72 = .ok (.bipush 6, 2) := by decide +kernel
theorem dX9_signalsNow_74 : decode cX9_signalsNow 74 = .ok (.iaload, 1) := by decide +kernel
theorem dX9_signalsNow_75 : decode cX9_signalsNow 75 = .ok (.iconst 1, 1) := by decide +kernel
theorem dX9_signalsNow_76 : decode cX9_signalsNow 76 = .ok (.isub, 1) := by decide +kernel
theorem dX9_signalsNow_77 : decode cX9_signalsNow 77 = .ok (.invokestatic 17, 3) := by decide +kernel
theorem dX9_signalsNow_80 : decode cX9_signalsNow 80 = .ok (.ifCond .eq 6, 3) := by decide +kernel
theorem dX9_signalsNow_83 : decode cX9_signalsNow 83 = .ok (.iinc 3 2, 3) := by decide +kernel
theorem dX9_signalsNow_86 : decode cX9_signalsNow 86 = .ok (.aload_n 0, 1) := by decide +kernel
theorem dX9_signalsNow_87 : decode cX9_signalsNow 87 = .ok (.getfield 7, 3) := by decide +kernel
theorem dX9_signalsNow_90 : decode cX9_signalsNow 90 = .ok (.bipush 20, 2) := by decide +kernel
theorem dX9_signalsNow_92 : decode cX9_signalsNow 92 = .ok (.iaload, 1) := by decide +kernel
theorem dX9_signalsNow_93 : decode cX9_signalsNow 93 = .ok (.aload_n 0, 1) := by decide +kernel
theorem dX9_signalsNow_94 : decode cX9_signalsNow 94 = .ok (.getfield 7, 3) := by decide +kernel
theorem dX9_signalsNow_97 : decode cX9_signalsNow 97 = .ok (.iconst 0, 1) := by decide +kernel
theorem dX9_signalsNow_98 : decode cX9_signalsNow 98 = .ok (.iaload, 1) := by decide +kernel
theorem dX9_signalsNow_99 : decode cX9_signalsNow 99 = .ok (.if_icmp .ge 19, 3) := by decide +kernel
theorem dX9_signalsNow_102 : decode cX9_signalsNow 102 = .ok (.aload_n 0, 1) := by decide +kernel
theorem dX9_signalsNow_103 : decode cX9_signalsNow 103 = .ok (.getfield 7, 3) := by decide +kernel
theorem dX9_signalsNow_106 : decode cX9_signalsNow 106 = .ok (.bipush 21, 2) := by decide +kernel
theorem dX9_signalsNow_108 : decode cX9_signalsNow 108 = .ok (.iaload, 1) := by decide +kernel
theorem dX9_signalsNow_109 : decode cX9_signalsNow 109 = .ok (.aload_n 0, 1) := by decide +kernel
theorem dX9_signalsNow_110 : decode cX9_signalsNow 110 = .ok (.getfield 7, 3) := by decide +kernel
theorem dX9_signalsNow_113 : decode cX9_signalsNow 113 = .ok (.iconst 4, 1) := by decide +kernel
theorem dX9_signalsNow_114 : decode cX9_signalsNow 114 = .ok (.iaload, 1) := by decide +kernel
theorem dX9_signalsNow_115 : decode cX9_signalsNow 115 = .ok (.if_icmp .lt 9, 3) := by decide +kernel
theorem dX9_signalsNow_118 : decode cX9_signalsNow 118 = .ok (.iload_n 3, 1) := by decide +kernel
theorem dX9_signalsNow_119 : decode cX9_signalsNow 119 = .ok (.iconst 4, 1) := by decide +kernel
theorem dX9_signalsNow_120 : decode cX9_signalsNow 120 = .ok (.iadd, 1) := by decide +kernel
theorem dX9_signalsNow_121 : decode cX9_signalsNow 121 = .ok (.goto 4, 3) := by decide +kernel
theorem dX9_signalsNow_124 : decode cX9_signalsNow 124 = .ok (.iload_n 3, 1) := by decide +kernel
theorem dX9_signalsNow_125 : decode cX9_signalsNow 125 = .ok (.ireturn, 1) := by decide +kernel
theorem dX9_bytesOf_0 : decode cX9_bytesOf 0 = .ok (.iload_n 0, 1) := by decide +kernel
theorem dX9_bytesOf_1 : decode cX9_bytesOf 1 = .ok (.bipush 7, 2) := by decide +kernel
theorem dX9_bytesOf_3 : decode cX9_bytesOf 3 = .ok (.iadd, 1) := by decide +kernel
theorem dX9_bytesOf_4 : decode cX9_bytesOf 4 = .ok (.bipush 8, 2) := by decide +kernel
theorem dX9_bytesOf_6 : decode cX9_bytesOf 6 = .ok (.idiv, 1) := by decide +kernel
theorem dX9_bytesOf_7 : decode cX9_bytesOf 7 = .ok (.iconst 1, 1) := by decide +kernel
theorem dX9_bytesOf_8 : decode cX9_bytesOf 8 = .ok (.iadd, 1) := by decide +kernel
theorem dX9_bytesOf_9 : decode cX9_bytesOf 9 = .ok (.ireturn, 1) := by decide +kernel
set_option maxRecDepth 20000 in
theorem ggX9_begins_X9_linesOf : GoodIn wsX9_begins wsX9_linesOf := goodIn_r _ [6, 1, 17, 18] (by decide +kernel) (by decide +kernel)
set_option maxRecDepth 20000 in
theorem gX9_begins_X9_linesOf : GoodIn wsX9_begins (wsV RX9 28 RX9 yX9_linesOf wsX9_linesOf) := goodIn_app (goodIn_of _ (by decide +kernel)) ggX9_begins_X9_linesOf
set_option maxRecDepth 20000 in
theorem ggX9_begins_X9_nextField : GoodIn wsX9_begins wsX9_nextField := goodIn_r _ [10, 1, 17, 18] (by decide +kernel) (by decide +kernel)
set_option maxRecDepth 20000 in
theorem gX9_begins_X9_nextField : GoodIn wsX9_begins (wsV RX9 32 RX9 yX9_nextField wsX9_nextField) := goodIn_app (goodIn_of _ (by decide +kernel)) ggX9_begins_X9_nextField
set_option maxRecDepth 20000 in
theorem ggX9_begins_X9_rowOf : GoodIn wsX9_begins wsX9_rowOf := goodIn_r _ [13] (by decide +kernel) (by decide +kernel)
set_option maxRecDepth 20000 in
theorem gX9_begins_X9_rowOf : GoodIn wsX9_begins (va_wsS RX9 36 yX9_rowOf wsX9_rowOf) := goodIn_app (goodIn_of _ (by decide +kernel)) ggX9_begins_X9_rowOf
set_option maxRecDepth 20000 in
theorem ggX9_begins_X9_bytesOf : GoodIn wsX9_begins wsX9_bytesOf := goodIn_r _ [16] (by decide +kernel) (by decide +kernel)
set_option maxRecDepth 20000 in
theorem gX9_begins_X9_bytesOf : GoodIn wsX9_begins (va_wsS RX9 40 yX9_bytesOf wsX9_bytesOf) := goodIn_app (goodIn_of _ (by decide +kernel)) ggX9_begins_X9_bytesOf
theorem dX9_begins_0 : decode cX9_begins 0 = .ok (.aload_n 0, 1) := by decide +kernel
theorem dX9_begins_1 : decode cX9_begins 1 = .ok (.getfield 7, 3) := by decide +kernel
theorem dX9_begins_4 : decode cX9_begins 4 = .ok (.bipush 33, 2) := by decide +kernel
theorem dX9_begins_6 : decode cX9_begins 6 = .ok (.iconst 0, 1) := by decide +kernel
theorem dX9_begins_7 : decode cX9_begins 7 = .ok (.iastore, 1) := by decide +kernel
theorem dX9_begins_8 : decode cX9_begins 8 = .ok (.aload_n 0, 1) := by decide +kernel
theorem dX9_begins_9 : decode cX9_begins 9 = .ok (.getfield 7, 3) := by decide +kernel
theorem dX9_begins_12 : decode cX9_begins 12 = .ok (.bipush 35, 2) := by decide +kernel
theorem dX9_begins_14 : decode cX9_begins 14 = .ok (.iconst 0, 1) := by decide +kernel
theorem dX9_begins_15 : decode cX9_begins 15 = .ok (.iastore, 1) := by decide +kernel
theorem dX9_begins_16 : decode cX9_begins 16 = .ok (.aload_n 0, 1) := by decide +kernel
theorem dX9_begins_17 : decode cX9_begins 17 = .ok (.getfield 7, 3) := by decide +kernel
theorem dX9_begins_20 : decode cX9_begins 20 = .ok (.bipush 34, 2) := by decide +kernel
theorem dX9_begins_22 : decode cX9_begins 22 = .ok (.iconst 0, 1) := by decide +kernel
theorem dX9_begins_23 : decode cX9_begins 23 = .ok (.iastore, 1) := by decide +kernel
theorem dX9_begins_24 : decode cX9_begins 24 = .ok (.aload_n 0, 1) := by decide +kernel
theorem dX9_begins_25 : decode cX9_begins 25 = .ok (.getfield 7, 3) := by decide +kernel
theorem dX9_begins_28 : decode cX9_begins 28 = .ok (.bipush 21, 2) := by decide +kernel
theorem dX9_begins_30 : decode cX9_begins 30 = .ok (.iaload, 1) := by decide +kernel
theorem dX9_begins_31 : decode cX9_begins 31 = .ok (.aload_n 0, 1) := by decide +kernel
theorem dX9_begins_32 : decode cX9_begins 32 = .ok (.iconst 0, 1) := by decide +kernel
theorem dX9_begins_33 : decode cX9_begins 33 = .ok (.invokevirtual 28, 3) := by decide +kernel
theorem dX9_begins_36 : decode cX9_begins 36 = .ok (.iconst 1, 1) := by decide +kernel
theorem dX9_begins_37 : decode cX9_begins 37 = .ok (.isub, 1) := by decide +kernel
theorem dX9_begins_38 : decode cX9_begins 38 = .ok (.if_icmp .ne 7, 3) := by decide +kernel
theorem dX9_begins_41 : decode cX9_begins 41 = .ok (.iconst 1, 1) := by decide +kernel
theorem dX9_begins_42 : decode cX9_begins 42 = .ok (.goto 4, 3) := by decide +kernel
theorem dX9_begins_45 : decode cX9_begins 45 = .ok (.iconst 0, 1) := by decide +kernel
theorem dX9_begins_46 : decode cX9_begins 46 = .ok (.istore_n 1, 1) := by decide +kernel
theorem dX9_begins_47 : decode cX9_begins 47 = .ok (.iload_n 1, 1) := by decide +kernel
theorem dX9_begins_48 : decode cX9_begins 48 = .ok (.ifCond .eq 36, 3) := by decide +kernel
theorem dX9_begins_51 : decode cX9_begins 51 = .ok (.iconst 0, 1) := by decide +kernel
theorem dX9_begins_52 : decode cX9_begins 52 = .ok (.istore_n 2, 1) := by decide +kernel
theorem dX9_begins_53 : decode cX9_begins 53 = .ok (.iload_n 2, 1) := by decide +kernel
theorem dX9_begins_54 : decode cX9_begins 54 = .ok (.bipush 10, 2) := by decide +kernel
theorem dX9_begins_56 : decode cX9_begins 56 = .ok (.if_icmp .ge 28, 3) := by decide +kernel
theorem dX9_begins_59 : decode cX9_begins 59 = .ok (.aload_n 0, 1) := by decide +kernel
theorem dX9_begins_60 : decode cX9_begins 60 = .ok (.getfield 7, 3) := by decide +kernel
theorem dX9_begins_63 : decode cX9_begins 63 = .ok (.sipush 5870, 3) := by decide +kernel
theorem dX9_begins_66 : decode cX9_begins 66 = .ok (.iload_n 2, 1) := by decide +kernel
theorem dX9_begins_67 : decode cX9_begins 67 = .ok (.iadd, 1) := by decide +kernel
theorem dX9_begins_68 : decode cX9_begins 68 = .ok (.aload_n 0, 1) := by decide +kernel
theorem dX9_begins_69 : decode cX9_begins 69 = .ok (.getfield 7, 3) := by decide +kernel
theorem dX9_begins_72 : decode cX9_begins 72 = .ok (.bipush 10, 2) := by decide +kernel
theorem dX9_begins_74 : decode cX9_begins 74 = .ok (.iload_n 2, 1) := by decide +kernel
theorem dX9_begins_75 : decode cX9_begins 75 = .ok (.iadd, 1) := by decide +kernel
theorem dX9_begins_76 : decode cX9_begins 76 = .ok (.iaload, 1) := by decide +kernel
theorem dX9_begins_77 : decode cX9_begins 77 = .ok (.iastore, 1) := by decide +kernel
theorem dX9_begins_78 : decode cX9_begins 78 = .ok (.iinc 2 1, 3) := by decide +kernel
theorem dX9_begins_81 : decode cX9_begins 81 = .ok (.goto (-28), 3) := by decide +kernel
theorem dX9_begins_84 : decode cX9_begins 84 = .ok (.iload_n 1, 1) := by decide +kernel
theorem dX9_begins_85 : decode cX9_begins 85 = .ok (.ifCond .eq 9, 3) := by decide +kernel
theorem dX9_begins_88 : decode cX9_begins 88 = .ok (.sipush 5870, 3) := by decide +kernel
theorem dX9_begins_91 : decode cX9_begins 91 = .ok (.goto 4, 3) := by decide +kernel
theorem dX9_begins_94 : decode cX9_begins 94 = .ok (.iconst 0, 1) := by decide +kernel
theorem dX9_begins_95 : decode cX9_begins 95 = .ok (.istore_n 2, 1) := by decide +kernel
theorem dX9_begins_96 : decode cX9_begins 96 = .ok (.iload_n 1, 1) := by decide +kernel
theorem dX9_begins_97 : decode cX9_begins 97 = .ok (.ifCond .eq 7, 3) := by decide +kernel
theorem dX9_begins_100 : decode cX9_begins 100 = .ok (.iconst 0, 1) := by decide +kernel
theorem dX9_begins_101 : decode cX9_begins 101 = .ok (.goto 12, 3) := by decide +kernel
theorem dX9_begins_104 : decode cX9_begins 104 = .ok (.aload_n 0, 1) := by decide +kernel
theorem dX9_begins_105 : decode cX9_begins 105 = .ok (.getfield 7, 3) := by decide +kernel
theorem dX9_begins_108 : decode cX9_begins 108 = .ok (.bipush 21, 2) := by decide +kernel
theorem dX9_begins_110 : decode cX9_begins 110 = .ok (.iaload, 1) := by decide +kernel
theorem dX9_begins_111 : decode cX9_begins 111 = .ok (.iconst 1, 1) := by decide +kernel
theorem dX9_begins_112 : decode cX9_begins 112 = .ok (.iadd, 1) := by decide +kernel
theorem dX9_begins_113 : decode cX9_begins 113 = .ok (.istore_n 3, 1) := by decide +kernel
theorem dX9_begins_114 : decode cX9_begins 114 = .ok (.aload_n 0, 1) := by decide +kernel
theorem dX9_begins_115 : decode cX9_begins 115 = .ok (.getfield 7, 3) := by decide +kernel
theorem dX9_begins_118 : decode cX9_begins 118 = .ok (.bipush 30, 2) := by decide +kernel
theorem dX9_begins_120 : decode cX9_begins 120 = .ok (.iload_n 3, 1) := by decide +kernel
theorem dX9_begins_121 : decode cX9_begins 121 = .ok (.iload_n 1, 1) := by decide +kernel
theorem dX9_begins_122 : decode cX9_begins 122 = .ok (.ifCond .eq 10, 3) := by decide +kernel
theorem dX9_begins_125 : decode cX9_begins 125 = .ok (.aload_n 0, 1) := by decide +kernel
theorem dX9_begins_126 : decode cX9_begins 126 = .ok (.invokevirtual 32, 3) := by decide +kernel
theorem dX9_begins_129 : decode cX9_begins 129 = .ok (.goto 10, 3) := by decide +kernel
theorem dX9_begins_132 : decode cX9_begins 132 = .ok (.aload_n 0, 1) := by decide +kernel
theorem dX9_begins_133 : decode cX9_begins 133 = .ok (.getfield 7, 3) := by decide +kernel
theorem dX9_begins_136 : decode cX9_begins 136 = .ok (.bipush 22, 2) := by decide +kernel
theorem dX9_begins_138 : decode cX9_begins 138 = .ok (.iaload, 1) := by decide +kernel
theorem dX9_begins_139 : decode cX9_begins 139 = .ok (.aload_n 0, 1) := by decide +kernel
theorem dX9_begins_140 : decode cX9_begins 140 = .ok (.getfield 7, 3) := by decide +kernel
theorem dX9_begins_143 : decode cX9_begins 143 = .ok (.iload_n 2, 1) := by decide +kernel
theorem dX9_begins_144 : decode cX9_begins 144 = .ok (.bipush 8, 2) := by decide +kernel
theorem dX9_begins_146 : decode cX9_begins 146 = .ok (.iadd, 1) := by decide +kernel
theorem dX9_begins_147 : decode cX9_begins 147 = .ok (.iaload, 1) := by decide +kernel
theorem dX9_begins_148 : decode cX9_begins 148 = .ok (.invokestatic 36, 3) := by decide +kernel
theorem dX9_begins_151 : decode cX9_begins 151 = .ok (.iastore, 1) := by decide +kernel
theorem dX9_begins_152 : decode cX9_begins 152 = .ok (.aload_n 0, 1) := by decide +kernel
theorem dX9_begins_153 : decode cX9_begins 153 = .ok (.getfield 7, 3) := by decide +kernel
theorem dX9_begins_156 : decode cX9_begins 156 = .ok (.bipush 31, 2) := by decide +kernel
theorem dX9_begins_158 : decode cX9_begins 158 = .ok (.iload_n 3, 1) := by decide +kernel
theorem dX9_begins_159 : decode cX9_begins 159 = .ok (.aload_n 0, 1) := by decide +kernel
theorem dX9_begins_160 : decode cX9_begins 160 = .ok (.getfield 7, 3) := by decide +kernel
theorem dX9_begins_163 : decode cX9_begins 163 = .ok (.iload_n 2, 1) := by decide +kernel
theorem dX9_begins_164 : decode cX9_begins 164 = .ok (.iconst 4, 1) := by decide +kernel
theorem dX9_begins_165 : decode cX9_begins 165 = .ok (.iadd, 1) := by decide +kernel
theorem dX9_begins_166 : decode cX9_begins 166 = .ok (.iaload, 1) := by decide +kernel
theorem dX9_begins_167 : decode cX9_begins 167 = .ok (.if_icmp .ge 15, 3) := by decide +kernel
theorem dX9_begins_170 : decode cX9_begins 170 = .ok (.aload_n 0, 1) := by decide +kernel
theorem dX9_begins_171 : decode cX9_begins 171 = .ok (.getfield 7, 3) := by decide +kernel
theorem dX9_begins_174 : decode cX9_begins 174 = .ok (.iload_n 2, 1) := by decide +kernel
theorem dX9_begins_175 : decode cX9_begins 175 = .ok (.iaload, 1) := by decide +kernel
theorem dX9_begins_176 : decode cX9_begins 176 = .ok (.invokestatic 40, 3) := by decide +kernel
theorem dX9_begins_179 : decode cX9_begins 179 = .ok (.goto 4, 3) := by decide +kernel
theorem dX9_begins_182 : decode cX9_begins 182 = .ok (.iconst 0, 1) := by decide +kernel
theorem dX9_begins_183 : decode cX9_begins 183 = .ok (.iastore, 1) := by decide +kernel
theorem dX9_begins_184 : decode cX9_begins 184 = .ok (.aload_n 0, 1) := by decide +kernel
theorem dX9_begins_185 : decode cX9_begins 185 = .ok (.getfield 7, 3) := by decide +kernel
theorem dX9_begins_188 : decode cX9_begins 188 = .ok (.bipush 32, 2) := by decide +kernel
theorem dX9_begins_190 : decode cX9_begins 190 = .ok (.iconst 0, 1) := by decide +kernel
theorem dX9_begins_191 : decode cX9_begins 191 = .ok (.iastore, 1) := by decide +kernel
theorem dX9_begins_192 : decode cX9_begins 192 = .ok (.return_, 1) := by decide +kernel
set_option maxRecDepth 20000 in
theorem ggX9_fetches_X9_isTaken : GoodIn wsX9_fetches wsX9_isTaken := goodIn_r _ [6, 1, 7, 8] (by decide +kernel) (by decide +kernel)
set_option maxRecDepth 20000 in
theorem gX9_fetches_X9_isTaken : GoodIn wsX9_fetches (wsV RX9 43 RX9 yX9_isTaken wsX9_isTaken) := goodIn_app (goodIn_of _ (by decide +kernel)) ggX9_fetches_X9_isTaken
theorem dX9_fetches_0 : decode cX9_fetches 0 = .ok (.aload_n 0, 1) := by decide +kernel
theorem dX9_fetches_1 : decode cX9_fetches 1 = .ok (.invokevirtual 43, 3) := by decide +kernel
theorem dX9_fetches_4 : decode cX9_fetches 4 = .ok (.ifCond .ne 37, 3) := by decide +kernel
theorem dX9_fetches_7 : decode cX9_fetches 7 = .ok (.aload_n 0, 1) := by decide +kernel
theorem dX9_fetches_8 : decode cX9_fetches 8 = .ok (.getfield 7, 3) := by decide +kernel
theorem dX9_fetches_11 : decode cX9_fetches 11 = .ok (.bipush 33, 2) := by decide +kernel
theorem dX9_fetches_13 : decode cX9_fetches 13 = .ok (.iaload, 1) := by decide +kernel
theorem dX9_fetches_14 : decode cX9_fetches 14 = .ok (.aload_n 0, 1) := by decide +kernel
theorem dX9_fetches_15 : decode cX9_fetches 15 = .ok (.getfield 7, 3) := by decide +kernel
theorem dX9_fetches_18 : decode cX9_fetches 18 = .ok (.bipush 29, 2) := by decide +kernel
theorem dX9_fetches_20 : decode cX9_fetches 20 = .ok (.iaload, 1) := by decide +kernel
theorem dX9_fetches_21 : decode cX9_fetches 21 = .ok (.if_icmp .ge 20, 3) := by decide +kernel
theorem dX9_fetches_24 : decode cX9_fetches 24 = .ok (.aload_n 0, 1) := by decide +kernel
theorem dX9_fetches_25 : decode cX9_fetches 25 = .ok (.getfield 7, 3) := by decide +kernel
theorem dX9_fetches_28 : decode cX9_fetches 28 = .ok (.bipush 32, 2) := by decide +kernel
theorem dX9_fetches_30 : decode cX9_fetches 30 = .ok (.iaload, 1) := by decide +kernel
theorem dX9_fetches_31 : decode cX9_fetches 31 = .ok (.aload_n 0, 1) := by decide +kernel
theorem dX9_fetches_32 : decode cX9_fetches 32 = .ok (.getfield 7, 3) := by decide +kernel
theorem dX9_fetches_35 : decode cX9_fetches 35 = .ok (.bipush 31, 2) := by decide +kernel
theorem dX9_fetches_37 : decode cX9_fetches 37 = .ok (.iaload, 1) := by decide +kernel
theorem dX9_fetches_38 : decode cX9_fetches 38 = .ok (.if_icmp .lt 4, 3) := by decide +kernel
theorem dX9_fetches_41 : decode cX9_fetches 41 = .ok (.return_, 1) := by decide +kernel
theorem dX9_fetches_42 : decode cX9_fetches 42 = .ok (.aload_n 0, 1) := by decide +kernel
theorem dX9_fetches_43 : decode cX9_fetches 43 = .ok (.getfield 7, 3) := by decide +kernel
theorem dX9_fetches_46 : decode cX9_fetches 46 = .ok (.bipush 40, 2) := by decide +kernel
theorem dX9_fetches_48 : decode cX9_fetches 48 = .ok (.iaload, 1) := by decide +kernel
theorem dX9_fetches_49 : decode cX9_fetches 49 = .ok (.aload_n 0, 1) := by decide +kernel
theorem dX9_fetches_50 : decode cX9_fetches 50 = .ok (.getfield 7, 3) := by decide +kernel
theorem dX9_fetches_53 : decode cX9_fetches 53 = .ok (.bipush 41, 2) := by decide +kernel
theorem dX9_fetches_55 : decode cX9_fetches 55 = .ok (.iaload, 1) := by decide +kernel
theorem dX9_fetches_56 : decode cX9_fetches 56 = .ok (.aload_n 0, 1) := by decide +kernel
theorem dX9_fetches_57 : decode cX9_fetches 57 = .ok (.getfield 7, 3) := by decide +kernel
theorem dX9_fetches_60 : decode cX9_fetches 60 = .ok (.bipush 30, 2) := by decide +kernel
theorem dX9_fetches_62 : decode cX9_fetches 62 = .ok (.iaload, 1) := by decide +kernel
theorem dX9_fetches_63 : decode cX9_fetches 63 = .ok (.imul, 1) := by decide +kernel
theorem dX9_fetches_64 : decode cX9_fetches 64 = .ok (.iadd, 1) := by decide +kernel
theorem dX9_fetches_65 : decode cX9_fetches 65 = .ok (.aload_n 0, 1) := by decide +kernel
theorem dX9_fetches_66 : decode cX9_fetches 66 = .ok (.getfield 7, 3) := by decide +kernel
theorem dX9_fetches_69 : decode cX9_fetches 69 = .ok (.bipush 32, 2) := by decide +kernel
theorem dX9_fetches_71 : decode cX9_fetches 71 = .ok (.iaload, 1) := by decide +kernel
theorem dX9_fetches_72 : decode cX9_fetches 72 = .ok (.iadd, 1) := by decide +kernel
theorem dX9_fetches_73 : decode cX9_fetches 73 = .ok (.sipush 1024, 3) := by decide +kernel
theorem dX9_fetches_76 : decode cX9_fetches 76 = .ok (.irem, 1) := by decide +kernel
theorem dX9_fetches_77 : decode cX9_fetches 77 = .ok (.istore_n 1, 1) := by decide +kernel
theorem dX9_fetches_78 : decode cX9_fetches 78 = .ok (.aload_n 0, 1) := by decide +kernel
theorem dX9_fetches_79 : decode cX9_fetches 79 = .ok (.getfield 7, 3) := by decide +kernel
theorem dX9_fetches_82 : decode cX9_fetches 82 = .ok (.bipush 50, 2) := by decide +kernel
theorem dX9_fetches_84 : decode cX9_fetches 84 = .ok (.aload_n 0, 1) := by decide +kernel
theorem dX9_fetches_85 : decode cX9_fetches 85 = .ok (.getfield 7, 3) := by decide +kernel
theorem dX9_fetches_88 : decode cX9_fetches 88 = .ok (.bipush 33, 2) := by decide +kernel
theorem dX9_fetches_90 : decode cX9_fetches 90 = .ok (.iaload, 1) := by decide +kernel
theorem dX9_fetches_91 : decode cX9_fetches 91 = .ok (.iadd, 1) := by decide +kernel
theorem dX9_fetches_92 : decode cX9_fetches 92 = .ok (.aload_n 0, 1) := by decide +kernel
theorem dX9_fetches_93 : decode cX9_fetches 93 = .ok (.getfield 7, 3) := by decide +kernel
theorem dX9_fetches_96 : decode cX9_fetches 96 = .ok (.sipush 740, 3) := by decide +kernel
theorem dX9_fetches_99 : decode cX9_fetches 99 = .ok (.iload_n 1, 1) := by decide +kernel
theorem dX9_fetches_100 : decode cX9_fetches 100 = .ok (.iadd, 1) := by decide +kernel
theorem dX9_fetches_101 : decode cX9_fetches 101 = .ok (.iaload, 1) := by decide +kernel
theorem dX9_fetches_102 : decode cX9_fetches 102 = .ok (.iastore, 1) := by decide +kernel
theorem dX9_fetches_103 : decode cX9_fetches 103 = .ok (.aload_n 0, 1) := by decide +kernel
theorem dX9_fetches_104 : decode cX9_fetches 104 = .ok (.getfield 7, 3) := by decide +kernel
theorem dX9_fetches_107 : decode cX9_fetches 107 = .ok (.bipush 33, 2) := by decide +kernel
theorem dX9_fetches_109 : decode cX9_fetches 109 = .ok (.dup2, 1) := by decide +kernel
theorem dX9_fetches_110 : decode cX9_fetches 110 = .ok (.iaload, 1) := by decide +kernel
theorem dX9_fetches_111 : decode cX9_fetches 111 = .ok (.iconst 1, 1) := by decide +kernel
theorem dX9_fetches_112 : decode cX9_fetches 112 = .ok (.iadd, 1) := by decide +kernel
theorem dX9_fetches_113 : decode cX9_fetches 113 = .ok (.iastore, 1) := by decide +kernel
theorem dX9_fetches_114 : decode cX9_fetches 114 = .ok (.aload_n 0, 1) := by decide +kernel
theorem dX9_fetches_115 : decode cX9_fetches 115 = .ok (.getfield 7, 3) := by decide +kernel
theorem dX9_fetches_118 : decode cX9_fetches 118 = .ok (.bipush 32, 2) := by decide +kernel
theorem dX9_fetches_120 : decode cX9_fetches 120 = .ok (.dup2, 1) := by decide +kernel
theorem dX9_fetches_121 : decode cX9_fetches 121 = .ok (.iaload, 1) := by decide +kernel
theorem dX9_fetches_122 : decode cX9_fetches 122 = .ok (.iconst 1, 1) := by decide +kernel
theorem dX9_fetches_123 : decode cX9_fetches 123 = .ok (.iadd, 1) := by decide +kernel
theorem dX9_fetches_124 : decode cX9_fetches 124 = .ok (.iastore, 1) := by decide +kernel
theorem dX9_fetches_125 : decode cX9_fetches 125 = .ok (.aload_n 0, 1) := by decide +kernel
theorem dX9_fetches_126 : decode cX9_fetches 126 = .ok (.getfield 7, 3) := by decide +kernel
theorem dX9_fetches_129 : decode cX9_fetches 129 = .ok (.bipush 26, 2) := by decide +kernel
theorem dX9_fetches_131 : decode cX9_fetches 131 = .ok (.dup2, 1) := by decide +kernel
theorem dX9_fetches_132 : decode cX9_fetches 132 = .ok (.iaload, 1) := by decide +kernel
theorem dX9_fetches_133 : decode cX9_fetches 133 = .ok (.iconst 1, 1) := by decide +kernel
theorem dX9_fetches_134 : decode cX9_fetches 134 = .ok (.iadd, 1) := by decide +kernel
theorem dX9_fetches_135 : decode cX9_fetches 135 = .ok (.iastore, 1) := by decide +kernel
theorem dX9_fetches_136 : decode cX9_fetches 136 = .ok (.return_, 1) := by decide +kernel
theorem dX9_takes_0 : decode cX9_takes 0 = .ok (.aload_n 0, 1) := by decide +kernel
theorem dX9_takes_1 : decode cX9_takes 1 = .ok (.getfield 7, 3) := by decide +kernel
theorem dX9_takes_4 : decode cX9_takes 4 = .ok (.bipush 35, 2) := by decide +kernel
theorem dX9_takes_6 : decode cX9_takes 6 = .ok (.iaload, 1) := by decide +kernel
theorem dX9_takes_7 : decode cX9_takes 7 = .ok (.ifCond .ne 99, 3) := by decide +kernel
theorem dX9_takes_10 : decode cX9_takes 10 = .ok (.aload_n 0, 1) := by decide +kernel
theorem dX9_takes_11 : decode cX9_takes 11 = .ok (.getfield 7, 3) := by decide +kernel
theorem dX9_takes_14 : decode cX9_takes 14 = .ok (.bipush 33, 2) := by decide +kernel
theorem dX9_takes_16 : decode cX9_takes 16 = .ok (.iaload, 1) := by decide +kernel
theorem dX9_takes_17 : decode cX9_takes 17 = .ok (.ifCond .ne 16, 3) := by decide +kernel
theorem dX9_takes_20 : decode cX9_takes 20 = .ok (.aload_n 0, 1) := by decide +kernel
theorem dX9_takes_21 : decode cX9_takes 21 = .ok (.getfield 7, 3) := by decide +kernel
theorem dX9_takes_24 : decode cX9_takes 24 = .ok (.bipush 24, 2) := by decide +kernel
theorem dX9_takes_26 : decode cX9_takes 26 = .ok (.dup2, 1) := by decide +kernel
theorem dX9_takes_27 : decode cX9_takes 27 = .ok (.iaload, 1) := by decide +kernel
theorem dX9_takes_28 : decode cX9_takes 28 = .ok (.iconst 1, 1) := by decide +kernel
theorem dX9_takes_29 : decode cX9_takes 29 = .ok (.iadd, 1) := by decide +kernel
theorem dX9_takes_30 : decode cX9_takes 30 = .ok (.iastore, 1) := by decide +kernel
theorem dX9_takes_31 : decode cX9_takes 31 = .ok (.iconst (-1), 1) := by decide +kernel
theorem dX9_takes_32 : decode cX9_takes 32 = .ok (.ireturn, 1) := by decide +kernel
theorem dX9_takes_33 : decode cX9_takes 33 = .ok (.aload_n 0, 1) := by decide +kernel
theorem dX9_takes_34 : decode cX9_takes 34 = .ok (.getfield 7, 3) := by decide +kernel
theorem dX9_takes_37 : decode cX9_takes 37 = .ok (.bipush 34, 2) := by decide +kernel
theorem dX9_takes_39 : decode cX9_takes 39 = .ok (.aload_n 0, 1) := by decide +kernel
theorem dX9_takes_40 : decode cX9_takes 40 = .ok (.getfield 7, 3) := by decide +kernel
theorem dX9_takes_43 : decode cX9_takes 43 = .ok (.bipush 50, 2) := by decide +kernel
theorem dX9_takes_45 : decode cX9_takes 45 = .ok (.iaload, 1) := by decide +kernel
theorem dX9_takes_46 : decode cX9_takes 46 = .ok (.iastore, 1) := by decide +kernel
theorem dX9_takes_47 : decode cX9_takes 47 = .ok (.aload_n 0, 1) := by decide +kernel
theorem dX9_takes_48 : decode cX9_takes 48 = .ok (.getfield 7, 3) := by decide +kernel
theorem dX9_takes_51 : decode cX9_takes 51 = .ok (.bipush 35, 2) := by decide +kernel
theorem dX9_takes_53 : decode cX9_takes 53 = .ok (.bipush 8, 2) := by decide +kernel
theorem dX9_takes_55 : decode cX9_takes 55 = .ok (.iastore, 1) := by decide +kernel
theorem dX9_takes_56 : decode cX9_takes 56 = .ok (.iconst 1, 1) := by decide +kernel
theorem dX9_takes_57 : decode cX9_takes 57 = .ok (.istore_n 1, 1) := by decide +kernel
theorem dX9_takes_58 : decode cX9_takes 58 = .ok (.iload_n 1, 1) := by decide +kernel
theorem dX9_takes_59 : decode cX9_takes 59 = .ok (.aload_n 0, 1) := by decide +kernel
theorem dX9_takes_60 : decode cX9_takes 60 = .ok (.getfield 7, 3) := by decide +kernel
theorem dX9_takes_63 : decode cX9_takes 63 = .ok (.bipush 33, 2) := by decide +kernel
theorem dX9_takes_65 : decode cX9_takes 65 = .ok (.iaload, 1) := by decide +kernel
theorem dX9_takes_66 : decode cX9_takes 66 = .ok (.if_icmp .ge 29, 3) := by decide +kernel
theorem dX9_takes_69 : decode cX9_takes 69 = .ok (.aload_n 0, 1) := by decide +kernel
theorem dX9_takes_70 : decode cX9_takes 70 = .ok (.getfield 7, 3) := by decide +kernel
theorem dX9_takes_73 : decode cX9_takes 73 = .ok (.bipush 50, 2) := by decide +kernel
theorem dX9_takes_75 : decode cX9_takes 75 = .ok (.iload_n 1, 1) := by decide +kernel
theorem dX9_takes_76 : decode cX9_takes 76 = .ok (.iadd, 1) := by decide +kernel
theorem dX9_takes_77 : decode cX9_takes 77 = .ok (.iconst 1, 1) := by decide +kernel
theorem dX9_takes_78 : decode cX9_takes 78 = .ok (.isub, 1) := by decide +kernel
theorem dX9_takes_79 : decode cX9_takes 79 = .ok (.aload_n 0, 1) := by decide +kernel
theorem dX9_takes_80 : decode cX9_takes 80 = .ok (.getfield 7, 3) := by decide +kernel
theorem dX9_takes_83 : decode cX9_takes 83 = .ok (.bipush 50, 2) := by decide +kernel
theorem dX9_takes_85 : decode cX9_takes 85 = .ok (.iload_n 1, 1) := by decide +kernel
theorem dX9_takes_86 : decode cX9_takes 86 = .ok (.iadd, 1) := by decide +kernel
theorem dX9_takes_87 : decode cX9_takes 87 = .ok (.iaload, 1) := by decide +kernel
theorem dX9_takes_88 : decode cX9_takes 88 = .ok (.iastore, 1) := by decide +kernel
theorem dX9_takes_89 : decode cX9_takes 89 = .ok (.iinc 1 1, 3) := by decide +kernel
theorem dX9_takes_92 : decode cX9_takes 92 = .ok (.goto (-34), 3) := by decide +kernel
theorem dX9_takes_95 : decode cX9_takes 95 = .ok (.aload_n 0, 1) := by decide +kernel
theorem dX9_takes_96 : decode cX9_takes 96 = .ok (.getfield 7, 3) := by decide +kernel
theorem dX9_takes_99 : decode cX9_takes 99 = .ok (.bipush 33, 2) := by decide +kernel
theorem dX9_takes_101 : decode cX9_takes 101 = .ok (.dup2, 1) := by decide +kernel
theorem dX9_takes_102 : decode cX9_takes 102 = .ok (.iaload, 1) := by decide +kernel
theorem dX9_takes_103 : decode cX9_takes 103 = .ok (.iconst 1, 1) := by decide +kernel
theorem dX9_takes_104 : decode cX9_takes 104 = .ok (.isub, 1) := by decide +kernel
theorem dX9_takes_105 : decode cX9_takes 105 = .ok (.iastore, 1) := by decide +kernel
theorem dX9_takes_106 : decode cX9_takes 106 = .ok (.aload_n 0, 1) := by decide +kernel
theorem dX9_takes_107 : decode cX9_takes 107 = .ok (.getfield 7, 3) := by decide +kernel
theorem dX9_takes_110 : decode cX9_takes 110 = .ok (.bipush 35, 2) := by decide +kernel
theorem dX9_takes_112 : decode cX9_takes 112 = .ok (.dup2, 1) := by decide +kernel
theorem dX9_takes_113 : decode cX9_takes 113 = .ok (.iaload, 1) := by decide +kernel
theorem dX9_takes_114 : decode cX9_takes 114 = .ok (.iconst 1, 1) := by decide +kernel
theorem dX9_takes_115 : decode cX9_takes 115 = .ok (.isub, 1) := by decide +kernel
theorem dX9_takes_116 : decode cX9_takes 116 = .ok (.iastore, 1) := by decide +kernel
theorem dX9_takes_117 : decode cX9_takes 117 = .ok (.aload_n 0, 1) := by decide +kernel
theorem dX9_takes_118 : decode cX9_takes 118 = .ok (.getfield 7, 3) := by decide +kernel
theorem dX9_takes_121 : decode cX9_takes 121 = .ok (.bipush 34, 2) := by decide +kernel
theorem dX9_takes_123 : decode cX9_takes 123 = .ok (.iaload, 1) := by decide +kernel
theorem dX9_takes_124 : decode cX9_takes 124 = .ok (.aload_n 0, 1) := by decide +kernel
theorem dX9_takes_125 : decode cX9_takes 125 = .ok (.getfield 7, 3) := by decide +kernel
theorem dX9_takes_128 : decode cX9_takes 128 = .ok (.bipush 35, 2) := by decide +kernel
theorem dX9_takes_130 : decode cX9_takes 130 = .ok (.iaload, 1) := by decide +kernel
theorem dX9_takes_131 : decode cX9_takes 131 = .ok (.ishr, 1) := by decide +kernel
theorem dX9_takes_132 : decode cX9_takes 132 = .ok (.iconst 1, 1) := by decide +kernel
theorem dX9_takes_133 : decode cX9_takes 133 = .ok (.iand, 1) := by decide +kernel
theorem dX9_takes_134 : decode cX9_takes 134 = .ok (.ireturn, 1) := by decide +kernel
set_option maxRecDepth 20000 in
theorem ggX9_dots_X9_takes : GoodIn wsX9_dots wsX9_takes := goodIn_r _ [6, 1, 21, 22] (by decide +kernel) (by decide +kernel)
set_option maxRecDepth 20000 in
theorem gX9_dots_X9_takes : GoodIn wsX9_dots (wsV RX9 47 RX9 yX9_takes wsX9_takes) := goodIn_app (goodIn_of _ (by decide +kernel)) ggX9_dots_X9_takes
set_option maxRecDepth 20000 in
theorem ggX9_dots_X9_rowOf : GoodIn wsX9_dots wsX9_rowOf := goodIn_r _ [9] (by decide +kernel) (by decide +kernel)
set_option maxRecDepth 20000 in
theorem gX9_dots_X9_rowOf : GoodIn wsX9_dots (va_wsS RX9 36 yX9_rowOf wsX9_rowOf) := goodIn_app (goodIn_of _ (by decide +kernel)) ggX9_dots_X9_rowOf
set_option maxRecDepth 20000 in
theorem ggX9_dots_X9_spritesOf : GoodIn wsX9_dots wsX9_spritesOf := goodIn_r _ [13, 14, 15, 16, 5, 17, 1, 21, 22] (by decide +kernel) (by decide +kernel)
set_option maxRecDepth 20000 in
theorem gX9_dots_X9_spritesOf : GoodIn wsX9_dots (wsV RX9 50 RX9 yX9_spritesOf wsX9_spritesOf) := goodIn_app (goodIn_of _ (by decide +kernel)) ggX9_dots_X9_spritesOf
set_option maxRecDepth 20000 in
theorem ggX9_dots_X9_isIn : GoodIn wsX9_dots wsX9_isIn := goodIn_r _ [20] (by decide +kernel) (by decide +kernel)
set_option maxRecDepth 20000 in
theorem gX9_dots_X9_isIn : GoodIn wsX9_dots (va_wsS RX9 17 yX9_isIn wsX9_isIn) := goodIn_app (goodIn_of _ (by decide +kernel)) ggX9_dots_X9_isIn
theorem dX9_dots_0 : decode cX9_dots 0 = .ok (.aload_n 0, 1) := by decide +kernel
theorem dX9_dots_1 : decode cX9_dots 1 = .ok (.getfield 7, 3) := by decide +kernel
theorem dX9_dots_4 : decode cX9_dots 4 = .ok (.bipush 20, 2) := by decide +kernel
theorem dX9_dots_6 : decode cX9_dots 6 = .ok (.iaload, 1) := by decide +kernel
theorem dX9_dots_7 : decode cX9_dots 7 = .ok (.ifCond .ne 33, 3) := by decide +kernel
theorem dX9_dots_10 : decode cX9_dots 10 = .ok (.iconst 0, 1) := by decide +kernel
theorem dX9_dots_11 : decode cX9_dots 11 = .ok (.istore_n 1, 1) := by decide +kernel
theorem dX9_dots_12 : decode cX9_dots 12 = .ok (.iconst 0, 1) := by decide +kernel
theorem dX9_dots_13 : decode cX9_dots 13 = .ok (.istore_n 2, 1) := by decide +kernel
theorem dX9_dots_14 : decode cX9_dots 14 = .ok (.iload_n 2, 1) := by decide +kernel
theorem dX9_dots_15 : decode cX9_dots 15 = .ok (.aload_n 0, 1) := by decide +kernel
theorem dX9_dots_16 : decode cX9_dots 16 = .ok (.getfield 7, 3) := by decide +kernel
theorem dX9_dots_19 : decode cX9_dots 19 = .ok (.bipush 42, 2) := by decide +kernel
theorem dX9_dots_21 : decode cX9_dots 21 = .ok (.iaload, 1) := by decide +kernel
theorem dX9_dots_22 : decode cX9_dots 22 = .ok (.if_icmp .ge 18, 3) := by decide +kernel
theorem dX9_dots_25 : decode cX9_dots 25 = .ok (.iload_n 1, 1) := by decide +kernel
theorem dX9_dots_26 : decode cX9_dots 26 = .ok (.ifCond .lt 14, 3) := by decide +kernel
theorem dX9_dots_29 : decode cX9_dots 29 = .ok (.aload_n 0, 1) := by decide +kernel
theorem dX9_dots_30 : decode cX9_dots 30 = .ok (.invokevirtual 47, 3) := by decide +kernel
theorem dX9_dots_33 : decode cX9_dots 33 = .ok (.istore_n 1, 1) := by decide +kernel
theorem dX9_dots_34 : decode cX9_dots 34 = .ok (.iinc 2 1, 3) := by decide +kernel
theorem dX9_dots_37 : decode cX9_dots 37 = .ok (.goto (-23), 3) := by decide +kernel
theorem dX9_dots_40 : decode cX9_dots 40 = .ok (.aload_n 0, 1) := by decide +kernel
theorem dX9_dots_41 : decode cX9_dots 41 = .ok (.invokevirtual 47, 3) := by decide +kernel
theorem dX9_dots_44 : decode cX9_dots 44 = .ok (.istore_n 1, 1) := by decide +kernel
theorem dX9_dots_45 : decode cX9_dots 45 = .ok (.aload_n 0, 1) := by decide +kernel
theorem dX9_dots_46 : decode cX9_dots 46 = .ok (.getfield 7, 3) := by decide +kernel
theorem dX9_dots_49 : decode cX9_dots 49 = .ok (.bipush 21, 2) := by decide +kernel
theorem dX9_dots_51 : decode cX9_dots 51 = .ok (.iaload, 1) := by decide +kernel
theorem dX9_dots_52 : decode cX9_dots 52 = .ok (.aload_n 0, 1) := by decide +kernel
theorem dX9_dots_53 : decode cX9_dots 53 = .ok (.getfield 7, 3) := by decide +kernel
theorem dX9_dots_56 : decode cX9_dots 56 = .ok (.bipush 22, 2) := by decide +kernel
theorem dX9_dots_58 : decode cX9_dots 58 = .ok (.iaload, 1) := by decide +kernel
theorem dX9_dots_59 : decode cX9_dots 59 = .ok (.aload_n 0, 1) := by decide +kernel
theorem dX9_dots_60 : decode cX9_dots 60 = .ok (.getfield 7, 3) := by decide +kernel
theorem dX9_dots_63 : decode cX9_dots 63 = .ok (.bipush 8, 2) := by decide +kernel
theorem dX9_dots_65 : decode cX9_dots 65 = .ok (.iaload, 1) := by decide +kernel
theorem dX9_dots_66 : decode cX9_dots 66 = .ok (.invokestatic 36, 3) := by decide +kernel
theorem dX9_dots_69 : decode cX9_dots 69 = .ok (.istore_n 2, 1) := by decide +kernel
theorem dX9_dots_70 : decode cX9_dots 70 = .ok (.aload_n 0, 1) := by decide +kernel
theorem dX9_dots_71 : decode cX9_dots 71 = .ok (.iload_n 2, 1) := by decide +kernel
theorem dX9_dots_72 : decode cX9_dots 72 = .ok (.invokevirtual 50, 3) := by decide +kernel
theorem dX9_dots_75 : decode cX9_dots 75 = .ok (.istore_n 3, 1) := by decide +kernel
theorem dX9_dots_76 : decode cX9_dots 76 = .ok (.iload_n 1, 1) := by decide +kernel
theorem dX9_dots_77 : decode cX9_dots 77 = .ok (.ifCond .ge 9, 3) := by decide +kernel
theorem dX9_dots_80 : decode cX9_dots 80 = .ok (.sipush 512, 3) := by decide +kernel
theorem dX9_dots_83 : decode cX9_dots 83 = .ok (.goto 21, 3) := by decide +kernel
theorem dX9_dots_86 : decode cX9_dots 86 = .ok (.aload_n 0, 1) := by decide +kernel
theorem dX9_dots_87 : decode cX9_dots 87 = .ok (.getfield 7, 3) := by decide +kernel
theorem dX9_dots_90 : decode cX9_dots 90 = .ok (.bipush 40, 2) := by decide +kernel
theorem dX9_dots_92 : decode cX9_dots 92 = .ok (.iload_n 1, 1) := by decide +kernel
theorem dX9_dots_93 : decode cX9_dots 93 = .ok (.iconst 1, 1) := by decide +kernel
theorem dX9_dots_94 : decode cX9_dots 94 = .ok (.if_icmp .ne 7, 3) := by decide +kernel
theorem dX9_dots_97 : decode cX9_dots 97 = .ok (.iconst 3, 1) := by decide +kernel
theorem dX9_dots_98 : decode cX9_dots 98 = .ok (.goto 4, 3) := by decide +kernel
theorem dX9_dots_101 : decode cX9_dots 101 = .ok (.iconst 4, 1) := by decide +kernel
theorem dX9_dots_102 : decode cX9_dots 102 = .ok (.iadd, 1) := by decide +kernel
theorem dX9_dots_103 : decode cX9_dots 103 = .ok (.iaload, 1) := by decide +kernel
theorem dX9_dots_104 : decode cX9_dots 104 = .ok (.istore 4, 2) := by decide +kernel
theorem dX9_dots_106 : decode cX9_dots 106 = .ok (.bipush 7, 2) := by decide +kernel
theorem dX9_dots_108 : decode cX9_dots 108 = .ok (.istore 5, 2) := by decide +kernel
theorem dX9_dots_110 : decode cX9_dots 110 = .ok (.iload 5, 2) := by decide +kernel
theorem dX9_dots_112 : decode cX9_dots 112 = .ok (.ifCond .lt 115, 3) := by decide +kernel
theorem dX9_dots_115 : decode cX9_dots 115 = .ok (.aload_n 0, 1) := by decide +kernel
theorem dX9_dots_116 : decode cX9_dots 116 = .ok (.getfield 7, 3) := by decide +kernel
theorem dX9_dots_119 : decode cX9_dots 119 = .ok (.bipush 20, 2) := by decide +kernel
theorem dX9_dots_121 : decode cX9_dots 121 = .ok (.iaload, 1) := by decide +kernel
theorem dX9_dots_122 : decode cX9_dots 122 = .ok (.aload_n 0, 1) := by decide +kernel
theorem dX9_dots_123 : decode cX9_dots 123 = .ok (.getfield 7, 3) := by decide +kernel
theorem dX9_dots_126 : decode cX9_dots 126 = .ok (.sipush 130, 3) := by decide +kernel
theorem dX9_dots_129 : decode cX9_dots 129 = .ok (.bipush 11, 2) := by decide +kernel
theorem dX9_dots_131 : decode cX9_dots 131 = .ok (.iload 5, 2) := by decide +kernel
theorem dX9_dots_133 : decode cX9_dots 133 = .ok (.imul, 1) := by decide +kernel
theorem dX9_dots_134 : decode cX9_dots 134 = .ok (.iadd, 1) := by decide +kernel
theorem dX9_dots_135 : decode cX9_dots 135 = .ok (.iaload, 1) := by decide +kernel
theorem dX9_dots_136 : decode cX9_dots 136 = .ok (.isub, 1) := by decide +kernel
theorem dX9_dots_137 : decode cX9_dots 137 = .ok (.istore 6, 2) := by decide +kernel
theorem dX9_dots_139 : decode cX9_dots 139 = .ok (.iload_n 3, 1) := by decide +kernel
theorem dX9_dots_140 : decode cX9_dots 140 = .ok (.iload 5, 2) := by decide +kernel
theorem dX9_dots_142 : decode cX9_dots 142 = .ok (.ishr, 1) := by decide +kernel
theorem dX9_dots_143 : decode cX9_dots 143 = .ok (.iconst 1, 1) := by decide +kernel
theorem dX9_dots_144 : decode cX9_dots 144 = .ok (.iand, 1) := by decide +kernel
theorem dX9_dots_145 : decode cX9_dots 145 = .ok (.ifCond .eq 76, 3) := by decide +kernel
theorem dX9_dots_148 : decode cX9_dots 148 = .ok (.iload 6, 2) := by decide +kernel
theorem dX9_dots_150 : decode cX9_dots 150 = .ok (.iconst 0, 1) := by decide +kernel
theorem dX9_dots_151 : decode cX9_dots 151 = .ok (.bipush 7, 2) := by decide +kernel
theorem dX9_dots_153 : decode cX9_dots 153 = .ok (.invokestatic 17, 3) := by decide +kernel
theorem dX9_dots_156 : decode cX9_dots 156 = .ok (.ifCond .ne 6, 3) := by decide +kernel
theorem dX9_dots_159 : decode cX9_dots 159 = .ok (.goto 62, 3) := by decide +kernel
theorem dX9_dots_162 : decode cX9_dots 162 = .ok (.aload_n 0, 1) := by decide +kernel
theorem dX9_dots_163 : decode cX9_dots 163 = .ok (.getfield 7, 3) := by decide +kernel
theorem dX9_dots_166 : decode cX9_dots 166 = .ok (.sipush 130, 3) := by decide +kernel
theorem dX9_dots_169 : decode cX9_dots 169 = .ok (.bipush 11, 2) := by decide +kernel
theorem dX9_dots_171 : decode cX9_dots 171 = .ok (.iload 5, 2) := by decide +kernel
theorem dX9_dots_173 : decode cX9_dots 173 = .ok (.imul, 1) := by decide +kernel
theorem dX9_dots_174 : decode cX9_dots 174 = .ok (.iadd, 1) := by decide +kernel
theorem dX9_dots_175 : decode cX9_dots 175 = .ok (.iconst 3, 1) := by decide +kernel
theorem dX9_dots_176 : decode cX9_dots 176 = .ok (.iadd, 1) := by decide +kernel
theorem dX9_dots_177 : decode cX9_dots 177 = .ok (.iload_n 2, 1) := by decide +kernel
theorem dX9_dots_178 : decode cX9_dots 178 = .ok (.iadd, 1) := by decide +kernel
theorem dX9_dots_179 : decode cX9_dots 179 = .ok (.aload_n 0, 1) := by decide +kernel
theorem dX9_dots_180 : decode cX9_dots 180 = .ok (.getfield 7, 3) := by decide +kernel
theorem dX9_dots_183 : decode cX9_dots 183 = .ok (.sipush 130, 3) := by decide +kernel
theorem dX9_dots_186 : decode cX9_dots 186 = .ok (.bipush 11, 2) := by decide +kernel
theorem dX9_dots_188 : decode cX9_dots 188 = .ok (.iload 5, 2) := by decide +kernel
theorem dX9_dots_190 : decode cX9_dots 190 = .ok (.imul, 1) := by decide +kernel
theorem dX9_dots_191 : decode cX9_dots 191 = .ok (.iadd, 1) := by decide +kernel
theorem dX9_dots_192 : decode cX9_dots 192 = .ok (.iconst 1, 1) := by decide +kernel
theorem dX9_dots_193 : decode cX9_dots 193 = .ok (.iadd, 1) := by decide +kernel
theorem dX9_dots_194 : decode cX9_dots 194 = .ok (.iaload, 1) := by decide +kernel
theorem dX9_dots_195 : decode cX9_dots 195 = .ok (.isub, 1) := by decide +kernel
theorem dX9_dots_196 : decode cX9_dots 196 = .ok (.iaload, 1) := by decide +kernel
theorem dX9_dots_197 : decode cX9_dots 197 = .ok (.istore 7, 2) := by decide +kernel
theorem dX9_dots_199 : decode cX9_dots 199 = .ok (.iload 7, 2) := by decide +kernel
theorem dX9_dots_201 : decode cX9_dots 201 = .ok (.bipush 7, 2) := by decide +kernel
theorem dX9_dots_203 : decode cX9_dots 203 = .ok (.iload 6, 2) := by decide +kernel
theorem dX9_dots_205 : decode cX9_dots 205 = .ok (.isub, 1) := by decide +kernel
theorem dX9_dots_206 : decode cX9_dots 206 = .ok (.ishr, 1) := by decide +kernel
theorem dX9_dots_207 : decode cX9_dots 207 = .ok (.iconst 1, 1) := by decide +kernel
theorem dX9_dots_208 : decode cX9_dots 208 = .ok (.iand, 1) := by decide +kernel
theorem dX9_dots_209 : decode cX9_dots 209 = .ok (.iconst 1, 1) := by decide +kernel
theorem dX9_dots_210 : decode cX9_dots 210 = .ok (.if_icmp .ne 11, 3) := by decide +kernel
theorem dX9_dots_213 : decode cX9_dots 213 = .ok (.sipush 256, 3) := by decide +kernel
theorem dX9_dots_216 : decode cX9_dots 216 = .ok (.iload 5, 2) := by decide +kernel
theorem dX9_dots_218 : decode cX9_dots 218 = .ok (.iadd, 1) := by decide +kernel
theorem dX9_dots_219 : decode cX9_dots 219 = .ok (.istore 4, 2) := by decide +kernel
theorem dX9_dots_221 : decode cX9_dots 221 = .ok (.iinc 5 (-1), 3) := by decide +kernel
theorem dX9_dots_224 : decode cX9_dots 224 = .ok (.goto (-114), 3) := by decide +kernel
theorem dX9_dots_227 : decode cX9_dots 227 = .ok (.aload_n 0, 1) := by decide +kernel
theorem dX9_dots_228 : decode cX9_dots 228 = .ok (.getfield 7, 3) := by decide +kernel
theorem dX9_dots_231 : decode cX9_dots 231 = .ok (.sipush 1770, 3) := by decide +kernel
theorem dX9_dots_234 : decode cX9_dots 234 = .ok (.bipush 64, 2) := by decide +kernel
theorem dX9_dots_236 : decode cX9_dots 236 = .ok (.iload_n 2, 1) := by decide +kernel
theorem dX9_dots_237 : decode cX9_dots 237 = .ok (.imul, 1) := by decide +kernel
theorem dX9_dots_238 : decode cX9_dots 238 = .ok (.iadd, 1) := by decide +kernel
theorem dX9_dots_239 : decode cX9_dots 239 = .ok (.aload_n 0, 1) := by decide +kernel
theorem dX9_dots_240 : decode cX9_dots 240 = .ok (.getfield 7, 3) := by decide +kernel
theorem dX9_dots_243 : decode cX9_dots 243 = .ok (.bipush 20, 2) := by decide +kernel
theorem dX9_dots_245 : decode cX9_dots 245 = .ok (.iaload, 1) := by decide +kernel
theorem dX9_dots_246 : decode cX9_dots 246 = .ok (.iadd, 1) := by decide +kernel
theorem dX9_dots_247 : decode cX9_dots 247 = .ok (.iload 4, 2) := by decide +kernel
theorem dX9_dots_249 : decode cX9_dots 249 = .ok (.iconst 1, 1) := by decide +kernel
theorem dX9_dots_250 : decode cX9_dots 250 = .ok (.iadd, 1) := by decide +kernel
theorem dX9_dots_251 : decode cX9_dots 251 = .ok (.iastore, 1) := by decide +kernel
theorem dX9_dots_252 : decode cX9_dots 252 = .ok (.aload_n 0, 1) := by decide +kernel
theorem dX9_dots_253 : decode cX9_dots 253 = .ok (.getfield 7, 3) := by decide +kernel
theorem dX9_dots_256 : decode cX9_dots 256 = .ok (.bipush 25, 2) := by decide +kernel
theorem dX9_dots_258 : decode cX9_dots 258 = .ok (.dup2, 1) := by decide +kernel
theorem dX9_dots_259 : decode cX9_dots 259 = .ok (.iaload, 1) := by decide +kernel
theorem dX9_dots_260 : decode cX9_dots 260 = .ok (.iconst 1, 1) := by decide +kernel
theorem dX9_dots_261 : decode cX9_dots 261 = .ok (.iadd, 1) := by decide +kernel
theorem dX9_dots_262 : decode cX9_dots 262 = .ok (.iastore, 1) := by decide +kernel
theorem dX9_dots_263 : decode cX9_dots 263 = .ok (.return_, 1) := by decide +kernel
