set_option maxRecDepth 20000 in
theorem ggX4_init_X3_init : GoodIn wsX4_init wsX3_init := goodIn_r _ [21, 22, 2, 3, 23, 24, 77, 78] (by decide +kernel) (by decide +kernel)
set_option maxRecDepth 20000 in
theorem gX4_init_X3_init_n9 : GoodIn wsX4_init (wsX3_init) := ggX4_init_X3_init
set_option maxRecDepth 20000 in
theorem ggX4_init_X2_init : GoodIn wsX4_init wsX2_init := goodIn_r _ [27, 28, 2, 3, 29, 30, 31, 32, 33, 34, 35, 36, 37, 38, 39, 40, 41, 42, 43, 44, 45, 46, 47, 48, 10, 49, 50, 51, 52, 53, 54, 55, 56, 57, 58, 59, 60, 61, 62, 63, 64, 65, 66, 67, 68, 69, 85, 86, 87, 88, 89, 90, 91, 92, 93, 97, 98] (by decide +kernel) (by decide +kernel)
set_option maxRecDepth 20000 in
theorem gX4_init_X2_init : GoodIn wsX4_init (wsX2_init) := ggX4_init_X2_init
set_option maxRecDepth 20000 in
theorem ggX4_init_X0_init : GoodIn wsX4_init wsX0_init := goodIn_r _ [72, 73, 2, 3, 74, 75, 9, 10, 76, 26, 27, 28, 29, 30, 31, 32, 33, 34, 35, 36, 37, 38, 39, 40, 41, 42, 43, 44, 45, 46, 47, 48, 49, 50, 51, 52, 53, 54, 55, 56, 57, 58, 59, 60, 61, 62, 63, 64, 65, 66, 67, 68, 69, 94, 95, 96, 85, 86, 87, 88, 89, 90, 91, 92, 93, 97, 98] (by decide +kernel) (by decide +kernel)
set_option maxRecDepth 20000 in
theorem gX4_init_X0_init : GoodIn wsX4_init (wsX0_init) := ggX4_init_X0_init
theorem dX4_init_0 : decode cX4_init 0 = .ok (.aload_n 0, 1) := by decide +kernel
theorem dX4_init_1 : decode cX4_init 1 = .ok (.invokespecial 1, 3) := by decide +kernel
theorem dX4_init_4 : decode cX4_init 4 = .ok (.aload_n 0, 1) := by decide +kernel
theorem dX4_init_5 : decode cX4_init 5 = .ok (.new 7, 3) := by decide +kernel
theorem dX4_init_8 : decode cX4_init 8 = .ok (.dup, 1) := by decide +kernel
theorem dX4_init_9 : decode cX4_init 9 = .ok (.invokespecial 9, 3) := by decide +kernel
theorem dX4_init_12 : decode cX4_init 12 = .ok (.putfield 10, 3) := by decide +kernel
theorem dX4_init_15 : decode cX4_init 15 = .ok (.aload_n 0, 1) := by decide +kernel
theorem dX4_init_16 : decode cX4_init 16 = .ok (.new 16, 3) := by decide +kernel
theorem dX4_init_19 : decode cX4_init 19 = .ok (.dup, 1) := by decide +kernel
theorem dX4_init_20 : decode cX4_init 20 = .ok (.invokespecial 18, 3) := by decide +kernel
theorem dX4_init_23 : decode cX4_init 23 = .ok (.putfield 19, 3) := by decide +kernel
theorem dX4_init_26 : decode cX4_init 26 = .ok (.aload_n 0, 1) := by decide +kernel
theorem dX4_init_27 : decode cX4_init 27 = .ok (.new 16, 3) := by decide +kernel
theorem dX4_init_30 : decode cX4_init 30 = .ok (.dup, 1) := by decide +kernel
theorem dX4_init_31 : decode cX4_init 31 = .ok (.invokespecial 18, 3) := by decide +kernel
theorem dX4_init_34 : decode cX4_init 34 = .ok (.putfield 23, 3) := by decide +kernel
theorem dX4_init_37 : decode cX4_init 37 = .ok (.aload_n 0, 1) := by decide +kernel
theorem dX4_init_38 : decode cX4_init 38 = .ok (.new 26, 3) := by decide +kernel
theorem dX4_init_41 : decode cX4_init 41 = .ok (.dup, 1) := by decide +kernel
theorem dX4_init_42 : decode cX4_init 42 = .ok (.invokespecial 28, 3) := by decide +kernel
theorem dX4_init_45 : decode cX4_init 45 = .ok (.putfield 29, 3) := by decide +kernel
theorem dX4_init_48 : decode cX4_init 48 = .ok (.aload_n 0, 1) := by decide +kernel
theorem dX4_init_49 : decode cX4_init 49 = .ok (.iconst 2, 1) := by decide +kernel
theorem dX4_init_50 : decode cX4_init 50 = .ok (.anewarray 16, 3) := by decide +kernel
theorem dX4_init_53 : decode cX4_init 53 = .ok (.putfield 33, 3) := by decide +kernel
theorem dX4_init_56 : decode cX4_init 56 = .ok (.aload_n 0, 1) := by decide +kernel
theorem dX4_init_57 : decode cX4_init 57 = .ok (.iconst 2, 1) := by decide +kernel
theorem dX4_init_58 : decode cX4_init 58 = .ok (.newarray .boolean, 2) := by decide +kernel
theorem dX4_init_60 : decode cX4_init 60 = .ok (.putfield 37, 3) := by decide +kernel
theorem dX4_init_63 : decode cX4_init 63 = .ok (.iconst 0, 1) := by decide +kernel
theorem dX4_init_64 : decode cX4_init 64 = .ok (.istore_n 1, 1) := by decide +kernel
theorem dX4_init_65 : decode cX4_init 65 = .ok (.iload_n 1, 1) := by decide +kernel
theorem dX4_init_66 : decode cX4_init 66 = .ok (.iconst 2, 1) := by decide +kernel
theorem dX4_init_67 : decode cX4_init 67 = .ok (.if_icmp .ge 22, 3) := by decide +kernel
theorem dX4_init_70 : decode cX4_init 70 = .ok (.aload_n 0, 1) := by decide +kernel
theorem dX4_init_71 : decode cX4_init 71 = .ok (.getfield 33, 3) := by decide +kernel
theorem dX4_init_74 : decode cX4_init 74 = .ok (.iload_n 1, 1) := by decide +kernel
theorem dX4_init_75 : decode cX4_init 75 = .ok (.new 16, 3) := by decide +kernel
theorem dX4_init_78 : decode cX4_init 78 = .ok (.dup, 1) := by decide +kernel
theorem dX4_init_79 : decode cX4_init 79 = .ok (.invokespecial 18, 3) := by decide +kernel
theorem dX4_init_82 : decode cX4_init 82 = .ok (.aastore, 1) := by decide +kernel
theorem dX4_init_83 : decode cX4_init 83 = .ok (.iinc 1 1, 3) := by decide +kernel
theorem dX4_init_86 : decode cX4_init 86 = .ok (.goto (-21), 3) := by decide +kernel
theorem dX4_init_89 : decode cX4_init 89 = .ok (.return_, 1) := by decide +kernel
set_option maxRecDepth 20000 in
theorem ggX4_append_X3_isFull : GoodIn wsX4_append wsX3_isFull := goodIn_r _ [10, 11, 24, 25] (by decide +kernel) (by decide +kernel)
set_option maxRecDepth 20000 in
theorem gX4_append_X3_isFull : GoodIn wsX4_append (wsV RX4 48 RX3 yX3_isFull wsX3_isFull) := goodIn_app (goodIn_of _ (by decide +kernel)) ggX4_append_X3_isFull
set_option maxRecDepth 20000 in
theorem ggX4_append_X3_add : GoodIn wsX4_append wsX3_add := goodIn_r _ [15, 16, 11, 17, 7, 8, 9, 10, 24, 25] (by decide +kernel) (by decide +kernel)
set_option maxRecDepth 20000 in
theorem gX4_append_X3_add : GoodIn wsX4_append (wsV RX4 57 RX3 yX3_add wsX3_add) := goodIn_app (goodIn_of _ (by decide +kernel)) ggX4_append_X3_add
theorem dX4_append_0 : decode cX4_append 0 = .ok (.iload_n 1, 1) := by decide +kernel
theorem dX4_append_1 : decode cX4_append 1 = .ok (.ifCond .lt 10, 3) := by decide +kernel
theorem dX4_append_4 : decode cX4_append 4 = .ok (.iload_n 1, 1) := by decide +kernel
theorem dX4_append_5 : decode cX4_append 5 = .ok (.sipush 255, 3) := by decide +kernel
theorem dX4_append_8 : decode cX4_append 8 = .ok (.if_icmp .le 13, 3) := by decide +kernel
theorem dX4_append_11 : decode cX4_append 11 = .ok (.new 41, 3) := by decide +kernel
theorem dX4_append_14 : decode cX4_append 14 = .ok (.dup, 1) := by decide +kernel
theorem dX4_append_15 : decode cX4_append 15 = .ok (.ldc 43, 2) := by decide +kernel
theorem dX4_append_17 : decode cX4_append 17 = .ok (.invokespecial 45, 3) := by decide +kernel
theorem dX4_append_20 : decode cX4_append 20 = .ok (.athrow, 1) := by decide +kernel
theorem dX4_append_21 : decode cX4_append 21 = .ok (.aload_n 0, 1) := by decide +kernel
theorem dX4_append_22 : decode cX4_append 22 = .ok (.getfield 10, 3) := by decide +kernel
theorem dX4_append_25 : decode cX4_append 25 = .ok (.invokevirtual 48, 3) := by decide +kernel
theorem dX4_append_28 : decode cX4_append 28 = .ok (.ifCond .eq 13, 3) := by decide +kernel
theorem dX4_append_31 : decode cX4_append 31 = .ok (.new 52, 3) := by decide +kernel
theorem dX4_append_34 : decode cX4_append 34 = .ok (.dup, 1) := by decide +kernel
theorem dX4_append_35 : decode cX4_append 35 = .ok (.ldc 54, 2) := by decide +kernel
theorem dX4_append_37 : decode cX4_append 37 = .ok (.invokespecial 56, 3) := by decide +kernel
theorem dX4_append_40 : decode cX4_append 40 = .ok (.athrow, 1) := by decide +kernel
theorem dX4_append_41 : decode cX4_append 41 = .ok (.aload_n 0, 1) := by decide +kernel
theorem dX4_append_42 : decode cX4_append 42 = .ok (.getfield 10, 3) := by decide +kernel
theorem dX4_append_45 : decode cX4_append 45 = .ok (.iload_n 1, 1) := by decide +kernel
theorem dX4_append_46 : decode cX4_append 46 = .ok (.i2c, 1) := by decide +kernel
theorem dX4_append_47 : decode cX4_append 47 = .ok (.invokevirtual 57, 3) := by decide +kernel
theorem dX4_append_50 : decode cX4_append 50 = .ok (.ireturn, 1) := by decide +kernel
set_option maxRecDepth 20000 in
theorem ggX4_clearText_X3_empty : GoodIn wsX4_clearText wsX3_empty := goodIn_r _ [6, 7, 14, 15] (by decide +kernel) (by decide +kernel)
set_option maxRecDepth 20000 in
theorem gX4_clearText_X3_empty : GoodIn wsX4_clearText (wsV RX4 61 RX3 yX3_empty wsX3_empty) := goodIn_app (goodIn_of _ (by decide +kernel)) ggX4_clearText_X3_empty
theorem dX4_clearText_0 : decode cX4_clearText 0 = .ok (.aload_n 0, 1) := by decide +kernel
theorem dX4_clearText_1 : decode cX4_clearText 1 = .ok (.getfield 10, 3) := by decide +kernel
theorem dX4_clearText_4 : decode cX4_clearText 4 = .ok (.invokevirtual 61, 3) := by decide +kernel
theorem dX4_clearText_7 : decode cX4_clearText 7 = .ok (.ireturn, 1) := by decide +kernel
set_option maxRecDepth 20000 in
theorem ggX4_errorPosition_X3_firstWrong : GoodIn wsX4_errorPosition wsX3_firstWrong := goodIn_r _ [6, 7, 8, 9, 10, 5, 11, 12, 13, 14, 15, 16, 17, 18, 19, 20, 21, 22, 23, 24, 25, 26, 27, 28, 29, 30, 31, 32, 33, 34, 35, 36, 37, 38, 39, 40, 41, 42, 43, 44, 45, 46, 47, 48, 55, 56] (by decide +kernel) (by decide +kernel)
set_option maxRecDepth 20000 in
theorem gX4_errorPosition_X3_firstWrong : GoodIn wsX4_errorPosition (wsV RX4 65 RX3 yX3_firstWrong wsX3_firstWrong) := goodIn_app (goodIn_of _ (by decide +kernel)) ggX4_errorPosition_X3_firstWrong
theorem dX4_errorPosition_0 : decode cX4_errorPosition 0 = .ok (.aload_n 0, 1) := by decide +kernel
theorem dX4_errorPosition_1 : decode cX4_errorPosition 1 = .ok (.getfield 10, 3) := by decide +kernel
theorem dX4_errorPosition_4 : decode cX4_errorPosition 4 = .ok (.invokevirtual 65, 3) := by decide +kernel
theorem dX4_errorPosition_7 : decode cX4_errorPosition 7 = .ok (.ireturn, 1) := by decide +kernel
set_option maxRecDepth 20000 in
theorem ggX4_load_X3_firstWrong : GoodIn wsX4_load wsX3_firstWrong := goodIn_r _ [11, 12, 13, 14, 15, 10, 16, 17, 18, 19, 20, 21, 22, 23, 24, 25, 26, 27, 28, 29, 30, 31, 32, 33, 34, 35, 36, 37, 38, 39, 40, 41, 42, 43, 44, 45, 46, 47, 48, 49, 50, 51, 52, 53, 235, 236] (by decide +kernel) (by decide +kernel)
set_option maxRecDepth 20000 in
theorem gX4_load_X3_firstWrong : GoodIn wsX4_load (wsV RX4 65 RX3 yX3_firstWrong wsX3_firstWrong) := goodIn_app (goodIn_of _ (by decide +kernel)) ggX4_load_X3_firstWrong
set_option maxRecDepth 20000 in
theorem ggX4_load_X0_forget : GoodIn wsX4_load wsX0_forget := goodIn_r _ [58, 59, 237, 238, 239] (by decide +kernel) (by decide +kernel)
set_option maxRecDepth 20000 in
theorem gX4_load_X0_forget : GoodIn wsX4_load (wsV RX4 70 RX0 yX0_forget wsX0_forget) := goodIn_app (goodIn_of _ (by decide +kernel)) ggX4_load_X0_forget
set_option maxRecDepth 20000 in
theorem ggX4_load_X2_reset : GoodIn wsX4_load wsX2_reset := goodIn_r _ [64, 65, 66, 67, 68, 69, 70, 71, 72, 73, 74, 27, 75, 76, 77, 78, 79, 80, 81, 82, 83, 84, 85, 86, 87, 88, 89, 90, 91, 92, 93, 240, 241, 242, 243, 244, 245, 246, 247, 248, 249, 250] (by decide +kernel) (by decide +kernel)
set_option maxRecDepth 20000 in
theorem gX4_load_X2_reset : GoodIn wsX4_load (wsV RX4 73 RX2 yX2_reset wsX2_reset) := goodIn_app (goodIn_of _ (by decide +kernel)) ggX4_load_X2_reset
set_option maxRecDepth 20000 in
theorem ggX4_load_X3_digitAt : GoodIn wsX4_load wsX3_digitAt := goodIn_r _ [25, 17, 18, 19, 10, 20, 12, 21, 235, 236] (by decide +kernel) (by decide +kernel)
set_option maxRecDepth 20000 in
theorem gX4_load_X3_digitAt : GoodIn wsX4_load (wsV RX4 76 RX3 yX3_digitAt wsX3_digitAt) := goodIn_app (goodIn_of _ (by decide +kernel)) ggX4_load_X3_digitAt
set_option maxRecDepth 20000 in
theorem ggX4_load_X2_change : GoodIn wsX4_load wsX2_change := goodIn_r _ [98, 65, 32, 27, 33, 240, 241, 242, 243, 244, 245, 246, 247, 248] (by decide +kernel) (by decide +kernel)
set_option maxRecDepth 20000 in
theorem gX4_load_X2_change : GoodIn wsX4_load (wsV RX4 80 RX2 yX2_change wsX2_change) := goodIn_app (goodIn_of _ (by decide +kernel)) ggX4_load_X2_change
set_option maxRecDepth 20000 in
theorem ggX4_load_X3_length : GoodIn wsX4_load wsX3_length := goodIn_r _ [102, 12, 235, 236] (by decide +kernel) (by decide +kernel)
set_option maxRecDepth 20000 in
theorem gX4_load_X3_length : GoodIn wsX4_load (wsV RX4 84 RX3 yX3_length wsX3_length) := goodIn_app (goodIn_of _ (by decide +kernel)) ggX4_load_X3_length
set_option maxRecDepth 20000 in
theorem ggX4_load_X4_obey : GoodIn wsX4_load wsX4_obey := goodIn_r _ [106, 3, 6, 107, 18, 19, 10, 20, 12, 21, 94, 23, 24, 25, 17, 108, 109, 110, 111, 22, 112, 113, 114, 63, 115, 116, 27, 117, 118, 119, 120, 121, 122, 123, 124, 125, 126, 127, 72, 66, 128, 129, 130, 131, 69, 132, 133, 134, 91, 135, 93, 136, 137, 138, 139, 140, 141, 142, 143, 71, 67, 73, 144, 145, 146, 147, 148, 149, 150, 151, 152, 153, 154, 155, 156, 157, 81, 82, 83, 158, 159, 160, 161, 162, 163, 164, 165, 166, 167, 168, 169, 170, 171, 172, 173, 174, 175, 176, 177, 178, 179, 180, 181, 182, 183, 184, 185, 186, 187, 188, 189, 190, 65, 191, 192, 193, 194, 195, 196, 197, 198, 199, 200, 201, 202, 203, 204, 205, 206, 70, 207, 208, 209, 210, 211, 212, 213, 214, 215, 216, 217, 218, 219, 220, 221, 222, 223, 68, 224, 225, 226, 227, 229, 230, 231, 232, 233, 234, 235, 236, 240, 241, 242, 243, 244, 245, 246, 247, 248, 249, 250] (by decide +kernel) (by decide +kernel)
set_option maxRecDepth 20000 in
theorem gX4_load_X4_obey : GoodIn wsX4_load (wsV RX4 87 RX4 yX4_obey wsX4_obey) := goodIn_app (goodIn_of _ (by decide +kernel)) ggX4_load_X4_obey
set_option maxRecDepth 20000 in
theorem ggX4_load_X3_digitsOfCommand : GoodIn wsX4_load wsX3_digitsOfCommand := goodIn_r _ [41, 17, 18, 19, 10, 20, 12, 21, 235, 236] (by decide +kernel) (by decide +kernel)
set_option maxRecDepth 20000 in
theorem gX4_load_X3_digitsOfCommand : GoodIn wsX4_load (wsV RX4 91 RX3 yX3_digitsOfCommand wsX3_digitsOfCommand) := goodIn_app (goodIn_of _ (by decide +kernel)) ggX4_load_X3_digitsOfCommand
theorem dX4_load_0 : decode cX4_load 0 = .ok (.aload_n 0, 1) := by decide +kernel
theorem dX4_load_1 : decode cX4_load 1 = .ok (.getfield 10, 3) := by decide +kernel
theorem dX4_load_4 : decode cX4_load 4 = .ok (.invokevirtual 65, 3) := by decide +kernel
theorem dX4_load_7 : decode cX4_load 7 = .ok (.iconst (-1), 1) := by decide +kernel
theorem dX4_load_8 : decode cX4_load 8 = .ok (.if_icmp .eq 13, 3) := by decide +kernel
theorem dX4_load_11 : decode cX4_load 11 = .ok (.new 52, 3) := by decide +kernel
theorem dX4_load_14 : decode cX4_load 14 = .ok (.dup, 1) := by decide +kernel
theorem dX4_load_15 : decode cX4_load 15 = .ok (.ldc 68, 2) := by decide +kernel
theorem dX4_load_17 : decode cX4_load 17 = .ok (.invokespecial 56, 3) := by decide +kernel
theorem dX4_load_20 : decode cX4_load 20 = .ok (.athrow, 1) := by decide +kernel
theorem dX4_load_21 : decode cX4_load 21 = .ok (.aload_n 0, 1) := by decide +kernel
theorem dX4_load_22 : decode cX4_load 22 = .ok (.getfield 29, 3) := by decide +kernel
theorem dX4_load_25 : decode cX4_load 25 = .ok (.invokevirtual 70, 3) := by decide +kernel
theorem dX4_load_28 : decode cX4_load 28 = .ok (.iconst 0, 1) := by decide +kernel
theorem dX4_load_29 : decode cX4_load 29 = .ok (.istore_n 1, 1) := by decide +kernel
theorem dX4_load_30 : decode cX4_load 30 = .ok (.iload_n 1, 1) := by decide +kernel
theorem dX4_load_31 : decode cX4_load 31 = .ok (.iconst 2, 1) := by decide +kernel
theorem dX4_load_32 : decode cX4_load 32 = .ok (.if_icmp .ge 16, 3) := by decide +kernel
theorem dX4_load_35 : decode cX4_load 35 = .ok (.aload_n 0, 1) := by decide +kernel
theorem dX4_load_36 : decode cX4_load 36 = .ok (.getfield 37, 3) := by decide +kernel
theorem dX4_load_39 : decode cX4_load 39 = .ok (.iload_n 1, 1) := by decide +kernel
theorem dX4_load_40 : decode cX4_load 40 = .ok (.iconst 0, 1) := by decide +kernel
theorem dX4_load_41 : decode cX4_load 41 = .ok (.bastore, 1) := by decide +kernel
theorem dX4_load_42 : decode cX4_load 42 = .ok (.iinc 1 1, 3) := by decide +kernel
theorem dX4_load_45 : decode cX4_load 45 = .ok (.goto (-15), 3) := by decide +kernel
theorem dX4_load_48 : decode cX4_load 48 = .ok (.aload_n 0, 1) := by decide +kernel
theorem dX4_load_49 : decode cX4_load 49 = .ok (.getfield 19, 3) := by decide +kernel
theorem dX4_load_52 : decode cX4_load 52 = .ok (.invokevirtual 73, 3) := by decide +kernel
theorem dX4_load_55 : decode cX4_load 55 = .ok (.iconst 0, 1) := by decide +kernel
theorem dX4_load_56 : decode cX4_load 56 = .ok (.istore_n 1, 1) := by decide +kernel
theorem dX4_load_57 : decode cX4_load 57 = .ok (.iload_n 1, 1) := by decide +kernel
theorem dX4_load_58 : decode cX4_load 58 = .ok (.iconst 5, 1) := by decide +kernel
theorem dX4_load_59 : decode cX4_load 59 = .ok (.if_icmp .ge 27, 3) := by decide +kernel
theorem dX4_load_62 : decode cX4_load 62 = .ok (.aload_n 0, 1) := by decide +kernel
theorem dX4_load_63 : decode cX4_load 63 = .ok (.getfield 19, 3) := by decide +kernel
theorem dX4_load_66 : decode cX4_load 66 = .ok (.iload_n 1, 1) := by decide +kernel
theorem dX4_load_67 : decode cX4_load 67 = .ok (.aload_n 0, 1) := by decide +kernel
theorem dX4_load_68 : decode cX4_load 68 = .ok (.getfield 10, 3) := by decide +kernel
theorem dX4_load_71 : decode cX4_load 71 = .ok (.iconst 1, 1) := by decide +kernel
theorem dX4_load_72 : decode cX4_load 72 = .ok (.iload_n 1, 1) := by decide +kernel
theorem dX4_load_73 : decode cX4_load 73 = .ok (.iadd, 1) := by decide +kernel
theorem dX4_load_74 : decode cX4_load 74 = .ok (.invokevirtual 76, 3) := by decide +kernel
theorem dX4_load_77 : decode cX4_load 77 = .ok (.invokevirtual 80, 3) := by decide +kernel
theorem dX4_load_80 : decode cX4_load 80 = .ok (.iinc 1 1, 3) := by decide +kernel
theorem dX4_load_83 : decode cX4_load 83 = .ok (.goto (-26), 3) := by decide +kernel
theorem dX4_load_86 : decode cX4_load 86 = .ok (.iconst 0, 1) := by decide +kernel
theorem dX4_load_87 : decode cX4_load 87 = .ok (.istore_n 1, 1) := by decide +kernel
theorem dX4_load_88 : decode cX4_load 88 = .ok (.bipush 6, 2) := by decide +kernel
theorem dX4_load_90 : decode cX4_load 90 = .ok (.istore_n 2, 1) := by decide +kernel
theorem dX4_load_91 : decode cX4_load 91 = .ok (.iload_n 2, 1) := by decide +kernel
theorem dX4_load_92 : decode cX4_load 92 = .ok (.aload_n 0, 1) := by decide +kernel
theorem dX4_load_93 : decode cX4_load 93 = .ok (.getfield 10, 3) := by decide +kernel
theorem dX4_load_96 : decode cX4_load 96 = .ok (.invokevirtual 84, 3) := by decide +kernel
theorem dX4_load_99 : decode cX4_load 99 = .ok (.if_icmp .ge 30, 3) := by decide +kernel
theorem dX4_load_102 : decode cX4_load 102 = .ok (.aload_n 0, 1) := by decide +kernel
theorem dX4_load_103 : decode cX4_load 103 = .ok (.iload_n 2, 1) := by decide +kernel
theorem dX4_load_104 : decode cX4_load 104 = .ok (.invokevirtual 87, 3) := by decide +kernel
theorem dX4_load_107 : decode cX4_load 107 = .ok (.ifCond .ne 6, 3) := by decide +kernel
theorem dX4_load_110 : decode cX4_load 110 = .ok (.iinc 1 1, 3) := by decide +kernel
theorem dX4_load_113 : decode cX4_load 113 = .ok (.iload_n 2, 1) := by decide +kernel
theorem dX4_load_114 : decode cX4_load 114 = .ok (.iconst 1, 1) := by decide +kernel
theorem dX4_load_115 : decode cX4_load 115 = .ok (.aload_n 0, 1) := by decide +kernel
theorem dX4_load_116 : decode cX4_load 116 = .ok (.getfield 10, 3) := by decide +kernel
theorem dX4_load_119 : decode cX4_load 119 = .ok (.iload_n 2, 1) := by decide +kernel
theorem dX4_load_120 : decode cX4_load 120 = .ok (.invokevirtual 91, 3) := by decide +kernel
theorem dX4_load_123 : decode cX4_load 123 = .ok (.iadd, 1) := by decide +kernel
theorem dX4_load_124 : decode cX4_load 124 = .ok (.iadd, 1) := by decide +kernel
theorem dX4_load_125 : decode cX4_load 125 = .ok (.istore_n 2, 1) := by decide +kernel
theorem dX4_load_126 : decode cX4_load 126 = .ok (.goto (-35), 3) := by decide +kernel
theorem dX4_load_129 : decode cX4_load 129 = .ok (.iload_n 1, 1) := by decide +kernel
theorem dX4_load_130 : decode cX4_load 130 = .ok (.ireturn, 1) := by decide +kernel
set_option maxRecDepth 20000 in
theorem ggX4_obey_X3_signAt : GoodIn wsX4_obey wsX3_signAt := goodIn_r _ [7, 8, 9, 158, 159] (by decide +kernel) (by decide +kernel)
set_option maxRecDepth 20000 in
theorem gX4_obey_X3_signAt : GoodIn wsX4_obey (wsV RX4 94 RX3 yX3_signAt wsX3_signAt) := goodIn_app (goodIn_of _ (by decide +kernel)) ggX4_obey_X3_signAt
set_option maxRecDepth 20000 in
theorem ggX4_obey_X3_digitAt : GoodIn wsX4_obey wsX3_digitAt := goodIn_r _ [13, 14, 4, 5, 6, 7, 8, 9, 158, 159] (by decide +kernel) (by decide +kernel)
set_option maxRecDepth 20000 in
theorem gX4_obey_X3_digitAt : GoodIn wsX4_obey (wsV RX4 76 RX3 yX3_digitAt wsX3_digitAt) := goodIn_app (goodIn_of _ (by decide +kernel)) ggX4_obey_X3_digitAt
set_option maxRecDepth 20000 in
theorem ggX4_obey_X3_pairAt : GoodIn wsX4_obey wsX3_pairAt := goodIn_r _ [18, 19, 11, 12, 6, 13, 14, 4, 5, 7, 8, 9, 158, 159] (by decide +kernel) (by decide +kernel)
set_option maxRecDepth 20000 in
theorem gX4_obey_X3_pairAt : GoodIn wsX4_obey (wsV RX4 97 RX3 yX3_pairAt wsX3_pairAt) := goodIn_app (goodIn_of _ (by decide +kernel)) ggX4_obey_X3_pairAt
set_option maxRecDepth 20000 in
theorem ggX4_obey_X2_placeIfAllowed : GoodIn wsX4_obey wsX2_placeIfAllowed := goodIn_r _ [24, 25, 26, 27, 28, 29, 30, 31, 32, 33, 34, 35, 36, 23, 37, 38, 39, 40, 41, 42, 43, 44, 45, 46, 47, 48, 49, 50, 51, 52, 53, 54, 55, 56, 57, 58, 59, 60, 61, 62, 63, 64, 65, 66, 67, 68, 69, 70, 71, 72, 73, 74, 75, 76, 77, 78, 79, 80, 81, 82, 83, 84, 85, 86, 160, 161, 162, 163, 164, 165, 166, 167, 168, 169, 170] (by decide +kernel) (by decide +kernel)
set_option maxRecDepth 20000 in
theorem gX4_obey_X2_placeIfAllowed : GoodIn wsX4_obey (wsV RX4 100 RX2 yX2_placeIfAllowed wsX2_placeIfAllowed) := goodIn_app (goodIn_of _ (by decide +kernel)) ggX4_obey_X2_placeIfAllowed
set_option maxRecDepth 20000 in
theorem ggX4_obey_X2_dropIfAllowed : GoodIn wsX4_obey wsX2_dropIfAllowed := goodIn_r _ [90, 38, 91, 92, 93, 48, 94, 50, 95, 96, 97, 23, 98, 59, 99, 100, 101, 102, 39, 103, 80, 81, 82, 70, 25, 26, 27, 62, 63, 64, 65, 66, 67, 68, 69, 71, 72, 73, 74, 75, 76, 77, 78, 79, 160, 161, 162, 163, 164, 165, 166, 167, 168, 169, 170] (by decide +kernel) (by decide +kernel)
set_option maxRecDepth 20000 in
theorem gX4_obey_X2_dropIfAllowed : GoodIn wsX4_obey (wsV RX4 104 RX2 yX2_dropIfAllowed wsX2_dropIfAllowed) := goodIn_app (goodIn_of _ (by decide +kernel)) ggX4_obey_X2_dropIfAllowed
set_option maxRecDepth 20000 in
theorem ggX4_obey_X2_passNights : GoodIn wsX4_obey wsX2_passNights := goodIn_r _ [107, 59, 108, 109, 110, 23, 111, 112, 113, 114, 115, 116, 38, 103, 80, 81, 48, 82, 50, 70, 117, 118, 119, 120, 45, 46, 47, 49, 121, 122, 123, 124, 28, 26, 29, 125, 126, 127, 128, 44, 129, 130, 131, 132, 133, 134, 135, 136, 137, 55, 56, 57, 58, 60, 61, 25, 27, 62, 63, 64, 65, 66, 67, 68, 69, 71, 72, 73, 74, 75, 76, 77, 78, 79, 83, 84, 85, 86, 138, 139, 140, 141, 142, 143, 144, 145, 146, 147, 99, 100, 101, 102, 39, 148, 149, 150, 151, 160, 161, 162, 163, 164, 165, 166, 167, 168, 169, 170] (by decide +kernel) (by decide +kernel)
set_option maxRecDepth 20000 in
theorem gX4_obey_X2_passNights : GoodIn wsX4_obey (wsV RX4 107 RX2 yX2_passNights wsX2_passNights) := goodIn_app (goodIn_of _ (by decide +kernel)) ggX4_obey_X2_passNights
theorem dX4_obey_0 : decode cX4_obey 0 = .ok (.aload_n 0, 1) := by decide +kernel
theorem dX4_obey_1 : decode cX4_obey 1 = .ok (.getfield 10, 3) := by decide +kernel
theorem dX4_obey_4 : decode cX4_obey 4 = .ok (.iload_n 1, 1) := by decide +kernel
theorem dX4_obey_5 : decode cX4_obey 5 = .ok (.invokevirtual 94, 3) := by decide +kernel
theorem dX4_obey_8 : decode cX4_obey 8 = .ok (.lookupswitch 121 #[(99, 84), (110, 102), (111, 36)], 36) := by decide +kernel
theorem dX4_obey_44 : decode cX4_obey 44 = .ok (.aload_n 0, 1) := by decide +kernel
theorem dX4_obey_45 : decode cX4_obey 45 = .ok (.getfield 19, 3) := by decide +kernel
theorem dX4_obey_48 : decode cX4_obey 48 = .ok (.aload_n 0, 1) := by decide +kernel
theorem dX4_obey_49 : decode cX4_obey 49 = .ok (.getfield 10, 3) := by decide +kernel
theorem dX4_obey_52 : decode cX4_obey 52 = .ok (.iload_n 1, 1) := by decide +kernel
theorem dX4_obey_53 : decode cX4_obey 53 = .ok (.iconst 1, 1) := by decide +kernel
theorem dX4_obey_54 : decode cX4_obey 54 = .ok (.iadd, 1) := by decide +kernel
theorem dX4_obey_55 : decode cX4_obey 55 = .ok (.invokevirtual 76, 3) := by decide +kernel
theorem dX4_obey_58 : decode cX4_obey 58 = .ok (.aload_n 0, 1) := by decide +kernel
theorem dX4_obey_59 : decode cX4_obey 59 = .ok (.getfield 10, 3) := by decide +kernel
theorem dX4_obey_62 : decode cX4_obey 62 = .ok (.iload_n 1, 1) := by decide +kernel
theorem dX4_obey_63 : decode cX4_obey 63 = .ok (.iconst 2, 1) := by decide +kernel
theorem dX4_obey_64 : decode cX4_obey 64 = .ok (.iadd, 1) := by decide +kernel
theorem dX4_obey_65 : decode cX4_obey 65 = .ok (.invokevirtual 97, 3) := by decide +kernel
theorem dX4_obey_68 : decode cX4_obey 68 = .ok (.aload_n 0, 1) := by decide +kernel
theorem dX4_obey_69 : decode cX4_obey 69 = .ok (.getfield 10, 3) := by decide +kernel
theorem dX4_obey_72 : decode cX4_obey 72 = .ok (.iload_n 1, 1) := by decide +kernel
theorem dX4_obey_73 : decode cX4_obey 73 = .ok (.iconst 4, 1) := by decide +kernel
theorem dX4_obey_74 : decode cX4_obey 74 = .ok (.iadd, 1) := by decide +kernel
theorem dX4_obey_75 : decode cX4_obey 75 = .ok (.invokevirtual 76, 3) := by decide +kernel
theorem dX4_obey_78 : decode cX4_obey 78 = .ok (.aload_n 0, 1) := by decide +kernel
theorem dX4_obey_79 : decode cX4_obey 79 = .ok (.getfield 10, 3) := by decide +kernel
theorem dX4_obey_82 : decode cX4_obey 82 = .ok (.iload_n 1, 1) := by decide +kernel
theorem dX4_obey_83 : decode cX4_obey 83 = .ok (.iconst 5, 1) := by decide +kernel
theorem dX4_obey_84 : decode cX4_obey 84 = .ok (.iadd, 1) := by decide +kernel
theorem dX4_obey_85 : decode cX4_obey 85 = .ok (.invokevirtual 76, 3) := by decide +kernel
theorem dX4_obey_88 : decode cX4_obey 88 = .ok (.invokevirtual 100, 3) := by decide +kernel
theorem dX4_obey_91 : decode cX4_obey 91 = .ok (.ireturn, 1) := by decide +kernel
theorem dX4_obey_92 : decode cX4_obey 92 = .ok (.aload_n 0, 1) := by decide +kernel
theorem dX4_obey_93 : decode cX4_obey 93 = .ok (.getfield 19, 3) := by decide +kernel
theorem dX4_obey_96 : decode cX4_obey 96 = .ok (.aload_n 0, 1) := by decide +kernel
theorem dX4_obey_97 : decode cX4_obey 97 = .ok (.getfield 10, 3) := by decide +kernel
theorem dX4_obey_100 : decode cX4_obey 100 = .ok (.iload_n 1, 1) := by decide +kernel
theorem dX4_obey_101 : decode cX4_obey 101 = .ok (.iconst 1, 1) := by decide +kernel
theorem dX4_obey_102 : decode cX4_obey 102 = .ok (.iadd, 1) := by decide +kernel
theorem dX4_obey_103 : decode cX4_obey 103 = .ok (.invokevirtual 97, 3) := by decide +kernel
theorem dX4_obey_106 : decode cX4_obey 106 = .ok (.invokevirtual 104, 3) := by decide +kernel
theorem dX4_obey_109 : decode cX4_obey 109 = .ok (.ireturn, 1) := by decide +kernel
theorem dX4_obey_110 : decode cX4_obey 110 = .ok (.aload_n 0, 1) := by decide +kernel
theorem dX4_obey_111 : decode cX4_obey 111 = .ok (.getfield 19, 3) := by decide +kernel
theorem dX4_obey_114 : decode cX4_obey 114 = .ok (.aload_n 0, 1) := by decide +kernel
theorem dX4_obey_115 : decode cX4_obey 115 = .ok (.getfield 10, 3) := by decide +kernel
theorem dX4_obey_118 : decode cX4_obey 118 = .ok (.iload_n 1, 1) := by decide +kernel
theorem dX4_obey_119 : decode cX4_obey 119 = .ok (.iconst 1, 1) := by decide +kernel
theorem dX4_obey_120 : decode cX4_obey 120 = .ok (.iadd, 1) := by decide +kernel
theorem dX4_obey_121 : decode cX4_obey 121 = .ok (.invokevirtual 76, 3) := by decide +kernel
theorem dX4_obey_124 : decode cX4_obey 124 = .ok (.invokevirtual 107, 3) := by decide +kernel
theorem dX4_obey_127 : decode cX4_obey 127 = .ok (.iconst 1, 1) := by decide +kernel
theorem dX4_obey_128 : decode cX4_obey 128 = .ok (.ireturn, 1) := by decide +kernel
theorem dX4_obey_129 : decode cX4_obey 129 = .ok (.iconst 0, 1) := by decide +kernel
theorem dX4_obey_130 : decode cX4_obey 130 = .ok (.ireturn, 1) := by decide +kernel
set_option maxRecDepth 20000 in
theorem ggX4_about_X2_number : GoodIn wsX4_about wsX2_number := goodIn_r _ [8, 9, 10, 11, 12, 13, 14, 15, 16, 17, 18, 19, 7, 20, 21, 22, 23, 24, 25, 26, 27, 28, 29, 30, 37, 38, 39, 40, 41, 42, 43, 44, 45, 46, 47] (by decide +kernel) (by decide +kernel)
set_option maxRecDepth 20000 in
theorem gX4_about_X2_number : GoodIn wsX4_about (wsV RX4 113 RX2 yX2_number wsX2_number) := goodIn_app (goodIn_of _ (by decide +kernel)) ggX4_about_X2_number
theorem dX4_about_0 : decode cX4_about 0 = .ok (.iload_n 1, 1) := by decide +kernel
theorem dX4_about_1 : decode cX4_about 1 = .ok (.ifCond .lt 9, 3) := by decide +kernel
theorem dX4_about_4 : decode cX4_about 4 = .ok (.iload_n 1, 1) := by decide +kernel
theorem dX4_about_5 : decode cX4_about 5 = .ok (.bipush 11, 2) := by decide +kernel
theorem dX4_about_7 : decode cX4_about 7 = .ok (.if_icmp .lt 13, 3) := by decide +kernel
theorem dX4_about_10 : decode cX4_about 10 = .ok (.new 41, 3) := by decide +kernel
theorem dX4_about_13 : decode cX4_about 13 = .ok (.dup, 1) := by decide +kernel
theorem dX4_about_14 : decode cX4_about 14 = .ok (.ldc 111, 2) := by decide +kernel
theorem dX4_about_16 : decode cX4_about 16 = .ok (.invokespecial 45, 3) := by decide +kernel
theorem dX4_about_19 : decode cX4_about 19 = .ok (.athrow, 1) := by decide +kernel
theorem dX4_about_20 : decode cX4_about 20 = .ok (.aload_n 0, 1) := by decide +kernel
theorem dX4_about_21 : decode cX4_about 21 = .ok (.getfield 19, 3) := by decide +kernel
theorem dX4_about_24 : decode cX4_about 24 = .ok (.iload_n 1, 1) := by decide +kernel
theorem dX4_about_25 : decode cX4_about 25 = .ok (.invokevirtual 113, 3) := by decide +kernel
theorem dX4_about_28 : decode cX4_about 28 = .ok (.ireturn, 1) := by decide +kernel
set_option maxRecDepth 20000 in
theorem ggX4_order_X1_has : GoodIn wsX4_order wsX1_has := goodIn_r _ [11, 12, 37, 38] (by decide +kernel) (by decide +kernel)
set_option maxRecDepth 20000 in
theorem gX4_order_X1_has : GoodIn wsX4_order (wsV RX4 120 RX1 yX1_has wsX1_has) := goodIn_app (goodIn_of _ (by decide +kernel)) ggX4_order_X1_has
set_option maxRecDepth 20000 in
theorem ggX4_order_X4_isOrderNumber : GoodIn wsX4_order wsX4_isOrderNumber := goodIn_r _ [16] (by decide +kernel) (by decide +kernel)
set_option maxRecDepth 20000 in
theorem gX4_order_X4_isOrderNumber : GoodIn wsX4_order (va_wsS RX4 130 yX4_isOrderNumber wsX4_isOrderNumber) := goodIn_app (goodIn_of _ (by decide +kernel)) ggX4_order_X4_isOrderNumber
set_option maxRecDepth 20000 in
theorem ggX4_order_X1_get : GoodIn wsX4_order wsX1_get := goodIn_r _ [20, 12, 21, 37, 38] (by decide +kernel) (by decide +kernel)
set_option maxRecDepth 20000 in
theorem gX4_order_X1_get : GoodIn wsX4_order (wsV RX4 135 RX1 yX1_get wsX1_get) := goodIn_app (goodIn_of _ (by decide +kernel)) ggX4_order_X1_get
theorem dX4_order_0 : decode cX4_order 0 = .ok (.aload_n 0, 1) := by decide +kernel
theorem dX4_order_1 : decode cX4_order 1 = .ok (.getfield 19, 3) := by decide +kernel
theorem dX4_order_4 : decode cX4_order 4 = .ok (.getfield 116, 3) := by decide +kernel
theorem dX4_order_7 : decode cX4_order 7 = .ok (.iload_n 1, 1) := by decide +kernel
theorem dX4_order_8 : decode cX4_order 8 = .ok (.invokevirtual 120, 3) := by decide +kernel
theorem dX4_order_11 : decode cX4_order 11 = .ok (.ifCond .ne 13, 3) := by decide +kernel
theorem dX4_order_14 : decode cX4_order 14 = .ok (.new 125, 3) := by decide +kernel
theorem dX4_order_17 : decode cX4_order 17 = .ok (.dup, 1) := by decide +kernel
theorem dX4_order_18 : decode cX4_order 18 = .ok (.ldc 127, 2) := by decide +kernel
theorem dX4_order_20 : decode cX4_order 20 = .ok (.invokespecial 129, 3) := by decide +kernel
theorem dX4_order_23 : decode cX4_order 23 = .ok (.athrow, 1) := by decide +kernel
theorem dX4_order_24 : decode cX4_order 24 = .ok (.iload_n 2, 1) := by decide +kernel
theorem dX4_order_25 : decode cX4_order 25 = .ok (.invokestatic 130, 3) := by decide +kernel
theorem dX4_order_28 : decode cX4_order 28 = .ok (.ifCond .ne 13, 3) := by decide +kernel
theorem dX4_order_31 : decode cX4_order 31 = .ok (.new 41, 3) := by decide +kernel
theorem dX4_order_34 : decode cX4_order 34 = .ok (.dup, 1) := by decide +kernel
theorem dX4_order_35 : decode cX4_order 35 = .ok (.ldc 133, 2) := by decide +kernel
theorem dX4_order_37 : decode cX4_order 37 = .ok (.invokespecial 45, 3) := by decide +kernel
theorem dX4_order_40 : decode cX4_order 40 = .ok (.athrow, 1) := by decide +kernel
theorem dX4_order_41 : decode cX4_order 41 = .ok (.aload_n 0, 1) := by decide +kernel
theorem dX4_order_42 : decode cX4_order 42 = .ok (.getfield 19, 3) := by decide +kernel
theorem dX4_order_45 : decode cX4_order 45 = .ok (.getfield 116, 3) := by decide +kernel
theorem dX4_order_48 : decode cX4_order 48 = .ok (.iload_n 1, 1) := by decide +kernel
theorem dX4_order_49 : decode cX4_order 49 = .ok (.iload_n 2, 1) := by decide +kernel
theorem dX4_order_50 : decode cX4_order 50 = .ok (.invokevirtual 135, 3) := by decide +kernel
theorem dX4_order_53 : decode cX4_order 53 = .ok (.ireturn, 1) := by decide +kernel
set_option maxRecDepth 20000 in
theorem ggX4_lot_X4_isLot : GoodIn wsX4_lot wsX4_isLot := goodIn_r _ [11] (by decide +kernel) (by decide +kernel)
set_option maxRecDepth 20000 in
theorem gX4_lot_X4_isLot : GoodIn wsX4_lot (va_wsS RX4 139 yX4_isLot wsX4_isLot) := goodIn_app (goodIn_of _ (by decide +kernel)) ggX4_lot_X4_isLot
set_option maxRecDepth 20000 in
theorem ggX4_lot_X2_openOf : GoodIn wsX4_lot wsX2_openOf := goodIn_r _ [16, 17, 18, 19, 20, 21, 22, 23, 24, 25, 26, 27, 28, 39, 40, 41, 42, 43, 44, 45, 46, 47, 48, 49] (by decide +kernel) (by decide +kernel)
set_option maxRecDepth 20000 in
theorem gX4_lot_X2_openOf : GoodIn wsX4_lot (wsV RX4 148 RX2 yX2_openOf wsX2_openOf) := goodIn_app (goodIn_of _ (by decide +kernel)) ggX4_lot_X2_openOf
set_option maxRecDepth 20000 in
theorem ggX4_lot_X2_feesFor : GoodIn wsX4_lot wsX2_feesFor := goodIn_r _ [32, 17, 18, 19, 20, 21, 22, 23, 24, 25, 26, 27, 28, 39, 40, 41, 42, 43, 44, 45, 46, 47, 48, 49] (by decide +kernel) (by decide +kernel)
set_option maxRecDepth 20000 in
theorem gX4_lot_X2_feesFor : GoodIn wsX4_lot (wsV RX4 151 RX2 yX2_feesFor wsX2_feesFor) := goodIn_app (goodIn_of _ (by decide +kernel)) ggX4_lot_X2_feesFor
theorem dX4_lot_0 : decode cX4_lot 0 = .ok (.iload_n 1, 1) := by decide +kernel
theorem dX4_lot_1 : decode cX4_lot 1 = .ok (.invokestatic 139, 3) := by decide +kernel
theorem dX4_lot_4 : decode cX4_lot 4 = .ok (.ifCond .ne 13, 3) := by decide +kernel
theorem dX4_lot_7 : decode cX4_lot 7 = .ok (.new 125, 3) := by decide +kernel
theorem dX4_lot_10 : decode cX4_lot 10 = .ok (.dup, 1) := by decide +kernel
theorem dX4_lot_11 : decode cX4_lot 11 = .ok (.ldc 142, 2) := by decide +kernel
theorem dX4_lot_13 : decode cX4_lot 13 = .ok (.invokespecial 129, 3) := by decide +kernel
theorem dX4_lot_16 : decode cX4_lot 16 = .ok (.athrow, 1) := by decide +kernel
theorem dX4_lot_17 : decode cX4_lot 17 = .ok (.iload_n 2, 1) := by decide +kernel
theorem dX4_lot_18 : decode cX4_lot 18 = .ok (.tableswitch 69 0 3 #[30, 40, 50, 59], 30) := by decide +kernel
theorem dX4_lot_48 : decode cX4_lot 48 = .ok (.aload_n 0, 1) := by decide +kernel
theorem dX4_lot_49 : decode cX4_lot 49 = .ok (.getfield 19, 3) := by decide +kernel
theorem dX4_lot_52 : decode cX4_lot 52 = .ok (.getfield 144, 3) := by decide +kernel
theorem dX4_lot_55 : decode cX4_lot 55 = .ok (.iload_n 1, 1) := by decide +kernel
theorem dX4_lot_56 : decode cX4_lot 56 = .ok (.iaload, 1) := by decide +kernel
theorem dX4_lot_57 : decode cX4_lot 57 = .ok (.ireturn, 1) := by decide +kernel
theorem dX4_lot_58 : decode cX4_lot 58 = .ok (.aload_n 0, 1) := by decide +kernel
theorem dX4_lot_59 : decode cX4_lot 59 = .ok (.getfield 19, 3) := by decide +kernel
theorem dX4_lot_62 : decode cX4_lot 62 = .ok (.iconst 1, 1) := by decide +kernel
theorem dX4_lot_63 : decode cX4_lot 63 = .ok (.iload_n 1, 1) := by decide +kernel
theorem dX4_lot_64 : decode cX4_lot 64 = .ok (.invokevirtual 148, 3) := by decide +kernel
theorem dX4_lot_67 : decode cX4_lot 67 = .ok (.ireturn, 1) := by decide +kernel
theorem dX4_lot_68 : decode cX4_lot 68 = .ok (.aload_n 0, 1) := by decide +kernel
theorem dX4_lot_69 : decode cX4_lot 69 = .ok (.getfield 19, 3) := by decide +kernel
theorem dX4_lot_72 : decode cX4_lot 72 = .ok (.iload_n 1, 1) := by decide +kernel
theorem dX4_lot_73 : decode cX4_lot 73 = .ok (.invokevirtual 151, 3) := by decide +kernel
theorem dX4_lot_76 : decode cX4_lot 76 = .ok (.ireturn, 1) := by decide +kernel
theorem dX4_lot_77 : decode cX4_lot 77 = .ok (.aload_n 0, 1) := by decide +kernel
theorem dX4_lot_78 : decode cX4_lot 78 = .ok (.getfield 19, 3) := by decide +kernel
theorem dX4_lot_81 : decode cX4_lot 81 = .ok (.getfield 154, 3) := by decide +kernel
theorem dX4_lot_84 : decode cX4_lot 84 = .ok (.iload_n 1, 1) := by decide +kernel
theorem dX4_lot_85 : decode cX4_lot 85 = .ok (.iaload, 1) := by decide +kernel
theorem dX4_lot_86 : decode cX4_lot 86 = .ok (.ireturn, 1) := by decide +kernel
theorem dX4_lot_87 : decode cX4_lot 87 = .ok (.new 41, 3) := by decide +kernel
theorem dX4_lot_90 : decode cX4_lot 90 = .ok (.dup, 1) := by decide +kernel
theorem dX4_lot_91 : decode cX4_lot 91 = .ok (.ldc 157, 2) := by decide +kernel
theorem dX4_lot_93 : decode cX4_lot 93 = .ok (.invokespecial 45, 3) := by decide +kernel
theorem dX4_lot_96 : decode cX4_lot 96 = .ok (.athrow, 1) := by decide +kernel
set_option maxRecDepth 20000 in
theorem ggX4_reader_X4_isReader : GoodIn wsX4_reader wsX4_isReader := goodIn_r _ [12] (by decide +kernel) (by decide +kernel)
set_option maxRecDepth 20000 in
theorem gX4_reader_X4_isReader : GoodIn wsX4_reader (va_wsS RX4 159 yX4_isReader wsX4_isReader) := goodIn_app (goodIn_of _ (by decide +kernel)) ggX4_reader_X4_isReader
set_option maxRecDepth 20000 in
theorem ggX4_reader_X2_openOf : GoodIn wsX4_reader wsX2_openOf := goodIn_r _ [17, 18, 19, 20, 21, 22, 23, 24, 25, 26, 27, 28, 29, 36, 37, 38, 39, 40, 41, 42, 43, 44, 45, 46] (by decide +kernel) (by decide +kernel)
set_option maxRecDepth 20000 in
theorem gX4_reader_X2_openOf : GoodIn wsX4_reader (wsV RX4 148 RX2 yX2_openOf wsX2_openOf) := goodIn_app (goodIn_of _ (by decide +kernel)) ggX4_reader_X2_openOf
theorem dX4_reader_0 : decode cX4_reader 0 = .ok (.iload_n 1, 1) := by decide +kernel
theorem dX4_reader_1 : decode cX4_reader 1 = .ok (.invokestatic 159, 3) := by decide +kernel
theorem dX4_reader_4 : decode cX4_reader 4 = .ok (.ifCond .ne 13, 3) := by decide +kernel
theorem dX4_reader_7 : decode cX4_reader 7 = .ok (.new 125, 3) := by decide +kernel
theorem dX4_reader_10 : decode cX4_reader 10 = .ok (.dup, 1) := by decide +kernel
theorem dX4_reader_11 : decode cX4_reader 11 = .ok (.ldc 162, 2) := by decide +kernel
theorem dX4_reader_13 : decode cX4_reader 13 = .ok (.invokespecial 129, 3) := by decide +kernel
theorem dX4_reader_16 : decode cX4_reader 16 = .ok (.athrow, 1) := by decide +kernel
theorem dX4_reader_17 : decode cX4_reader 17 = .ok (.iload_n 2, 1) := by decide +kernel
theorem dX4_reader_18 : decode cX4_reader 18 = .ok (.tableswitch 70 0 3 #[30, 40, 50, 60], 30) := by decide +kernel
theorem dX4_reader_48 : decode cX4_reader 48 = .ok (.aload_n 0, 1) := by decide +kernel
theorem dX4_reader_49 : decode cX4_reader 49 = .ok (.getfield 19, 3) := by decide +kernel
theorem dX4_reader_52 : decode cX4_reader 52 = .ok (.getfield 164, 3) := by decide +kernel
theorem dX4_reader_55 : decode cX4_reader 55 = .ok (.iload_n 1, 1) := by decide +kernel
theorem dX4_reader_56 : decode cX4_reader 56 = .ok (.iaload, 1) := by decide +kernel
theorem dX4_reader_57 : decode cX4_reader 57 = .ok (.ireturn, 1) := by decide +kernel
theorem dX4_reader_58 : decode cX4_reader 58 = .ok (.aload_n 0, 1) := by decide +kernel
theorem dX4_reader_59 : decode cX4_reader 59 = .ok (.getfield 19, 3) := by decide +kernel
theorem dX4_reader_62 : decode cX4_reader 62 = .ok (.iconst 0, 1) := by decide +kernel
theorem dX4_reader_63 : decode cX4_reader 63 = .ok (.iload_n 1, 1) := by decide +kernel
theorem dX4_reader_64 : decode cX4_reader 64 = .ok (.invokevirtual 148, 3) := by decide +kernel
theorem dX4_reader_67 : decode cX4_reader 67 = .ok (.ireturn, 1) := by decide +kernel
theorem dX4_reader_68 : decode cX4_reader 68 = .ok (.aload_n 0, 1) := by decide +kernel
theorem dX4_reader_69 : decode cX4_reader 69 = .ok (.getfield 19, 3) := by decide +kernel
theorem dX4_reader_72 : decode cX4_reader 72 = .ok (.getfield 167, 3) := by decide +kernel
theorem dX4_reader_75 : decode cX4_reader 75 = .ok (.iload_n 1, 1) := by decide +kernel
theorem dX4_reader_76 : decode cX4_reader 76 = .ok (.iaload, 1) := by decide +kernel
theorem dX4_reader_77 : decode cX4_reader 77 = .ok (.ireturn, 1) := by decide +kernel
theorem dX4_reader_78 : decode cX4_reader 78 = .ok (.aload_n 0, 1) := by decide +kernel
theorem dX4_reader_79 : decode cX4_reader 79 = .ok (.getfield 19, 3) := by decide +kernel
theorem dX4_reader_82 : decode cX4_reader 82 = .ok (.getfield 170, 3) := by decide +kernel
theorem dX4_reader_85 : decode cX4_reader 85 = .ok (.iload_n 1, 1) := by decide +kernel
theorem dX4_reader_86 : decode cX4_reader 86 = .ok (.iaload, 1) := by decide +kernel
theorem dX4_reader_87 : decode cX4_reader 87 = .ok (.ireturn, 1) := by decide +kernel
theorem dX4_reader_88 : decode cX4_reader 88 = .ok (.new 41, 3) := by decide +kernel
theorem dX4_reader_91 : decode cX4_reader 91 = .ok (.dup, 1) := by decide +kernel
theorem dX4_reader_92 : decode cX4_reader 92 = .ok (.ldc 157, 2) := by decide +kernel
theorem dX4_reader_94 : decode cX4_reader 94 = .ok (.invokespecial 45, 3) := by decide +kernel
theorem dX4_reader_97 : decode cX4_reader 97 = .ok (.athrow, 1) := by decide +kernel
set_option maxRecDepth 20000 in
theorem ggX4_delivered_X4_isOrderNumber : GoodIn wsX4_delivered wsX4_isOrderNumber := goodIn_r _ [8] (by decide +kernel) (by decide +kernel)
set_option maxRecDepth 20000 in
theorem gX4_delivered_X4_isOrderNumber : GoodIn wsX4_delivered (va_wsS RX4 130 yX4_isOrderNumber wsX4_isOrderNumber) := goodIn_app (goodIn_of _ (by decide +kernel)) ggX4_delivered_X4_isOrderNumber
set_option maxRecDepth 20000 in
theorem ggX4_delivered_X1_size : GoodIn wsX4_delivered wsX1_size := goodIn_r _ [13, 14, 38, 39] (by decide +kernel) (by decide +kernel)
set_option maxRecDepth 20000 in
theorem gX4_delivered_X1_size : GoodIn wsX4_delivered (wsV RX4 178 RX1 yX1_size wsX1_size) := goodIn_app (goodIn_of _ (by decide +kernel)) ggX4_delivered_X1_size
set_option maxRecDepth 20000 in
theorem ggX4_delivered_X4_deliveredNumber : GoodIn wsX4_delivered wsX4_deliveredNumber := goodIn_r _ [17] (by decide +kernel) (by decide +kernel)
set_option maxRecDepth 20000 in
theorem gX4_delivered_X4_deliveredNumber : GoodIn wsX4_delivered (va_wsS RX4 181 yX4_deliveredNumber wsX4_deliveredNumber) := goodIn_app (goodIn_of _ (by decide +kernel)) ggX4_delivered_X4_deliveredNumber
set_option maxRecDepth 20000 in
theorem ggX4_delivered_X1_get : GoodIn wsX4_delivered wsX1_get := goodIn_r _ [21, 14, 22, 38, 39] (by decide +kernel) (by decide +kernel)
set_option maxRecDepth 20000 in
theorem gX4_delivered_X1_get : GoodIn wsX4_delivered (wsV RX4 135 RX1 yX1_get wsX1_get) := goodIn_app (goodIn_of _ (by decide +kernel)) ggX4_delivered_X1_get
theorem dX4_delivered_0 : decode cX4_delivered 0 = .ok (.iload_n 1, 1) := by decide +kernel
theorem dX4_delivered_1 : decode cX4_delivered 1 = .ok (.ifCond .lt 9, 3) := by decide +kernel
theorem dX4_delivered_4 : decode cX4_delivered 4 = .ok (.iload_n 1, 1) := by decide +kernel
theorem dX4_delivered_5 : decode cX4_delivered 5 = .ok (.bipush 10, 2) := by decide +kernel
theorem dX4_delivered_7 : decode cX4_delivered 7 = .ok (.if_icmp .lt 13, 3) := by decide +kernel
theorem dX4_delivered_10 : decode cX4_delivered 10 = .ok (.new 41, 3) := by decide +kernel
theorem dX4_delivered_13 : decode cX4_delivered 13 = .ok (.dup, 1) := by decide +kernel
theorem dX4_delivered_14 : decode cX4_delivered 14 = .ok (.ldc 173, 2) := by decide +kernel
theorem dX4_delivered_16 : decode cX4_delivered 16 = .ok (.invokespecial 45, 3) := by decide +kernel
theorem dX4_delivered_19 : decode cX4_delivered 19 = .ok (.athrow, 1) := by decide +kernel
theorem dX4_delivered_20 : decode cX4_delivered 20 = .ok (.iload_n 2, 1) := by decide +kernel
theorem dX4_delivered_21 : decode cX4_delivered 21 = .ok (.invokestatic 130, 3) := by decide +kernel
theorem dX4_delivered_24 : decode cX4_delivered 24 = .ok (.ifCond .ne 13, 3) := by decide +kernel
theorem dX4_delivered_27 : decode cX4_delivered 27 = .ok (.new 41, 3) := by decide +kernel
theorem dX4_delivered_30 : decode cX4_delivered 30 = .ok (.dup, 1) := by decide +kernel
theorem dX4_delivered_31 : decode cX4_delivered 31 = .ok (.ldc 133, 2) := by decide +kernel
theorem dX4_delivered_33 : decode cX4_delivered 33 = .ok (.invokespecial 45, 3) := by decide +kernel
theorem dX4_delivered_36 : decode cX4_delivered 36 = .ok (.athrow, 1) := by decide +kernel
theorem dX4_delivered_37 : decode cX4_delivered 37 = .ok (.aload_n 0, 1) := by decide +kernel
theorem dX4_delivered_38 : decode cX4_delivered 38 = .ok (.getfield 19, 3) := by decide +kernel
theorem dX4_delivered_41 : decode cX4_delivered 41 = .ok (.getfield 175, 3) := by decide +kernel
theorem dX4_delivered_44 : decode cX4_delivered 44 = .ok (.aload_n 0, 1) := by decide +kernel
theorem dX4_delivered_45 : decode cX4_delivered 45 = .ok (.getfield 19, 3) := by decide +kernel
theorem dX4_delivered_48 : decode cX4_delivered 48 = .ok (.getfield 175, 3) := by decide +kernel
theorem dX4_delivered_51 : decode cX4_delivered 51 = .ok (.invokevirtual 178, 3) := by decide +kernel
theorem dX4_delivered_54 : decode cX4_delivered 54 = .ok (.iconst 1, 1) := by decide +kernel
theorem dX4_delivered_55 : decode cX4_delivered 55 = .ok (.isub, 1) := by decide +kernel
theorem dX4_delivered_56 : decode cX4_delivered 56 = .ok (.iload_n 1, 1) := by decide +kernel
theorem dX4_delivered_57 : decode cX4_delivered 57 = .ok (.isub, 1) := by decide +kernel
theorem dX4_delivered_58 : decode cX4_delivered 58 = .ok (.iload_n 2, 1) := by decide +kernel
theorem dX4_delivered_59 : decode cX4_delivered 59 = .ok (.invokestatic 181, 3) := by decide +kernel
theorem dX4_delivered_62 : decode cX4_delivered 62 = .ok (.invokevirtual 135, 3) := by decide +kernel
theorem dX4_delivered_65 : decode cX4_delivered 65 = .ok (.ireturn, 1) := by decide +kernel
theorem dX4_deliveredNumber_0 : decode cX4_deliveredNumber 0 = .ok (.iload_n 0, 1) := by decide +kernel
theorem dX4_deliveredNumber_1 : decode cX4_deliveredNumber 1 = .ok (.lookupswitch 31 #[(3, 27), (4, 29)], 27) := by decide +kernel
theorem dX4_deliveredNumber_28 : decode cX4_deliveredNumber 28 = .ok (.iconst 4, 1) := by decide +kernel
theorem dX4_deliveredNumber_29 : decode cX4_deliveredNumber 29 = .ok (.ireturn, 1) := by decide +kernel
theorem dX4_deliveredNumber_30 : decode cX4_deliveredNumber 30 = .ok (.iconst 3, 1) := by decide +kernel
theorem dX4_deliveredNumber_31 : decode cX4_deliveredNumber 31 = .ok (.ireturn, 1) := by decide +kernel
theorem dX4_deliveredNumber_32 : decode cX4_deliveredNumber 32 = .ok (.iload_n 0, 1) := by decide +kernel
theorem dX4_deliveredNumber_33 : decode cX4_deliveredNumber 33 = .ok (.ireturn, 1) := by decide +kernel
set_option maxRecDepth 20000 in
theorem ggX4_setting_X4_isSetting : GoodIn wsX4_setting wsX4_isSetting := goodIn_r _ [8] (by decide +kernel) (by decide +kernel)
set_option maxRecDepth 20000 in
theorem gX4_setting_X4_isSetting : GoodIn wsX4_setting (va_wsS RX4 184 yX4_isSetting wsX4_isSetting) := goodIn_app (goodIn_of _ (by decide +kernel)) ggX4_setting_X4_isSetting
theorem dX4_setting_0 : decode cX4_setting 0 = .ok (.iload_n 1, 1) := by decide +kernel
theorem dX4_setting_1 : decode cX4_setting 1 = .ok (.invokestatic 184, 3) := by decide +kernel
theorem dX4_setting_4 : decode cX4_setting 4 = .ok (.ifCond .ne 13, 3) := by decide +kernel
theorem dX4_setting_7 : decode cX4_setting 7 = .ok (.new 41, 3) := by decide +kernel
theorem dX4_setting_10 : decode cX4_setting 10 = .ok (.dup, 1) := by decide +kernel
theorem dX4_setting_11 : decode cX4_setting 11 = .ok (.ldc 133, 2) := by decide +kernel
theorem dX4_setting_13 : decode cX4_setting 13 = .ok (.invokespecial 45, 3) := by decide +kernel
theorem dX4_setting_16 : decode cX4_setting 16 = .ok (.athrow, 1) := by decide +kernel
theorem dX4_setting_17 : decode cX4_setting 17 = .ok (.aload_n 0, 1) := by decide +kernel
theorem dX4_setting_18 : decode cX4_setting 18 = .ok (.getfield 19, 3) := by decide +kernel
theorem dX4_setting_21 : decode cX4_setting 21 = .ok (.getfield 187, 3) := by decide +kernel
theorem dX4_setting_24 : decode cX4_setting 24 = .ok (.iload_n 1, 1) := by decide +kernel
theorem dX4_setting_25 : decode cX4_setting 25 = .ok (.iaload, 1) := by decide +kernel
theorem dX4_setting_26 : decode cX4_setting 26 = .ok (.ireturn, 1) := by decide +kernel
set_option maxRecDepth 20000 in
theorem ggX4_ask_X4_isReader : GoodIn wsX4_ask wsX4_isReader := goodIn_r _ [12] (by decide +kernel) (by decide +kernel)
set_option maxRecDepth 20000 in
theorem gX4_ask_X4_isReader : GoodIn wsX4_ask (va_wsS RX4 159 yX4_isReader wsX4_isReader) := goodIn_app (goodIn_of _ (by decide +kernel)) ggX4_ask_X4_isReader
set_option maxRecDepth 20000 in
theorem ggX4_ask_X4_isLot : GoodIn wsX4_ask wsX4_isLot := goodIn_r _ [15] (by decide +kernel) (by decide +kernel)
set_option maxRecDepth 20000 in
theorem gX4_ask_X4_isLot : GoodIn wsX4_ask (va_wsS RX4 139 yX4_isLot wsX4_isLot) := goodIn_app (goodIn_of _ (by decide +kernel)) ggX4_ask_X4_isLot
set_option maxRecDepth 20000 in
theorem ggX4_ask_X4_isItem : GoodIn wsX4_ask wsX4_isItem := goodIn_r _ [18] (by decide +kernel) (by decide +kernel)
set_option maxRecDepth 20000 in
theorem gX4_ask_X4_isItem : GoodIn wsX4_ask (va_wsS RX4 192 yX4_isItem wsX4_isItem) := goodIn_app (goodIn_of _ (by decide +kernel)) ggX4_ask_X4_isItem
set_option maxRecDepth 20000 in
theorem ggX4_ask_X4_isFee : GoodIn wsX4_ask wsX4_isFee := goodIn_r _ [21] (by decide +kernel) (by decide +kernel)
set_option maxRecDepth 20000 in
theorem gX4_ask_X4_isFee : GoodIn wsX4_ask (va_wsS RX4 195 yX4_isFee wsX4_isFee) := goodIn_app (goodIn_of _ (by decide +kernel)) ggX4_ask_X4_isFee
set_option maxRecDepth 20000 in
theorem ggX4_ask_X2_takesOrder : GoodIn wsX4_ask wsX2_takesOrder := goodIn_r _ [26, 27, 28, 29, 30, 31, 25, 32, 33, 14, 11, 15, 34, 35, 36, 37, 38, 39, 10, 12, 109, 110, 111, 112, 113, 114, 115, 116, 117, 118, 119] (by decide +kernel) (by decide +kernel)
set_option maxRecDepth 20000 in
theorem gX4_ask_X2_takesOrder : GoodIn wsX4_ask (wsV RX4 200 RX2 yX2_takesOrder wsX2_takesOrder) := goodIn_app (goodIn_of _ (by decide +kernel)) ggX4_ask_X2_takesOrder
set_option maxRecDepth 20000 in
theorem ggX4_ask_X0_remember : GoodIn wsX4_ask wsX0_remember := goodIn_r _ [44, 45, 46, 47, 48, 49, 50, 51, 52, 53, 54, 25, 55, 56, 28, 57, 58, 33, 59, 60, 27, 61, 62, 11, 63, 64, 65, 66, 67, 68, 69, 70, 71, 37, 72, 73, 39, 120, 121, 122, 109, 110, 111, 112, 113, 114, 115, 116, 117, 118, 119] (by decide +kernel) (by decide +kernel)
set_option maxRecDepth 20000 in
theorem gX4_ask_X0_remember : GoodIn wsX4_ask (wsV RX4 206 RX0 yX0_remember wsX0_remember) := goodIn_app (goodIn_of _ (by decide +kernel)) ggX4_ask_X0_remember
set_option maxRecDepth 20000 in
theorem ggX4_ask_X2_place : GoodIn wsX4_ask wsX2_place := goodIn_r _ [77, 33, 28, 27, 29, 30, 31, 25, 32, 14, 11, 15, 78, 79, 80, 81, 60, 57, 61, 10, 12, 34, 35, 36, 37, 38, 39, 82, 83, 84, 85, 86, 87, 88, 89, 73, 90, 91, 92, 93, 94, 66, 67, 68, 95, 96, 97, 98, 99, 100, 101, 102, 109, 110, 111, 112, 113, 114, 115, 116, 117, 118, 119] (by decide +kernel) (by decide +kernel)
set_option maxRecDepth 20000 in
theorem gX4_ask_X2_place : GoodIn wsX4_ask (wsV RX4 210 RX2 yX2_place wsX2_place) := goodIn_app (goodIn_of _ (by decide +kernel)) ggX4_ask_X2_place
theorem dX4_ask_0 : decode cX4_ask 0 = .ok (.iload_n 1, 1) := by decide +kernel
theorem dX4_ask_1 : decode cX4_ask 1 = .ok (.invokestatic 159, 3) := by decide +kernel
theorem dX4_ask_4 : decode cX4_ask 4 = .ok (.ifCond .eq 10, 3) := by decide +kernel
theorem dX4_ask_7 : decode cX4_ask 7 = .ok (.iload_n 2, 1) := by decide +kernel
theorem dX4_ask_8 : decode cX4_ask 8 = .ok (.invokestatic 139, 3) := by decide +kernel
theorem dX4_ask_11 : decode cX4_ask 11 = .ok (.ifCond .ne 13, 3) := by decide +kernel
theorem dX4_ask_14 : decode cX4_ask 14 = .ok (.new 125, 3) := by decide +kernel
theorem dX4_ask_17 : decode cX4_ask 17 = .ok (.dup, 1) := by decide +kernel
theorem dX4_ask_18 : decode cX4_ask 18 = .ok (.ldc 190, 2) := by decide +kernel
theorem dX4_ask_20 : decode cX4_ask 20 = .ok (.invokespecial 129, 3) := by decide +kernel
theorem dX4_ask_23 : decode cX4_ask 23 = .ok (.athrow, 1) := by decide +kernel
theorem dX4_ask_24 : decode cX4_ask 24 = .ok (.iload_n 3, 1) := by decide +kernel
theorem dX4_ask_25 : decode cX4_ask 25 = .ok (.invokestatic 192, 3) := by decide +kernel
theorem dX4_ask_28 : decode cX4_ask 28 = .ok (.ifCond .eq 11, 3) := by decide +kernel
theorem dX4_ask_31 : decode cX4_ask 31 = .ok (.iload 4, 2) := by decide +kernel
theorem dX4_ask_33 : decode cX4_ask 33 = .ok (.invokestatic 195, 3) := by decide +kernel
theorem dX4_ask_36 : decode cX4_ask 36 = .ok (.ifCond .ne 13, 3) := by decide +kernel
theorem dX4_ask_39 : decode cX4_ask 39 = .ok (.new 41, 3) := by decide +kernel
theorem dX4_ask_42 : decode cX4_ask 42 = .ok (.dup, 1) := by decide +kernel
theorem dX4_ask_43 : decode cX4_ask 43 = .ok (.ldc 198, 2) := by decide +kernel
theorem dX4_ask_45 : decode cX4_ask 45 = .ok (.invokespecial 45, 3) := by decide +kernel
theorem dX4_ask_48 : decode cX4_ask 48 = .ok (.athrow, 1) := by decide +kernel
theorem dX4_ask_49 : decode cX4_ask 49 = .ok (.aload_n 0, 1) := by decide +kernel
theorem dX4_ask_50 : decode cX4_ask 50 = .ok (.getfield 19, 3) := by decide +kernel
theorem dX4_ask_53 : decode cX4_ask 53 = .ok (.iload_n 1, 1) := by decide +kernel
theorem dX4_ask_54 : decode cX4_ask 54 = .ok (.iload_n 2, 1) := by decide +kernel
theorem dX4_ask_55 : decode cX4_ask 55 = .ok (.iload 4, 2) := by decide +kernel
theorem dX4_ask_57 : decode cX4_ask 57 = .ok (.invokevirtual 200, 3) := by decide +kernel
theorem dX4_ask_60 : decode cX4_ask 60 = .ok (.ifCond .ne 13, 3) := by decide +kernel
theorem dX4_ask_63 : decode cX4_ask 63 = .ok (.new 52, 3) := by decide +kernel
theorem dX4_ask_66 : decode cX4_ask 66 = .ok (.dup, 1) := by decide +kernel
theorem dX4_ask_67 : decode cX4_ask 67 = .ok (.ldc 204, 2) := by decide +kernel
theorem dX4_ask_69 : decode cX4_ask 69 = .ok (.invokespecial 56, 3) := by decide +kernel
theorem dX4_ask_72 : decode cX4_ask 72 = .ok (.athrow, 1) := by decide +kernel
theorem dX4_ask_73 : decode cX4_ask 73 = .ok (.aload_n 0, 1) := by decide +kernel
theorem dX4_ask_74 : decode cX4_ask 74 = .ok (.getfield 29, 3) := by decide +kernel
theorem dX4_ask_77 : decode cX4_ask 77 = .ok (.aload_n 0, 1) := by decide +kernel
theorem dX4_ask_78 : decode cX4_ask 78 = .ok (.getfield 19, 3) := by decide +kernel
theorem dX4_ask_81 : decode cX4_ask 81 = .ok (.invokevirtual 206, 3) := by decide +kernel
theorem dX4_ask_84 : decode cX4_ask 84 = .ok (.aload_n 0, 1) := by decide +kernel
theorem dX4_ask_85 : decode cX4_ask 85 = .ok (.getfield 19, 3) := by decide +kernel
theorem dX4_ask_88 : decode cX4_ask 88 = .ok (.iload_n 1, 1) := by decide +kernel
theorem dX4_ask_89 : decode cX4_ask 89 = .ok (.iload_n 2, 1) := by decide +kernel
theorem dX4_ask_90 : decode cX4_ask 90 = .ok (.iload_n 3, 1) := by decide +kernel
theorem dX4_ask_91 : decode cX4_ask 91 = .ok (.iload 4, 2) := by decide +kernel
theorem dX4_ask_93 : decode cX4_ask 93 = .ok (.invokevirtual 210, 3) := by decide +kernel
theorem dX4_ask_96 : decode cX4_ask 96 = .ok (.ireturn, 1) := by decide +kernel
set_option maxRecDepth 20000 in
theorem ggX4_cancel_X1_has : GoodIn wsX4_cancel wsX1_has := goodIn_r _ [10, 11, 94, 95] (by decide +kernel) (by decide +kernel)
set_option maxRecDepth 20000 in
theorem gX4_cancel_X1_has : GoodIn wsX4_cancel (wsV RX4 120 RX1 yX1_has wsX1_has) := goodIn_app (goodIn_of _ (by decide +kernel)) ggX4_cancel_X1_has
set_option maxRecDepth 20000 in
theorem ggX4_cancel_X0_remember : GoodIn wsX4_cancel wsX0_remember := goodIn_r _ [16, 17, 18, 19, 20, 21, 22, 23, 24, 25, 26, 27, 28, 29, 30, 31, 32, 33, 34, 35, 36, 37, 38, 39, 40, 41, 42, 43, 44, 45, 46, 47, 48, 9, 49, 50, 11, 96, 97, 98, 85, 86, 87, 88, 89, 90, 91, 92, 93, 94, 95] (by decide +kernel) (by decide +kernel)
set_option maxRecDepth 20000 in
theorem gX4_cancel_X0_remember : GoodIn wsX4_cancel (wsV RX4 206 RX0 yX0_remember wsX0_remember) := goodIn_app (goodIn_of _ (by decide +kernel)) ggX4_cancel_X0_remember
set_option maxRecDepth 20000 in
theorem ggX4_cancel_X2_drop : GoodIn wsX4_cancel wsX2_drop := goodIn_r _ [54, 35, 36, 55, 56, 57, 27, 58, 30, 59, 60, 61, 9, 62, 11, 50, 63, 39, 64, 65, 66, 67, 68, 69, 70, 71, 72, 73, 74, 75, 76, 77, 43, 44, 45, 78, 85, 86, 87, 88, 89, 90, 91, 92, 93, 94, 95] (by decide +kernel) (by decide +kernel)
set_option maxRecDepth 20000 in
theorem gX4_cancel_X2_drop : GoodIn wsX4_cancel (wsV RX4 214 RX2 yX2_drop wsX2_drop) := goodIn_app (goodIn_of _ (by decide +kernel)) ggX4_cancel_X2_drop
theorem dX4_cancel_0 : decode cX4_cancel 0 = .ok (.aload_n 0, 1) := by decide +kernel
theorem dX4_cancel_1 : decode cX4_cancel 1 = .ok (.getfield 19, 3) := by decide +kernel
theorem dX4_cancel_4 : decode cX4_cancel 4 = .ok (.getfield 116, 3) := by decide +kernel
theorem dX4_cancel_7 : decode cX4_cancel 7 = .ok (.iload_n 1, 1) := by decide +kernel
theorem dX4_cancel_8 : decode cX4_cancel 8 = .ok (.invokevirtual 120, 3) := by decide +kernel
theorem dX4_cancel_11 : decode cX4_cancel 11 = .ok (.ifCond .ne 13, 3) := by decide +kernel
theorem dX4_cancel_14 : decode cX4_cancel 14 = .ok (.new 125, 3) := by decide +kernel
theorem dX4_cancel_17 : decode cX4_cancel 17 = .ok (.dup, 1) := by decide +kernel
theorem dX4_cancel_18 : decode cX4_cancel 18 = .ok (.ldc 127, 2) := by decide +kernel
theorem dX4_cancel_20 : decode cX4_cancel 20 = .ok (.invokespecial 129, 3) := by decide +kernel
theorem dX4_cancel_23 : decode cX4_cancel 23 = .ok (.athrow, 1) := by decide +kernel
theorem dX4_cancel_24 : decode cX4_cancel 24 = .ok (.aload_n 0, 1) := by decide +kernel
theorem dX4_cancel_25 : decode cX4_cancel 25 = .ok (.getfield 29, 3) := by decide +kernel
theorem dX4_cancel_28 : decode cX4_cancel 28 = .ok (.aload_n 0, 1) := by decide +kernel
theorem dX4_cancel_29 : decode cX4_cancel 29 = .ok (.getfield 19, 3) := by decide +kernel
theorem dX4_cancel_32 : decode cX4_cancel 32 = .ok (.invokevirtual 206, 3) := by decide +kernel
theorem dX4_cancel_35 : decode cX4_cancel 35 = .ok (.aload_n 0, 1) := by decide +kernel
theorem dX4_cancel_36 : decode cX4_cancel 36 = .ok (.getfield 19, 3) := by decide +kernel
theorem dX4_cancel_39 : decode cX4_cancel 39 = .ok (.iload_n 1, 1) := by decide +kernel
theorem dX4_cancel_40 : decode cX4_cancel 40 = .ok (.invokevirtual 214, 3) := by decide +kernel
theorem dX4_cancel_43 : decode cX4_cancel 43 = .ok (.ireturn, 1) := by decide +kernel
set_option maxRecDepth 20000 in
theorem ggX4_raise_X1_has : GoodIn wsX4_raise wsX1_has := goodIn_r _ [14, 15, 93, 94] (by decide +kernel) (by decide +kernel)
set_option maxRecDepth 20000 in
theorem gX4_raise_X1_has : GoodIn wsX4_raise (wsV RX4 120 RX1 yX1_has wsX1_has) := goodIn_app (goodIn_of _ (by decide +kernel)) ggX4_raise_X1_has
set_option maxRecDepth 20000 in
theorem ggX4_raise_X4_isRaise : GoodIn wsX4_raise wsX4_isRaise := goodIn_r _ [19] (by decide +kernel) (by decide +kernel)
set_option maxRecDepth 20000 in
theorem gX4_raise_X4_isRaise : GoodIn wsX4_raise (va_wsS RX4 217 yX4_isRaise wsX4_isRaise) := goodIn_app (goodIn_of _ (by decide +kernel)) ggX4_raise_X4_isRaise
set_option maxRecDepth 20000 in
theorem ggX4_raise_X2_takesRaise : GoodIn wsX4_raise wsX2_takesRaise := goodIn_r _ [24, 25, 26, 27, 28, 29, 13, 30, 15, 31, 32, 18, 33, 34, 35, 84, 85, 86, 87, 88, 89, 90, 91, 92, 93, 94] (by decide +kernel) (by decide +kernel)
set_option maxRecDepth 20000 in
theorem gX4_raise_X2_takesRaise : GoodIn wsX4_raise (wsV RX4 222 RX2 yX2_takesRaise wsX2_takesRaise) := goodIn_app (goodIn_of _ (by decide +kernel)) ggX4_raise_X2_takesRaise
set_option maxRecDepth 20000 in
theorem ggX4_raise_X0_remember : GoodIn wsX4_raise wsX0_remember := goodIn_r _ [40, 41, 42, 43, 44, 45, 46, 47, 48, 49, 50, 23, 51, 52, 26, 53, 54, 55, 56, 57, 25, 58, 59, 18, 60, 61, 62, 63, 64, 65, 66, 67, 68, 13, 69, 31, 15, 95, 96, 97, 84, 85, 86, 87, 88, 89, 90, 91, 92, 93, 94] (by decide +kernel) (by decide +kernel)
set_option maxRecDepth 20000 in
theorem gX4_raise_X0_remember : GoodIn wsX4_raise (wsV RX4 206 RX0 yX0_remember wsX0_remember) := goodIn_app (goodIn_of _ (by decide +kernel)) ggX4_raise_X0_remember
set_option maxRecDepth 20000 in
theorem ggX4_raise_X2_lift : GoodIn wsX4_raise wsX2_lift := goodIn_r _ [73, 25, 26, 27, 28, 29, 13, 30, 15, 31, 34, 18, 35, 74, 75, 76, 77, 84, 85, 86, 87, 88, 89, 90, 91, 92, 93, 94] (by decide +kernel) (by decide +kernel)
set_option maxRecDepth 20000 in
theorem gX4_raise_X2_lift : GoodIn wsX4_raise (wsV RX4 228 RX2 yX2_lift wsX2_lift) := goodIn_app (goodIn_of _ (by decide +kernel)) ggX4_raise_X2_lift
theorem dX4_raise_0 : decode cX4_raise 0 = .ok (.aload_n 0, 1) := by decide +kernel
theorem dX4_raise_1 : decode cX4_raise 1 = .ok (.getfield 19, 3) := by decide +kernel
theorem dX4_raise_4 : decode cX4_raise 4 = .ok (.getfield 116, 3) := by decide +kernel
theorem dX4_raise_7 : decode cX4_raise 7 = .ok (.iload_n 1, 1) := by decide +kernel
theorem dX4_raise_8 : decode cX4_raise 8 = .ok (.invokevirtual 120, 3) := by decide +kernel
theorem dX4_raise_11 : decode cX4_raise 11 = .ok (.ifCond .ne 13, 3) := by decide +kernel
theorem dX4_raise_14 : decode cX4_raise 14 = .ok (.new 125, 3) := by decide +kernel
theorem dX4_raise_17 : decode cX4_raise 17 = .ok (.dup, 1) := by decide +kernel
theorem dX4_raise_18 : decode cX4_raise 18 = .ok (.ldc 127, 2) := by decide +kernel
theorem dX4_raise_20 : decode cX4_raise 20 = .ok (.invokespecial 129, 3) := by decide +kernel
theorem dX4_raise_23 : decode cX4_raise 23 = .ok (.athrow, 1) := by decide +kernel
theorem dX4_raise_24 : decode cX4_raise 24 = .ok (.iload_n 2, 1) := by decide +kernel
theorem dX4_raise_25 : decode cX4_raise 25 = .ok (.invokestatic 217, 3) := by decide +kernel
theorem dX4_raise_28 : decode cX4_raise 28 = .ok (.ifCond .ne 13, 3) := by decide +kernel
theorem dX4_raise_31 : decode cX4_raise 31 = .ok (.new 41, 3) := by decide +kernel
theorem dX4_raise_34 : decode cX4_raise 34 = .ok (.dup, 1) := by decide +kernel
theorem dX4_raise_35 : decode cX4_raise 35 = .ok (.ldc 220, 2) := by decide +kernel
theorem dX4_raise_37 : decode cX4_raise 37 = .ok (.invokespecial 45, 3) := by decide +kernel
theorem dX4_raise_40 : decode cX4_raise 40 = .ok (.athrow, 1) := by decide +kernel
theorem dX4_raise_41 : decode cX4_raise 41 = .ok (.aload_n 0, 1) := by decide +kernel
theorem dX4_raise_42 : decode cX4_raise 42 = .ok (.getfield 19, 3) := by decide +kernel
theorem dX4_raise_45 : decode cX4_raise 45 = .ok (.iload_n 1, 1) := by decide +kernel
theorem dX4_raise_46 : decode cX4_raise 46 = .ok (.iload_n 2, 1) := by decide +kernel
theorem dX4_raise_47 : decode cX4_raise 47 = .ok (.invokevirtual 222, 3) := by decide +kernel
theorem dX4_raise_50 : decode cX4_raise 50 = .ok (.ifCond .ne 13, 3) := by decide +kernel
theorem dX4_raise_53 : decode cX4_raise 53 = .ok (.new 52, 3) := by decide +kernel
theorem dX4_raise_56 : decode cX4_raise 56 = .ok (.dup, 1) := by decide +kernel
theorem dX4_raise_57 : decode cX4_raise 57 = .ok (.ldc 226, 2) := by decide +kernel
theorem dX4_raise_59 : decode cX4_raise 59 = .ok (.invokespecial 56, 3) := by decide +kernel
theorem dX4_raise_62 : decode cX4_raise 62 = .ok (.athrow, 1) := by decide +kernel
theorem dX4_raise_63 : decode cX4_raise 63 = .ok (.aload_n 0, 1) := by decide +kernel
theorem dX4_raise_64 : decode cX4_raise 64 = .ok (.getfield 29, 3) := by decide +kernel
theorem dX4_raise_67 : decode cX4_raise 67 = .ok (.aload_n 0, 1) := by decide +kernel
theorem dX4_raise_68 : decode cX4_raise 68 = .ok (.getfield 19, 3) := by decide +kernel
theorem dX4_raise_71 : decode cX4_raise 71 = .ok (.invokevirtual 206, 3) := by decide +kernel
theorem dX4_raise_74 : decode cX4_raise 74 = .ok (.aload_n 0, 1) := by decide +kernel
theorem dX4_raise_75 : decode cX4_raise 75 = .ok (.getfield 19, 3) := by decide +kernel
theorem dX4_raise_78 : decode cX4_raise 78 = .ok (.iload_n 1, 1) := by decide +kernel
theorem dX4_raise_79 : decode cX4_raise 79 = .ok (.iload_n 2, 1) := by decide +kernel
theorem dX4_raise_80 : decode cX4_raise 80 = .ok (.invokevirtual 228, 3) := by decide +kernel
theorem dX4_raise_83 : decode cX4_raise 83 = .ok (.ireturn, 1) := by decide +kernel
set_option maxRecDepth 20000 in
theorem ggX4_nights_X4_isNights : GoodIn wsX4_nights wsX4_isNights := goodIn_r _ [8] (by decide +kernel) (by decide +kernel)
set_option maxRecDepth 20000 in
theorem gX4_nights_X4_isNights : GoodIn wsX4_nights (va_wsS RX4 231 yX4_isNights wsX4_isNights) := goodIn_app (goodIn_of _ (by decide +kernel)) ggX4_nights_X4_isNights
set_option maxRecDepth 20000 in
theorem ggX4_nights_X0_remember : GoodIn wsX4_nights wsX0_remember := goodIn_r _ [13, 14, 15, 16, 17, 18, 19, 20, 21, 22, 23, 24, 25, 26, 27, 28, 29, 30, 31, 32, 33, 34, 35, 7, 36, 37, 38, 39, 40, 41, 42, 43, 44, 45, 46, 47, 48, 146, 147, 148, 149, 150, 151, 152, 153, 154, 155, 156, 157, 158, 159] (by decide +kernel) (by decide +kernel)
set_option maxRecDepth 20000 in
theorem gX4_nights_X0_remember : GoodIn wsX4_nights (wsV RX4 206 RX0 yX0_remember wsX0_remember) := goodIn_app (goodIn_of _ (by decide +kernel)) ggX4_nights_X0_remember
set_option maxRecDepth 20000 in
theorem ggX4_nights_X2_number : GoodIn wsX4_nights wsX2_number := goodIn_r _ [52, 33, 32, 53, 54, 55, 45, 56, 48, 57, 58, 59, 24, 60, 61, 62, 63, 64, 47, 65, 66, 67, 68, 30, 149, 150, 151, 152, 153, 154, 155, 156, 157, 158, 159] (by decide +kernel) (by decide +kernel)
set_option maxRecDepth 20000 in
theorem gX4_nights_X2_number : GoodIn wsX4_nights (wsV RX4 113 RX2 yX2_number wsX2_number) := goodIn_app (goodIn_of _ (by decide +kernel)) ggX4_nights_X2_number
set_option maxRecDepth 20000 in
theorem ggX4_nights_X2_passNights : GoodIn wsX4_nights wsX2_passNights := goodIn_r _ [72, 32, 73, 74, 75, 24, 76, 26, 77, 78, 79, 80, 33, 61, 62, 63, 45, 64, 48, 47, 81, 82, 83, 84, 53, 54, 55, 56, 85, 86, 87, 88, 89, 7, 90, 91, 92, 93, 94, 30, 31, 65, 66, 67, 68, 95, 96, 97, 98, 99, 100, 101, 102, 28, 34, 103, 104, 105, 106, 107, 108, 109, 110, 111, 112, 113, 114, 115, 116, 117, 39, 40, 41, 118, 119, 120, 121, 122, 123, 124, 125, 126, 127, 128, 129, 130, 131, 29, 132, 133, 134, 135, 27, 136, 137, 138, 139, 149, 150, 151, 152, 153, 154, 155, 156, 157, 158, 159] (by decide +kernel) (by decide +kernel)
set_option maxRecDepth 20000 in
theorem gX4_nights_X2_passNights : GoodIn wsX4_nights (wsV RX4 107 RX2 yX2_passNights wsX2_passNights) := goodIn_app (goodIn_of _ (by decide +kernel)) ggX4_nights_X2_passNights
theorem dX4_nights_0 : decode cX4_nights 0 = .ok (.iload_n 1, 1) := by decide +kernel
theorem dX4_nights_1 : decode cX4_nights 1 = .ok (.invokestatic 231, 3) := by decide +kernel
theorem dX4_nights_4 : decode cX4_nights 4 = .ok (.ifCond .ne 13, 3) := by decide +kernel
theorem dX4_nights_7 : decode cX4_nights 7 = .ok (.new 41, 3) := by decide +kernel
theorem dX4_nights_10 : decode cX4_nights 10 = .ok (.dup, 1) := by decide +kernel
theorem dX4_nights_11 : decode cX4_nights 11 = .ok (.ldc 234, 2) := by decide +kernel
theorem dX4_nights_13 : decode cX4_nights 13 = .ok (.invokespecial 45, 3) := by decide +kernel
theorem dX4_nights_16 : decode cX4_nights 16 = .ok (.athrow, 1) := by decide +kernel
theorem dX4_nights_17 : decode cX4_nights 17 = .ok (.aload_n 0, 1) := by decide +kernel
theorem dX4_nights_18 : decode cX4_nights 18 = .ok (.getfield 29, 3) := by decide +kernel
theorem dX4_nights_21 : decode cX4_nights 21 = .ok (.aload_n 0, 1) := by decide +kernel
theorem dX4_nights_22 : decode cX4_nights 22 = .ok (.getfield 19, 3) := by decide +kernel
theorem dX4_nights_25 : decode cX4_nights 25 = .ok (.invokevirtual 206, 3) := by decide +kernel
theorem dX4_nights_28 : decode cX4_nights 28 = .ok (.aload_n 0, 1) := by decide +kernel
theorem dX4_nights_29 : decode cX4_nights 29 = .ok (.getfield 19, 3) := by decide +kernel
theorem dX4_nights_32 : decode cX4_nights 32 = .ok (.iconst 2, 1) := by decide +kernel
theorem dX4_nights_33 : decode cX4_nights 33 = .ok (.invokevirtual 113, 3) := by decide +kernel
theorem dX4_nights_36 : decode cX4_nights 36 = .ok (.istore_n 2, 1) := by decide +kernel
theorem dX4_nights_37 : decode cX4_nights 37 = .ok (.aload_n 0, 1) := by decide +kernel
theorem dX4_nights_38 : decode cX4_nights 38 = .ok (.getfield 19, 3) := by decide +kernel
theorem dX4_nights_41 : decode cX4_nights 41 = .ok (.iload_n 1, 1) := by decide +kernel
theorem dX4_nights_42 : decode cX4_nights 42 = .ok (.invokevirtual 107, 3) := by decide +kernel
theorem dX4_nights_45 : decode cX4_nights 45 = .ok (.aload_n 0, 1) := by decide +kernel
theorem dX4_nights_46 : decode cX4_nights 46 = .ok (.getfield 19, 3) := by decide +kernel
theorem dX4_nights_49 : decode cX4_nights 49 = .ok (.iconst 2, 1) := by decide +kernel
theorem dX4_nights_50 : decode cX4_nights 50 = .ok (.invokevirtual 113, 3) := by decide +kernel
theorem dX4_nights_53 : decode cX4_nights 53 = .ok (.iload_n 2, 1) := by decide +kernel
theorem dX4_nights_54 : decode cX4_nights 54 = .ok (.isub, 1) := by decide +kernel
theorem dX4_nights_55 : decode cX4_nights 55 = .ok (.ireturn, 1) := by decide +kernel
set_option maxRecDepth 20000 in
theorem ggX4_give_X4_isReader : GoodIn wsX4_give wsX4_isReader := goodIn_r _ [11] (by decide +kernel) (by decide +kernel)
set_option maxRecDepth 20000 in
theorem gX4_give_X4_isReader : GoodIn wsX4_give (va_wsS RX4 159 yX4_isReader wsX4_isReader) := goodIn_app (goodIn_of _ (by decide +kernel)) ggX4_give_X4_isReader
set_option maxRecDepth 20000 in
theorem ggX4_give_X0_remember : GoodIn wsX4_give wsX0_remember := goodIn_r _ [16, 17, 18, 19, 20, 21, 22, 23, 24, 25, 26, 27, 28, 29, 30, 31, 32, 33, 34, 35, 36, 37, 38, 10, 39, 40, 41, 42, 43, 44, 45, 46, 47, 48, 49, 50, 51, 67, 68, 69, 58, 59, 60, 61, 62, 63, 64, 65, 66, 70, 71] (by decide +kernel) (by decide +kernel)
set_option maxRecDepth 20000 in
theorem gX4_give_X0_remember : GoodIn wsX4_give (wsV RX4 206 RX0 yX0_remember wsX0_remember) := goodIn_app (goodIn_of _ (by decide +kernel)) ggX4_give_X0_remember
theorem dX4_give_0 : decode cX4_give 0 = .ok (.iload_n 1, 1) := by decide +kernel
theorem dX4_give_1 : decode cX4_give 1 = .ok (.invokestatic 159, 3) := by decide +kernel
theorem dX4_give_4 : decode cX4_give 4 = .ok (.ifCond .ne 13, 3) := by decide +kernel
theorem dX4_give_7 : decode cX4_give 7 = .ok (.new 125, 3) := by decide +kernel
theorem dX4_give_10 : decode cX4_give 10 = .ok (.dup, 1) := by decide +kernel
theorem dX4_give_11 : decode cX4_give 11 = .ok (.ldc 162, 2) := by decide +kernel
theorem dX4_give_13 : decode cX4_give 13 = .ok (.invokespecial 129, 3) := by decide +kernel
theorem dX4_give_16 : decode cX4_give 16 = .ok (.athrow, 1) := by decide +kernel
theorem dX4_give_17 : decode cX4_give 17 = .ok (.iload_n 2, 1) := by decide +kernel
theorem dX4_give_18 : decode cX4_give 18 = .ok (.iconst 1, 1) := by decide +kernel
theorem dX4_give_19 : decode cX4_give 19 = .ok (.if_icmp .lt 9, 3) := by decide +kernel
theorem dX4_give_22 : decode cX4_give 22 = .ok (.iload_n 2, 1) := by decide +kernel
theorem dX4_give_23 : decode cX4_give 23 = .ok (.bipush 100, 2) := by decide +kernel
theorem dX4_give_25 : decode cX4_give 25 = .ok (.if_icmp .le 13, 3) := by decide +kernel
theorem dX4_give_28 : decode cX4_give 28 = .ok (.new 41, 3) := by decide +kernel
theorem dX4_give_31 : decode cX4_give 31 = .ok (.dup, 1) := by decide +kernel
theorem dX4_give_32 : decode cX4_give 32 = .ok (.ldc 236, 2) := by decide +kernel
theorem dX4_give_34 : decode cX4_give 34 = .ok (.invokespecial 45, 3) := by decide +kernel
theorem dX4_give_37 : decode cX4_give 37 = .ok (.athrow, 1) := by decide +kernel
theorem dX4_give_38 : decode cX4_give 38 = .ok (.aload_n 0, 1) := by decide +kernel
theorem dX4_give_39 : decode cX4_give 39 = .ok (.getfield 29, 3) := by decide +kernel
theorem dX4_give_42 : decode cX4_give 42 = .ok (.aload_n 0, 1) := by decide +kernel
theorem dX4_give_43 : decode cX4_give 43 = .ok (.getfield 19, 3) := by decide +kernel
theorem dX4_give_46 : decode cX4_give 46 = .ok (.invokevirtual 206, 3) := by decide +kernel
theorem dX4_give_49 : decode cX4_give 49 = .ok (.aload_n 0, 1) := by decide +kernel
theorem dX4_give_50 : decode cX4_give 50 = .ok (.getfield 19, 3) := by decide +kernel
theorem dX4_give_53 : decode cX4_give 53 = .ok (.getfield 164, 3) := by decide +kernel
theorem dX4_give_56 : decode cX4_give 56 = .ok (.iload_n 1, 1) := by decide +kernel
theorem dX4_give_57 : decode cX4_give 57 = .ok (.dup2, 1) := by decide +kernel
theorem dX4_give_58 : decode cX4_give 58 = .ok (.iaload, 1) := by decide +kernel
theorem dX4_give_59 : decode cX4_give 59 = .ok (.iload_n 2, 1) := by decide +kernel
theorem dX4_give_60 : decode cX4_give 60 = .ok (.iadd, 1) := by decide +kernel
theorem dX4_give_61 : decode cX4_give 61 = .ok (.iastore, 1) := by decide +kernel
theorem dX4_give_62 : decode cX4_give 62 = .ok (.aload_n 0, 1) := by decide +kernel
theorem dX4_give_63 : decode cX4_give 63 = .ok (.getfield 19, 3) := by decide +kernel
theorem dX4_give_66 : decode cX4_give 66 = .ok (.getfield 164, 3) := by decide +kernel
theorem dX4_give_69 : decode cX4_give 69 = .ok (.iload_n 1, 1) := by decide +kernel
theorem dX4_give_70 : decode cX4_give 70 = .ok (.iaload, 1) := by decide +kernel
theorem dX4_give_71 : decode cX4_give 71 = .ok (.ireturn, 1) := by decide +kernel
set_option maxRecDepth 20000 in
theorem ggX4_set_X4_isSetting : GoodIn wsX4_set wsX4_isSetting := goodIn_r _ [9] (by decide +kernel) (by decide +kernel)
set_option maxRecDepth 20000 in
theorem gX4_set_X4_isSetting : GoodIn wsX4_set (va_wsS RX4 184 yX4_isSetting wsX4_isSetting) := goodIn_app (goodIn_of _ (by decide +kernel)) ggX4_set_X4_isSetting
set_option maxRecDepth 20000 in
theorem ggX4_set_X4_isSettingValue : GoodIn wsX4_set wsX4_isSettingValue := goodIn_r _ [12, 13, 14, 6, 7, 8, 9] (by decide +kernel) (by decide +kernel)
set_option maxRecDepth 20000 in
theorem gX4_set_X4_isSettingValue : GoodIn wsX4_set (va_wsS RX4 238 yX4_isSettingValue wsX4_isSettingValue) := goodIn_app (goodIn_of _ (by decide +kernel)) ggX4_set_X4_isSettingValue
set_option maxRecDepth 20000 in
theorem ggX4_set_X0_remember : GoodIn wsX4_set wsX0_remember := goodIn_r _ [19, 20, 21, 22, 23, 24, 25, 26, 27, 28, 29, 30, 31, 32, 33, 34, 35, 36, 37, 38, 39, 40, 41, 8, 42, 43, 44, 45, 46, 47, 48, 49, 50, 51, 52, 53, 54, 74, 75, 76, 65, 66, 67, 68, 69, 70, 71, 72, 73, 77, 78] (by decide +kernel) (by decide +kernel)
set_option maxRecDepth 20000 in
theorem gX4_set_X0_remember : GoodIn wsX4_set (wsV RX4 206 RX0 yX0_remember wsX0_remember) := goodIn_app (goodIn_of _ (by decide +kernel)) ggX4_set_X0_remember
set_option maxRecDepth 20000 in
theorem ggX4_set_X2_change : GoodIn wsX4_set wsX2_change := goodIn_r _ [58, 32, 7, 8, 9, 65, 66, 67, 68, 69, 70, 71, 72, 73] (by decide +kernel) (by decide +kernel)
set_option maxRecDepth 20000 in
theorem gX4_set_X2_change : GoodIn wsX4_set (wsV RX4 80 RX2 yX2_change wsX2_change) := goodIn_app (goodIn_of _ (by decide +kernel)) ggX4_set_X2_change
theorem dX4_set_0 : decode cX4_set 0 = .ok (.iload_n 1, 1) := by decide +kernel
theorem dX4_set_1 : decode cX4_set 1 = .ok (.invokestatic 184, 3) := by decide +kernel
theorem dX4_set_4 : decode cX4_set 4 = .ok (.ifCond .eq 11, 3) := by decide +kernel
theorem dX4_set_7 : decode cX4_set 7 = .ok (.iload_n 1, 1) := by decide +kernel
theorem dX4_set_8 : decode cX4_set 8 = .ok (.iload_n 2, 1) := by decide +kernel
theorem dX4_set_9 : decode cX4_set 9 = .ok (.invokestatic 238, 3) := by decide +kernel
theorem dX4_set_12 : decode cX4_set 12 = .ok (.ifCond .ne 13, 3) := by decide +kernel
theorem dX4_set_15 : decode cX4_set 15 = .ok (.new 41, 3) := by decide +kernel
theorem dX4_set_18 : decode cX4_set 18 = .ok (.dup, 1) := by decide +kernel
theorem dX4_set_19 : decode cX4_set 19 = .ok (.ldc 241, 2) := by decide +kernel
theorem dX4_set_21 : decode cX4_set 21 = .ok (.invokespecial 45, 3) := by decide +kernel
theorem dX4_set_24 : decode cX4_set 24 = .ok (.athrow, 1) := by decide +kernel
theorem dX4_set_25 : decode cX4_set 25 = .ok (.aload_n 0, 1) := by decide +kernel
theorem dX4_set_26 : decode cX4_set 26 = .ok (.getfield 29, 3) := by decide +kernel
theorem dX4_set_29 : decode cX4_set 29 = .ok (.aload_n 0, 1) := by decide +kernel
theorem dX4_set_30 : decode cX4_set 30 = .ok (.getfield 19, 3) := by decide +kernel
theorem dX4_set_33 : decode cX4_set 33 = .ok (.invokevirtual 206, 3) := by decide +kernel
theorem dX4_set_36 : decode cX4_set 36 = .ok (.aload_n 0, 1) := by decide +kernel
theorem dX4_set_37 : decode cX4_set 37 = .ok (.getfield 19, 3) := by decide +kernel
theorem dX4_set_40 : decode cX4_set 40 = .ok (.getfield 187, 3) := by decide +kernel
theorem dX4_set_43 : decode cX4_set 43 = .ok (.iload_n 1, 1) := by decide +kernel
theorem dX4_set_44 : decode cX4_set 44 = .ok (.iaload, 1) := by decide +kernel
theorem dX4_set_45 : decode cX4_set 45 = .ok (.istore_n 3, 1) := by decide +kernel
theorem dX4_set_46 : decode cX4_set 46 = .ok (.aload_n 0, 1) := by decide +kernel
theorem dX4_set_47 : decode cX4_set 47 = .ok (.getfield 19, 3) := by decide +kernel
theorem dX4_set_50 : decode cX4_set 50 = .ok (.iload_n 1, 1) := by decide +kernel
theorem dX4_set_51 : decode cX4_set 51 = .ok (.iload_n 2, 1) := by decide +kernel
theorem dX4_set_52 : decode cX4_set 52 = .ok (.invokevirtual 80, 3) := by decide +kernel
theorem dX4_set_55 : decode cX4_set 55 = .ok (.iload_n 3, 1) := by decide +kernel
theorem dX4_set_56 : decode cX4_set 56 = .ok (.ireturn, 1) := by decide +kernel
set_option maxRecDepth 20000 in
theorem ggX4_undo_X0_isEmpty : GoodIn wsX4_undo wsX0_isEmpty := goodIn_r _ [9, 10, 58, 59, 60] (by decide +kernel) (by decide +kernel)
set_option maxRecDepth 20000 in
theorem gX4_undo_X0_isEmpty : GoodIn wsX4_undo (wsV RX4 243 RX0 yX0_isEmpty wsX0_isEmpty) := goodIn_app (goodIn_of _ (by decide +kernel)) ggX4_undo_X0_isEmpty
set_option maxRecDepth 20000 in
theorem ggX4_undo_X0_takeBack : GoodIn wsX4_undo wsX0_takeBack := goodIn_r _ [14, 15, 10, 16, 17, 18, 19, 20, 21, 22, 23, 24, 25, 26, 27, 28, 29, 30, 31, 32, 33, 34, 35, 36, 37, 38, 39, 40, 41, 42, 43, 44, 45, 46, 47, 48, 49, 50, 51, 58, 59, 60, 61, 62, 63, 64, 65, 66, 67, 68, 69, 70, 71] (by decide +kernel) (by decide +kernel)
set_option maxRecDepth 20000 in
theorem gX4_undo_X0_takeBack : GoodIn wsX4_undo (wsV RX4 248 RX0 yX0_takeBack wsX0_takeBack) := goodIn_app (goodIn_of _ (by decide +kernel)) ggX4_undo_X0_takeBack
theorem dX4_undo_0 : decode cX4_undo 0 = .ok (.aload_n 0, 1) := by decide +kernel
theorem dX4_undo_1 : decode cX4_undo 1 = .ok (.getfield 29, 3) := by decide +kernel
theorem dX4_undo_4 : decode cX4_undo 4 = .ok (.invokevirtual 243, 3) := by decide +kernel
theorem dX4_undo_7 : decode cX4_undo 7 = .ok (.ifCond .eq 13, 3) := by decide +kernel
theorem dX4_undo_10 : decode cX4_undo 10 = .ok (.new 52, 3) := by decide +kernel
theorem dX4_undo_13 : decode cX4_undo 13 = .ok (.dup, 1) := by decide +kernel
theorem dX4_undo_14 : decode cX4_undo 14 = .ok (.ldc 246, 2) := by decide +kernel
theorem dX4_undo_16 : decode cX4_undo 16 = .ok (.invokespecial 56, 3) := by decide +kernel
theorem dX4_undo_19 : decode cX4_undo 19 = .ok (.athrow, 1) := by decide +kernel
theorem dX4_undo_20 : decode cX4_undo 20 = .ok (.aload_n 0, 1) := by decide +kernel
theorem dX4_undo_21 : decode cX4_undo 21 = .ok (.getfield 29, 3) := by decide +kernel
theorem dX4_undo_24 : decode cX4_undo 24 = .ok (.aload_n 0, 1) := by decide +kernel
theorem dX4_undo_25 : decode cX4_undo 25 = .ok (.getfield 19, 3) := by decide +kernel
theorem dX4_undo_28 : decode cX4_undo 28 = .ok (.invokevirtual 248, 3) := by decide +kernel
theorem dX4_undo_31 : decode cX4_undo 31 = .ok (.ireturn, 1) := by decide +kernel
set_option maxRecDepth 20000 in
theorem ggX4_arrives_X1_has : GoodIn wsX4_arrives wsX1_has := goodIn_r _ [15, 16, 149, 150] (by decide +kernel) (by decide +kernel)
set_option maxRecDepth 20000 in
theorem gX4_arrives_X1_has : GoodIn wsX4_arrives (wsV RX4 120 RX1 yX1_has wsX1_has) := goodIn_app (goodIn_of _ (by decide +kernel)) ggX4_arrives_X1_has
set_option maxRecDepth 20000 in
theorem ggX4_arrives_X1_get : GoodIn wsX4_arrives wsX1_get := goodIn_r _ [20, 16, 21, 149, 150] (by decide +kernel) (by decide +kernel)
set_option maxRecDepth 20000 in
theorem gX4_arrives_X1_get : GoodIn wsX4_arrives (wsV RX4 135 RX1 yX1_get wsX1_get) := goodIn_app (goodIn_of _ (by decide +kernel)) ggX4_arrives_X1_get
set_option maxRecDepth 20000 in
theorem ggX4_arrives_X2_copyFrom : GoodIn wsX4_arrives wsX2_copyFrom := goodIn_r _ [26, 27, 28, 29, 30, 31, 32, 33, 34, 35, 36, 37, 38, 39, 40, 8, 41, 42, 43, 44, 45, 46, 47, 48, 14, 49, 21, 16, 140, 141, 142, 143, 144, 145, 146, 147, 148, 149, 150] (by decide +kernel) (by decide +kernel)
set_option maxRecDepth 20000 in
theorem gX4_arrives_X2_copyFrom : GoodIn wsX4_arrives (wsV RX4 257 RX2 yX2_copyFrom wsX2_copyFrom) := goodIn_app (goodIn_of _ (by decide +kernel)) ggX4_arrives_X2_copyFrom
set_option maxRecDepth 20000 in
theorem ggX4_arrives_X2_passNights : GoodIn wsX4_arrives wsX2_passNights := goodIn_r _ [53, 33, 54, 55, 56, 25, 57, 27, 58, 59, 60, 61, 34, 62, 18, 19, 14, 20, 16, 21, 63, 64, 65, 66, 67, 68, 69, 70, 71, 72, 73, 74, 75, 37, 76, 77, 78, 79, 80, 31, 32, 81, 82, 83, 84, 85, 86, 87, 88, 89, 90, 91, 92, 29, 35, 93, 94, 95, 96, 97, 98, 99, 100, 101, 102, 103, 104, 105, 106, 107, 43, 44, 45, 108, 109, 110, 111, 112, 113, 114, 115, 116, 117, 118, 119, 120, 121, 30, 122, 123, 124, 125, 28, 126, 127, 128, 129, 140, 141, 142, 143, 144, 145, 146, 147, 148, 149, 150] (by decide +kernel) (by decide +kernel)
set_option maxRecDepth 20000 in
theorem gX4_arrives_X2_passNights : GoodIn wsX4_arrives (wsV RX4 107 RX2 yX2_passNights wsX2_passNights) := goodIn_app (goodIn_of _ (by decide +kernel)) ggX4_arrives_X2_passNights
set_option maxRecDepth 20000 in
theorem ggX4_arrives_X2_takenMoreThan : GoodIn wsX4_arrives wsX2_takenMoreThan := goodIn_r _ [133, 32, 75, 37, 76, 140, 141, 142, 143, 144, 145, 146, 147, 148] (by decide +kernel) (by decide +kernel)
set_option maxRecDepth 20000 in
theorem gX4_arrives_X2_takenMoreThan : GoodIn wsX4_arrives (wsV RX4 260 RX2 yX2_takenMoreThan wsX2_takenMoreThan) := goodIn_app (goodIn_of _ (by decide +kernel)) ggX4_arrives_X2_takenMoreThan
theorem dX4_arrives_0 : decode cX4_arrives 0 = .ok (.aload_n 0, 1) := by decide +kernel
theorem dX4_arrives_1 : decode cX4_arrives 1 = .ok (.getfield 19, 3) := by decide +kernel
theorem dX4_arrives_4 : decode cX4_arrives 4 = .ok (.getfield 116, 3) := by decide +kernel
theorem dX4_arrives_7 : decode cX4_arrives 7 = .ok (.iload_n 1, 1) := by decide +kernel
theorem dX4_arrives_8 : decode cX4_arrives 8 = .ok (.invokevirtual 120, 3) := by decide +kernel
theorem dX4_arrives_11 : decode cX4_arrives 11 = .ok (.ifCond .ne 13, 3) := by decide +kernel
theorem dX4_arrives_14 : decode cX4_arrives 14 = .ok (.new 125, 3) := by decide +kernel
theorem dX4_arrives_17 : decode cX4_arrives 17 = .ok (.dup, 1) := by decide +kernel
theorem dX4_arrives_18 : decode cX4_arrives 18 = .ok (.ldc 127, 2) := by decide +kernel
theorem dX4_arrives_20 : decode cX4_arrives 20 = .ok (.invokespecial 129, 3) := by decide +kernel
theorem dX4_arrives_23 : decode cX4_arrives 23 = .ok (.athrow, 1) := by decide +kernel
theorem dX4_arrives_24 : decode cX4_arrives 24 = .ok (.aload_n 0, 1) := by decide +kernel
theorem dX4_arrives_25 : decode cX4_arrives 25 = .ok (.getfield 19, 3) := by decide +kernel
theorem dX4_arrives_28 : decode cX4_arrives 28 = .ok (.getfield 116, 3) := by decide +kernel
theorem dX4_arrives_31 : decode cX4_arrives 31 = .ok (.iload_n 1, 1) := by decide +kernel
theorem dX4_arrives_32 : decode cX4_arrives 32 = .ok (.iconst 1, 1) := by decide +kernel
theorem dX4_arrives_33 : decode cX4_arrives 33 = .ok (.invokevirtual 135, 3) := by decide +kernel
theorem dX4_arrives_36 : decode cX4_arrives 36 = .ok (.istore_n 2, 1) := by decide +kernel
theorem dX4_arrives_37 : decode cX4_arrives 37 = .ok (.iconst 1, 1) := by decide +kernel
theorem dX4_arrives_38 : decode cX4_arrives 38 = .ok (.aload_n 0, 1) := by decide +kernel
theorem dX4_arrives_39 : decode cX4_arrives 39 = .ok (.getfield 19, 3) := by decide +kernel
theorem dX4_arrives_42 : decode cX4_arrives 42 = .ok (.getfield 187, 3) := by decide +kernel
theorem dX4_arrives_45 : decode cX4_arrives 45 = .ok (.iconst 3, 1) := by decide +kernel
theorem dX4_arrives_46 : decode cX4_arrives 46 = .ok (.iaload, 1) := by decide +kernel
theorem dX4_arrives_47 : decode cX4_arrives 47 = .ok (.aload_n 0, 1) := by decide +kernel
theorem dX4_arrives_48 : decode cX4_arrives 48 = .ok (.getfield 19, 3) := by decide +kernel
theorem dX4_arrives_51 : decode cX4_arrives 51 = .ok (.getfield 116, 3) := by decide +kernel
theorem dX4_arrives_54 : decode cX4_arrives 54 = .ok (.iload_n 1, 1) := by decide +kernel
theorem dX4_arrives_55 : decode cX4_arrives 55 = .ok (.iconst 4, 1) := by decide +kernel
theorem dX4_arrives_56 : decode cX4_arrives 56 = .ok (.invokevirtual 135, 3) := by decide +kernel
theorem dX4_arrives_59 : decode cX4_arrives 59 = .ok (.isub, 1) := by decide +kernel
theorem dX4_arrives_60 : decode cX4_arrives 60 = .ok (.invokestatic 252, 3) := by decide +kernel
theorem dX4_arrives_63 : decode cX4_arrives 63 = .ok (.istore_n 3, 1) := by decide +kernel
theorem dX4_arrives_64 : decode cX4_arrives 64 = .ok (.aload_n 0, 1) := by decide +kernel
theorem dX4_arrives_65 : decode cX4_arrives 65 = .ok (.getfield 23, 3) := by decide +kernel
theorem dX4_arrives_68 : decode cX4_arrives 68 = .ok (.aload_n 0, 1) := by decide +kernel
theorem dX4_arrives_69 : decode cX4_arrives 69 = .ok (.getfield 19, 3) := by decide +kernel
theorem dX4_arrives_72 : decode cX4_arrives 72 = .ok (.invokevirtual 257, 3) := by decide +kernel
theorem dX4_arrives_75 : decode cX4_arrives 75 = .ok (.iconst 1, 1) := by decide +kernel
theorem dX4_arrives_76 : decode cX4_arrives 76 = .ok (.istore 4, 2) := by decide +kernel
theorem dX4_arrives_78 : decode cX4_arrives 78 = .ok (.iload 4, 2) := by decide +kernel
theorem dX4_arrives_80 : decode cX4_arrives 80 = .ok (.iload_n 3, 1) := by decide +kernel
theorem dX4_arrives_81 : decode cX4_arrives 81 = .ok (.if_icmp .gt 35, 3) := by decide +kernel
theorem dX4_arrives_84 : decode cX4_arrives 84 = .ok (.aload_n 0, 1) := by decide +kernel
theorem dX4_arrives_85 : decode cX4_arrives 85 = .ok (.getfield 23, 3) := by decide +kernel
theorem dX4_arrives_88 : decode cX4_arrives 88 = .ok (.iconst 1, 1) := by decide +kernel
theorem dX4_arrives_89 : decode cX4_arrives 89 = .ok (.invokevirtual 107, 3) := by decide +kernel
theorem dX4_arrives_92 : decode cX4_arrives 92 = .ok (.aload_n 0, 1) := by decide +kernel
theorem dX4_arrives_93 : decode cX4_arrives 93 = .ok (.getfield 23, 3) := by decide +kernel
theorem dX4_arrives_96 : decode cX4_arrives 96 = .ok (.aload_n 0, 1) := by decide +kernel
theorem dX4_arrives_97 : decode cX4_arrives 97 = .ok (.getfield 19, 3) := by decide +kernel
theorem dX4_arrives_100 : decode cX4_arrives 100 = .ok (.iload_n 2, 1) := by decide +kernel
theorem dX4_arrives_101 : decode cX4_arrives 101 = .ok (.invokevirtual 260, 3) := by decide +kernel
theorem dX4_arrives_104 : decode cX4_arrives 104 = .ok (.ifCond .eq 6, 3) := by decide +kernel
theorem dX4_arrives_107 : decode cX4_arrives 107 = .ok (.iload 4, 2) := by decide +kernel
theorem dX4_arrives_109 : decode cX4_arrives 109 = .ok (.ireturn, 1) := by decide +kernel
theorem dX4_arrives_110 : decode cX4_arrives 110 = .ok (.iinc 4 1, 3) := by decide +kernel
theorem dX4_arrives_113 : decode cX4_arrives 113 = .ok (.goto (-35), 3) := by decide +kernel
theorem dX4_arrives_116 : decode cX4_arrives 116 = .ok (.iconst (-1), 1) := by decide +kernel
theorem dX4_arrives_117 : decode cX4_arrives 117 = .ok (.ireturn, 1) := by decide +kernel
set_option maxRecDepth 20000 in
theorem ggX4_next_X2_copyFrom : GoodIn wsX4_next wsX2_copyFrom := goodIn_r _ [10, 11, 12, 13, 14, 15, 16, 17, 18, 19, 20, 21, 22, 23, 24, 25, 26, 27, 28, 29, 30, 31, 32, 33, 34, 35, 36, 37, 103, 104, 105, 106, 107, 108, 109, 110, 111, 112, 113] (by decide +kernel) (by decide +kernel)
set_option maxRecDepth 20000 in
theorem gX4_next_X2_copyFrom : GoodIn wsX4_next (wsV RX4 257 RX2 yX2_copyFrom wsX2_copyFrom) := goodIn_app (goodIn_of _ (by decide +kernel)) ggX4_next_X2_copyFrom
set_option maxRecDepth 20000 in
theorem ggX4_next_X2_wantedLot : GoodIn wsX4_next wsX2_wantedLot := goodIn_r _ [41, 11, 18, 42, 43, 44, 34, 45, 37, 36, 46, 47, 48, 9, 49, 50, 51, 52, 53, 54, 55, 56, 57, 103, 104, 105, 106, 107, 108, 109, 110, 111, 112, 113] (by decide +kernel) (by decide +kernel)
set_option maxRecDepth 20000 in
theorem gX4_next_X2_wantedLot : GoodIn wsX4_next (wsV RX4 266 RX2 yX2_wantedLot wsX2_wantedLot) := goodIn_app (goodIn_of _ (by decide +kernel)) ggX4_next_X2_wantedLot
set_option maxRecDepth 20000 in
theorem ggX4_next_X4_isLot : GoodIn wsX4_next wsX4_isLot := goodIn_r _ [60] (by decide +kernel) (by decide +kernel)
set_option maxRecDepth 20000 in
theorem gX4_next_X4_isLot : GoodIn wsX4_next (va_wsS RX4 139 yX4_isLot wsX4_isLot) := goodIn_app (goodIn_of _ (by decide +kernel)) ggX4_next_X4_isLot
set_option maxRecDepth 20000 in
theorem ggX4_next_X2_bring : GoodIn wsX4_next wsX2_bring := goodIn_r _ [64, 11, 15, 16, 17, 18, 65, 66, 67, 9, 68, 69, 70, 71, 72, 59, 21, 60, 50, 51, 52, 34, 53, 37, 42, 43, 44, 45, 36, 73, 74, 75, 76, 13, 19, 77, 78, 79, 80, 81, 82, 83, 84, 85, 86, 87, 88, 89, 90, 91, 28, 29, 30, 92, 93, 94, 95, 96, 103, 104, 105, 106, 107, 108, 109, 110, 111, 112, 113] (by decide +kernel) (by decide +kernel)
set_option maxRecDepth 20000 in
theorem gX4_next_X2_bring : GoodIn wsX4_next (wsV RX4 269 RX2 yX2_bring wsX2_bring) := goodIn_app (goodIn_of _ (by decide +kernel)) ggX4_next_X2_bring
theorem dX4_next_0 : decode cX4_next 0 = .ok (.iload_n 1, 1) := by decide +kernel
theorem dX4_next_1 : decode cX4_next 1 = .ok (.ifCond .ge 14, 3) := by decide +kernel
theorem dX4_next_4 : decode cX4_next 4 = .ok (.new 41, 3) := by decide +kernel
theorem dX4_next_7 : decode cX4_next 7 = .ok (.dup, 1) := by decide +kernel
theorem dX4_next_8 : decode cX4_next 8 = .ok (.ldc_w 264, 3) := by decide +kernel
theorem dX4_next_11 : decode cX4_next 11 = .ok (.invokespecial 45, 3) := by decide +kernel
theorem dX4_next_14 : decode cX4_next 14 = .ok (.athrow, 1) := by decide +kernel
theorem dX4_next_15 : decode cX4_next 15 = .ok (.aload_n 0, 1) := by decide +kernel
theorem dX4_next_16 : decode cX4_next 16 = .ok (.getfield 23, 3) := by decide +kernel
theorem dX4_next_19 : decode cX4_next 19 = .ok (.aload_n 0, 1) := by decide +kernel
theorem dX4_next_20 : decode cX4_next 20 = .ok (.getfield 19, 3) := by decide +kernel
theorem dX4_next_23 : decode cX4_next 23 = .ok (.invokevirtual 257, 3) := by decide +kernel
theorem dX4_next_26 : decode cX4_next 26 = .ok (.iconst 0, 1) := by decide +kernel
theorem dX4_next_27 : decode cX4_next 27 = .ok (.istore_n 2, 1) := by decide +kernel
theorem dX4_next_28 : decode cX4_next 28 = .ok (.iload_n 2, 1) := by decide +kernel
theorem dX4_next_29 : decode cX4_next 29 = .ok (.aload_n 0, 1) := by decide +kernel
theorem dX4_next_30 : decode cX4_next 30 = .ok (.getfield 23, 3) := by decide +kernel
theorem dX4_next_33 : decode cX4_next 33 = .ok (.getfield 187, 3) := by decide +kernel
theorem dX4_next_36 : decode cX4_next 36 = .ok (.iconst 0, 1) := by decide +kernel
theorem dX4_next_37 : decode cX4_next 37 = .ok (.iaload, 1) := by decide +kernel
theorem dX4_next_38 : decode cX4_next 38 = .ok (.if_icmp .ge 39, 3) := by decide +kernel
theorem dX4_next_41 : decode cX4_next 41 = .ok (.aload_n 0, 1) := by decide +kernel
theorem dX4_next_42 : decode cX4_next 42 = .ok (.getfield 23, 3) := by decide +kernel
theorem dX4_next_45 : decode cX4_next 45 = .ok (.invokevirtual 266, 3) := by decide +kernel
theorem dX4_next_48 : decode cX4_next 48 = .ok (.istore_n 3, 1) := by decide +kernel
theorem dX4_next_49 : decode cX4_next 49 = .ok (.iload_n 3, 1) := by decide +kernel
theorem dX4_next_50 : decode cX4_next 50 = .ok (.invokestatic 139, 3) := by decide +kernel
theorem dX4_next_53 : decode cX4_next 53 = .ok (.ifCond .eq 8, 3) := by decide +kernel
theorem dX4_next_56 : decode cX4_next 56 = .ok (.iload_n 2, 1) := by decide +kernel
theorem dX4_next_57 : decode cX4_next 57 = .ok (.iload_n 1, 1) := by decide +kernel
theorem dX4_next_58 : decode cX4_next 58 = .ok (.if_icmp .ne 5, 3) := by decide +kernel
theorem dX4_next_61 : decode cX4_next 61 = .ok (.iload_n 3, 1) := by decide +kernel
theorem dX4_next_62 : decode cX4_next 62 = .ok (.ireturn, 1) := by decide +kernel
theorem dX4_next_63 : decode cX4_next 63 = .ok (.aload_n 0, 1) := by decide +kernel
theorem dX4_next_64 : decode cX4_next 64 = .ok (.getfield 23, 3) := by decide +kernel
theorem dX4_next_67 : decode cX4_next 67 = .ok (.iload_n 3, 1) := by decide +kernel
theorem dX4_next_68 : decode cX4_next 68 = .ok (.invokevirtual 269, 3) := by decide +kernel
theorem dX4_next_71 : decode cX4_next 71 = .ok (.iinc 2 1, 3) := by decide +kernel
theorem dX4_next_74 : decode cX4_next 74 = .ok (.goto (-46), 3) := by decide +kernel
theorem dX4_next_77 : decode cX4_next 77 = .ok (.iconst (-1), 1) := by decide +kernel
theorem dX4_next_78 : decode cX4_next 78 = .ok (.ireturn, 1) := by decide +kernel
set_option maxRecDepth 20000 in
theorem ggX4_feeFor_X4_isLot : GoodIn wsX4_feeFor wsX4_isLot := goodIn_r _ [9] (by decide +kernel) (by decide +kernel)
set_option maxRecDepth 20000 in
theorem gX4_feeFor_X4_isLot : GoodIn wsX4_feeFor (va_wsS RX4 139 yX4_isLot wsX4_isLot) := goodIn_app (goodIn_of _ (by decide +kernel)) ggX4_feeFor_X4_isLot
set_option maxRecDepth 20000 in
theorem ggX4_feeFor_X2_isInFront : GoodIn wsX4_feeFor wsX2_isInFront := goodIn_r _ [14, 15, 7, 8, 9, 137, 138, 139, 140, 141, 142, 143, 144, 145] (by decide +kernel) (by decide +kernel)
set_option maxRecDepth 20000 in
theorem gX4_feeFor_X2_isInFront : GoodIn wsX4_feeFor (wsV RX4 272 RX2 yX2_isInFront wsX2_isInFront) := goodIn_app (goodIn_of _ (by decide +kernel)) ggX4_feeFor_X2_isInFront
set_option maxRecDepth 20000 in
theorem ggX4_feeFor_X2_copyFrom : GoodIn wsX4_feeFor wsX2_copyFrom := goodIn_r _ [19, 20, 21, 22, 23, 15, 24, 25, 26, 27, 28, 8, 29, 30, 31, 32, 33, 34, 35, 36, 37, 38, 39, 40, 41, 42, 43, 44, 137, 138, 139, 140, 141, 142, 143, 144, 145, 146, 147] (by decide +kernel) (by decide +kernel)
set_option maxRecDepth 20000 in
theorem gX4_feeFor_X2_copyFrom : GoodIn wsX4_feeFor (wsV RX4 257 RX2 yX2_copyFrom wsX2_copyFrom) := goodIn_app (goodIn_of _ (by decide +kernel)) ggX4_feeFor_X2_copyFrom
set_option maxRecDepth 20000 in
theorem ggX4_feeFor_X1_add : GoodIn wsX4_feeFor wsX1_add := goodIn_r _ [48, 44, 43, 146, 147] (by decide +kernel) (by decide +kernel)
set_option maxRecDepth 20000 in
theorem gX4_feeFor_X1_add : GoodIn wsX4_feeFor (wsV RX4 275 RX1 yX1_add wsX1_add) := goodIn_app (goodIn_of _ (by decide +kernel)) ggX4_feeFor_X1_add
set_option maxRecDepth 20000 in
theorem ggX4_feeFor_X2_passNights : GoodIn wsX4_feeFor wsX2_passNights := goodIn_r _ [52, 25, 53, 54, 55, 13, 56, 20, 57, 58, 59, 60, 26, 61, 62, 63, 41, 64, 44, 43, 65, 66, 67, 68, 69, 70, 71, 72, 73, 74, 75, 76, 7, 8, 9, 77, 78, 79, 80, 15, 24, 81, 82, 83, 84, 85, 86, 87, 88, 89, 90, 91, 92, 22, 27, 93, 94, 95, 96, 97, 98, 99, 100, 101, 102, 103, 104, 105, 106, 107, 35, 36, 37, 108, 109, 46, 47, 48, 110, 111, 112, 113, 114, 115, 116, 117, 118, 23, 119, 120, 121, 122, 21, 123, 124, 125, 126, 137, 138, 139, 140, 141, 142, 143, 144, 145, 146, 147] (by decide +kernel) (by decide +kernel)
set_option maxRecDepth 20000 in
theorem gX4_feeFor_X2_passNights : GoodIn wsX4_feeFor (wsV RX4 107 RX2 yX2_passNights wsX2_passNights) := goodIn_app (goodIn_of _ (by decide +kernel)) ggX4_feeFor_X2_passNights
set_option maxRecDepth 20000 in
theorem ggX4_feeFor_X2_takenMoreThan : GoodIn wsX4_feeFor wsX2_takenMoreThan := goodIn_r _ [130, 24, 7, 8, 9, 137, 138, 139, 140, 141, 142, 143, 144, 145] (by decide +kernel) (by decide +kernel)
set_option maxRecDepth 20000 in
theorem gX4_feeFor_X2_takenMoreThan : GoodIn wsX4_feeFor (wsV RX4 260 RX2 yX2_takenMoreThan wsX2_takenMoreThan) := goodIn_app (goodIn_of _ (by decide +kernel)) ggX4_feeFor_X2_takenMoreThan
theorem dX4_feeFor_0 : decode cX4_feeFor 0 = .ok (.iload_n 1, 1) := by decide +kernel
theorem dX4_feeFor_1 : decode cX4_feeFor 1 = .ok (.invokestatic 139, 3) := by decide +kernel
theorem dX4_feeFor_4 : decode cX4_feeFor 4 = .ok (.ifCond .ne 13, 3) := by decide +kernel
theorem dX4_feeFor_7 : decode cX4_feeFor 7 = .ok (.new 125, 3) := by decide +kernel
theorem dX4_feeFor_10 : decode cX4_feeFor 10 = .ok (.dup, 1) := by decide +kernel
theorem dX4_feeFor_11 : decode cX4_feeFor 11 = .ok (.ldc 142, 2) := by decide +kernel
theorem dX4_feeFor_13 : decode cX4_feeFor 13 = .ok (.invokespecial 129, 3) := by decide +kernel
theorem dX4_feeFor_16 : decode cX4_feeFor 16 = .ok (.athrow, 1) := by decide +kernel
theorem dX4_feeFor_17 : decode cX4_feeFor 17 = .ok (.aload_n 0, 1) := by decide +kernel
theorem dX4_feeFor_18 : decode cX4_feeFor 18 = .ok (.getfield 19, 3) := by decide +kernel
theorem dX4_feeFor_21 : decode cX4_feeFor 21 = .ok (.iload_n 1, 1) := by decide +kernel
theorem dX4_feeFor_22 : decode cX4_feeFor 22 = .ok (.invokevirtual 272, 3) := by decide +kernel
theorem dX4_feeFor_25 : decode cX4_feeFor 25 = .ok (.ifCond .eq 5, 3) := by decide +kernel
theorem dX4_feeFor_28 : decode cX4_feeFor 28 = .ok (.iconst 0, 1) := by decide +kernel
theorem dX4_feeFor_29 : decode cX4_feeFor 29 = .ok (.ireturn, 1) := by decide +kernel
theorem dX4_feeFor_30 : decode cX4_feeFor 30 = .ok (.iconst 0, 1) := by decide +kernel
theorem dX4_feeFor_31 : decode cX4_feeFor 31 = .ok (.istore_n 2, 1) := by decide +kernel
theorem dX4_feeFor_32 : decode cX4_feeFor 32 = .ok (.iload_n 2, 1) := by decide +kernel
theorem dX4_feeFor_33 : decode cX4_feeFor 33 = .ok (.bipush 9, 2) := by decide +kernel
theorem dX4_feeFor_35 : decode cX4_feeFor 35 = .ok (.if_icmp .gt 61, 3) := by decide +kernel
theorem dX4_feeFor_38 : decode cX4_feeFor 38 = .ok (.aload_n 0, 1) := by decide +kernel
theorem dX4_feeFor_39 : decode cX4_feeFor 39 = .ok (.getfield 23, 3) := by decide +kernel
theorem dX4_feeFor_42 : decode cX4_feeFor 42 = .ok (.aload_n 0, 1) := by decide +kernel
theorem dX4_feeFor_43 : decode cX4_feeFor 43 = .ok (.getfield 19, 3) := by decide +kernel
theorem dX4_feeFor_46 : decode cX4_feeFor 46 = .ok (.invokevirtual 257, 3) := by decide +kernel
theorem dX4_feeFor_49 : decode cX4_feeFor 49 = .ok (.aload_n 0, 1) := by decide +kernel
theorem dX4_feeFor_50 : decode cX4_feeFor 50 = .ok (.getfield 23, 3) := by decide +kernel
theorem dX4_feeFor_53 : decode cX4_feeFor 53 = .ok (.getfield 116, 3) := by decide +kernel
theorem dX4_feeFor_56 : decode cX4_feeFor 56 = .ok (.iconst 0, 1) := by decide +kernel
theorem dX4_feeFor_57 : decode cX4_feeFor 57 = .ok (.iload_n 1, 1) := by decide +kernel
theorem dX4_feeFor_58 : decode cX4_feeFor 58 = .ok (.iconst 0, 1) := by decide +kernel
theorem dX4_feeFor_59 : decode cX4_feeFor 59 = .ok (.iload_n 2, 1) := by decide +kernel
theorem dX4_feeFor_60 : decode cX4_feeFor 60 = .ok (.iconst 0, 1) := by decide +kernel
theorem dX4_feeFor_61 : decode cX4_feeFor 61 = .ok (.invokevirtual 275, 3) := by decide +kernel
theorem dX4_feeFor_64 : decode cX4_feeFor 64 = .ok (.pop, 1) := by decide +kernel
theorem dX4_feeFor_65 : decode cX4_feeFor 65 = .ok (.aload_n 0, 1) := by decide +kernel
theorem dX4_feeFor_66 : decode cX4_feeFor 66 = .ok (.getfield 23, 3) := by decide +kernel
theorem dX4_feeFor_69 : decode cX4_feeFor 69 = .ok (.iconst 1, 1) := by decide +kernel
theorem dX4_feeFor_70 : decode cX4_feeFor 70 = .ok (.invokevirtual 107, 3) := by decide +kernel
theorem dX4_feeFor_73 : decode cX4_feeFor 73 = .ok (.aload_n 0, 1) := by decide +kernel
theorem dX4_feeFor_74 : decode cX4_feeFor 74 = .ok (.getfield 23, 3) := by decide +kernel
theorem dX4_feeFor_77 : decode cX4_feeFor 77 = .ok (.aload_n 0, 1) := by decide +kernel
theorem dX4_feeFor_78 : decode cX4_feeFor 78 = .ok (.getfield 19, 3) := by decide +kernel
theorem dX4_feeFor_81 : decode cX4_feeFor 81 = .ok (.iload_n 1, 1) := by decide +kernel
theorem dX4_feeFor_82 : decode cX4_feeFor 82 = .ok (.invokevirtual 260, 3) := by decide +kernel
theorem dX4_feeFor_85 : decode cX4_feeFor 85 = .ok (.ifCond .eq 5, 3) := by decide +kernel
theorem dX4_feeFor_88 : decode cX4_feeFor 88 = .ok (.iload_n 2, 1) := by decide +kernel
theorem dX4_feeFor_89 : decode cX4_feeFor 89 = .ok (.ireturn, 1) := by decide +kernel
theorem dX4_feeFor_90 : decode cX4_feeFor 90 = .ok (.iinc 2 1, 3) := by decide +kernel
theorem dX4_feeFor_93 : decode cX4_feeFor 93 = .ok (.goto (-61), 3) := by decide +kernel
theorem dX4_feeFor_96 : decode cX4_feeFor 96 = .ok (.iconst (-1), 1) := by decide +kernel
theorem dX4_feeFor_97 : decode cX4_feeFor 97 = .ok (.ireturn, 1) := by decide +kernel
set_option maxRecDepth 20000 in
theorem ggX4_would_X4_wouldNumber : GoodIn wsX4_would wsX4_wouldNumber := goodIn_r _ [8] (by decide +kernel) (by decide +kernel)
set_option maxRecDepth 20000 in
theorem gX4_would_X4_wouldNumber : GoodIn wsX4_would (va_wsS RX4 280 yX4_wouldNumber wsX4_wouldNumber) := goodIn_app (goodIn_of _ (by decide +kernel)) ggX4_would_X4_wouldNumber
set_option maxRecDepth 20000 in
theorem ggX4_would_X2_copyFrom : GoodIn wsX4_would wsX2_copyFrom := goodIn_r _ [13, 14, 15, 16, 17, 18, 19, 20, 21, 22, 23, 7, 24, 25, 26, 27, 28, 29, 30, 31, 32, 33, 34, 35, 36, 37, 38, 39, 141, 142, 143, 144, 145, 146, 147, 148, 149, 150, 151] (by decide +kernel) (by decide +kernel)
set_option maxRecDepth 20000 in
theorem gX4_would_X2_copyFrom : GoodIn wsX4_would (wsV RX4 257 RX2 yX2_copyFrom wsX2_copyFrom) := goodIn_app (goodIn_of _ (by decide +kernel)) ggX4_would_X2_copyFrom
set_option maxRecDepth 20000 in
theorem ggX4_would_X2_passNights : GoodIn wsX4_would wsX2_passNights := goodIn_r _ [43, 20, 44, 45, 46, 12, 47, 14, 48, 49, 50, 51, 21, 52, 53, 54, 36, 55, 39, 38, 56, 57, 58, 59, 60, 61, 62, 63, 64, 65, 66, 67, 68, 7, 69, 70, 71, 72, 73, 18, 19, 74, 75, 76, 77, 78, 79, 80, 81, 82, 83, 84, 85, 16, 22, 86, 87, 88, 89, 90, 91, 92, 93, 94, 95, 96, 97, 98, 99, 100, 30, 31, 32, 101, 102, 103, 104, 105, 106, 107, 108, 109, 110, 111, 112, 113, 114, 17, 115, 116, 117, 118, 15, 119, 120, 121, 122, 141, 142, 143, 144, 145, 146, 147, 148, 149, 150, 151] (by decide +kernel) (by decide +kernel)
set_option maxRecDepth 20000 in
theorem gX4_would_X2_passNights : GoodIn wsX4_would (wsV RX4 107 RX2 yX2_passNights wsX2_passNights) := goodIn_app (goodIn_of _ (by decide +kernel)) ggX4_would_X2_passNights
set_option maxRecDepth 20000 in
theorem ggX4_would_X4_more : GoodIn wsX4_would wsX4_more := goodIn_r _ [126, 3, 4, 127, 128, 129, 12, 130, 21, 20, 60, 61, 62, 36, 63, 39, 131, 132, 133, 134, 52, 53, 54, 55, 38, 74, 75, 76, 77, 18, 135, 136, 137, 138, 139, 140, 141, 142, 143, 144, 145, 146, 147, 148, 149, 150, 151] (by decide +kernel) (by decide +kernel)
set_option maxRecDepth 20000 in
theorem gX4_would_X4_more : GoodIn wsX4_would (wsV RX4 283 RX4 yX4_more wsX4_more) := goodIn_app (goodIn_of _ (by decide +kernel)) ggX4_would_X4_more
theorem dX4_would_0 : decode cX4_would 0 = .ok (.iload_n 1, 1) := by decide +kernel
theorem dX4_would_1 : decode cX4_would 1 = .ok (.ifCond .lt 9, 3) := by decide +kernel
theorem dX4_would_4 : decode cX4_would 4 = .ok (.iload_n 1, 1) := by decide +kernel
theorem dX4_would_5 : decode cX4_would 5 = .ok (.bipush 60, 2) := by decide +kernel
theorem dX4_would_7 : decode cX4_would 7 = .ok (.if_icmp .le 14, 3) := by decide +kernel
theorem dX4_would_10 : decode cX4_would 10 = .ok (.new 41, 3) := by decide +kernel
theorem dX4_would_13 : decode cX4_would 13 = .ok (.dup, 1) := by decide +kernel
theorem dX4_would_14 : decode cX4_would 14 = .ok (.ldc_w 278, 3) := by decide +kernel
theorem dX4_would_17 : decode cX4_would 17 = .ok (.invokespecial 45, 3) := by decide +kernel
theorem dX4_would_20 : decode cX4_would 20 = .ok (.athrow, 1) := by decide +kernel
theorem dX4_would_21 : decode cX4_would 21 = .ok (.iload_n 2, 1) := by decide +kernel
theorem dX4_would_22 : decode cX4_would 22 = .ok (.invokestatic 280, 3) := by decide +kernel
theorem dX4_would_25 : decode cX4_would 25 = .ok (.istore_n 3, 1) := by decide +kernel
theorem dX4_would_26 : decode cX4_would 26 = .ok (.iload_n 3, 1) := by decide +kernel
theorem dX4_would_27 : decode cX4_would 27 = .ok (.iconst (-1), 1) := by decide +kernel
theorem dX4_would_28 : decode cX4_would 28 = .ok (.if_icmp .ne 13, 3) := by decide +kernel
theorem dX4_would_31 : decode cX4_would 31 = .ok (.new 41, 3) := by decide +kernel
theorem dX4_would_34 : decode cX4_would 34 = .ok (.dup, 1) := by decide +kernel
theorem dX4_would_35 : decode cX4_would 35 = .ok (.ldc 157, 2) := by decide +kernel
theorem dX4_would_37 : decode cX4_would 37 = .ok (.invokespecial 45, 3) := by decide +kernel
theorem dX4_would_40 : decode cX4_would 40 = .ok (.athrow, 1) := by decide +kernel
theorem dX4_would_41 : decode cX4_would 41 = .ok (.aload_n 0, 1) := by decide +kernel
theorem dX4_would_42 : decode cX4_would 42 = .ok (.getfield 23, 3) := by decide +kernel
theorem dX4_would_45 : decode cX4_would 45 = .ok (.aload_n 0, 1) := by decide +kernel
theorem dX4_would_46 : decode cX4_would 46 = .ok (.getfield 19, 3) := by decide +kernel
theorem dX4_would_49 : decode cX4_would 49 = .ok (.invokevirtual 257, 3) := by decide +kernel
theorem dX4_would_52 : decode cX4_would 52 = .ok (.aload_n 0, 1) := by decide +kernel
theorem dX4_would_53 : decode cX4_would 53 = .ok (.getfield 23, 3) := by decide +kernel
theorem dX4_would_56 : decode cX4_would 56 = .ok (.iload_n 1, 1) := by decide +kernel
theorem dX4_would_57 : decode cX4_would 57 = .ok (.invokevirtual 107, 3) := by decide +kernel
theorem dX4_would_60 : decode cX4_would 60 = .ok (.aload_n 0, 1) := by decide +kernel
theorem dX4_would_61 : decode cX4_would 61 = .ok (.iload_n 3, 1) := by decide +kernel
theorem dX4_would_62 : decode cX4_would 62 = .ok (.invokevirtual 283, 3) := by decide +kernel
theorem dX4_would_65 : decode cX4_would 65 = .ok (.ireturn, 1) := by decide +kernel
theorem dX4_wouldNumber_0 : decode cX4_wouldNumber 0 = .ok (.iload_n 0, 1) := by decide +kernel
theorem dX4_wouldNumber_1 : decode cX4_wouldNumber 1 = .ok (.tableswitch 40 0 3 #[31, 33, 35, 37], 31) := by decide +kernel
theorem dX4_wouldNumber_32 : decode cX4_wouldNumber 32 = .ok (.iconst 2, 1) := by decide +kernel
theorem dX4_wouldNumber_33 : decode cX4_wouldNumber 33 = .ok (.ireturn, 1) := by decide +kernel
theorem dX4_wouldNumber_34 : decode cX4_wouldNumber 34 = .ok (.iconst 3, 1) := by decide +kernel
theorem dX4_wouldNumber_35 : decode cX4_wouldNumber 35 = .ok (.ireturn, 1) := by decide +kernel
theorem dX4_wouldNumber_36 : decode cX4_wouldNumber 36 = .ok (.iconst 5, 1) := by decide +kernel
theorem dX4_wouldNumber_37 : decode cX4_wouldNumber 37 = .ok (.ireturn, 1) := by decide +kernel
theorem dX4_wouldNumber_38 : decode cX4_wouldNumber 38 = .ok (.bipush 9, 2) := by decide +kernel
theorem dX4_wouldNumber_40 : decode cX4_wouldNumber 40 = .ok (.ireturn, 1) := by decide +kernel
theorem dX4_wouldNumber_41 : decode cX4_wouldNumber 41 = .ok (.iconst (-1), 1) := by decide +kernel
theorem dX4_wouldNumber_42 : decode cX4_wouldNumber 42 = .ok (.ireturn, 1) := by decide +kernel
set_option maxRecDepth 20000 in
theorem ggX4_more_X2_number : GoodIn wsX4_more wsX2_number := goodIn_r _ [7, 8, 9, 10, 11, 12, 13, 14, 15, 16, 17, 18, 6, 19, 20, 21, 22, 23, 24, 25, 26, 27, 28, 29, 36, 37, 38, 39, 40, 41, 42, 43, 44, 45, 46] (by decide +kernel) (by decide +kernel)
set_option maxRecDepth 20000 in
theorem gX4_more_X2_number : GoodIn wsX4_more (wsV RX4 113 RX2 yX2_number wsX2_number) := goodIn_app (goodIn_of _ (by decide +kernel)) ggX4_more_X2_number
theorem dX4_more_0 : decode cX4_more 0 = .ok (.aload_n 0, 1) := by decide +kernel
theorem dX4_more_1 : decode cX4_more 1 = .ok (.getfield 23, 3) := by decide +kernel
theorem dX4_more_4 : decode cX4_more 4 = .ok (.iload_n 1, 1) := by decide +kernel
theorem dX4_more_5 : decode cX4_more 5 = .ok (.invokevirtual 113, 3) := by decide +kernel
theorem dX4_more_8 : decode cX4_more 8 = .ok (.aload_n 0, 1) := by decide +kernel
theorem dX4_more_9 : decode cX4_more 9 = .ok (.getfield 19, 3) := by decide +kernel
theorem dX4_more_12 : decode cX4_more 12 = .ok (.iload_n 1, 1) := by decide +kernel
theorem dX4_more_13 : decode cX4_more 13 = .ok (.invokevirtual 113, 3) := by decide +kernel
theorem dX4_more_16 : decode cX4_more 16 = .ok (.isub, 1) := by decide +kernel
theorem dX4_more_17 : decode cX4_more 17 = .ok (.ireturn, 1) := by decide +kernel
set_option maxRecDepth 20000 in
theorem ggX4_bestRule_X4_tryToTheEnd : GoodIn wsX4_bestRule wsX4_tryToTheEnd := goodIn_r _ [5, 6, 7, 8, 9, 10, 11, 12, 13, 14, 15, 16, 17, 18, 19, 20, 21, 22, 4, 23, 24, 25, 26, 27, 28, 29, 30, 31, 32, 33, 34, 35, 36, 37, 38, 39, 40, 41, 42, 43, 44, 45, 46, 47, 48, 49, 50, 51, 52, 53, 54, 55, 56, 57, 58, 59, 60, 61, 62, 63, 64, 65, 66, 67, 68, 69, 70, 71, 72, 73, 74, 75, 76, 77, 78, 79, 80, 81, 82, 83, 84, 85, 86, 87, 88, 89, 90, 91, 92, 93, 94, 95, 96, 97, 98, 99, 100, 101, 102, 103, 104, 105, 106, 107, 108, 109, 110, 111, 112, 113, 114, 115, 116, 117, 118, 119, 120, 121, 122, 123, 124, 125, 126, 127, 140, 141, 142, 143, 144, 145, 146, 147, 148, 149, 150, 151, 152, 153, 154, 155, 156] (by decide +kernel) (by decide +kernel)
set_option maxRecDepth 20000 in
theorem gX4_bestRule_X4_tryToTheEnd : GoodIn wsX4_bestRule (wsV RX4 286 RX4 yX4_tryToTheEnd wsX4_tryToTheEnd) := goodIn_app (goodIn_of _ (by decide +kernel)) ggX4_bestRule_X4_tryToTheEnd
set_option maxRecDepth 20000 in
theorem ggX4_bestRule_X4_more : GoodIn wsX4_bestRule wsX4_more := goodIn_r _ [131, 6, 7, 132, 133, 134, 11, 135, 20, 19, 65, 66, 67, 35, 68, 38, 136, 137, 138, 139, 57, 58, 59, 60, 37, 79, 80, 81, 82, 17, 140, 141, 142, 143, 144, 145, 146, 147, 148, 149, 150, 151, 152, 153, 154, 155, 156] (by decide +kernel) (by decide +kernel)
set_option maxRecDepth 20000 in
theorem gX4_bestRule_X4_more : GoodIn wsX4_bestRule (wsV RX4 283 RX4 yX4_more wsX4_more) := goodIn_app (goodIn_of _ (by decide +kernel)) ggX4_bestRule_X4_more
theorem dX4_bestRule_0 : decode cX4_bestRule 0 = .ok (.iconst 0, 1) := by decide +kernel
theorem dX4_bestRule_1 : decode cX4_bestRule 1 = .ok (.istore_n 1, 1) := by decide +kernel
theorem dX4_bestRule_2 : decode cX4_bestRule 2 = .ok (.iconst (-1), 1) := by decide +kernel
theorem dX4_bestRule_3 : decode cX4_bestRule 3 = .ok (.istore_n 2, 1) := by decide +kernel
theorem dX4_bestRule_4 : decode cX4_bestRule 4 = .ok (.iconst (-1), 1) := by decide +kernel
theorem dX4_bestRule_5 : decode cX4_bestRule 5 = .ok (.istore_n 3, 1) := by decide +kernel
theorem dX4_bestRule_6 : decode cX4_bestRule 6 = .ok (.iconst 0, 1) := by decide +kernel
theorem dX4_bestRule_7 : decode cX4_bestRule 7 = .ok (.istore 4, 2) := by decide +kernel
theorem dX4_bestRule_9 : decode cX4_bestRule 9 = .ok (.iload 4, 2) := by decide +kernel
theorem dX4_bestRule_11 : decode cX4_bestRule 11 = .ok (.iconst 3, 1) := by decide +kernel
theorem dX4_bestRule_12 : decode cX4_bestRule 12 = .ok (.if_icmp .ge 57, 3) := by decide +kernel
theorem dX4_bestRule_15 : decode cX4_bestRule 15 = .ok (.aload_n 0, 1) := by decide +kernel
theorem dX4_bestRule_16 : decode cX4_bestRule 16 = .ok (.iconst 4, 1) := by decide +kernel
theorem dX4_bestRule_17 : decode cX4_bestRule 17 = .ok (.iload 4, 2) := by decide +kernel
theorem dX4_bestRule_19 : decode cX4_bestRule 19 = .ok (.invokevirtual 286, 3) := by decide +kernel
theorem dX4_bestRule_22 : decode cX4_bestRule 22 = .ok (.aload_n 0, 1) := by decide +kernel
theorem dX4_bestRule_23 : decode cX4_bestRule 23 = .ok (.iconst 2, 1) := by decide +kernel
theorem dX4_bestRule_24 : decode cX4_bestRule 24 = .ok (.invokevirtual 283, 3) := by decide +kernel
theorem dX4_bestRule_27 : decode cX4_bestRule 27 = .ok (.istore 5, 2) := by decide +kernel
theorem dX4_bestRule_29 : decode cX4_bestRule 29 = .ok (.aload_n 0, 1) := by decide +kernel
theorem dX4_bestRule_30 : decode cX4_bestRule 30 = .ok (.iconst 5, 1) := by decide +kernel
theorem dX4_bestRule_31 : decode cX4_bestRule 31 = .ok (.invokevirtual 283, 3) := by decide +kernel
theorem dX4_bestRule_34 : decode cX4_bestRule 34 = .ok (.istore 6, 2) := by decide +kernel
theorem dX4_bestRule_36 : decode cX4_bestRule 36 = .ok (.iload 5, 2) := by decide +kernel
theorem dX4_bestRule_38 : decode cX4_bestRule 38 = .ok (.iload_n 2, 1) := by decide +kernel
theorem dX4_bestRule_39 : decode cX4_bestRule 39 = .ok (.if_icmp .gt 15, 3) := by decide +kernel
theorem dX4_bestRule_42 : decode cX4_bestRule 42 = .ok (.iload 5, 2) := by decide +kernel
theorem dX4_bestRule_44 : decode cX4_bestRule 44 = .ok (.iload_n 2, 1) := by decide +kernel
theorem dX4_bestRule_45 : decode cX4_bestRule 45 = .ok (.if_icmp .ne 18, 3) := by decide +kernel
theorem dX4_bestRule_48 : decode cX4_bestRule 48 = .ok (.iload 6, 2) := by decide +kernel
theorem dX4_bestRule_50 : decode cX4_bestRule 50 = .ok (.iload_n 3, 1) := by decide +kernel
theorem dX4_bestRule_51 : decode cX4_bestRule 51 = .ok (.if_icmp .le 12, 3) := by decide +kernel
theorem dX4_bestRule_54 : decode cX4_bestRule 54 = .ok (.iload 4, 2) := by decide +kernel
theorem dX4_bestRule_56 : decode cX4_bestRule 56 = .ok (.istore_n 1, 1) := by decide +kernel
theorem dX4_bestRule_57 : decode cX4_bestRule 57 = .ok (.iload 5, 2) := by decide +kernel
theorem dX4_bestRule_59 : decode cX4_bestRule 59 = .ok (.istore_n 2, 1) := by decide +kernel
theorem dX4_bestRule_60 : decode cX4_bestRule 60 = .ok (.iload 6, 2) := by decide +kernel
theorem dX4_bestRule_62 : decode cX4_bestRule 62 = .ok (.istore_n 3, 1) := by decide +kernel
theorem dX4_bestRule_63 : decode cX4_bestRule 63 = .ok (.iinc 4 1, 3) := by decide +kernel
theorem dX4_bestRule_66 : decode cX4_bestRule 66 = .ok (.goto (-57), 3) := by decide +kernel
theorem dX4_bestRule_69 : decode cX4_bestRule 69 = .ok (.iload_n 1, 1) := by decide +kernel
theorem dX4_bestRule_70 : decode cX4_bestRule 70 = .ok (.ireturn, 1) := by decide +kernel
set_option maxRecDepth 20000 in
theorem ggX4_leastRoom_X4_tryToTheEnd : GoodIn wsX4_leastRoom wsX4_tryToTheEnd := goodIn_r _ [5, 6, 7, 8, 9, 10, 11, 12, 13, 14, 15, 16, 17, 18, 19, 20, 21, 22, 4, 23, 24, 25, 26, 27, 28, 29, 30, 31, 32, 33, 34, 35, 36, 37, 38, 39, 40, 41, 42, 43, 44, 45, 46, 47, 48, 49, 50, 51, 52, 53, 54, 55, 56, 57, 58, 59, 60, 61, 62, 63, 64, 65, 66, 67, 68, 69, 70, 71, 72, 73, 74, 75, 76, 77, 78, 79, 80, 81, 82, 83, 84, 85, 86, 87, 88, 89, 90, 91, 92, 93, 94, 95, 96, 97, 98, 99, 100, 101, 102, 103, 104, 105, 106, 107, 108, 109, 110, 111, 112, 113, 114, 115, 116, 117, 118, 119, 120, 121, 122, 123, 124, 125, 126, 127, 140, 141, 142, 143, 144, 145, 146, 147, 148, 149, 150, 151, 152, 153, 154, 155, 156] (by decide +kernel) (by decide +kernel)
set_option maxRecDepth 20000 in
theorem gX4_leastRoom_X4_tryToTheEnd : GoodIn wsX4_leastRoom (wsV RX4 286 RX4 yX4_tryToTheEnd wsX4_tryToTheEnd) := goodIn_app (goodIn_of _ (by decide +kernel)) ggX4_leastRoom_X4_tryToTheEnd
set_option maxRecDepth 20000 in
theorem ggX4_leastRoom_X4_more : GoodIn wsX4_leastRoom wsX4_more := goodIn_r _ [131, 6, 7, 132, 133, 134, 11, 135, 20, 19, 65, 66, 67, 35, 68, 38, 136, 137, 138, 139, 57, 58, 59, 60, 37, 79, 80, 81, 82, 17, 140, 141, 142, 143, 144, 145, 146, 147, 148, 149, 150, 151, 152, 153, 154, 155, 156] (by decide +kernel) (by decide +kernel)
set_option maxRecDepth 20000 in
theorem gX4_leastRoom_X4_more : GoodIn wsX4_leastRoom (wsV RX4 283 RX4 yX4_more wsX4_more) := goodIn_app (goodIn_of _ (by decide +kernel)) ggX4_leastRoom_X4_more
theorem dX4_leastRoom_0 : decode cX4_leastRoom 0 = .ok (.iconst 0, 1) := by decide +kernel
theorem dX4_leastRoom_1 : decode cX4_leastRoom 1 = .ok (.istore_n 1, 1) := by decide +kernel
theorem dX4_leastRoom_2 : decode cX4_leastRoom 2 = .ok (.iload_n 1, 1) := by decide +kernel
theorem dX4_leastRoom_3 : decode cX4_leastRoom 3 = .ok (.bipush 16, 2) := by decide +kernel
theorem dX4_leastRoom_5 : decode cX4_leastRoom 5 = .ok (.if_icmp .gt 25, 3) := by decide +kernel
theorem dX4_leastRoom_8 : decode cX4_leastRoom 8 = .ok (.aload_n 0, 1) := by decide +kernel
theorem dX4_leastRoom_9 : decode cX4_leastRoom 9 = .ok (.iconst 0, 1) := by decide +kernel
theorem dX4_leastRoom_10 : decode cX4_leastRoom 10 = .ok (.iload_n 1, 1) := by decide +kernel
theorem dX4_leastRoom_11 : decode cX4_leastRoom 11 = .ok (.invokevirtual 286, 3) := by decide +kernel
theorem dX4_leastRoom_14 : decode cX4_leastRoom 14 = .ok (.aload_n 0, 1) := by decide +kernel
theorem dX4_leastRoom_15 : decode cX4_leastRoom 15 = .ok (.iconst 3, 1) := by decide +kernel
theorem dX4_leastRoom_16 : decode cX4_leastRoom 16 = .ok (.invokevirtual 283, 3) := by decide +kernel
theorem dX4_leastRoom_19 : decode cX4_leastRoom 19 = .ok (.ifCond .ne 5, 3) := by decide +kernel
theorem dX4_leastRoom_22 : decode cX4_leastRoom 22 = .ok (.iload_n 1, 1) := by decide +kernel
theorem dX4_leastRoom_23 : decode cX4_leastRoom 23 = .ok (.ireturn, 1) := by decide +kernel
theorem dX4_leastRoom_24 : decode cX4_leastRoom 24 = .ok (.iinc 1 1, 3) := by decide +kernel
theorem dX4_leastRoom_27 : decode cX4_leastRoom 27 = .ok (.goto (-25), 3) := by decide +kernel
theorem dX4_leastRoom_30 : decode cX4_leastRoom 30 = .ok (.iconst (-1), 1) := by decide +kernel
theorem dX4_leastRoom_31 : decode cX4_leastRoom 31 = .ok (.ireturn, 1) := by decide +kernel
set_option maxRecDepth 20000 in
theorem ggX4_tryToTheEnd_X2_copyFrom : GoodIn wsX4_tryToTheEnd wsX2_copyFrom := goodIn_r _ [7, 8, 9, 10, 11, 12, 13, 14, 15, 16, 17, 18, 19, 20, 21, 22, 23, 24, 25, 26, 27, 28, 29, 30, 31, 32, 33, 34, 130, 131, 132, 133, 134, 135, 136, 137, 138, 139, 140] (by decide +kernel) (by decide +kernel)
set_option maxRecDepth 20000 in
theorem gX4_tryToTheEnd_X2_copyFrom : GoodIn wsX4_tryToTheEnd (wsV RX4 257 RX2 yX2_copyFrom wsX2_copyFrom) := goodIn_app (goodIn_of _ (by decide +kernel)) ggX4_tryToTheEnd_X2_copyFrom
set_option maxRecDepth 20000 in
theorem ggX4_tryToTheEnd_X2_change : GoodIn wsX4_tryToTheEnd wsX2_change := goodIn_r _ [38, 8, 39, 18, 40, 130, 131, 132, 133, 134, 135, 136, 137, 138] (by decide +kernel) (by decide +kernel)
set_option maxRecDepth 20000 in
theorem gX4_tryToTheEnd_X2_change : GoodIn wsX4_tryToTheEnd (wsV RX4 80 RX2 yX2_change wsX2_change) := goodIn_app (goodIn_of _ (by decide +kernel)) ggX4_tryToTheEnd_X2_change
set_option maxRecDepth 20000 in
theorem ggX4_tryToTheEnd_X2_passNights : GoodIn wsX4_tryToTheEnd wsX2_passNights := goodIn_r _ [44, 14, 45, 46, 47, 6, 48, 8, 49, 50, 51, 52, 15, 53, 54, 55, 31, 56, 34, 33, 57, 58, 59, 60, 61, 62, 63, 64, 65, 66, 67, 68, 69, 18, 70, 71, 72, 73, 74, 12, 13, 75, 76, 77, 78, 79, 80, 81, 82, 83, 84, 85, 86, 10, 16, 87, 88, 89, 90, 91, 92, 93, 94, 95, 96, 97, 98, 99, 100, 101, 25, 26, 27, 102, 103, 104, 105, 106, 107, 108, 109, 110, 111, 112, 113, 114, 115, 11, 116, 117, 118, 119, 9, 120, 121, 122, 123, 130, 131, 132, 133, 134, 135, 136, 137, 138, 139, 140] (by decide +kernel) (by decide +kernel)
set_option maxRecDepth 20000 in
theorem gX4_tryToTheEnd_X2_passNights : GoodIn wsX4_tryToTheEnd (wsV RX4 107 RX2 yX2_passNights wsX2_passNights) := goodIn_app (goodIn_of _ (by decide +kernel)) ggX4_tryToTheEnd_X2_passNights
theorem dX4_tryToTheEnd_0 : decode cX4_tryToTheEnd 0 = .ok (.aload_n 0, 1) := by decide +kernel
theorem dX4_tryToTheEnd_1 : decode cX4_tryToTheEnd 1 = .ok (.getfield 23, 3) := by decide +kernel
theorem dX4_tryToTheEnd_4 : decode cX4_tryToTheEnd 4 = .ok (.aload_n 0, 1) := by decide +kernel
theorem dX4_tryToTheEnd_5 : decode cX4_tryToTheEnd 5 = .ok (.getfield 19, 3) := by decide +kernel
theorem dX4_tryToTheEnd_8 : decode cX4_tryToTheEnd 8 = .ok (.invokevirtual 257, 3) := by decide +kernel
theorem dX4_tryToTheEnd_11 : decode cX4_tryToTheEnd 11 = .ok (.aload_n 0, 1) := by decide +kernel
theorem dX4_tryToTheEnd_12 : decode cX4_tryToTheEnd 12 = .ok (.getfield 23, 3) := by decide +kernel
theorem dX4_tryToTheEnd_15 : decode cX4_tryToTheEnd 15 = .ok (.iload_n 1, 1) := by decide +kernel
theorem dX4_tryToTheEnd_16 : decode cX4_tryToTheEnd 16 = .ok (.iload_n 2, 1) := by decide +kernel
theorem dX4_tryToTheEnd_17 : decode cX4_tryToTheEnd 17 = .ok (.invokevirtual 80, 3) := by decide +kernel
theorem dX4_tryToTheEnd_20 : decode cX4_tryToTheEnd 20 = .ok (.aload_n 0, 1) := by decide +kernel
theorem dX4_tryToTheEnd_21 : decode cX4_tryToTheEnd 21 = .ok (.getfield 23, 3) := by decide +kernel
theorem dX4_tryToTheEnd_24 : decode cX4_tryToTheEnd 24 = .ok (.bipush 9, 2) := by decide +kernel
theorem dX4_tryToTheEnd_26 : decode cX4_tryToTheEnd 26 = .ok (.invokevirtual 107, 3) := by decide +kernel
theorem dX4_tryToTheEnd_29 : decode cX4_tryToTheEnd 29 = .ok (.return_, 1) := by decide +kernel
set_option maxRecDepth 20000 in
theorem ggX4_runScript_X4_withoutGroups : GoodIn wsX4_runScript wsX4_withoutGroups := goodIn_r _ [9, 5] (by decide +kernel) (by decide +kernel)
set_option maxRecDepth 20000 in
theorem gX4_runScript_X4_withoutGroups : GoodIn wsX4_runScript (va_wsS RX4 291 yX4_withoutGroups wsX4_withoutGroups) := goodIn_app (goodIn_of _ (by decide +kernel)) ggX4_runScript_X4_withoutGroups
set_option maxRecDepth 20000 in
theorem ggX4_runScript_X2_copyFrom : GoodIn wsX4_runScript wsX2_copyFrom := goodIn_r _ [14, 15, 16, 17, 18, 19, 20, 21, 22, 23, 24, 8, 25, 26, 27, 28, 29, 30, 31, 32, 33, 34, 35, 36, 37, 38, 39, 40, 210, 211, 212, 213, 214, 215, 216, 217, 218, 219, 220] (by decide +kernel) (by decide +kernel)
set_option maxRecDepth 20000 in
theorem gX4_runScript_X2_copyFrom : GoodIn wsX4_runScript (wsV RX4 257 RX2 yX2_copyFrom wsX2_copyFrom) := goodIn_app (goodIn_of _ (by decide +kernel)) ggX4_runScript_X2_copyFrom
set_option maxRecDepth 20000 in
theorem ggX4_runScript_X4_runGroup : GoodIn wsX4_runScript wsX4_runGroup := goodIn_r _ [44, 3, 45, 46, 47, 48, 13, 49, 50, 8, 51, 52, 53, 54, 55, 56, 57, 58, 59, 60, 61, 22, 16, 62, 63, 64, 65, 19, 66, 67, 68, 37, 69, 40, 70, 71, 72, 73, 74, 75, 76, 77, 21, 17, 23, 78, 79, 80, 81, 82, 83, 84, 85, 39, 86, 87, 88, 89, 90, 31, 32, 33, 91, 92, 93, 94, 95, 96, 97, 98, 99, 100, 101, 102, 103, 104, 105, 106, 107, 108, 109, 110, 111, 112, 113, 114, 115, 116, 117, 118, 119, 120, 121, 122, 123, 124, 125, 126, 127, 128, 129, 130, 131, 132, 133, 134, 135, 136, 137, 138, 139, 140, 141, 15, 142, 143, 144, 145, 146, 147, 148, 149, 150, 151, 152, 153, 154, 155, 156, 157, 20, 158, 159, 160, 161, 162, 163, 164, 165, 166, 167, 168, 169, 170, 171, 172, 173, 18, 174, 175, 176, 177, 178, 179, 180, 181, 182, 183, 184, 185, 186, 187, 188, 189, 190, 191, 192, 193, 194, 195, 196, 197, 198, 199, 200, 201, 202, 203, 204, 205, 206, 207, 208, 209, 210, 211, 212, 213, 214, 215, 216, 217, 218, 219, 220] (by decide +kernel) (by decide +kernel)
set_option maxRecDepth 20000 in
theorem gX4_runScript_X4_runGroup : GoodIn wsX4_runScript (wsV RX4 299 RX4 yX4_runGroup wsX4_runGroup) := goodIn_app (goodIn_of _ (by decide +kernel)) ggX4_runScript_X4_runGroup
theorem dX4_runScript_0 : decode cX4_runScript 0 = .ok (.iload_n 1, 1) := by decide +kernel
theorem dX4_runScript_1 : decode cX4_runScript 1 = .ok (.iconst 1, 1) := by decide +kernel
theorem dX4_runScript_2 : decode cX4_runScript 2 = .ok (.if_icmp .lt 8, 3) := by decide +kernel
theorem dX4_runScript_5 : decode cX4_runScript 5 = .ok (.iload_n 1, 1) := by decide +kernel
theorem dX4_runScript_6 : decode cX4_runScript 6 = .ok (.iconst 3, 1) := by decide +kernel
theorem dX4_runScript_7 : decode cX4_runScript 7 = .ok (.if_icmp .le 14, 3) := by decide +kernel
theorem dX4_runScript_10 : decode cX4_runScript 10 = .ok (.new 41, 3) := by decide +kernel
theorem dX4_runScript_13 : decode cX4_runScript 13 = .ok (.dup, 1) := by decide +kernel
theorem dX4_runScript_14 : decode cX4_runScript 14 = .ok (.ldc_w 289, 3) := by decide +kernel
theorem dX4_runScript_17 : decode cX4_runScript 17 = .ok (.invokespecial 45, 3) := by decide +kernel
theorem dX4_runScript_20 : decode cX4_runScript 20 = .ok (.athrow, 1) := by decide +kernel
theorem dX4_runScript_21 : decode cX4_runScript 21 = .ok (.lload_n 2, 1) := by decide +kernel
theorem dX4_runScript_22 : decode cX4_runScript 22 = .ok (.lconst 0, 1) := by decide +kernel
theorem dX4_runScript_23 : decode cX4_runScript 23 = .ok (.lcmp, 1) := by decide +kernel
theorem dX4_runScript_24 : decode cX4_runScript 24 = .ok (.ifCond .lt 13, 3) := by decide +kernel
theorem dX4_runScript_27 : decode cX4_runScript 27 = .ok (.lload_n 2, 1) := by decide +kernel
theorem dX4_runScript_28 : decode cX4_runScript 28 = .ok (.iload_n 1, 1) := by decide +kernel
theorem dX4_runScript_29 : decode cX4_runScript 29 = .ok (.invokestatic 291, 3) := by decide +kernel
theorem dX4_runScript_32 : decode cX4_runScript 32 = .ok (.lconst 0, 1) := by decide +kernel
theorem dX4_runScript_33 : decode cX4_runScript 33 = .ok (.lcmp, 1) := by decide +kernel
theorem dX4_runScript_34 : decode cX4_runScript 34 = .ok (.ifCond .eq 14, 3) := by decide +kernel
theorem dX4_runScript_37 : decode cX4_runScript 37 = .ok (.new 41, 3) := by decide +kernel
theorem dX4_runScript_40 : decode cX4_runScript 40 = .ok (.dup, 1) := by decide +kernel
theorem dX4_runScript_41 : decode cX4_runScript 41 = .ok (.ldc_w 295, 3) := by decide +kernel
theorem dX4_runScript_44 : decode cX4_runScript 44 = .ok (.invokespecial 45, 3) := by decide +kernel
theorem dX4_runScript_47 : decode cX4_runScript 47 = .ok (.athrow, 1) := by decide +kernel
theorem dX4_runScript_48 : decode cX4_runScript 48 = .ok (.aload_n 0, 1) := by decide +kernel
theorem dX4_runScript_49 : decode cX4_runScript 49 = .ok (.getfield 23, 3) := by decide +kernel
theorem dX4_runScript_52 : decode cX4_runScript 52 = .ok (.aload_n 0, 1) := by decide +kernel
theorem dX4_runScript_53 : decode cX4_runScript 53 = .ok (.getfield 19, 3) := by decide +kernel
theorem dX4_runScript_56 : decode cX4_runScript 56 = .ok (.invokevirtual 257, 3) := by decide +kernel
theorem dX4_runScript_59 : decode cX4_runScript 59 = .ok (.iconst 0, 1) := by decide +kernel
theorem dX4_runScript_60 : decode cX4_runScript 60 = .ok (.istore 4, 2) := by decide +kernel
theorem dX4_runScript_62 : decode cX4_runScript 62 = .ok (.iload 4, 2) := by decide +kernel
theorem dX4_runScript_64 : decode cX4_runScript 64 = .ok (.iload_n 1, 1) := by decide +kernel
theorem dX4_runScript_65 : decode cX4_runScript 65 = .ok (.if_icmp .ge 34, 3) := by decide +kernel
theorem dX4_runScript_68 : decode cX4_runScript 68 = .ok (.aload_n 0, 1) := by decide +kernel
theorem dX4_runScript_69 : decode cX4_runScript 69 = .ok (.lload_n 2, 1) := by decide +kernel
theorem dX4_runScript_70 : decode cX4_runScript 70 = .ok (.iload_n 1, 1) := by decide +kernel
theorem dX4_runScript_71 : decode cX4_runScript 71 = .ok (.iconst 1, 1) := by decide +kernel
theorem dX4_runScript_72 : decode cX4_runScript 72 = .ok (.isub, 1) := by decide +kernel
theorem dX4_runScript_73 : decode cX4_runScript 73 = .ok (.iload 4, 2) := by decide +kernel
theorem dX4_runScript_75 : decode cX4_runScript 75 = .ok (.isub, 1) := by decide +kernel
theorem dX4_runScript_76 : decode cX4_runScript 76 = .ok (.invokestatic 291, 3) := by decide +kernel
theorem dX4_runScript_79 : decode cX4_runScript 79 = .ok (.ldc2_w 297, 3) := by decide +kernel
theorem dX4_runScript_82 : decode cX4_runScript 82 = .ok (.lrem, 1) := by decide +kernel
theorem dX4_runScript_83 : decode cX4_runScript 83 = .ok (.l2i, 1) := by decide +kernel
theorem dX4_runScript_84 : decode cX4_runScript 84 = .ok (.invokevirtual 299, 3) := by decide +kernel
theorem dX4_runScript_87 : decode cX4_runScript 87 = .ok (.ifCond .ne 6, 3) := by decide +kernel
theorem dX4_runScript_90 : decode cX4_runScript 90 = .ok (.iload 4, 2) := by decide +kernel
theorem dX4_runScript_92 : decode cX4_runScript 92 = .ok (.ireturn, 1) := by decide +kernel
theorem dX4_runScript_93 : decode cX4_runScript 93 = .ok (.iinc 4 1, 3) := by decide +kernel
theorem dX4_runScript_96 : decode cX4_runScript 96 = .ok (.goto (-34), 3) := by decide +kernel
theorem dX4_runScript_99 : decode cX4_runScript 99 = .ok (.iconst (-1), 1) := by decide +kernel
theorem dX4_runScript_100 : decode cX4_runScript 100 = .ok (.ireturn, 1) := by decide +kernel
theorem dX4_withoutGroups_0 : decode cX4_withoutGroups 0 = .ok (.lload_n 0, 1) := by decide +kernel
theorem dX4_withoutGroups_1 : decode cX4_withoutGroups 1 = .ok (.lstore_n 3, 1) := by decide +kernel
theorem dX4_withoutGroups_2 : decode cX4_withoutGroups 2 = .ok (.iconst 0, 1) := by decide +kernel
theorem dX4_withoutGroups_3 : decode cX4_withoutGroups 3 = .ok (.istore 5, 2) := by decide +kernel
theorem dX4_withoutGroups_5 : decode cX4_withoutGroups 5 = .ok (.iload 5, 2) := by decide +kernel
theorem dX4_withoutGroups_7 : decode cX4_withoutGroups 7 = .ok (.iload_n 2, 1) := by decide +kernel
theorem dX4_withoutGroups_8 : decode cX4_withoutGroups 8 = .ok (.if_icmp .ge 15, 3) := by decide +kernel
theorem dX4_withoutGroups_11 : decode cX4_withoutGroups 11 = .ok (.lload_n 3, 1) := by decide +kernel
theorem dX4_withoutGroups_12 : decode cX4_withoutGroups 12 = .ok (.ldc2_w 297, 3) := by decide +kernel
theorem dX4_withoutGroups_15 : decode cX4_withoutGroups 15 = .ok (.ldiv, 1) := by decide +kernel
theorem dX4_withoutGroups_16 : decode cX4_withoutGroups 16 = .ok (.lstore_n 3, 1) := by decide +kernel
theorem dX4_withoutGroups_17 : decode cX4_withoutGroups 17 = .ok (.iinc 5 1, 3) := by decide +kernel
theorem dX4_withoutGroups_20 : decode cX4_withoutGroups 20 = .ok (.goto (-15), 3) := by decide +kernel
theorem dX4_withoutGroups_23 : decode cX4_withoutGroups 23 = .ok (.lload_n 3, 1) := by decide +kernel
theorem dX4_withoutGroups_24 : decode cX4_withoutGroups 24 = .ok (.lreturn, 1) := by decide +kernel
set_option maxRecDepth 20000 in
theorem ggX4_runGroup_X2_placeIfAllowed : GoodIn wsX4_runGroup wsX2_placeIfAllowed := goodIn_r _ [7, 8, 9, 10, 11, 12, 13, 14, 15, 16, 17, 18, 19, 6, 20, 21, 22, 23, 24, 25, 26, 27, 28, 29, 30, 31, 32, 33, 34, 35, 36, 37, 38, 39, 40, 41, 42, 43, 44, 45, 46, 47, 48, 49, 50, 51, 52, 53, 54, 55, 56, 57, 58, 59, 60, 61, 62, 63, 64, 65, 66, 67, 68, 69, 184, 185, 186, 187, 188, 189, 190, 191, 192, 193, 194] (by decide +kernel) (by decide +kernel)
set_option maxRecDepth 20000 in
theorem gX4_runGroup_X2_placeIfAllowed : GoodIn wsX4_runGroup (wsV RX4 100 RX2 yX2_placeIfAllowed wsX2_placeIfAllowed) := goodIn_app (goodIn_of _ (by decide +kernel)) ggX4_runGroup_X2_placeIfAllowed
set_option maxRecDepth 20000 in
theorem ggX4_runGroup_X2_dropIfAllowed : GoodIn wsX4_runGroup wsX2_dropIfAllowed := goodIn_r _ [73, 21, 74, 75, 76, 31, 77, 33, 78, 79, 80, 6, 81, 42, 82, 83, 84, 85, 22, 86, 63, 64, 65, 53, 8, 9, 10, 45, 46, 47, 48, 49, 50, 51, 52, 54, 55, 56, 57, 58, 59, 60, 61, 62, 184, 185, 186, 187, 188, 189, 190, 191, 192, 193, 194] (by decide +kernel) (by decide +kernel)
set_option maxRecDepth 20000 in
theorem gX4_runGroup_X2_dropIfAllowed : GoodIn wsX4_runGroup (wsV RX4 104 RX2 yX2_dropIfAllowed wsX2_dropIfAllowed) := goodIn_app (goodIn_of _ (by decide +kernel)) ggX4_runGroup_X2_dropIfAllowed
set_option maxRecDepth 20000 in
theorem ggX4_runGroup_X2_liftIfAllowed : GoodIn wsX4_runGroup wsX2_liftIfAllowed := goodIn_r _ [90, 21, 74, 75, 76, 31, 77, 33, 91, 9, 92, 93, 94, 95, 6, 96, 22, 86, 63, 64, 65, 53, 15, 16, 8, 10, 97, 98, 99, 100, 101, 50, 51, 52, 184, 185, 186, 187, 188, 189, 190, 191, 192, 193, 194] (by decide +kernel) (by decide +kernel)
set_option maxRecDepth 20000 in
theorem gX4_runGroup_X2_liftIfAllowed : GoodIn wsX4_runGroup (wsV RX4 302 RX2 yX2_liftIfAllowed wsX2_liftIfAllowed) := goodIn_app (goodIn_of _ (by decide +kernel)) ggX4_runGroup_X2_liftIfAllowed
set_option maxRecDepth 20000 in
theorem ggX4_runGroup_X4_isNights : GoodIn wsX4_runGroup wsX4_isNights := goodIn_r _ [104] (by decide +kernel) (by decide +kernel)
set_option maxRecDepth 20000 in
theorem gX4_runGroup_X4_isNights : GoodIn wsX4_runGroup (va_wsS RX4 231 yX4_isNights wsX4_isNights) := goodIn_app (goodIn_of _ (by decide +kernel)) ggX4_runGroup_X4_isNights
set_option maxRecDepth 20000 in
theorem ggX4_runGroup_X2_passNights : GoodIn wsX4_runGroup wsX2_passNights := goodIn_r _ [108, 42, 109, 110, 111, 6, 112, 113, 114, 115, 116, 117, 21, 86, 63, 64, 31, 65, 33, 53, 118, 119, 120, 121, 28, 29, 30, 32, 122, 123, 124, 125, 11, 9, 12, 126, 127, 128, 129, 27, 130, 131, 132, 133, 134, 135, 136, 137, 138, 38, 39, 40, 41, 43, 44, 8, 10, 45, 46, 47, 48, 49, 50, 51, 52, 54, 55, 56, 57, 58, 59, 60, 61, 62, 66, 67, 68, 69, 139, 140, 141, 142, 101, 143, 144, 145, 146, 147, 82, 83, 84, 85, 22, 148, 149, 150, 151, 184, 185, 186, 187, 188, 189, 190, 191, 192, 193, 194] (by decide +kernel) (by decide +kernel)
set_option maxRecDepth 20000 in
theorem gX4_runGroup_X2_passNights : GoodIn wsX4_runGroup (wsV RX4 107 RX2 yX2_passNights wsX2_passNights) := goodIn_app (goodIn_of _ (by decide +kernel)) ggX4_runGroup_X2_passNights
set_option maxRecDepth 20000 in
theorem ggX4_runGroup_X2_changeIfAllowed : GoodIn wsX4_runGroup wsX2_changeIfAllowed := goodIn_r _ [155, 156, 9, 157, 158, 159, 160, 161, 162, 163, 164, 165, 6, 166, 113, 184, 185, 186, 187, 188, 189, 190, 191, 192] (by decide +kernel) (by decide +kernel)
set_option maxRecDepth 20000 in
theorem gX4_runGroup_X2_changeIfAllowed : GoodIn wsX4_runGroup (wsV RX4 305 RX2 yX2_changeIfAllowed wsX2_changeIfAllowed) := goodIn_app (goodIn_of _ (by decide +kernel)) ggX4_runGroup_X2_changeIfAllowed
set_option maxRecDepth 20000 in
theorem ggX4_runGroup_X4_isLot : GoodIn wsX4_runGroup wsX4_isLot := goodIn_r _ [12] (by decide +kernel) (by decide +kernel)
set_option maxRecDepth 20000 in
theorem gX4_runGroup_X4_isLot : GoodIn wsX4_runGroup (va_wsS RX4 139 yX4_isLot wsX4_isLot) := goodIn_app (goodIn_of _ (by decide +kernel)) ggX4_runGroup_X4_isLot
set_option maxRecDepth 20000 in
theorem ggX4_runGroup_X2_isInFront : GoodIn wsX4_runGroup wsX2_isInFront := goodIn_r _ [26, 27, 11, 9, 12, 184, 185, 186, 187, 188, 189, 190, 191, 192] (by decide +kernel) (by decide +kernel)
set_option maxRecDepth 20000 in
theorem gX4_runGroup_X2_isInFront : GoodIn wsX4_runGroup (wsV RX4 272 RX2 yX2_isInFront wsX2_isInFront) := goodIn_app (goodIn_of _ (by decide +kernel)) ggX4_runGroup_X2_isInFront
set_option maxRecDepth 20000 in
theorem ggX4_runGroup_X4_isReader : GoodIn wsX4_runGroup wsX4_isReader := goodIn_r _ [10] (by decide +kernel) (by decide +kernel)
set_option maxRecDepth 20000 in
theorem gX4_runGroup_X4_isReader : GoodIn wsX4_runGroup (va_wsS RX4 159 yX4_isReader wsX4_isReader) := goodIn_app (goodIn_of _ (by decide +kernel)) ggX4_runGroup_X4_isReader
set_option maxRecDepth 20000 in
theorem ggX4_runGroup_X2_number : GoodIn wsX4_runGroup wsX2_number := goodIn_r _ [173, 21, 42, 28, 29, 30, 31, 32, 33, 174, 175, 176, 6, 177, 86, 63, 64, 65, 53, 131, 132, 133, 134, 27, 184, 185, 186, 187, 188, 189, 190, 191, 192, 193, 194] (by decide +kernel) (by decide +kernel)
set_option maxRecDepth 20000 in
theorem gX4_runGroup_X2_number : GoodIn wsX4_runGroup (wsV RX4 113 RX2 yX2_number wsX2_number) := goodIn_app (goodIn_of _ (by decide +kernel)) ggX4_runGroup_X2_number
theorem dX4_runGroup_0 : decode cX4_runGroup 0 = .ok (.iload_n 1, 1) := by decide +kernel
theorem dX4_runGroup_1 : decode cX4_runGroup 1 = .ok (.sipush 1000, 3) := by decide +kernel
theorem dX4_runGroup_4 : decode cX4_runGroup 4 = .ok (.idiv, 1) := by decide +kernel
theorem dX4_runGroup_5 : decode cX4_runGroup 5 = .ok (.bipush 10, 2) := by decide +kernel
theorem dX4_runGroup_7 : decode cX4_runGroup 7 = .ok (.irem, 1) := by decide +kernel
theorem dX4_runGroup_8 : decode cX4_runGroup 8 = .ok (.istore_n 2, 1) := by decide +kernel
theorem dX4_runGroup_9 : decode cX4_runGroup 9 = .ok (.iload_n 1, 1) := by decide +kernel
theorem dX4_runGroup_10 : decode cX4_runGroup 10 = .ok (.bipush 100, 2) := by decide +kernel
theorem dX4_runGroup_12 : decode cX4_runGroup 12 = .ok (.idiv, 1) := by decide +kernel
theorem dX4_runGroup_13 : decode cX4_runGroup 13 = .ok (.bipush 10, 2) := by decide +kernel
theorem dX4_runGroup_15 : decode cX4_runGroup 15 = .ok (.irem, 1) := by decide +kernel
theorem dX4_runGroup_16 : decode cX4_runGroup 16 = .ok (.istore_n 3, 1) := by decide +kernel
theorem dX4_runGroup_17 : decode cX4_runGroup 17 = .ok (.iload_n 1, 1) := by decide +kernel
theorem dX4_runGroup_18 : decode cX4_runGroup 18 = .ok (.bipush 10, 2) := by decide +kernel
theorem dX4_runGroup_20 : decode cX4_runGroup 20 = .ok (.idiv, 1) := by decide +kernel
theorem dX4_runGroup_21 : decode cX4_runGroup 21 = .ok (.bipush 10, 2) := by decide +kernel
theorem dX4_runGroup_23 : decode cX4_runGroup 23 = .ok (.irem, 1) := by decide +kernel
theorem dX4_runGroup_24 : decode cX4_runGroup 24 = .ok (.istore 4, 2) := by decide +kernel
theorem dX4_runGroup_26 : decode cX4_runGroup 26 = .ok (.iload_n 1, 1) := by decide +kernel
theorem dX4_runGroup_27 : decode cX4_runGroup 27 = .ok (.bipush 10, 2) := by decide +kernel
theorem dX4_runGroup_29 : decode cX4_runGroup 29 = .ok (.irem, 1) := by decide +kernel
theorem dX4_runGroup_30 : decode cX4_runGroup 30 = .ok (.istore 5, 2) := by decide +kernel
theorem dX4_runGroup_32 : decode cX4_runGroup 32 = .ok (.iload_n 1, 1) := by decide +kernel
theorem dX4_runGroup_33 : decode cX4_runGroup 33 = .ok (.sipush 10000, 3) := by decide +kernel
theorem dX4_runGroup_36 : decode cX4_runGroup 36 = .ok (.idiv, 1) := by decide +kernel
theorem dX4_runGroup_37 : decode cX4_runGroup 37 = .ok (.tableswitch 352 1 9 #[51, 70, 102, 131, 172, 200, 256, 293, 326], 51) := by decide +kernel
theorem dX4_runGroup_88 : decode cX4_runGroup 88 = .ok (.aload_n 0, 1) := by decide +kernel
theorem dX4_runGroup_89 : decode cX4_runGroup 89 = .ok (.getfield 23, 3) := by decide +kernel
theorem dX4_runGroup_92 : decode cX4_runGroup 92 = .ok (.iload_n 2, 1) := by decide +kernel
theorem dX4_runGroup_93 : decode cX4_runGroup 93 = .ok (.bipush 10, 2) := by decide +kernel
theorem dX4_runGroup_95 : decode cX4_runGroup 95 = .ok (.iload_n 3, 1) := by decide +kernel
theorem dX4_runGroup_96 : decode cX4_runGroup 96 = .ok (.imul, 1) := by decide +kernel
theorem dX4_runGroup_97 : decode cX4_runGroup 97 = .ok (.iload 4, 2) := by decide +kernel
theorem dX4_runGroup_99 : decode cX4_runGroup 99 = .ok (.iadd, 1) := by decide +kernel
theorem dX4_runGroup_100 : decode cX4_runGroup 100 = .ok (.iconst 0, 1) := by decide +kernel
theorem dX4_runGroup_101 : decode cX4_runGroup 101 = .ok (.iload 5, 2) := by decide +kernel
theorem dX4_runGroup_103 : decode cX4_runGroup 103 = .ok (.invokevirtual 100, 3) := by decide +kernel
theorem dX4_runGroup_106 : decode cX4_runGroup 106 = .ok (.ireturn, 1) := by decide +kernel
theorem dX4_runGroup_107 : decode cX4_runGroup 107 = .ok (.iload 4, 2) := by decide +kernel
theorem dX4_runGroup_109 : decode cX4_runGroup 109 = .ok (.ifCond .ne 28, 3) := by decide +kernel
theorem dX4_runGroup_112 : decode cX4_runGroup 112 = .ok (.iload 5, 2) := by decide +kernel
theorem dX4_runGroup_114 : decode cX4_runGroup 114 = .ok (.ifCond .ne 23, 3) := by decide +kernel
theorem dX4_runGroup_117 : decode cX4_runGroup 117 = .ok (.aload_n 0, 1) := by decide +kernel
theorem dX4_runGroup_118 : decode cX4_runGroup 118 = .ok (.getfield 23, 3) := by decide +kernel
theorem dX4_runGroup_121 : decode cX4_runGroup 121 = .ok (.bipush 10, 2) := by decide +kernel
theorem dX4_runGroup_123 : decode cX4_runGroup 123 = .ok (.iload_n 2, 1) := by decide +kernel
theorem dX4_runGroup_124 : decode cX4_runGroup 124 = .ok (.imul, 1) := by decide +kernel
theorem dX4_runGroup_125 : decode cX4_runGroup 125 = .ok (.iload_n 3, 1) := by decide +kernel
theorem dX4_runGroup_126 : decode cX4_runGroup 126 = .ok (.iadd, 1) := by decide +kernel
theorem dX4_runGroup_127 : decode cX4_runGroup 127 = .ok (.invokevirtual 104, 3) := by decide +kernel
theorem dX4_runGroup_130 : decode cX4_runGroup 130 = .ok (.ifCond .eq 7, 3) := by decide +kernel
theorem dX4_runGroup_133 : decode cX4_runGroup 133 = .ok (.iconst 1, 1) := by decide +kernel
theorem dX4_runGroup_134 : decode cX4_runGroup 134 = .ok (.goto 4, 3) := by decide +kernel
theorem dX4_runGroup_137 : decode cX4_runGroup 137 = .ok (.iconst 0, 1) := by decide +kernel
theorem dX4_runGroup_138 : decode cX4_runGroup 138 = .ok (.ireturn, 1) := by decide +kernel
theorem dX4_runGroup_139 : decode cX4_runGroup 139 = .ok (.iload 4, 2) := by decide +kernel
theorem dX4_runGroup_141 : decode cX4_runGroup 141 = .ok (.ifCond .ne 25, 3) := by decide +kernel
theorem dX4_runGroup_144 : decode cX4_runGroup 144 = .ok (.aload_n 0, 1) := by decide +kernel
theorem dX4_runGroup_145 : decode cX4_runGroup 145 = .ok (.getfield 23, 3) := by decide +kernel
theorem dX4_runGroup_148 : decode cX4_runGroup 148 = .ok (.bipush 10, 2) := by decide +kernel
theorem dX4_runGroup_150 : decode cX4_runGroup 150 = .ok (.iload_n 2, 1) := by decide +kernel
theorem dX4_runGroup_151 : decode cX4_runGroup 151 = .ok (.imul, 1) := by decide +kernel
theorem dX4_runGroup_152 : decode cX4_runGroup 152 = .ok (.iload_n 3, 1) := by decide +kernel
theorem dX4_runGroup_153 : decode cX4_runGroup 153 = .ok (.iadd, 1) := by decide +kernel
theorem dX4_runGroup_154 : decode cX4_runGroup 154 = .ok (.iload 5, 2) := by decide +kernel
theorem dX4_runGroup_156 : decode cX4_runGroup 156 = .ok (.invokevirtual 302, 3) := by decide +kernel
theorem dX4_runGroup_159 : decode cX4_runGroup 159 = .ok (.ifCond .eq 7, 3) := by decide +kernel
theorem dX4_runGroup_162 : decode cX4_runGroup 162 = .ok (.iconst 1, 1) := by decide +kernel
theorem dX4_runGroup_163 : decode cX4_runGroup 163 = .ok (.goto 4, 3) := by decide +kernel
theorem dX4_runGroup_166 : decode cX4_runGroup 166 = .ok (.iconst 0, 1) := by decide +kernel
theorem dX4_runGroup_167 : decode cX4_runGroup 167 = .ok (.ireturn, 1) := by decide +kernel
theorem dX4_runGroup_168 : decode cX4_runGroup 168 = .ok (.iload_n 2, 1) := by decide +kernel
theorem dX4_runGroup_169 : decode cX4_runGroup 169 = .ok (.ifCond .ne 21, 3) := by decide +kernel
theorem dX4_runGroup_172 : decode cX4_runGroup 172 = .ok (.iload_n 3, 1) := by decide +kernel
theorem dX4_runGroup_173 : decode cX4_runGroup 173 = .ok (.ifCond .ne 17, 3) := by decide +kernel
theorem dX4_runGroup_176 : decode cX4_runGroup 176 = .ok (.bipush 10, 2) := by decide +kernel
theorem dX4_runGroup_178 : decode cX4_runGroup 178 = .ok (.iload 4, 2) := by decide +kernel
theorem dX4_runGroup_180 : decode cX4_runGroup 180 = .ok (.imul, 1) := by decide +kernel
theorem dX4_runGroup_181 : decode cX4_runGroup 181 = .ok (.iload 5, 2) := by decide +kernel
theorem dX4_runGroup_183 : decode cX4_runGroup 183 = .ok (.iadd, 1) := by decide +kernel
theorem dX4_runGroup_184 : decode cX4_runGroup 184 = .ok (.invokestatic 231, 3) := by decide +kernel
theorem dX4_runGroup_187 : decode cX4_runGroup 187 = .ok (.ifCond .ne 5, 3) := by decide +kernel
theorem dX4_runGroup_190 : decode cX4_runGroup 190 = .ok (.iconst 0, 1) := by decide +kernel
theorem dX4_runGroup_191 : decode cX4_runGroup 191 = .ok (.ireturn, 1) := by decide +kernel
theorem dX4_runGroup_192 : decode cX4_runGroup 192 = .ok (.aload_n 0, 1) := by decide +kernel
theorem dX4_runGroup_193 : decode cX4_runGroup 193 = .ok (.getfield 23, 3) := by decide +kernel
theorem dX4_runGroup_196 : decode cX4_runGroup 196 = .ok (.bipush 10, 2) := by decide +kernel
theorem dX4_runGroup_198 : decode cX4_runGroup 198 = .ok (.iload 4, 2) := by decide +kernel
theorem dX4_runGroup_200 : decode cX4_runGroup 200 = .ok (.imul, 1) := by decide +kernel
theorem dX4_runGroup_201 : decode cX4_runGroup 201 = .ok (.iload 5, 2) := by decide +kernel
theorem dX4_runGroup_203 : decode cX4_runGroup 203 = .ok (.iadd, 1) := by decide +kernel
theorem dX4_runGroup_204 : decode cX4_runGroup 204 = .ok (.invokevirtual 107, 3) := by decide +kernel
theorem dX4_runGroup_207 : decode cX4_runGroup 207 = .ok (.iconst 1, 1) := by decide +kernel
theorem dX4_runGroup_208 : decode cX4_runGroup 208 = .ok (.ireturn, 1) := by decide +kernel
theorem dX4_runGroup_209 : decode cX4_runGroup 209 = .ok (.iload_n 3, 1) := by decide +kernel
theorem dX4_runGroup_210 : decode cX4_runGroup 210 = .ok (.ifCond .ne 25, 3) := by decide +kernel
theorem dX4_runGroup_213 : decode cX4_runGroup 213 = .ok (.iload 5, 2) := by decide +kernel
theorem dX4_runGroup_215 : decode cX4_runGroup 215 = .ok (.ifCond .ne 20, 3) := by decide +kernel
theorem dX4_runGroup_218 : decode cX4_runGroup 218 = .ok (.aload_n 0, 1) := by decide +kernel
theorem dX4_runGroup_219 : decode cX4_runGroup 219 = .ok (.getfield 23, 3) := by decide +kernel
theorem dX4_runGroup_222 : decode cX4_runGroup 222 = .ok (.iload_n 2, 1) := by decide +kernel
theorem dX4_runGroup_223 : decode cX4_runGroup 223 = .ok (.iload 4, 2) := by decide +kernel
theorem dX4_runGroup_225 : decode cX4_runGroup 225 = .ok (.invokevirtual 305, 3) := by decide +kernel
theorem dX4_runGroup_228 : decode cX4_runGroup 228 = .ok (.ifCond .eq 7, 3) := by decide +kernel
theorem dX4_runGroup_231 : decode cX4_runGroup 231 = .ok (.iconst 1, 1) := by decide +kernel
theorem dX4_runGroup_232 : decode cX4_runGroup 232 = .ok (.goto 4, 3) := by decide +kernel
theorem dX4_runGroup_235 : decode cX4_runGroup 235 = .ok (.iconst 0, 1) := by decide +kernel
theorem dX4_runGroup_236 : decode cX4_runGroup 236 = .ok (.ireturn, 1) := by decide +kernel
theorem dX4_runGroup_237 : decode cX4_runGroup 237 = .ok (.iload 4, 2) := by decide +kernel
theorem dX4_runGroup_239 : decode cX4_runGroup 239 = .ok (.ifCond .ne 52, 3) := by decide +kernel
theorem dX4_runGroup_242 : decode cX4_runGroup 242 = .ok (.iload 5, 2) := by decide +kernel
theorem dX4_runGroup_244 : decode cX4_runGroup 244 = .ok (.iconst 1, 1) := by decide +kernel
theorem dX4_runGroup_245 : decode cX4_runGroup 245 = .ok (.if_icmp .gt 46, 3) := by decide +kernel
theorem dX4_runGroup_248 : decode cX4_runGroup 248 = .ok (.bipush 10, 2) := by decide +kernel
theorem dX4_runGroup_250 : decode cX4_runGroup 250 = .ok (.iload_n 2, 1) := by decide +kernel
theorem dX4_runGroup_251 : decode cX4_runGroup 251 = .ok (.imul, 1) := by decide +kernel
theorem dX4_runGroup_252 : decode cX4_runGroup 252 = .ok (.iload_n 3, 1) := by decide +kernel
theorem dX4_runGroup_253 : decode cX4_runGroup 253 = .ok (.iadd, 1) := by decide +kernel
theorem dX4_runGroup_254 : decode cX4_runGroup 254 = .ok (.invokestatic 139, 3) := by decide +kernel
theorem dX4_runGroup_257 : decode cX4_runGroup 257 = .ok (.ifCond .eq 34, 3) := by decide +kernel
theorem dX4_runGroup_260 : decode cX4_runGroup 260 = .ok (.aload_n 0, 1) := by decide +kernel
theorem dX4_runGroup_261 : decode cX4_runGroup 261 = .ok (.getfield 23, 3) := by decide +kernel
theorem dX4_runGroup_264 : decode cX4_runGroup 264 = .ok (.bipush 10, 2) := by decide +kernel
theorem dX4_runGroup_266 : decode cX4_runGroup 266 = .ok (.iload_n 2, 1) := by decide +kernel
theorem dX4_runGroup_267 : decode cX4_runGroup 267 = .ok (.imul, 1) := by decide +kernel
theorem dX4_runGroup_268 : decode cX4_runGroup 268 = .ok (.iload_n 3, 1) := by decide +kernel
theorem dX4_runGroup_269 : decode cX4_runGroup 269 = .ok (.iadd, 1) := by decide +kernel
theorem dX4_runGroup_270 : decode cX4_runGroup 270 = .ok (.invokevirtual 272, 3) := by decide +kernel
theorem dX4_runGroup_273 : decode cX4_runGroup 273 = .ok (.iload 5, 2) := by decide +kernel
theorem dX4_runGroup_275 : decode cX4_runGroup 275 = .ok (.iconst 1, 1) := by decide +kernel
theorem dX4_runGroup_276 : decode cX4_runGroup 276 = .ok (.if_icmp .ne 7, 3) := by decide +kernel
theorem dX4_runGroup_279 : decode cX4_runGroup 279 = .ok (.iconst 1, 1) := by decide +kernel
theorem dX4_runGroup_280 : decode cX4_runGroup 280 = .ok (.goto 4, 3) := by decide +kernel
theorem dX4_runGroup_283 : decode cX4_runGroup 283 = .ok (.iconst 0, 1) := by decide +kernel
theorem dX4_runGroup_284 : decode cX4_runGroup 284 = .ok (.if_icmp .ne 7, 3) := by decide +kernel
theorem dX4_runGroup_287 : decode cX4_runGroup 287 = .ok (.iconst 1, 1) := by decide +kernel
theorem dX4_runGroup_288 : decode cX4_runGroup 288 = .ok (.goto 4, 3) := by decide +kernel
theorem dX4_runGroup_291 : decode cX4_runGroup 291 = .ok (.iconst 0, 1) := by decide +kernel
theorem dX4_runGroup_292 : decode cX4_runGroup 292 = .ok (.ireturn, 1) := by decide +kernel
theorem dX4_runGroup_293 : decode cX4_runGroup 293 = .ok (.iload_n 3, 1) := by decide +kernel
theorem dX4_runGroup_294 : decode cX4_runGroup 294 = .ok (.ifCond .ne 34, 3) := by decide +kernel
theorem dX4_runGroup_297 : decode cX4_runGroup 297 = .ok (.iload_n 2, 1) := by decide +kernel
theorem dX4_runGroup_298 : decode cX4_runGroup 298 = .ok (.invokestatic 159, 3) := by decide +kernel
theorem dX4_runGroup_301 : decode cX4_runGroup 301 = .ok (.ifCond .eq 27, 3) := by decide +kernel
theorem dX4_runGroup_304 : decode cX4_runGroup 304 = .ok (.aload_n 0, 1) := by decide +kernel
theorem dX4_runGroup_305 : decode cX4_runGroup 305 = .ok (.getfield 23, 3) := by decide +kernel
theorem dX4_runGroup_308 : decode cX4_runGroup 308 = .ok (.getfield 167, 3) := by decide +kernel
theorem dX4_runGroup_311 : decode cX4_runGroup 311 = .ok (.iload_n 2, 1) := by decide +kernel
theorem dX4_runGroup_312 : decode cX4_runGroup 312 = .ok (.iaload, 1) := by decide +kernel
theorem dX4_runGroup_313 : decode cX4_runGroup 313 = .ok (.bipush 10, 2) := by decide +kernel
theorem dX4_runGroup_315 : decode cX4_runGroup 315 = .ok (.iload 4, 2) := by decide +kernel
theorem dX4_runGroup_317 : decode cX4_runGroup 317 = .ok (.imul, 1) := by decide +kernel
theorem dX4_runGroup_318 : decode cX4_runGroup 318 = .ok (.iload 5, 2) := by decide +kernel
theorem dX4_runGroup_320 : decode cX4_runGroup 320 = .ok (.iadd, 1) := by decide +kernel
theorem dX4_runGroup_321 : decode cX4_runGroup 321 = .ok (.if_icmp .lt 7, 3) := by decide +kernel
theorem dX4_runGroup_324 : decode cX4_runGroup 324 = .ok (.iconst 1, 1) := by decide +kernel
theorem dX4_runGroup_325 : decode cX4_runGroup 325 = .ok (.goto 4, 3) := by decide +kernel
theorem dX4_runGroup_328 : decode cX4_runGroup 328 = .ok (.iconst 0, 1) := by decide +kernel
theorem dX4_runGroup_329 : decode cX4_runGroup 329 = .ok (.ireturn, 1) := by decide +kernel
theorem dX4_runGroup_330 : decode cX4_runGroup 330 = .ok (.iload_n 2, 1) := by decide +kernel
theorem dX4_runGroup_331 : decode cX4_runGroup 331 = .ok (.ifCond .ne 30, 3) := by decide +kernel
theorem dX4_runGroup_334 : decode cX4_runGroup 334 = .ok (.iload_n 3, 1) := by decide +kernel
theorem dX4_runGroup_335 : decode cX4_runGroup 335 = .ok (.ifCond .ne 26, 3) := by decide +kernel
theorem dX4_runGroup_338 : decode cX4_runGroup 338 = .ok (.aload_n 0, 1) := by decide +kernel
theorem dX4_runGroup_339 : decode cX4_runGroup 339 = .ok (.getfield 23, 3) := by decide +kernel
theorem dX4_runGroup_342 : decode cX4_runGroup 342 = .ok (.iconst 3, 1) := by decide +kernel
theorem dX4_runGroup_343 : decode cX4_runGroup 343 = .ok (.invokevirtual 113, 3) := by decide +kernel
theorem dX4_runGroup_346 : decode cX4_runGroup 346 = .ok (.bipush 10, 2) := by decide +kernel
theorem dX4_runGroup_348 : decode cX4_runGroup 348 = .ok (.iload 4, 2) := by decide +kernel
theorem dX4_runGroup_350 : decode cX4_runGroup 350 = .ok (.imul, 1) := by decide +kernel
theorem dX4_runGroup_351 : decode cX4_runGroup 351 = .ok (.iload 5, 2) := by decide +kernel
theorem dX4_runGroup_353 : decode cX4_runGroup 353 = .ok (.iadd, 1) := by decide +kernel
theorem dX4_runGroup_354 : decode cX4_runGroup 354 = .ok (.if_icmp .gt 7, 3) := by decide +kernel
theorem dX4_runGroup_357 : decode cX4_runGroup 357 = .ok (.iconst 1, 1) := by decide +kernel
theorem dX4_runGroup_358 : decode cX4_runGroup 358 = .ok (.goto 4, 3) := by decide +kernel
theorem dX4_runGroup_361 : decode cX4_runGroup 361 = .ok (.iconst 0, 1) := by decide +kernel
theorem dX4_runGroup_362 : decode cX4_runGroup 362 = .ok (.ireturn, 1) := by decide +kernel
theorem dX4_runGroup_363 : decode cX4_runGroup 363 = .ok (.iload_n 2, 1) := by decide +kernel
theorem dX4_runGroup_364 : decode cX4_runGroup 364 = .ok (.ifCond .ne 23, 3) := by decide +kernel
theorem dX4_runGroup_367 : decode cX4_runGroup 367 = .ok (.aload_n 0, 1) := by decide +kernel
theorem dX4_runGroup_368 : decode cX4_runGroup 368 = .ok (.getfield 23, 3) := by decide +kernel
theorem dX4_runGroup_371 : decode cX4_runGroup 371 = .ok (.iconst 5, 1) := by decide +kernel
theorem dX4_runGroup_372 : decode cX4_runGroup 372 = .ok (.invokevirtual 113, 3) := by decide +kernel
theorem dX4_runGroup_375 : decode cX4_runGroup 375 = .ok (.iload_n 1, 1) := by decide +kernel
theorem dX4_runGroup_376 : decode cX4_runGroup 376 = .ok (.sipush 1000, 3) := by decide +kernel
theorem dX4_runGroup_379 : decode cX4_runGroup 379 = .ok (.irem, 1) := by decide +kernel
theorem dX4_runGroup_380 : decode cX4_runGroup 380 = .ok (.if_icmp .lt 7, 3) := by decide +kernel
theorem dX4_runGroup_383 : decode cX4_runGroup 383 = .ok (.iconst 1, 1) := by decide +kernel
theorem dX4_runGroup_384 : decode cX4_runGroup 384 = .ok (.goto 4, 3) := by decide +kernel
theorem dX4_runGroup_387 : decode cX4_runGroup 387 = .ok (.iconst 0, 1) := by decide +kernel
theorem dX4_runGroup_388 : decode cX4_runGroup 388 = .ok (.ireturn, 1) := by decide +kernel
theorem dX4_runGroup_389 : decode cX4_runGroup 389 = .ok (.iconst 0, 1) := by decide +kernel
theorem dX4_runGroup_390 : decode cX4_runGroup 390 = .ok (.ireturn, 1) := by decide +kernel
set_option maxRecDepth 20000 in
theorem ggX4_simulate_X2_copyFrom : GoodIn wsX4_simulate wsX2_copyFrom := goodIn_r _ [11, 12, 13, 14, 15, 16, 17, 18, 19, 20, 21, 22, 23, 24, 25, 26, 27, 28, 29, 30, 31, 32, 33, 34, 35, 36, 37, 38, 178, 179, 180, 181, 182, 183, 184, 185, 186, 187, 188] (by decide +kernel) (by decide +kernel)
set_option maxRecDepth 20000 in
theorem gX4_simulate_X2_copyFrom : GoodIn wsX4_simulate (wsV RX4 257 RX2 yX2_copyFrom wsX2_copyFrom) := goodIn_app (goodIn_of _ (by decide +kernel)) ggX4_simulate_X2_copyFrom
set_option maxRecDepth 20000 in
theorem ggX4_simulate_X4_simulateDay : GoodIn wsX4_simulate wsX4_simulateDay := goodIn_r _ [42, 3, 43, 44, 45, 46, 47, 10, 48, 49, 22, 50, 51, 52, 53, 54, 55, 56, 57, 58, 59, 60, 19, 13, 61, 62, 63, 64, 16, 65, 66, 67, 35, 68, 38, 69, 70, 71, 72, 73, 74, 75, 76, 18, 14, 20, 77, 78, 79, 80, 81, 82, 83, 84, 37, 85, 86, 87, 88, 89, 29, 30, 31, 90, 91, 92, 93, 94, 95, 96, 97, 98, 99, 100, 101, 102, 103, 104, 105, 106, 107, 108, 109, 110, 111, 112, 113, 114, 115, 116, 117, 118, 119, 120, 121, 122, 12, 123, 124, 125, 126, 127, 128, 129, 130, 131, 132, 133, 134, 135, 136, 137, 138, 17, 139, 140, 141, 142, 143, 144, 145, 146, 147, 148, 149, 150, 151, 152, 153, 154, 155, 15, 156, 157, 158, 159, 172, 173, 174, 175, 176, 177, 178, 179, 180, 181, 182, 183, 184, 185, 186, 187, 188] (by decide +kernel) (by decide +kernel)
set_option maxRecDepth 20000 in
theorem gX4_simulate_X4_simulateDay : GoodIn wsX4_simulate (wsV RX4 314 RX4 yX4_simulateDay wsX4_simulateDay) := goodIn_app (goodIn_of _ (by decide +kernel)) ggX4_simulate_X4_simulateDay
set_option maxRecDepth 20000 in
theorem ggX4_simulate_X4_more : GoodIn wsX4_simulate wsX4_more := goodIn_r _ [163, 3, 4, 164, 165, 166, 10, 167, 19, 18, 65, 66, 67, 35, 68, 38, 168, 169, 170, 171, 114, 91, 92, 93, 37, 139, 140, 141, 142, 16, 172, 173, 174, 175, 176, 177, 178, 179, 180, 181, 182, 183, 184, 185, 186, 187, 188] (by decide +kernel) (by decide +kernel)
set_option maxRecDepth 20000 in
theorem gX4_simulate_X4_more : GoodIn wsX4_simulate (wsV RX4 283 RX4 yX4_more wsX4_more) := goodIn_app (goodIn_of _ (by decide +kernel)) ggX4_simulate_X4_more
set_option maxRecDepth 20000 in
theorem ggX4_simulate_X2_number : GoodIn wsX4_simulate wsX2_number := goodIn_r _ [167, 19, 18, 65, 66, 67, 35, 68, 38, 168, 169, 170, 10, 171, 114, 91, 92, 93, 37, 139, 140, 141, 142, 16, 178, 179, 180, 181, 182, 183, 184, 185, 186, 187, 188] (by decide +kernel) (by decide +kernel)
set_option maxRecDepth 20000 in
theorem gX4_simulate_X2_number : GoodIn wsX4_simulate (wsV RX4 113 RX2 yX2_number wsX2_number) := goodIn_app (goodIn_of _ (by decide +kernel)) ggX4_simulate_X2_number
theorem dX4_simulate_0 : decode cX4_simulate 0 = .ok (.iload_n 3, 1) := by decide +kernel
theorem dX4_simulate_1 : decode cX4_simulate 1 = .ok (.iconst 1, 1) := by decide +kernel
theorem dX4_simulate_2 : decode cX4_simulate 2 = .ok (.if_icmp .lt 9, 3) := by decide +kernel
theorem dX4_simulate_5 : decode cX4_simulate 5 = .ok (.iload_n 3, 1) := by decide +kernel
theorem dX4_simulate_6 : decode cX4_simulate 6 = .ok (.bipush 99, 2) := by decide +kernel
theorem dX4_simulate_8 : decode cX4_simulate 8 = .ok (.if_icmp .le 14, 3) := by decide +kernel
theorem dX4_simulate_11 : decode cX4_simulate 11 = .ok (.new 41, 3) := by decide +kernel
theorem dX4_simulate_14 : decode cX4_simulate 14 = .ok (.dup, 1) := by decide +kernel
theorem dX4_simulate_15 : decode cX4_simulate 15 = .ok (.ldc_w 308, 3) := by decide +kernel
theorem dX4_simulate_18 : decode cX4_simulate 18 = .ok (.invokespecial 45, 3) := by decide +kernel
theorem dX4_simulate_21 : decode cX4_simulate 21 = .ok (.athrow, 1) := by decide +kernel
theorem dX4_simulate_22 : decode cX4_simulate 22 = .ok (.aload_n 0, 1) := by decide +kernel
theorem dX4_simulate_23 : decode cX4_simulate 23 = .ok (.getfield 23, 3) := by decide +kernel
theorem dX4_simulate_26 : decode cX4_simulate 26 = .ok (.aload_n 0, 1) := by decide +kernel
theorem dX4_simulate_27 : decode cX4_simulate 27 = .ok (.getfield 19, 3) := by decide +kernel
theorem dX4_simulate_30 : decode cX4_simulate 30 = .ok (.invokevirtual 257, 3) := by decide +kernel
theorem dX4_simulate_33 : decode cX4_simulate 33 = .ok (.lload_n 1, 1) := by decide +kernel
theorem dX4_simulate_34 : decode cX4_simulate 34 = .ok (.lstore 4, 2) := by decide +kernel
theorem dX4_simulate_36 : decode cX4_simulate 36 = .ok (.iconst 0, 1) := by decide +kernel
theorem dX4_simulate_37 : decode cX4_simulate 37 = .ok (.istore 6, 2) := by decide +kernel
theorem dX4_simulate_39 : decode cX4_simulate 39 = .ok (.iload 6, 2) := by decide +kernel
theorem dX4_simulate_41 : decode cX4_simulate 41 = .ok (.iload_n 3, 1) := by decide +kernel
theorem dX4_simulate_42 : decode cX4_simulate 42 = .ok (.if_icmp .ge 31, 3) := by decide +kernel
theorem dX4_simulate_45 : decode cX4_simulate 45 = .ok (.lload 4, 2) := by decide +kernel
theorem dX4_simulate_47 : decode cX4_simulate 47 = .ok (.ldc2_w 310, 3) := by decide +kernel
theorem dX4_simulate_50 : decode cX4_simulate 50 = .ok (.lmul, 1) := by decide +kernel
theorem dX4_simulate_51 : decode cX4_simulate 51 = .ok (.ldc2_w 312, 3) := by decide +kernel
theorem dX4_simulate_54 : decode cX4_simulate 54 = .ok (.ladd, 1) := by decide +kernel
theorem dX4_simulate_55 : decode cX4_simulate 55 = .ok (.lstore 4, 2) := by decide +kernel
theorem dX4_simulate_57 : decode cX4_simulate 57 = .ok (.aload_n 0, 1) := by decide +kernel
theorem dX4_simulate_58 : decode cX4_simulate 58 = .ok (.lload 4, 2) := by decide +kernel
theorem dX4_simulate_60 : decode cX4_simulate 60 = .ok (.bipush 33, 2) := by decide +kernel
theorem dX4_simulate_62 : decode cX4_simulate 62 = .ok (.lushr, 1) := by decide +kernel
theorem dX4_simulate_63 : decode cX4_simulate 63 = .ok (.l2i, 1) := by decide +kernel
theorem dX4_simulate_64 : decode cX4_simulate 64 = .ok (.invokevirtual 314, 3) := by decide +kernel
theorem dX4_simulate_67 : decode cX4_simulate 67 = .ok (.iinc 6 1, 3) := by decide +kernel
theorem dX4_simulate_70 : decode cX4_simulate 70 = .ok (.goto (-31), 3) := by decide +kernel
theorem dX4_simulate_73 : decode cX4_simulate 73 = .ok (.sipush 10000, 3) := by decide +kernel
theorem dX4_simulate_76 : decode cX4_simulate 76 = .ok (.aload_n 0, 1) := by decide +kernel
theorem dX4_simulate_77 : decode cX4_simulate 77 = .ok (.iconst 2, 1) := by decide +kernel
theorem dX4_simulate_78 : decode cX4_simulate 78 = .ok (.invokevirtual 283, 3) := by decide +kernel
theorem dX4_simulate_81 : decode cX4_simulate 81 = .ok (.imul, 1) := by decide +kernel
theorem dX4_simulate_82 : decode cX4_simulate 82 = .ok (.bipush 100, 2) := by decide +kernel
theorem dX4_simulate_84 : decode cX4_simulate 84 = .ok (.aload_n 0, 1) := by decide +kernel
theorem dX4_simulate_85 : decode cX4_simulate 85 = .ok (.iconst 3, 1) := by decide +kernel
theorem dX4_simulate_86 : decode cX4_simulate 86 = .ok (.invokevirtual 283, 3) := by decide +kernel
theorem dX4_simulate_89 : decode cX4_simulate 89 = .ok (.imul, 1) := by decide +kernel
theorem dX4_simulate_90 : decode cX4_simulate 90 = .ok (.iadd, 1) := by decide +kernel
theorem dX4_simulate_91 : decode cX4_simulate 91 = .ok (.aload_n 0, 1) := by decide +kernel
theorem dX4_simulate_92 : decode cX4_simulate 92 = .ok (.getfield 23, 3) := by decide +kernel
theorem dX4_simulate_95 : decode cX4_simulate 95 = .ok (.iconst 1, 1) := by decide +kernel
theorem dX4_simulate_96 : decode cX4_simulate 96 = .ok (.invokevirtual 113, 3) := by decide +kernel
theorem dX4_simulate_99 : decode cX4_simulate 99 = .ok (.iadd, 1) := by decide +kernel
theorem dX4_simulate_100 : decode cX4_simulate 100 = .ok (.ireturn, 1) := by decide +kernel
set_option maxRecDepth 20000 in
theorem ggX4_simulateDay_X2_placeIfAllowed : GoodIn wsX4_simulateDay wsX2_placeIfAllowed := goodIn_r _ [8, 9, 10, 11, 12, 13, 14, 15, 16, 17, 18, 19, 20, 7, 21, 22, 23, 24, 25, 26, 27, 28, 29, 30, 31, 32, 33, 34, 35, 36, 37, 38, 39, 40, 41, 42, 43, 44, 45, 46, 47, 48, 49, 50, 51, 52, 53, 54, 55, 56, 57, 58, 59, 60, 61, 62, 63, 64, 65, 66, 67, 68, 69, 70, 142, 143, 144, 145, 146, 147, 148, 149, 150, 151, 152] (by decide +kernel) (by decide +kernel)
set_option maxRecDepth 20000 in
theorem gX4_simulateDay_X2_placeIfAllowed : GoodIn wsX4_simulateDay (wsV RX4 100 RX2 yX2_placeIfAllowed wsX2_placeIfAllowed) := goodIn_app (goodIn_of _ (by decide +kernel)) ggX4_simulateDay_X2_placeIfAllowed
set_option maxRecDepth 20000 in
theorem ggX4_simulateDay_X2_dropIfAllowed : GoodIn wsX4_simulateDay wsX2_dropIfAllowed := goodIn_r _ [74, 22, 75, 76, 77, 32, 78, 34, 79, 80, 81, 7, 82, 43, 83, 84, 85, 86, 23, 87, 64, 65, 66, 54, 9, 10, 11, 46, 47, 48, 49, 50, 51, 52, 53, 55, 56, 57, 58, 59, 60, 61, 62, 63, 142, 143, 144, 145, 146, 147, 148, 149, 150, 151, 152] (by decide +kernel) (by decide +kernel)
set_option maxRecDepth 20000 in
theorem gX4_simulateDay_X2_dropIfAllowed : GoodIn wsX4_simulateDay (wsV RX4 104 RX2 yX2_dropIfAllowed wsX2_dropIfAllowed) := goodIn_app (goodIn_of _ (by decide +kernel)) ggX4_simulateDay_X2_dropIfAllowed
set_option maxRecDepth 20000 in
theorem ggX4_simulateDay_X2_passNights : GoodIn wsX4_simulateDay wsX2_passNights := goodIn_r _ [91, 43, 92, 93, 94, 7, 95, 96, 97, 98, 99, 100, 22, 87, 64, 65, 32, 66, 34, 54, 101, 102, 103, 104, 29, 30, 31, 33, 105, 106, 107, 108, 12, 10, 13, 109, 110, 111, 112, 28, 113, 114, 115, 116, 117, 118, 119, 120, 121, 39, 40, 41, 42, 44, 45, 9, 11, 46, 47, 48, 49, 50, 51, 52, 53, 55, 56, 57, 58, 59, 60, 61, 62, 63, 67, 68, 69, 70, 122, 123, 124, 125, 126, 127, 128, 129, 130, 131, 83, 84, 85, 86, 23, 132, 133, 134, 135, 142, 143, 144, 145, 146, 147, 148, 149, 150, 151, 152] (by decide +kernel) (by decide +kernel)
set_option maxRecDepth 20000 in
theorem gX4_simulateDay_X2_passNights : GoodIn wsX4_simulateDay (wsV RX4 107 RX2 yX2_passNights wsX2_passNights) := goodIn_app (goodIn_of _ (by decide +kernel)) ggX4_simulateDay_X2_passNights
theorem dX4_simulateDay_0 : decode cX4_simulateDay 0 = .ok (.aload_n 0, 1) := by decide +kernel
theorem dX4_simulateDay_1 : decode cX4_simulateDay 1 = .ok (.getfield 23, 3) := by decide +kernel
theorem dX4_simulateDay_4 : decode cX4_simulateDay 4 = .ok (.iload_n 1, 1) := by decide +kernel
theorem dX4_simulateDay_5 : decode cX4_simulateDay 5 = .ok (.iconst 4, 1) := by decide +kernel
theorem dX4_simulateDay_6 : decode cX4_simulateDay 6 = .ok (.irem, 1) := by decide +kernel
theorem dX4_simulateDay_7 : decode cX4_simulateDay 7 = .ok (.iload_n 1, 1) := by decide +kernel
theorem dX4_simulateDay_8 : decode cX4_simulateDay 8 = .ok (.iconst 4, 1) := by decide +kernel
theorem dX4_simulateDay_9 : decode cX4_simulateDay 9 = .ok (.idiv, 1) := by decide +kernel
theorem dX4_simulateDay_10 : decode cX4_simulateDay 10 = .ok (.bipush 16, 2) := by decide +kernel
theorem dX4_simulateDay_12 : decode cX4_simulateDay 12 = .ok (.irem, 1) := by decide +kernel
theorem dX4_simulateDay_13 : decode cX4_simulateDay 13 = .ok (.iload_n 1, 1) := by decide +kernel
theorem dX4_simulateDay_14 : decode cX4_simulateDay 14 = .ok (.bipush 64, 2) := by decide +kernel
theorem dX4_simulateDay_16 : decode cX4_simulateDay 16 = .ok (.idiv, 1) := by decide +kernel
theorem dX4_simulateDay_17 : decode cX4_simulateDay 17 = .ok (.bipush 8, 2) := by decide +kernel
theorem dX4_simulateDay_19 : decode cX4_simulateDay 19 = .ok (.irem, 1) := by decide +kernel
theorem dX4_simulateDay_20 : decode cX4_simulateDay 20 = .ok (.iload_n 1, 1) := by decide +kernel
theorem dX4_simulateDay_21 : decode cX4_simulateDay 21 = .ok (.sipush 512, 3) := by decide +kernel
theorem dX4_simulateDay_24 : decode cX4_simulateDay 24 = .ok (.idiv, 1) := by decide +kernel
theorem dX4_simulateDay_25 : decode cX4_simulateDay 25 = .ok (.bipush 10, 2) := by decide +kernel
theorem dX4_simulateDay_27 : decode cX4_simulateDay 27 = .ok (.irem, 1) := by decide +kernel
theorem dX4_simulateDay_28 : decode cX4_simulateDay 28 = .ok (.invokevirtual 100, 3) := by decide +kernel
theorem dX4_simulateDay_31 : decode cX4_simulateDay 31 = .ok (.pop, 1) := by decide +kernel
theorem dX4_simulateDay_32 : decode cX4_simulateDay 32 = .ok (.iload_n 1, 1) := by decide +kernel
theorem dX4_simulateDay_33 : decode cX4_simulateDay 33 = .ok (.sipush 8192, 3) := by decide +kernel
theorem dX4_simulateDay_36 : decode cX4_simulateDay 36 = .ok (.idiv, 1) := by decide +kernel
theorem dX4_simulateDay_37 : decode cX4_simulateDay 37 = .ok (.iconst 4, 1) := by decide +kernel
theorem dX4_simulateDay_38 : decode cX4_simulateDay 38 = .ok (.irem, 1) := by decide +kernel
theorem dX4_simulateDay_39 : decode cX4_simulateDay 39 = .ok (.ifCond .ne 19, 3) := by decide +kernel
theorem dX4_simulateDay_42 : decode cX4_simulateDay 42 = .ok (.aload_n 0, 1) := by decide +kernel
theorem dX4_simulateDay_43 : decode cX4_simulateDay 43 = .ok (.getfield 23, 3) := by decide +kernel
theorem dX4_simulateDay_46 : decode cX4_simulateDay 46 = .ok (.iload_n 1, 1) := by decide +kernel
theorem dX4_simulateDay_47 : decode cX4_simulateDay 47 = .ok (.ldc_w 317, 3) := by decide +kernel
theorem dX4_simulateDay_50 : decode cX4_simulateDay 50 = .ok (.idiv, 1) := by decide +kernel
theorem dX4_simulateDay_51 : decode cX4_simulateDay 51 = .ok (.bipush 20, 2) := by decide +kernel
theorem dX4_simulateDay_53 : decode cX4_simulateDay 53 = .ok (.irem, 1) := by decide +kernel
theorem dX4_simulateDay_54 : decode cX4_simulateDay 54 = .ok (.invokevirtual 104, 3) := by decide +kernel
theorem dX4_simulateDay_57 : decode cX4_simulateDay 57 = .ok (.pop, 1) := by decide +kernel
theorem dX4_simulateDay_58 : decode cX4_simulateDay 58 = .ok (.iload_n 1, 1) := by decide +kernel
theorem dX4_simulateDay_59 : decode cX4_simulateDay 59 = .ok (.ldc_w 318, 3) := by decide +kernel
theorem dX4_simulateDay_62 : decode cX4_simulateDay 62 = .ok (.idiv, 1) := by decide +kernel
theorem dX4_simulateDay_63 : decode cX4_simulateDay 63 = .ok (.iconst 2, 1) := by decide +kernel
theorem dX4_simulateDay_64 : decode cX4_simulateDay 64 = .ok (.irem, 1) := by decide +kernel
theorem dX4_simulateDay_65 : decode cX4_simulateDay 65 = .ok (.ifCond .ne 11, 3) := by decide +kernel
theorem dX4_simulateDay_68 : decode cX4_simulateDay 68 = .ok (.aload_n 0, 1) := by decide +kernel
theorem dX4_simulateDay_69 : decode cX4_simulateDay 69 = .ok (.getfield 23, 3) := by decide +kernel
theorem dX4_simulateDay_72 : decode cX4_simulateDay 72 = .ok (.iconst 1, 1) := by decide +kernel
theorem dX4_simulateDay_73 : decode cX4_simulateDay 73 = .ok (.invokevirtual 107, 3) := by decide +kernel
theorem dX4_simulateDay_76 : decode cX4_simulateDay 76 = .ok (.return_, 1) := by decide +kernel
set_option maxRecDepth 20000 in
theorem ggX4_save_X4_isSlot : GoodIn wsX4_save wsX4_isSlot := goodIn_r _ [9] (by decide +kernel) (by decide +kernel)
set_option maxRecDepth 20000 in
theorem gX4_save_X4_isSlot : GoodIn wsX4_save (va_wsS RX4 319 yX4_isSlot wsX4_isSlot) := goodIn_app (goodIn_of _ (by decide +kernel)) ggX4_save_X4_isSlot
set_option maxRecDepth 20000 in
theorem ggX4_save_X2_copyFrom : GoodIn wsX4_save wsX2_copyFrom := goodIn_r _ [14, 15, 16, 17, 18, 19, 20, 21, 22, 23, 24, 8, 25, 26, 27, 28, 29, 30, 31, 32, 33, 34, 35, 36, 37, 38, 39, 40, 67, 68, 69, 70, 71, 72, 73, 74, 75, 76, 77] (by decide +kernel) (by decide +kernel)
set_option maxRecDepth 20000 in
theorem gX4_save_X2_copyFrom : GoodIn wsX4_save (wsV RX4 257 RX2 yX2_copyFrom wsX2_copyFrom) := goodIn_app (goodIn_of _ (by decide +kernel)) ggX4_save_X2_copyFrom
set_option maxRecDepth 20000 in
theorem ggX4_save_X2_number : GoodIn wsX4_save wsX2_number := goodIn_r _ [44, 22, 21, 45, 46, 47, 37, 48, 40, 49, 50, 51, 13, 52, 53, 54, 55, 56, 39, 57, 58, 59, 60, 19, 67, 68, 69, 70, 71, 72, 73, 74, 75, 76, 77] (by decide +kernel) (by decide +kernel)
set_option maxRecDepth 20000 in
theorem gX4_save_X2_number : GoodIn wsX4_save (wsV RX4 113 RX2 yX2_number wsX2_number) := goodIn_app (goodIn_of _ (by decide +kernel)) ggX4_save_X2_number
theorem dX4_save_0 : decode cX4_save 0 = .ok (.iload_n 1, 1) := by decide +kernel
theorem dX4_save_1 : decode cX4_save 1 = .ok (.invokestatic 319, 3) := by decide +kernel
theorem dX4_save_4 : decode cX4_save 4 = .ok (.ifCond .ne 14, 3) := by decide +kernel
theorem dX4_save_7 : decode cX4_save 7 = .ok (.new 125, 3) := by decide +kernel
theorem dX4_save_10 : decode cX4_save 10 = .ok (.dup, 1) := by decide +kernel
theorem dX4_save_11 : decode cX4_save 11 = .ok (.ldc_w 322, 3) := by decide +kernel
theorem dX4_save_14 : decode cX4_save 14 = .ok (.invokespecial 129, 3) := by decide +kernel
theorem dX4_save_17 : decode cX4_save 17 = .ok (.athrow, 1) := by decide +kernel
theorem dX4_save_18 : decode cX4_save 18 = .ok (.aload_n 0, 1) := by decide +kernel
theorem dX4_save_19 : decode cX4_save 19 = .ok (.getfield 33, 3) := by decide +kernel
theorem dX4_save_22 : decode cX4_save 22 = .ok (.iload_n 1, 1) := by decide +kernel
theorem dX4_save_23 : decode cX4_save 23 = .ok (.aaload, 1) := by decide +kernel
theorem dX4_save_24 : decode cX4_save 24 = .ok (.aload_n 0, 1) := by decide +kernel
theorem dX4_save_25 : decode cX4_save 25 = .ok (.getfield 19, 3) := by decide +kernel
theorem dX4_save_28 : decode cX4_save 28 = .ok (.invokevirtual 257, 3) := by decide +kernel
theorem dX4_save_31 : decode cX4_save 31 = .ok (.aload_n 0, 1) := by decide +kernel
theorem dX4_save_32 : decode cX4_save 32 = .ok (.getfield 37, 3) := by decide +kernel
theorem dX4_save_35 : decode cX4_save 35 = .ok (.iload_n 1, 1) := by decide +kernel
theorem dX4_save_36 : decode cX4_save 36 = .ok (.iconst 1, 1) := by decide +kernel
theorem dX4_save_37 : decode cX4_save 37 = .ok (.bastore, 1) := by decide +kernel
theorem dX4_save_38 : decode cX4_save 38 = .ok (.aload_n 0, 1) := by decide +kernel
theorem dX4_save_39 : decode cX4_save 39 = .ok (.getfield 19, 3) := by decide +kernel
theorem dX4_save_42 : decode cX4_save 42 = .ok (.iconst 0, 1) := by decide +kernel
theorem dX4_save_43 : decode cX4_save 43 = .ok (.invokevirtual 113, 3) := by decide +kernel
theorem dX4_save_46 : decode cX4_save 46 = .ok (.ireturn, 1) := by decide +kernel
set_option maxRecDepth 20000 in
theorem ggX4_restore_X4_isSlot : GoodIn wsX4_restore wsX4_isSlot := goodIn_r _ [12] (by decide +kernel) (by decide +kernel)
set_option maxRecDepth 20000 in
theorem gX4_restore_X4_isSlot : GoodIn wsX4_restore (va_wsS RX4 319 yX4_isSlot wsX4_isSlot) := goodIn_app (goodIn_of _ (by decide +kernel)) ggX4_restore_X4_isSlot
set_option maxRecDepth 20000 in
theorem ggX4_restore_X2_copyFrom : GoodIn wsX4_restore wsX2_copyFrom := goodIn_r _ [17, 18, 19, 20, 21, 22, 23, 24, 25, 26, 27, 11, 28, 29, 30, 31, 32, 33, 34, 35, 36, 37, 38, 39, 40, 41, 42, 43, 76, 77, 78, 79, 80, 81, 82, 83, 84, 85, 86] (by decide +kernel) (by decide +kernel)
set_option maxRecDepth 20000 in
theorem gX4_restore_X2_copyFrom : GoodIn wsX4_restore (wsV RX4 257 RX2 yX2_copyFrom wsX2_copyFrom) := goodIn_app (goodIn_of _ (by decide +kernel)) ggX4_restore_X2_copyFrom
set_option maxRecDepth 20000 in
theorem ggX4_restore_X0_forget : GoodIn wsX4_restore wsX0_forget := goodIn_r _ [48, 49, 87, 88, 89] (by decide +kernel) (by decide +kernel)
set_option maxRecDepth 20000 in
theorem gX4_restore_X0_forget : GoodIn wsX4_restore (wsV RX4 70 RX0 yX0_forget wsX0_forget) := goodIn_app (goodIn_of _ (by decide +kernel)) ggX4_restore_X0_forget
set_option maxRecDepth 20000 in
theorem ggX4_restore_X2_number : GoodIn wsX4_restore wsX2_number := goodIn_r _ [53, 25, 24, 54, 55, 56, 40, 57, 43, 58, 59, 60, 16, 61, 62, 63, 64, 65, 42, 66, 67, 68, 69, 22, 76, 77, 78, 79, 80, 81, 82, 83, 84, 85, 86] (by decide +kernel) (by decide +kernel)
set_option maxRecDepth 20000 in
theorem gX4_restore_X2_number : GoodIn wsX4_restore (wsV RX4 113 RX2 yX2_number wsX2_number) := goodIn_app (goodIn_of _ (by decide +kernel)) ggX4_restore_X2_number
theorem dX4_restore_0 : decode cX4_restore 0 = .ok (.iload_n 1, 1) := by decide +kernel
theorem dX4_restore_1 : decode cX4_restore 1 = .ok (.invokestatic 319, 3) := by decide +kernel
theorem dX4_restore_4 : decode cX4_restore 4 = .ok (.ifCond .ne 14, 3) := by decide +kernel
theorem dX4_restore_7 : decode cX4_restore 7 = .ok (.new 125, 3) := by decide +kernel
theorem dX4_restore_10 : decode cX4_restore 10 = .ok (.dup, 1) := by decide +kernel
theorem dX4_restore_11 : decode cX4_restore 11 = .ok (.ldc_w 322, 3) := by decide +kernel
theorem dX4_restore_14 : decode cX4_restore 14 = .ok (.invokespecial 129, 3) := by decide +kernel
theorem dX4_restore_17 : decode cX4_restore 17 = .ok (.athrow, 1) := by decide +kernel
theorem dX4_restore_18 : decode cX4_restore 18 = .ok (.aload_n 0, 1) := by decide +kernel
theorem dX4_restore_19 : decode cX4_restore 19 = .ok (.getfield 37, 3) := by decide +kernel
theorem dX4_restore_22 : decode cX4_restore 22 = .ok (.iload_n 1, 1) := by decide +kernel
theorem dX4_restore_23 : decode cX4_restore 23 = .ok (.baload, 1) := by decide +kernel
theorem dX4_restore_24 : decode cX4_restore 24 = .ok (.ifCond .ne 14, 3) := by decide +kernel
theorem dX4_restore_27 : decode cX4_restore 27 = .ok (.new 52, 3) := by decide +kernel
theorem dX4_restore_30 : decode cX4_restore 30 = .ok (.dup, 1) := by decide +kernel
theorem dX4_restore_31 : decode cX4_restore 31 = .ok (.ldc_w 324, 3) := by decide +kernel
theorem dX4_restore_34 : decode cX4_restore 34 = .ok (.invokespecial 56, 3) := by decide +kernel
theorem dX4_restore_37 : decode cX4_restore 37 = .ok (.athrow, 1) := by decide +kernel
theorem dX4_restore_38 : decode cX4_restore 38 = .ok (.aload_n 0, 1) := by decide +kernel
theorem dX4_restore_39 : decode cX4_restore 39 = .ok (.getfield 19, 3) := by decide +kernel
theorem dX4_restore_42 : decode cX4_restore 42 = .ok (.aload_n 0, 1) := by decide +kernel
theorem dX4_restore_43 : decode cX4_restore 43 = .ok (.getfield 33, 3) := by decide +kernel
theorem dX4_restore_46 : decode cX4_restore 46 = .ok (.iload_n 1, 1) := by decide +kernel
theorem dX4_restore_47 : decode cX4_restore 47 = .ok (.aaload, 1) := by decide +kernel
theorem dX4_restore_48 : decode cX4_restore 48 = .ok (.invokevirtual 257, 3) := by decide +kernel
theorem dX4_restore_51 : decode cX4_restore 51 = .ok (.aload_n 0, 1) := by decide +kernel
theorem dX4_restore_52 : decode cX4_restore 52 = .ok (.getfield 29, 3) := by decide +kernel
theorem dX4_restore_55 : decode cX4_restore 55 = .ok (.invokevirtual 70, 3) := by decide +kernel
theorem dX4_restore_58 : decode cX4_restore 58 = .ok (.aload_n 0, 1) := by decide +kernel
theorem dX4_restore_59 : decode cX4_restore 59 = .ok (.getfield 19, 3) := by decide +kernel
theorem dX4_restore_62 : decode cX4_restore 62 = .ok (.iconst 0, 1) := by decide +kernel
theorem dX4_restore_63 : decode cX4_restore 63 = .ok (.invokevirtual 113, 3) := by decide +kernel
theorem dX4_restore_66 : decode cX4_restore 66 = .ok (.ireturn, 1) := by decide +kernel
theorem dX4_isReader_0 : decode cX4_isReader 0 = .ok (.iload_n 0, 1) := by decide +kernel
theorem dX4_isReader_1 : decode cX4_isReader 1 = .ok (.ifCond .lt 12, 3) := by decide +kernel
theorem dX4_isReader_4 : decode cX4_isReader 4 = .ok (.iload_n 0, 1) := by decide +kernel
theorem dX4_isReader_5 : decode cX4_isReader 5 = .ok (.iconst 4, 1) := by decide +kernel
theorem dX4_isReader_6 : decode cX4_isReader 6 = .ok (.if_icmp .ge 7, 3) := by decide +kernel
theorem dX4_isReader_9 : decode cX4_isReader 9 = .ok (.iconst 1, 1) := by decide +kernel
theorem dX4_isReader_10 : decode cX4_isReader 10 = .ok (.goto 4, 3) := by decide +kernel
theorem dX4_isReader_13 : decode cX4_isReader 13 = .ok (.iconst 0, 1) := by decide +kernel
theorem dX4_isReader_14 : decode cX4_isReader 14 = .ok (.ireturn, 1) := by decide +kernel
theorem dX4_isLot_0 : decode cX4_isLot 0 = .ok (.iload_n 0, 1) := by decide +kernel
theorem dX4_isLot_1 : decode cX4_isLot 1 = .ok (.ifCond .lt 13, 3) := by decide +kernel
theorem dX4_isLot_4 : decode cX4_isLot 4 = .ok (.iload_n 0, 1) := by decide +kernel
theorem dX4_isLot_5 : decode cX4_isLot 5 = .ok (.bipush 16, 2) := by decide +kernel
theorem dX4_isLot_7 : decode cX4_isLot 7 = .ok (.if_icmp .ge 7, 3) := by decide +kernel
theorem dX4_isLot_10 : decode cX4_isLot 10 = .ok (.iconst 1, 1) := by decide +kernel
theorem dX4_isLot_11 : decode cX4_isLot 11 = .ok (.goto 4, 3) := by decide +kernel
theorem dX4_isLot_14 : decode cX4_isLot 14 = .ok (.iconst 0, 1) := by decide +kernel
theorem dX4_isLot_15 : decode cX4_isLot 15 = .ok (.ireturn, 1) := by decide +kernel
theorem dX4_isItem_0 : decode cX4_isItem 0 = .ok (.iload_n 0, 1) := by decide +kernel
theorem dX4_isItem_1 : decode cX4_isItem 1 = .ok (.ifCond .lt 13, 3) := by decide +kernel
theorem dX4_isItem_4 : decode cX4_isItem 4 = .ok (.iload_n 0, 1) := by decide +kernel
theorem dX4_isItem_5 : decode cX4_isItem 5 = .ok (.bipush 8, 2) := by decide +kernel
theorem dX4_isItem_7 : decode cX4_isItem 7 = .ok (.if_icmp .ge 7, 3) := by decide +kernel
theorem dX4_isItem_10 : decode cX4_isItem 10 = .ok (.iconst 1, 1) := by decide +kernel
theorem dX4_isItem_11 : decode cX4_isItem 11 = .ok (.goto 4, 3) := by decide +kernel
theorem dX4_isItem_14 : decode cX4_isItem 14 = .ok (.iconst 0, 1) := by decide +kernel
theorem dX4_isItem_15 : decode cX4_isItem 15 = .ok (.ireturn, 1) := by decide +kernel
theorem dX4_isFee_0 : decode cX4_isFee 0 = .ok (.iload_n 0, 1) := by decide +kernel
theorem dX4_isFee_1 : decode cX4_isFee 1 = .ok (.ifCond .lt 13, 3) := by decide +kernel
theorem dX4_isFee_4 : decode cX4_isFee 4 = .ok (.iload_n 0, 1) := by decide +kernel
theorem dX4_isFee_5 : decode cX4_isFee 5 = .ok (.bipush 9, 2) := by decide +kernel
theorem dX4_isFee_7 : decode cX4_isFee 7 = .ok (.if_icmp .gt 7, 3) := by decide +kernel
theorem dX4_isFee_10 : decode cX4_isFee 10 = .ok (.iconst 1, 1) := by decide +kernel
theorem dX4_isFee_11 : decode cX4_isFee 11 = .ok (.goto 4, 3) := by decide +kernel
theorem dX4_isFee_14 : decode cX4_isFee 14 = .ok (.iconst 0, 1) := by decide +kernel
theorem dX4_isFee_15 : decode cX4_isFee 15 = .ok (.ireturn, 1) := by decide +kernel
theorem dX4_isRaise_0 : decode cX4_isRaise 0 = .ok (.iload_n 0, 1) := by decide +kernel
theorem dX4_isRaise_1 : decode cX4_isRaise 1 = .ok (.iconst 1, 1) := by decide +kernel
theorem dX4_isRaise_2 : decode cX4_isRaise 2 = .ok (.if_icmp .lt 13, 3) := by decide +kernel
theorem dX4_isRaise_5 : decode cX4_isRaise 5 = .ok (.iload_n 0, 1) := by decide +kernel
theorem dX4_isRaise_6 : decode cX4_isRaise 6 = .ok (.bipush 9, 2) := by decide +kernel
theorem dX4_isRaise_8 : decode cX4_isRaise 8 = .ok (.if_icmp .gt 7, 3) := by decide +kernel
theorem dX4_isRaise_11 : decode cX4_isRaise 11 = .ok (.iconst 1, 1) := by decide +kernel
theorem dX4_isRaise_12 : decode cX4_isRaise 12 = .ok (.goto 4, 3) := by decide +kernel
theorem dX4_isRaise_15 : decode cX4_isRaise 15 = .ok (.iconst 0, 1) := by decide +kernel
theorem dX4_isRaise_16 : decode cX4_isRaise 16 = .ok (.ireturn, 1) := by decide +kernel
theorem dX4_isNights_0 : decode cX4_isNights 0 = .ok (.iload_n 0, 1) := by decide +kernel
theorem dX4_isNights_1 : decode cX4_isNights 1 = .ok (.iconst 1, 1) := by decide +kernel
theorem dX4_isNights_2 : decode cX4_isNights 2 = .ok (.if_icmp .lt 13, 3) := by decide +kernel
theorem dX4_isNights_5 : decode cX4_isNights 5 = .ok (.iload_n 0, 1) := by decide +kernel
theorem dX4_isNights_6 : decode cX4_isNights 6 = .ok (.bipush 30, 2) := by decide +kernel
theorem dX4_isNights_8 : decode cX4_isNights 8 = .ok (.if_icmp .gt 7, 3) := by decide +kernel
theorem dX4_isNights_11 : decode cX4_isNights 11 = .ok (.iconst 1, 1) := by decide +kernel
theorem dX4_isNights_12 : decode cX4_isNights 12 = .ok (.goto 4, 3) := by decide +kernel
theorem dX4_isNights_15 : decode cX4_isNights 15 = .ok (.iconst 0, 1) := by decide +kernel
theorem dX4_isNights_16 : decode cX4_isNights 16 = .ok (.ireturn, 1) := by decide +kernel
theorem dX4_isOrderNumber_0 : decode cX4_isOrderNumber 0 = .ok (.iload_n 0, 1) := by decide +kernel
theorem dX4_isOrderNumber_1 : decode cX4_isOrderNumber 1 = .ok (.ifCond .lt 12, 3) := by decide +kernel
theorem dX4_isOrderNumber_4 : decode cX4_isOrderNumber 4 = .ok (.iload_n 0, 1) := by decide +kernel
theorem dX4_isOrderNumber_5 : decode cX4_isOrderNumber 5 = .ok (.iconst 5, 1) := by decide +kernel
theorem dX4_isOrderNumber_6 : decode cX4_isOrderNumber 6 = .ok (.if_icmp .ge 7, 3) := by decide +kernel
theorem dX4_isOrderNumber_9 : decode cX4_isOrderNumber 9 = .ok (.iconst 1, 1) := by decide +kernel
theorem dX4_isOrderNumber_10 : decode cX4_isOrderNumber 10 = .ok (.goto 4, 3) := by decide +kernel
theorem dX4_isOrderNumber_13 : decode cX4_isOrderNumber 13 = .ok (.iconst 0, 1) := by decide +kernel
theorem dX4_isOrderNumber_14 : decode cX4_isOrderNumber 14 = .ok (.ireturn, 1) := by decide +kernel
theorem dX4_isSetting_0 : decode cX4_isSetting 0 = .ok (.iload_n 0, 1) := by decide +kernel
theorem dX4_isSetting_1 : decode cX4_isSetting 1 = .ok (.ifCond .lt 12, 3) := by decide +kernel
theorem dX4_isSetting_4 : decode cX4_isSetting 4 = .ok (.iload_n 0, 1) := by decide +kernel
theorem dX4_isSetting_5 : decode cX4_isSetting 5 = .ok (.iconst 5, 1) := by decide +kernel
theorem dX4_isSetting_6 : decode cX4_isSetting 6 = .ok (.if_icmp .ge 7, 3) := by decide +kernel
theorem dX4_isSetting_9 : decode cX4_isSetting 9 = .ok (.iconst 1, 1) := by decide +kernel
theorem dX4_isSetting_10 : decode cX4_isSetting 10 = .ok (.goto 4, 3) := by decide +kernel
theorem dX4_isSetting_13 : decode cX4_isSetting 13 = .ok (.iconst 0, 1) := by decide +kernel
theorem dX4_isSetting_14 : decode cX4_isSetting 14 = .ok (.ireturn, 1) := by decide +kernel
set_option maxRecDepth 20000 in
theorem ggX4_isSettingValue_X4_isSetting : GoodIn wsX4_isSettingValue wsX4_isSetting := goodIn_r _ [6] (by decide +kernel) (by decide +kernel)
set_option maxRecDepth 20000 in
theorem gX4_isSettingValue_X4_isSetting : GoodIn wsX4_isSettingValue (va_wsS RX4 184 yX4_isSetting wsX4_isSetting) := goodIn_app (goodIn_of _ (by decide +kernel)) ggX4_isSettingValue_X4_isSetting
theorem dX4_isSettingValue_0 : decode cX4_isSettingValue 0 = .ok (.iload_n 0, 1) := by decide +kernel
theorem dX4_isSettingValue_1 : decode cX4_isSettingValue 1 = .ok (.invokestatic 184, 3) := by decide +kernel
theorem dX4_isSettingValue_4 : decode cX4_isSettingValue 4 = .ok (.ifCond .eq 25, 3) := by decide +kernel
theorem dX4_isSettingValue_7 : decode cX4_isSettingValue 7 = .ok (.iload_n 1, 1) := by decide +kernel
theorem dX4_isSettingValue_8 : decode cX4_isSettingValue 8 = .ok (.getstatic 326, 3) := by decide +kernel
theorem dX4_isSettingValue_11 : decode cX4_isSettingValue 11 = .ok (.iload_n 0, 1) := by decide +kernel
theorem dX4_isSettingValue_12 : decode cX4_isSettingValue 12 = .ok (.iaload, 1) := by decide +kernel
theorem dX4_isSettingValue_13 : decode cX4_isSettingValue 13 = .ok (.if_icmp .lt 16, 3) := by decide +kernel
theorem dX4_isSettingValue_16 : decode cX4_isSettingValue 16 = .ok (.iload_n 1, 1) := by decide +kernel
theorem dX4_isSettingValue_17 : decode cX4_isSettingValue 17 = .ok (.getstatic 329, 3) := by decide +kernel
theorem dX4_isSettingValue_20 : decode cX4_isSettingValue 20 = .ok (.iload_n 0, 1) := by decide +kernel
theorem dX4_isSettingValue_21 : decode cX4_isSettingValue 21 = .ok (.iaload, 1) := by decide +kernel
theorem dX4_isSettingValue_22 : decode cX4_isSettingValue 22 = .ok (.if_icmp .gt 7, 3) := by decide +kernel
theorem dX4_isSettingValue_25 : decode cX4_isSettingValue 25 = .ok (.iconst 1, 1) := by decide +kernel
theorem dX4_isSettingValue_26 : decode cX4_isSettingValue 26 = .ok (.goto 4, 3) := by decide +kernel
theorem dX4_isSettingValue_29 : decode cX4_isSettingValue 29 = .ok (.iconst 0, 1) := by decide +kernel
theorem dX4_isSettingValue_30 : decode cX4_isSettingValue 30 = .ok (.ireturn, 1) := by decide +kernel
theorem dX4_isSlot_0 : decode cX4_isSlot 0 = .ok (.iload_n 0, 1) := by decide +kernel
theorem dX4_isSlot_1 : decode cX4_isSlot 1 = .ok (.ifCond .lt 12, 3) := by decide +kernel
theorem dX4_isSlot_4 : decode cX4_isSlot 4 = .ok (.iload_n 0, 1) := by decide +kernel
theorem dX4_isSlot_5 : decode cX4_isSlot 5 = .ok (.iconst 2, 1) := by decide +kernel
theorem dX4_isSlot_6 : decode cX4_isSlot 6 = .ok (.if_icmp .ge 7, 3) := by decide +kernel
theorem dX4_isSlot_9 : decode cX4_isSlot 9 = .ok (.iconst 1, 1) := by decide +kernel
theorem dX4_isSlot_10 : decode cX4_isSlot 10 = .ok (.goto 4, 3) := by decide +kernel
theorem dX4_isSlot_13 : decode cX4_isSlot 13 = .ok (.iconst 0, 1) := by decide +kernel
theorem dX4_isSlot_14 : decode cX4_isSlot 14 = .ok (.ireturn, 1) := by decide +kernel
theorem dX4_copyAll_0 : decode cX4_copyAll 0 = .ok (.aload_n 0, 1) := by decide +kernel
theorem dX4_copyAll_1 : decode cX4_copyAll 1 = .ok (.iconst 0, 1) := by decide +kernel
theorem dX4_copyAll_2 : decode cX4_copyAll 2 = .ok (.aload_n 1, 1) := by decide +kernel
theorem dX4_copyAll_3 : decode cX4_copyAll 3 = .ok (.iconst 0, 1) := by decide +kernel
theorem dX4_copyAll_4 : decode cX4_copyAll 4 = .ok (.aload_n 0, 1) := by decide +kernel
theorem dX4_copyAll_5 : decode cX4_copyAll 5 = .ok (.arraylength, 1) := by decide +kernel
theorem dX4_copyAll_6 : decode cX4_copyAll 6 = .ok (.aload_n 1, 1) := by decide +kernel
theorem dX4_copyAll_7 : decode cX4_copyAll 7 = .ok (.arraylength, 1) := by decide +kernel
theorem dX4_copyAll_8 : decode cX4_copyAll 8 = .ok (.invokestatic 332, 3) := by decide +kernel
theorem dX4_copyAll_11 : decode cX4_copyAll 11 = .ok (.invokestatic 335, 3) := by decide +kernel
theorem dX4_copyAll_14 : decode cX4_copyAll 14 = .ok (.return_, 1) := by decide +kernel
