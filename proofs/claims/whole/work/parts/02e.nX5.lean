set_option maxRecDepth 20000 in
theorem ggX5_init_X5_clean : GoodIn wsX5_init wsX5_clean := goodIn_r _ [17] (by decide +kernel) (by decide +kernel)
set_option maxRecDepth 20000 in
theorem gX5_init_X5_clean : GoodIn wsX5_init (va_wsS RX5 35 yX5_clean wsX5_clean) := goodIn_app (goodIn_of _ (by decide +kernel)) ggX5_init_X5_clean
theorem dX5_init_0 : decode cX5_init 0 = .ok (.aload_n 0, 1) := by decide +kernel
theorem dX5_init_1 : decode cX5_init 1 = .ok (.invokespecial 1, 3) := by decide +kernel
theorem dX5_init_4 : decode cX5_init 4 = .ok (.aload_n 0, 1) := by decide +kernel
theorem dX5_init_5 : decode cX5_init 5 = .ok (.bipush 120, 2) := by decide +kernel
theorem dX5_init_7 : decode cX5_init 7 = .ok (.newarray .int, 2) := by decide +kernel
theorem dX5_init_9 : decode cX5_init 9 = .ok (.putfield 7, 3) := by decide +kernel
theorem dX5_init_12 : decode cX5_init 12 = .ok (.aload_n 0, 1) := by decide +kernel
theorem dX5_init_13 : decode cX5_init 13 = .ok (.sipush 235, 3) := by decide +kernel
theorem dX5_init_16 : decode cX5_init 16 = .ok (.newarray .int, 2) := by decide +kernel
theorem dX5_init_18 : decode cX5_init 18 = .ok (.putfield 13, 3) := by decide +kernel
theorem dX5_init_21 : decode cX5_init 21 = .ok (.aload_n 0, 1) := by decide +kernel
theorem dX5_init_22 : decode cX5_init 22 = .ok (.sipush 235, 3) := by decide +kernel
theorem dX5_init_25 : decode cX5_init 25 = .ok (.newarray .int, 2) := by decide +kernel
theorem dX5_init_27 : decode cX5_init 27 = .ok (.putfield 16, 3) := by decide +kernel
theorem dX5_init_30 : decode cX5_init 30 = .ok (.aload_n 0, 1) := by decide +kernel
theorem dX5_init_31 : decode cX5_init 31 = .ok (.sipush 235, 3) := by decide +kernel
theorem dX5_init_34 : decode cX5_init 34 = .ok (.newarray .int, 2) := by decide +kernel
theorem dX5_init_36 : decode cX5_init 36 = .ok (.putfield 19, 3) := by decide +kernel
theorem dX5_init_39 : decode cX5_init 39 = .ok (.aload_n 0, 1) := by decide +kernel
theorem dX5_init_40 : decode cX5_init 40 = .ok (.sipush 3290, 3) := by decide +kernel
theorem dX5_init_43 : decode cX5_init 43 = .ok (.newarray .int, 2) := by decide +kernel
theorem dX5_init_45 : decode cX5_init 45 = .ok (.putfield 22, 3) := by decide +kernel
theorem dX5_init_48 : decode cX5_init 48 = .ok (.aload_n 0, 1) := by decide +kernel
theorem dX5_init_49 : decode cX5_init 49 = .ok (.sipush 470, 3) := by decide +kernel
theorem dX5_init_52 : decode cX5_init 52 = .ok (.newarray .int, 2) := by decide +kernel
theorem dX5_init_54 : decode cX5_init 54 = .ok (.putfield 25, 3) := by decide +kernel
theorem dX5_init_57 : decode cX5_init 57 = .ok (.aload_n 0, 1) := by decide +kernel
theorem dX5_init_58 : decode cX5_init 58 = .ok (.iconst 2, 1) := by decide +kernel
theorem dX5_init_59 : decode cX5_init 59 = .ok (.newarray .boolean, 2) := by decide +kernel
theorem dX5_init_61 : decode cX5_init 61 = .ok (.putfield 28, 3) := by decide +kernel
theorem dX5_init_64 : decode cX5_init 64 = .ok (.aload_n 0, 1) := by decide +kernel
theorem dX5_init_65 : decode cX5_init 65 = .ok (.bipush 16, 2) := by decide +kernel
theorem dX5_init_67 : decode cX5_init 67 = .ok (.newarray .int, 2) := by decide +kernel
theorem dX5_init_69 : decode cX5_init 69 = .ok (.putfield 32, 3) := by decide +kernel
theorem dX5_init_72 : decode cX5_init 72 = .ok (.aload_n 0, 1) := by decide +kernel
theorem dX5_init_73 : decode cX5_init 73 = .ok (.getfield 16, 3) := by decide +kernel
theorem dX5_init_76 : decode cX5_init 76 = .ok (.invokestatic 35, 3) := by decide +kernel
theorem dX5_init_79 : decode cX5_init 79 = .ok (.return_, 1) := by decide +kernel
theorem dX5_thrown_0 : decode cX5_thrown 0 = .ok (.aload_n 0, 1) := by decide +kernel
theorem dX5_thrown_1 : decode cX5_thrown 1 = .ok (.getfield 39, 3) := by decide +kernel
theorem dX5_thrown_4 : decode cX5_thrown 4 = .ok (.ireturn, 1) := by decide +kernel
theorem dX5_refused_0 : decode cX5_refused 0 = .ok (.aload_n 0, 1) := by decide +kernel
theorem dX5_refused_1 : decode cX5_refused 1 = .ok (.iload_n 1, 1) := by decide +kernel
theorem dX5_refused_2 : decode cX5_refused 2 = .ok (.putfield 39, 3) := by decide +kernel
theorem dX5_refused_5 : decode cX5_refused 5 = .ok (.iload_n 1, 1) := by decide +kernel
theorem dX5_refused_6 : decode cX5_refused 6 = .ok (.ifCond .le 7, 3) := by decide +kernel
theorem dX5_refused_9 : decode cX5_refused 9 = .ok (.iconst 1, 1) := by decide +kernel
theorem dX5_refused_10 : decode cX5_refused 10 = .ok (.goto 4, 3) := by decide +kernel
theorem dX5_refused_13 : decode cX5_refused 13 = .ok (.iconst 0, 1) := by decide +kernel
theorem dX5_refused_14 : decode cX5_refused 14 = .ok (.ireturn, 1) := by decide +kernel
theorem dX5_in_0 : decode cX5_in 0 = .ok (.lload_n 0, 1) := by decide +kernel
theorem dX5_in_1 : decode cX5_in 1 = .ok (.lload_n 2, 1) := by decide +kernel
theorem dX5_in_2 : decode cX5_in 2 = .ok (.lcmp, 1) := by decide +kernel
theorem dX5_in_3 : decode cX5_in 3 = .ok (.ifCond .lt 14, 3) := by decide +kernel
theorem dX5_in_6 : decode cX5_in 6 = .ok (.lload_n 0, 1) := by decide +kernel
theorem dX5_in_7 : decode cX5_in 7 = .ok (.lload 4, 2) := by decide +kernel
theorem dX5_in_9 : decode cX5_in 9 = .ok (.lcmp, 1) := by decide +kernel
theorem dX5_in_10 : decode cX5_in 10 = .ok (.ifCond .gt 7, 3) := by decide +kernel
theorem dX5_in_13 : decode cX5_in 13 = .ok (.iconst 1, 1) := by decide +kernel
theorem dX5_in_14 : decode cX5_in 14 = .ok (.goto 4, 3) := by decide +kernel
theorem dX5_in_17 : decode cX5_in 17 = .ok (.iconst 0, 1) := by decide +kernel
theorem dX5_in_18 : decode cX5_in 18 = .ok (.ireturn, 1) := by decide +kernel
theorem dX5_copy_0 : decode cX5_copy 0 = .ok (.iconst 0, 1) := by decide +kernel
theorem dX5_copy_1 : decode cX5_copy 1 = .ok (.istore 5, 2) := by decide +kernel
theorem dX5_copy_3 : decode cX5_copy 3 = .ok (.iload 5, 2) := by decide +kernel
theorem dX5_copy_5 : decode cX5_copy 5 = .ok (.iload 4, 2) := by decide +kernel
theorem dX5_copy_7 : decode cX5_copy 7 = .ok (.if_icmp .ge 21, 3) := by decide +kernel
theorem dX5_copy_10 : decode cX5_copy 10 = .ok (.aload_n 2, 1) := by decide +kernel
theorem dX5_copy_11 : decode cX5_copy 11 = .ok (.iload_n 3, 1) := by decide +kernel
theorem dX5_copy_12 : decode cX5_copy 12 = .ok (.iload 5, 2) := by decide +kernel
theorem dX5_copy_14 : decode cX5_copy 14 = .ok (.iadd, 1) := by decide +kernel
theorem dX5_copy_15 : decode cX5_copy 15 = .ok (.aload_n 0, 1) := by decide +kernel
theorem dX5_copy_16 : decode cX5_copy 16 = .ok (.iload_n 1, 1) := by decide +kernel
theorem dX5_copy_17 : decode cX5_copy 17 = .ok (.iload 5, 2) := by decide +kernel
theorem dX5_copy_19 : decode cX5_copy 19 = .ok (.iadd, 1) := by decide +kernel
theorem dX5_copy_20 : decode cX5_copy 20 = .ok (.iaload, 1) := by decide +kernel
theorem dX5_copy_21 : decode cX5_copy 21 = .ok (.iastore, 1) := by decide +kernel
theorem dX5_copy_22 : decode cX5_copy 22 = .ok (.iinc 5 1, 3) := by decide +kernel
theorem dX5_copy_25 : decode cX5_copy 25 = .ok (.goto (-22), 3) := by decide +kernel
theorem dX5_copy_28 : decode cX5_copy 28 = .ok (.return_, 1) := by decide +kernel
theorem dX5_copyBack_0 : decode cX5_copyBack 0 = .ok (.iload_n 3, 1) := by decide +kernel
theorem dX5_copyBack_1 : decode cX5_copyBack 1 = .ok (.iconst 1, 1) := by decide +kernel
theorem dX5_copyBack_2 : decode cX5_copyBack 2 = .ok (.isub, 1) := by decide +kernel
theorem dX5_copyBack_3 : decode cX5_copyBack 3 = .ok (.istore 4, 2) := by decide +kernel
theorem dX5_copyBack_5 : decode cX5_copyBack 5 = .ok (.iload 4, 2) := by decide +kernel
theorem dX5_copyBack_7 : decode cX5_copyBack 7 = .ok (.ifCond .lt 21, 3) := by decide +kernel
theorem dX5_copyBack_10 : decode cX5_copyBack 10 = .ok (.aload_n 0, 1) := by decide +kernel
theorem dX5_copyBack_11 : decode cX5_copyBack 11 = .ok (.iload_n 2, 1) := by decide +kernel
theorem dX5_copyBack_12 : decode cX5_copyBack 12 = .ok (.iload 4, 2) := by decide +kernel
theorem dX5_copyBack_14 : decode cX5_copyBack 14 = .ok (.iadd, 1) := by decide +kernel
theorem dX5_copyBack_15 : decode cX5_copyBack 15 = .ok (.aload_n 0, 1) := by decide +kernel
theorem dX5_copyBack_16 : decode cX5_copyBack 16 = .ok (.iload_n 1, 1) := by decide +kernel
theorem dX5_copyBack_17 : decode cX5_copyBack 17 = .ok (.iload 4, 2) := by decide +kernel
theorem dX5_copyBack_19 : decode cX5_copyBack 19 = .ok (.iadd, 1) := by decide +kernel
theorem dX5_copyBack_20 : decode cX5_copyBack 20 = .ok (.iaload, 1) := by decide +kernel
theorem dX5_copyBack_21 : decode cX5_copyBack 21 = .ok (.iastore, 1) := by decide +kernel
theorem dX5_copyBack_22 : decode cX5_copyBack 22 = .ok (.iinc 4 (-1), 3) := by decide +kernel
theorem dX5_copyBack_25 : decode cX5_copyBack 25 = .ok (.goto (-20), 3) := by decide +kernel
theorem dX5_copyBack_28 : decode cX5_copyBack 28 = .ok (.return_, 1) := by decide +kernel
theorem dX5_tenTo_0 : decode cX5_tenTo 0 = .ok (.lconst 1, 1) := by decide +kernel
theorem dX5_tenTo_1 : decode cX5_tenTo 1 = .ok (.lstore_n 1, 1) := by decide +kernel
theorem dX5_tenTo_2 : decode cX5_tenTo 2 = .ok (.iconst 0, 1) := by decide +kernel
theorem dX5_tenTo_3 : decode cX5_tenTo 3 = .ok (.istore_n 3, 1) := by decide +kernel
theorem dX5_tenTo_4 : decode cX5_tenTo 4 = .ok (.iload_n 3, 1) := by decide +kernel
theorem dX5_tenTo_5 : decode cX5_tenTo 5 = .ok (.iload_n 0, 1) := by decide +kernel
theorem dX5_tenTo_6 : decode cX5_tenTo 6 = .ok (.if_icmp .ge 15, 3) := by decide +kernel
theorem dX5_tenTo_9 : decode cX5_tenTo 9 = .ok (.lload_n 1, 1) := by decide +kernel
theorem dX5_tenTo_10 : decode cX5_tenTo 10 = .ok (.ldc2_w 43, 3) := by decide +kernel
theorem dX5_tenTo_13 : decode cX5_tenTo 13 = .ok (.lmul, 1) := by decide +kernel
theorem dX5_tenTo_14 : decode cX5_tenTo 14 = .ok (.lstore_n 1, 1) := by decide +kernel
theorem dX5_tenTo_15 : decode cX5_tenTo 15 = .ok (.iinc 3 1, 3) := by decide +kernel
theorem dX5_tenTo_18 : decode cX5_tenTo 18 = .ok (.goto (-14), 3) := by decide +kernel
theorem dX5_tenTo_21 : decode cX5_tenTo 21 = .ok (.lload_n 1, 1) := by decide +kernel
theorem dX5_tenTo_22 : decode cX5_tenTo 22 = .ok (.lreturn, 1) := by decide +kernel
theorem dX5_clean_0 : decode cX5_clean 0 = .ok (.iconst 0, 1) := by decide +kernel
theorem dX5_clean_1 : decode cX5_clean 1 = .ok (.istore_n 1, 1) := by decide +kernel
theorem dX5_clean_2 : decode cX5_clean 2 = .ok (.iload_n 1, 1) := by decide +kernel
theorem dX5_clean_3 : decode cX5_clean 3 = .ok (.sipush 235, 3) := by decide +kernel
theorem dX5_clean_6 : decode cX5_clean 6 = .ok (.if_icmp .ge 13, 3) := by decide +kernel
theorem dX5_clean_9 : decode cX5_clean 9 = .ok (.aload_n 0, 1) := by decide +kernel
theorem dX5_clean_10 : decode cX5_clean 10 = .ok (.iload_n 1, 1) := by decide +kernel
theorem dX5_clean_11 : decode cX5_clean 11 = .ok (.iconst 0, 1) := by decide +kernel
theorem dX5_clean_12 : decode cX5_clean 12 = .ok (.iastore, 1) := by decide +kernel
theorem dX5_clean_13 : decode cX5_clean 13 = .ok (.iinc 1 1, 3) := by decide +kernel
theorem dX5_clean_16 : decode cX5_clean 16 = .ok (.goto (-14), 3) := by decide +kernel
theorem dX5_clean_19 : decode cX5_clean 19 = .ok (.aload_n 0, 1) := by decide +kernel
theorem dX5_clean_20 : decode cX5_clean 20 = .ok (.iconst 0, 1) := by decide +kernel
theorem dX5_clean_21 : decode cX5_clean 21 = .ok (.iconst 1, 1) := by decide +kernel
theorem dX5_clean_22 : decode cX5_clean 22 = .ok (.iastore, 1) := by decide +kernel
theorem dX5_clean_23 : decode cX5_clean 23 = .ok (.aload_n 0, 1) := by decide +kernel
theorem dX5_clean_24 : decode cX5_clean 24 = .ok (.iconst 1, 1) := by decide +kernel
theorem dX5_clean_25 : decode cX5_clean 25 = .ok (.iconst 3, 1) := by decide +kernel
theorem dX5_clean_26 : decode cX5_clean 26 = .ok (.iastore, 1) := by decide +kernel
theorem dX5_clean_27 : decode cX5_clean 27 = .ok (.aload_n 0, 1) := by decide +kernel
theorem dX5_clean_28 : decode cX5_clean 28 = .ok (.iconst 2, 1) := by decide +kernel
theorem dX5_clean_29 : decode cX5_clean 29 = .ok (.iconst 2, 1) := by decide +kernel
theorem dX5_clean_30 : decode cX5_clean 30 = .ok (.iastore, 1) := by decide +kernel
theorem dX5_clean_31 : decode cX5_clean 31 = .ok (.aload_n 0, 1) := by decide +kernel
theorem dX5_clean_32 : decode cX5_clean 32 = .ok (.iconst 3, 1) := by decide +kernel
theorem dX5_clean_33 : decode cX5_clean 33 = .ok (.iconst 5, 1) := by decide +kernel
theorem dX5_clean_34 : decode cX5_clean 34 = .ok (.iastore, 1) := by decide +kernel
theorem dX5_clean_35 : decode cX5_clean 35 = .ok (.iconst 0, 1) := by decide +kernel
theorem dX5_clean_36 : decode cX5_clean 36 = .ok (.istore_n 1, 1) := by decide +kernel
theorem dX5_clean_37 : decode cX5_clean 37 = .ok (.iload_n 1, 1) := by decide +kernel
theorem dX5_clean_38 : decode cX5_clean 38 = .ok (.iconst 4, 1) := by decide +kernel
theorem dX5_clean_39 : decode cX5_clean 39 = .ok (.if_icmp .ge 17, 3) := by decide +kernel
theorem dX5_clean_42 : decode cX5_clean 42 = .ok (.aload_n 0, 1) := by decide +kernel
theorem dX5_clean_43 : decode cX5_clean 43 = .ok (.bipush 46, 2) := by decide +kernel
theorem dX5_clean_45 : decode cX5_clean 45 = .ok (.iload_n 1, 1) := by decide +kernel
theorem dX5_clean_46 : decode cX5_clean 46 = .ok (.iadd, 1) := by decide +kernel
theorem dX5_clean_47 : decode cX5_clean 47 = .ok (.bipush 50, 2) := by decide +kernel
theorem dX5_clean_49 : decode cX5_clean 49 = .ok (.iastore, 1) := by decide +kernel
theorem dX5_clean_50 : decode cX5_clean 50 = .ok (.iinc 1 1, 3) := by decide +kernel
theorem dX5_clean_53 : decode cX5_clean 53 = .ok (.goto (-16), 3) := by decide +kernel
theorem dX5_clean_56 : decode cX5_clean 56 = .ok (.return_, 1) := by decide +kernel
set_option maxRecDepth 20000 in
theorem ggX5_remember_X5_copy : GoodIn wsX5_remember wsX5_copy := goodIn_r _ [7] (by decide +kernel) (by decide +kernel)
set_option maxRecDepth 20000 in
theorem gX5_remember_X5_copy : GoodIn wsX5_remember (va_wsS RX5 48 yX5_copy wsX5_copy) := goodIn_app (goodIn_of _ (by decide +kernel)) ggX5_remember_X5_copy
theorem dX5_remember_0 : decode cX5_remember 0 = .ok (.aload_n 0, 1) := by decide +kernel
theorem dX5_remember_1 : decode cX5_remember 1 = .ok (.getfield 45, 3) := by decide +kernel
theorem dX5_remember_4 : decode cX5_remember 4 = .ok (.bipush 14, 2) := by decide +kernel
theorem dX5_remember_6 : decode cX5_remember 6 = .ok (.if_icmp .ne 31, 3) := by decide +kernel
theorem dX5_remember_9 : decode cX5_remember 9 = .ok (.aload_n 0, 1) := by decide +kernel
theorem dX5_remember_10 : decode cX5_remember 10 = .ok (.getfield 22, 3) := by decide +kernel
theorem dX5_remember_13 : decode cX5_remember 13 = .ok (.sipush 235, 3) := by decide +kernel
theorem dX5_remember_16 : decode cX5_remember 16 = .ok (.aload_n 0, 1) := by decide +kernel
theorem dX5_remember_17 : decode cX5_remember 17 = .ok (.getfield 22, 3) := by decide +kernel
theorem dX5_remember_20 : decode cX5_remember 20 = .ok (.iconst 0, 1) := by decide +kernel
theorem dX5_remember_21 : decode cX5_remember 21 = .ok (.sipush 3055, 3) := by decide +kernel
theorem dX5_remember_24 : decode cX5_remember 24 = .ok (.invokestatic 48, 3) := by decide +kernel
theorem dX5_remember_27 : decode cX5_remember 27 = .ok (.aload_n 0, 1) := by decide +kernel
theorem dX5_remember_28 : decode cX5_remember 28 = .ok (.dup, 1) := by decide +kernel
theorem dX5_remember_29 : decode cX5_remember 29 = .ok (.getfield 45, 3) := by decide +kernel
theorem dX5_remember_32 : decode cX5_remember 32 = .ok (.iconst 1, 1) := by decide +kernel
theorem dX5_remember_33 : decode cX5_remember 33 = .ok (.isub, 1) := by decide +kernel
theorem dX5_remember_34 : decode cX5_remember 34 = .ok (.putfield 45, 3) := by decide +kernel
theorem dX5_remember_37 : decode cX5_remember 37 = .ok (.aload_n 0, 1) := by decide +kernel
theorem dX5_remember_38 : decode cX5_remember 38 = .ok (.getfield 16, 3) := by decide +kernel
theorem dX5_remember_41 : decode cX5_remember 41 = .ok (.iconst 0, 1) := by decide +kernel
theorem dX5_remember_42 : decode cX5_remember 42 = .ok (.aload_n 0, 1) := by decide +kernel
theorem dX5_remember_43 : decode cX5_remember 43 = .ok (.getfield 22, 3) := by decide +kernel
theorem dX5_remember_46 : decode cX5_remember 46 = .ok (.sipush 235, 3) := by decide +kernel
theorem dX5_remember_49 : decode cX5_remember 49 = .ok (.aload_n 0, 1) := by decide +kernel
theorem dX5_remember_50 : decode cX5_remember 50 = .ok (.getfield 45, 3) := by decide +kernel
theorem dX5_remember_53 : decode cX5_remember 53 = .ok (.imul, 1) := by decide +kernel
theorem dX5_remember_54 : decode cX5_remember 54 = .ok (.sipush 235, 3) := by decide +kernel
theorem dX5_remember_57 : decode cX5_remember 57 = .ok (.invokestatic 48, 3) := by decide +kernel
theorem dX5_remember_60 : decode cX5_remember 60 = .ok (.aload_n 0, 1) := by decide +kernel
theorem dX5_remember_61 : decode cX5_remember 61 = .ok (.dup, 1) := by decide +kernel
theorem dX5_remember_62 : decode cX5_remember 62 = .ok (.getfield 45, 3) := by decide +kernel
theorem dX5_remember_65 : decode cX5_remember 65 = .ok (.iconst 1, 1) := by decide +kernel
theorem dX5_remember_66 : decode cX5_remember 66 = .ok (.iadd, 1) := by decide +kernel
theorem dX5_remember_67 : decode cX5_remember 67 = .ok (.putfield 45, 3) := by decide +kernel
theorem dX5_remember_70 : decode cX5_remember 70 = .ok (.return_, 1) := by decide +kernel
set_option maxRecDepth 20000 in
theorem ggX5_tryIt_X5_copy : GoodIn wsX5_tryIt wsX5_copy := goodIn_r _ [6] (by decide +kernel) (by decide +kernel)
set_option maxRecDepth 20000 in
theorem gX5_tryIt_X5_copy : GoodIn wsX5_tryIt (va_wsS RX5 48 yX5_copy wsX5_copy) := goodIn_app (goodIn_of _ (by decide +kernel)) ggX5_tryIt_X5_copy
theorem dX5_tryIt_0 : decode cX5_tryIt 0 = .ok (.aload_n 0, 1) := by decide +kernel
theorem dX5_tryIt_1 : decode cX5_tryIt 1 = .ok (.getfield 16, 3) := by decide +kernel
theorem dX5_tryIt_4 : decode cX5_tryIt 4 = .ok (.iconst 0, 1) := by decide +kernel
theorem dX5_tryIt_5 : decode cX5_tryIt 5 = .ok (.aload_n 0, 1) := by decide +kernel
theorem dX5_tryIt_6 : decode cX5_tryIt 6 = .ok (.getfield 19, 3) := by decide +kernel
theorem dX5_tryIt_9 : decode cX5_tryIt 9 = .ok (.iconst 0, 1) := by decide +kernel
theorem dX5_tryIt_10 : decode cX5_tryIt 10 = .ok (.sipush 235, 3) := by decide +kernel
theorem dX5_tryIt_13 : decode cX5_tryIt 13 = .ok (.invokestatic 48, 3) := by decide +kernel
theorem dX5_tryIt_16 : decode cX5_tryIt 16 = .ok (.return_, 1) := by decide +kernel
theorem dX5_at_0 : decode cX5_at 0 = .ok (.bipush 109, 2) := by decide +kernel
theorem dX5_at_2 : decode cX5_at 2 = .ok (.bipush 6, 2) := by decide +kernel
theorem dX5_at_4 : decode cX5_at 4 = .ok (.iload_n 0, 1) := by decide +kernel
theorem dX5_at_5 : decode cX5_at 5 = .ok (.imul, 1) := by decide +kernel
theorem dX5_at_6 : decode cX5_at 6 = .ok (.iadd, 1) := by decide +kernel
theorem dX5_at_7 : decode cX5_at 7 = .ok (.iload_n 1, 1) := by decide +kernel
theorem dX5_at_8 : decode cX5_at 8 = .ok (.iadd, 1) := by decide +kernel
theorem dX5_at_9 : decode cX5_at 9 = .ok (.ireturn, 1) := by decide +kernel
theorem dX5_isFront_0 : decode cX5_isFront 0 = .ok (.aload_n 0, 1) := by decide +kernel
theorem dX5_isFront_1 : decode cX5_isFront 1 = .ok (.bipush 14, 2) := by decide +kernel
theorem dX5_isFront_3 : decode cX5_isFront 3 = .ok (.iload_n 1, 1) := by decide +kernel
theorem dX5_isFront_4 : decode cX5_isFront 4 = .ok (.iadd, 1) := by decide +kernel
theorem dX5_isFront_5 : decode cX5_isFront 5 = .ok (.iaload, 1) := by decide +kernel
theorem dX5_isFront_6 : decode cX5_isFront 6 = .ok (.ifCond .le 7, 3) := by decide +kernel
theorem dX5_isFront_9 : decode cX5_isFront 9 = .ok (.iconst 1, 1) := by decide +kernel
theorem dX5_isFront_10 : decode cX5_isFront 10 = .ok (.goto 4, 3) := by decide +kernel
theorem dX5_isFront_13 : decode cX5_isFront 13 = .ok (.iconst 0, 1) := by decide +kernel
theorem dX5_isFront_14 : decode cX5_isFront 14 = .ok (.ireturn, 1) := by decide +kernel
set_option maxRecDepth 20000 in
theorem ggX5_fronts_X5_isFront : GoodIn wsX5_fronts wsX5_isFront := goodIn_r _ [4] (by decide +kernel) (by decide +kernel)
set_option maxRecDepth 20000 in
theorem gX5_fronts_X5_isFront : GoodIn wsX5_fronts (va_wsS RX5 52 yX5_isFront wsX5_isFront) := goodIn_app (goodIn_of _ (by decide +kernel)) ggX5_fronts_X5_isFront
theorem dX5_fronts_0 : decode cX5_fronts 0 = .ok (.iconst 0, 1) := by decide +kernel
theorem dX5_fronts_1 : decode cX5_fronts 1 = .ok (.istore_n 1, 1) := by decide +kernel
theorem dX5_fronts_2 : decode cX5_fronts 2 = .ok (.iconst 0, 1) := by decide +kernel
theorem dX5_fronts_3 : decode cX5_fronts 3 = .ok (.istore_n 2, 1) := by decide +kernel
theorem dX5_fronts_4 : decode cX5_fronts 4 = .ok (.iload_n 2, 1) := by decide +kernel
theorem dX5_fronts_5 : decode cX5_fronts 5 = .ok (.bipush 16, 2) := by decide +kernel
theorem dX5_fronts_7 : decode cX5_fronts 7 = .ok (.if_icmp .ge 25, 3) := by decide +kernel
theorem dX5_fronts_10 : decode cX5_fronts 10 = .ok (.iload_n 1, 1) := by decide +kernel
theorem dX5_fronts_11 : decode cX5_fronts 11 = .ok (.aload_n 0, 1) := by decide +kernel
theorem dX5_fronts_12 : decode cX5_fronts 12 = .ok (.iload_n 2, 1) := by decide +kernel
theorem dX5_fronts_13 : decode cX5_fronts 13 = .ok (.invokestatic 52, 3) := by decide +kernel
theorem dX5_fronts_16 : decode cX5_fronts 16 = .ok (.ifCond .eq 7, 3) := by decide +kernel
theorem dX5_fronts_19 : decode cX5_fronts 19 = .ok (.iconst 1, 1) := by decide +kernel
theorem dX5_fronts_20 : decode cX5_fronts 20 = .ok (.goto 4, 3) := by decide +kernel
theorem dX5_fronts_23 : decode cX5_fronts 23 = .ok (.iconst 0, 1) := by decide +kernel
theorem dX5_fronts_24 : decode cX5_fronts 24 = .ok (.iadd, 1) := by decide +kernel
theorem dX5_fronts_25 : decode cX5_fronts 25 = .ok (.istore_n 1, 1) := by decide +kernel
theorem dX5_fronts_26 : decode cX5_fronts 26 = .ok (.iinc 2 1, 3) := by decide +kernel
theorem dX5_fronts_29 : decode cX5_fronts 29 = .ok (.goto (-25), 3) := by decide +kernel
theorem dX5_fronts_32 : decode cX5_fronts 32 = .ok (.iload_n 1, 1) := by decide +kernel
theorem dX5_fronts_33 : decode cX5_fronts 33 = .ok (.ireturn, 1) := by decide +kernel
set_option maxRecDepth 20000 in
theorem ggX5_ordersOf_X5_at : GoodIn wsX5_ordersOf wsX5_at := goodIn_r _ [4] (by decide +kernel) (by decide +kernel)
set_option maxRecDepth 20000 in
theorem gX5_ordersOf_X5_at : GoodIn wsX5_ordersOf (va_wsS RX5 56 yX5_at wsX5_at) := goodIn_app (goodIn_of _ (by decide +kernel)) ggX5_ordersOf_X5_at
theorem dX5_ordersOf_0 : decode cX5_ordersOf 0 = .ok (.iconst 0, 1) := by decide +kernel
theorem dX5_ordersOf_1 : decode cX5_ordersOf 1 = .ok (.istore_n 2, 1) := by decide +kernel
theorem dX5_ordersOf_2 : decode cX5_ordersOf 2 = .ok (.iconst 0, 1) := by decide +kernel
theorem dX5_ordersOf_3 : decode cX5_ordersOf 3 = .ok (.istore_n 3, 1) := by decide +kernel
theorem dX5_ordersOf_4 : decode cX5_ordersOf 4 = .ok (.iload_n 3, 1) := by decide +kernel
theorem dX5_ordersOf_5 : decode cX5_ordersOf 5 = .ok (.aload_n 0, 1) := by decide +kernel
theorem dX5_ordersOf_6 : decode cX5_ordersOf 6 = .ok (.bipush 6, 2) := by decide +kernel
theorem dX5_ordersOf_8 : decode cX5_ordersOf 8 = .ok (.iaload, 1) := by decide +kernel
theorem dX5_ordersOf_9 : decode cX5_ordersOf 9 = .ok (.if_icmp .ge 28, 3) := by decide +kernel
theorem dX5_ordersOf_12 : decode cX5_ordersOf 12 = .ok (.iload_n 2, 1) := by decide +kernel
theorem dX5_ordersOf_13 : decode cX5_ordersOf 13 = .ok (.aload_n 0, 1) := by decide +kernel
theorem dX5_ordersOf_14 : decode cX5_ordersOf 14 = .ok (.iload_n 3, 1) := by decide +kernel
theorem dX5_ordersOf_15 : decode cX5_ordersOf 15 = .ok (.iconst 1, 1) := by decide +kernel
theorem dX5_ordersOf_16 : decode cX5_ordersOf 16 = .ok (.invokestatic 56, 3) := by decide +kernel
theorem dX5_ordersOf_19 : decode cX5_ordersOf 19 = .ok (.iaload, 1) := by decide +kernel
theorem dX5_ordersOf_20 : decode cX5_ordersOf 20 = .ok (.iload_n 1, 1) := by decide +kernel
theorem dX5_ordersOf_21 : decode cX5_ordersOf 21 = .ok (.if_icmp .ne 7, 3) := by decide +kernel
theorem dX5_ordersOf_24 : decode cX5_ordersOf 24 = .ok (.iconst 1, 1) := by decide +kernel
theorem dX5_ordersOf_25 : decode cX5_ordersOf 25 = .ok (.goto 4, 3) := by decide +kernel
theorem dX5_ordersOf_28 : decode cX5_ordersOf 28 = .ok (.iconst 0, 1) := by decide +kernel
theorem dX5_ordersOf_29 : decode cX5_ordersOf 29 = .ok (.iadd, 1) := by decide +kernel
theorem dX5_ordersOf_30 : decode cX5_ordersOf 30 = .ok (.istore_n 2, 1) := by decide +kernel
theorem dX5_ordersOf_31 : decode cX5_ordersOf 31 = .ok (.iinc 3 1, 3) := by decide +kernel
theorem dX5_ordersOf_34 : decode cX5_ordersOf 34 = .ok (.goto (-30), 3) := by decide +kernel
theorem dX5_ordersOf_37 : decode cX5_ordersOf 37 = .ok (.iload_n 2, 1) := by decide +kernel
theorem dX5_ordersOf_38 : decode cX5_ordersOf 38 = .ok (.ireturn, 1) := by decide +kernel
set_option maxRecDepth 20000 in
theorem ggX5_feesOf_X5_at : GoodIn wsX5_feesOf wsX5_at := goodIn_r _ [4] (by decide +kernel) (by decide +kernel)
set_option maxRecDepth 20000 in
theorem gX5_feesOf_X5_at : GoodIn wsX5_feesOf (va_wsS RX5 56 yX5_at wsX5_at) := goodIn_app (goodIn_of _ (by decide +kernel)) ggX5_feesOf_X5_at
theorem dX5_feesOf_0 : decode cX5_feesOf 0 = .ok (.iconst 0, 1) := by decide +kernel
theorem dX5_feesOf_1 : decode cX5_feesOf 1 = .ok (.istore_n 2, 1) := by decide +kernel
theorem dX5_feesOf_2 : decode cX5_feesOf 2 = .ok (.iconst 0, 1) := by decide +kernel
theorem dX5_feesOf_3 : decode cX5_feesOf 3 = .ok (.istore_n 3, 1) := by decide +kernel
theorem dX5_feesOf_4 : decode cX5_feesOf 4 = .ok (.iload_n 3, 1) := by decide +kernel
theorem dX5_feesOf_5 : decode cX5_feesOf 5 = .ok (.aload_n 0, 1) := by decide +kernel
theorem dX5_feesOf_6 : decode cX5_feesOf 6 = .ok (.bipush 6, 2) := by decide +kernel
theorem dX5_feesOf_8 : decode cX5_feesOf 8 = .ok (.iaload, 1) := by decide +kernel
theorem dX5_feesOf_9 : decode cX5_feesOf 9 = .ok (.if_icmp .ge 34, 3) := by decide +kernel
theorem dX5_feesOf_12 : decode cX5_feesOf 12 = .ok (.iload_n 2, 1) := by decide +kernel
theorem dX5_feesOf_13 : decode cX5_feesOf 13 = .ok (.aload_n 0, 1) := by decide +kernel
theorem dX5_feesOf_14 : decode cX5_feesOf 14 = .ok (.iload_n 3, 1) := by decide +kernel
theorem dX5_feesOf_15 : decode cX5_feesOf 15 = .ok (.iconst 1, 1) := by decide +kernel
theorem dX5_feesOf_16 : decode cX5_feesOf 16 = .ok (.invokestatic 56, 3) := by decide +kernel
theorem dX5_feesOf_19 : decode cX5_feesOf 19 = .ok (.iaload, 1) := by decide +kernel
theorem dX5_feesOf_20 : decode cX5_feesOf 20 = .ok (.iload_n 1, 1) := by decide +kernel
theorem dX5_feesOf_21 : decode cX5_feesOf 21 = .ok (.if_icmp .ne 13, 3) := by decide +kernel
theorem dX5_feesOf_24 : decode cX5_feesOf 24 = .ok (.aload_n 0, 1) := by decide +kernel
theorem dX5_feesOf_25 : decode cX5_feesOf 25 = .ok (.iload_n 3, 1) := by decide +kernel
theorem dX5_feesOf_26 : decode cX5_feesOf 26 = .ok (.iconst 3, 1) := by decide +kernel
theorem dX5_feesOf_27 : decode cX5_feesOf 27 = .ok (.invokestatic 56, 3) := by decide +kernel
theorem dX5_feesOf_30 : decode cX5_feesOf 30 = .ok (.iaload, 1) := by decide +kernel
theorem dX5_feesOf_31 : decode cX5_feesOf 31 = .ok (.goto 4, 3) := by decide +kernel
theorem dX5_feesOf_34 : decode cX5_feesOf 34 = .ok (.iconst 0, 1) := by decide +kernel
theorem dX5_feesOf_35 : decode cX5_feesOf 35 = .ok (.iadd, 1) := by decide +kernel
theorem dX5_feesOf_36 : decode cX5_feesOf 36 = .ok (.istore_n 2, 1) := by decide +kernel
theorem dX5_feesOf_37 : decode cX5_feesOf 37 = .ok (.iinc 3 1, 3) := by decide +kernel
theorem dX5_feesOf_40 : decode cX5_feesOf 40 = .ok (.goto (-36), 3) := by decide +kernel
theorem dX5_feesOf_43 : decode cX5_feesOf 43 = .ok (.iload_n 2, 1) := by decide +kernel
theorem dX5_feesOf_44 : decode cX5_feesOf 44 = .ok (.ireturn, 1) := by decide +kernel
set_option maxRecDepth 20000 in
theorem ggX5_closeOrder_X5_at : GoodIn wsX5_closeOrder wsX5_at := goodIn_r _ [4] (by decide +kernel) (by decide +kernel)
set_option maxRecDepth 20000 in
theorem gX5_closeOrder_X5_at : GoodIn wsX5_closeOrder (va_wsS RX5 56 yX5_at wsX5_at) := goodIn_app (goodIn_of _ (by decide +kernel)) ggX5_closeOrder_X5_at
set_option maxRecDepth 20000 in
theorem ggX5_closeOrder_X5_copy : GoodIn wsX5_closeOrder wsX5_copy := goodIn_r _ [7] (by decide +kernel) (by decide +kernel)
set_option maxRecDepth 20000 in
theorem gX5_closeOrder_X5_copy : GoodIn wsX5_closeOrder (va_wsS RX5 48 yX5_copy wsX5_copy) := goodIn_app (goodIn_of _ (by decide +kernel)) ggX5_closeOrder_X5_copy
theorem dX5_closeOrder_0 : decode cX5_closeOrder 0 = .ok (.aload_n 0, 1) := by decide +kernel
theorem dX5_closeOrder_1 : decode cX5_closeOrder 1 = .ok (.iload_n 1, 1) := by decide +kernel
theorem dX5_closeOrder_2 : decode cX5_closeOrder 2 = .ok (.iconst 1, 1) := by decide +kernel
theorem dX5_closeOrder_3 : decode cX5_closeOrder 3 = .ok (.iadd, 1) := by decide +kernel
theorem dX5_closeOrder_4 : decode cX5_closeOrder 4 = .ok (.iconst 0, 1) := by decide +kernel
theorem dX5_closeOrder_5 : decode cX5_closeOrder 5 = .ok (.invokestatic 56, 3) := by decide +kernel
theorem dX5_closeOrder_8 : decode cX5_closeOrder 8 = .ok (.aload_n 0, 1) := by decide +kernel
theorem dX5_closeOrder_9 : decode cX5_closeOrder 9 = .ok (.iload_n 1, 1) := by decide +kernel
theorem dX5_closeOrder_10 : decode cX5_closeOrder 10 = .ok (.iconst 0, 1) := by decide +kernel
theorem dX5_closeOrder_11 : decode cX5_closeOrder 11 = .ok (.invokestatic 56, 3) := by decide +kernel
theorem dX5_closeOrder_14 : decode cX5_closeOrder 14 = .ok (.bipush 6, 2) := by decide +kernel
theorem dX5_closeOrder_16 : decode cX5_closeOrder 16 = .ok (.aload_n 0, 1) := by decide +kernel
theorem dX5_closeOrder_17 : decode cX5_closeOrder 17 = .ok (.bipush 6, 2) := by decide +kernel
theorem dX5_closeOrder_19 : decode cX5_closeOrder 19 = .ok (.iaload, 1) := by decide +kernel
theorem dX5_closeOrder_20 : decode cX5_closeOrder 20 = .ok (.iconst 1, 1) := by decide +kernel
theorem dX5_closeOrder_21 : decode cX5_closeOrder 21 = .ok (.isub, 1) := by decide +kernel
theorem dX5_closeOrder_22 : decode cX5_closeOrder 22 = .ok (.iload_n 1, 1) := by decide +kernel
theorem dX5_closeOrder_23 : decode cX5_closeOrder 23 = .ok (.isub, 1) := by decide +kernel
theorem dX5_closeOrder_24 : decode cX5_closeOrder 24 = .ok (.imul, 1) := by decide +kernel
theorem dX5_closeOrder_25 : decode cX5_closeOrder 25 = .ok (.invokestatic 48, 3) := by decide +kernel
theorem dX5_closeOrder_28 : decode cX5_closeOrder 28 = .ok (.aload_n 0, 1) := by decide +kernel
theorem dX5_closeOrder_29 : decode cX5_closeOrder 29 = .ok (.bipush 6, 2) := by decide +kernel
theorem dX5_closeOrder_31 : decode cX5_closeOrder 31 = .ok (.dup2, 1) := by decide +kernel
theorem dX5_closeOrder_32 : decode cX5_closeOrder 32 = .ok (.iaload, 1) := by decide +kernel
theorem dX5_closeOrder_33 : decode cX5_closeOrder 33 = .ok (.iconst 1, 1) := by decide +kernel
theorem dX5_closeOrder_34 : decode cX5_closeOrder 34 = .ok (.isub, 1) := by decide +kernel
theorem dX5_closeOrder_35 : decode cX5_closeOrder 35 = .ok (.iastore, 1) := by decide +kernel
theorem dX5_closeOrder_36 : decode cX5_closeOrder 36 = .ok (.return_, 1) := by decide +kernel
set_option maxRecDepth 20000 in
theorem ggX5_deliver_X5_copyBack : GoodIn wsX5_deliver wsX5_copyBack := goodIn_r _ [4] (by decide +kernel) (by decide +kernel)
set_option maxRecDepth 20000 in
theorem gX5_deliver_X5_copyBack : GoodIn wsX5_deliver (va_wsS RX5 60 yX5_copyBack wsX5_copyBack) := goodIn_app (goodIn_of _ (by decide +kernel)) ggX5_deliver_X5_copyBack
theorem dX5_deliver_0 : decode cX5_deliver 0 = .ok (.aload_n 0, 1) := by decide +kernel
theorem dX5_deliver_1 : decode cX5_deliver 1 = .ok (.bipush 59, 2) := by decide +kernel
theorem dX5_deliver_3 : decode cX5_deliver 3 = .ok (.bipush 64, 2) := by decide +kernel
theorem dX5_deliver_5 : decode cX5_deliver 5 = .ok (.bipush 45, 2) := by decide +kernel
theorem dX5_deliver_7 : decode cX5_deliver 7 = .ok (.invokestatic 60, 3) := by decide +kernel
theorem dX5_deliver_10 : decode cX5_deliver 10 = .ok (.aload_n 0, 1) := by decide +kernel
theorem dX5_deliver_11 : decode cX5_deliver 11 = .ok (.bipush 59, 2) := by decide +kernel
theorem dX5_deliver_13 : decode cX5_deliver 13 = .ok (.iload_n 1, 1) := by decide +kernel
theorem dX5_deliver_14 : decode cX5_deliver 14 = .ok (.iastore, 1) := by decide +kernel
theorem dX5_deliver_15 : decode cX5_deliver 15 = .ok (.aload_n 0, 1) := by decide +kernel
theorem dX5_deliver_16 : decode cX5_deliver 16 = .ok (.bipush 60, 2) := by decide +kernel
theorem dX5_deliver_18 : decode cX5_deliver 18 = .ok (.iload_n 2, 1) := by decide +kernel
theorem dX5_deliver_19 : decode cX5_deliver 19 = .ok (.iastore, 1) := by decide +kernel
theorem dX5_deliver_20 : decode cX5_deliver 20 = .ok (.aload_n 0, 1) := by decide +kernel
theorem dX5_deliver_21 : decode cX5_deliver 21 = .ok (.bipush 61, 2) := by decide +kernel
theorem dX5_deliver_23 : decode cX5_deliver 23 = .ok (.iload_n 3, 1) := by decide +kernel
theorem dX5_deliver_24 : decode cX5_deliver 24 = .ok (.iastore, 1) := by decide +kernel
theorem dX5_deliver_25 : decode cX5_deliver 25 = .ok (.aload_n 0, 1) := by decide +kernel
theorem dX5_deliver_26 : decode cX5_deliver 26 = .ok (.bipush 62, 2) := by decide +kernel
theorem dX5_deliver_28 : decode cX5_deliver 28 = .ok (.iload 4, 2) := by decide +kernel
theorem dX5_deliver_30 : decode cX5_deliver 30 = .ok (.iastore, 1) := by decide +kernel
theorem dX5_deliver_31 : decode cX5_deliver 31 = .ok (.aload_n 0, 1) := by decide +kernel
theorem dX5_deliver_32 : decode cX5_deliver 32 = .ok (.bipush 63, 2) := by decide +kernel
theorem dX5_deliver_34 : decode cX5_deliver 34 = .ok (.iload 5, 2) := by decide +kernel
theorem dX5_deliver_36 : decode cX5_deliver 36 = .ok (.iastore, 1) := by decide +kernel
theorem dX5_deliver_37 : decode cX5_deliver 37 = .ok (.aload_n 0, 1) := by decide +kernel
theorem dX5_deliver_38 : decode cX5_deliver 38 = .ok (.bipush 58, 2) := by decide +kernel
theorem dX5_deliver_40 : decode cX5_deliver 40 = .ok (.dup2, 1) := by decide +kernel
theorem dX5_deliver_41 : decode cX5_deliver 41 = .ok (.iaload, 1) := by decide +kernel
theorem dX5_deliver_42 : decode cX5_deliver 42 = .ok (.aload_n 0, 1) := by decide +kernel
theorem dX5_deliver_43 : decode cX5_deliver 43 = .ok (.bipush 58, 2) := by decide +kernel
theorem dX5_deliver_45 : decode cX5_deliver 45 = .ok (.iaload, 1) := by decide +kernel
theorem dX5_deliver_46 : decode cX5_deliver 46 = .ok (.bipush 10, 2) := by decide +kernel
theorem dX5_deliver_48 : decode cX5_deliver 48 = .ok (.if_icmp .ge 7, 3) := by decide +kernel
theorem dX5_deliver_51 : decode cX5_deliver 51 = .ok (.iconst 1, 1) := by decide +kernel
theorem dX5_deliver_52 : decode cX5_deliver 52 = .ok (.goto 4, 3) := by decide +kernel
theorem dX5_deliver_55 : decode cX5_deliver 55 = .ok (.iconst 0, 1) := by decide +kernel
theorem dX5_deliver_56 : decode cX5_deliver 56 = .ok (.iadd, 1) := by decide +kernel
theorem dX5_deliver_57 : decode cX5_deliver 57 = .ok (.iastore, 1) := by decide +kernel
theorem dX5_deliver_58 : decode cX5_deliver 58 = .ok (.aload_n 0, 1) := by decide +kernel
theorem dX5_deliver_59 : decode cX5_deliver 59 = .ok (.bipush 7, 2) := by decide +kernel
theorem dX5_deliver_61 : decode cX5_deliver 61 = .ok (.dup2, 1) := by decide +kernel
theorem dX5_deliver_62 : decode cX5_deliver 62 = .ok (.iaload, 1) := by decide +kernel
theorem dX5_deliver_63 : decode cX5_deliver 63 = .ok (.iconst 1, 1) := by decide +kernel
theorem dX5_deliver_64 : decode cX5_deliver 64 = .ok (.iadd, 1) := by decide +kernel
theorem dX5_deliver_65 : decode cX5_deliver 65 = .ok (.iastore, 1) := by decide +kernel
theorem dX5_deliver_66 : decode cX5_deliver 66 = .ok (.aload_n 0, 1) := by decide +kernel
theorem dX5_deliver_67 : decode cX5_deliver 67 = .ok (.bipush 50, 2) := by decide +kernel
theorem dX5_deliver_69 : decode cX5_deliver 69 = .ok (.iload_n 1, 1) := by decide +kernel
theorem dX5_deliver_70 : decode cX5_deliver 70 = .ok (.iadd, 1) := by decide +kernel
theorem dX5_deliver_71 : decode cX5_deliver 71 = .ok (.dup2, 1) := by decide +kernel
theorem dX5_deliver_72 : decode cX5_deliver 72 = .ok (.iaload, 1) := by decide +kernel
theorem dX5_deliver_73 : decode cX5_deliver 73 = .ok (.iconst 1, 1) := by decide +kernel
theorem dX5_deliver_74 : decode cX5_deliver 74 = .ok (.iadd, 1) := by decide +kernel
theorem dX5_deliver_75 : decode cX5_deliver 75 = .ok (.iastore, 1) := by decide +kernel
theorem dX5_deliver_76 : decode cX5_deliver 76 = .ok (.aload_n 0, 1) := by decide +kernel
theorem dX5_deliver_77 : decode cX5_deliver 77 = .ok (.bipush 10, 2) := by decide +kernel
theorem dX5_deliver_79 : decode cX5_deliver 79 = .ok (.dup2, 1) := by decide +kernel
theorem dX5_deliver_80 : decode cX5_deliver 80 = .ok (.iaload, 1) := by decide +kernel
theorem dX5_deliver_81 : decode cX5_deliver 81 = .ok (.iload 5, 2) := by decide +kernel
theorem dX5_deliver_83 : decode cX5_deliver 83 = .ok (.iadd, 1) := by decide +kernel
theorem dX5_deliver_84 : decode cX5_deliver 84 = .ok (.iastore, 1) := by decide +kernel
theorem dX5_deliver_85 : decode cX5_deliver 85 = .ok (.return_, 1) := by decide +kernel
set_option maxRecDepth 20000 in
theorem ggX5_payBack_X5_at : GoodIn wsX5_payBack wsX5_at := goodIn_r _ [4] (by decide +kernel) (by decide +kernel)
set_option maxRecDepth 20000 in
theorem gX5_payBack_X5_at : GoodIn wsX5_payBack (va_wsS RX5 56 yX5_at wsX5_at) := goodIn_app (goodIn_of _ (by decide +kernel)) ggX5_payBack_X5_at
set_option maxRecDepth 20000 in
theorem ggX5_payBack_X5_closeOrder : GoodIn wsX5_payBack wsX5_closeOrder := goodIn_r _ [7, 1, 2, 3, 4, 8, 9, 10] (by decide +kernel) (by decide +kernel)
set_option maxRecDepth 20000 in
theorem gX5_payBack_X5_closeOrder : GoodIn wsX5_payBack (va_wsS RX5 64 yX5_closeOrder wsX5_closeOrder) := goodIn_app (goodIn_of _ (by decide +kernel)) ggX5_payBack_X5_closeOrder
theorem dX5_payBack_0 : decode cX5_payBack 0 = .ok (.aload_n 0, 1) := by decide +kernel
theorem dX5_payBack_1 : decode cX5_payBack 1 = .ok (.iload_n 1, 1) := by decide +kernel
theorem dX5_payBack_2 : decode cX5_payBack 2 = .ok (.iconst 3, 1) := by decide +kernel
theorem dX5_payBack_3 : decode cX5_payBack 3 = .ok (.invokestatic 56, 3) := by decide +kernel
theorem dX5_payBack_6 : decode cX5_payBack 6 = .ok (.iaload, 1) := by decide +kernel
theorem dX5_payBack_7 : decode cX5_payBack 7 = .ok (.istore_n 2, 1) := by decide +kernel
theorem dX5_payBack_8 : decode cX5_payBack 8 = .ok (.aload_n 0, 1) := by decide +kernel
theorem dX5_payBack_9 : decode cX5_payBack 9 = .ok (.bipush 46, 2) := by decide +kernel
theorem dX5_payBack_11 : decode cX5_payBack 11 = .ok (.aload_n 0, 1) := by decide +kernel
theorem dX5_payBack_12 : decode cX5_payBack 12 = .ok (.iload_n 1, 1) := by decide +kernel
theorem dX5_payBack_13 : decode cX5_payBack 13 = .ok (.iconst 0, 1) := by decide +kernel
theorem dX5_payBack_14 : decode cX5_payBack 14 = .ok (.invokestatic 56, 3) := by decide +kernel
theorem dX5_payBack_17 : decode cX5_payBack 17 = .ok (.iaload, 1) := by decide +kernel
theorem dX5_payBack_18 : decode cX5_payBack 18 = .ok (.iadd, 1) := by decide +kernel
theorem dX5_payBack_19 : decode cX5_payBack 19 = .ok (.dup2, 1) := by decide +kernel
theorem dX5_payBack_20 : decode cX5_payBack 20 = .ok (.iaload, 1) := by decide +kernel
theorem dX5_payBack_21 : decode cX5_payBack 21 = .ok (.iload_n 2, 1) := by decide +kernel
theorem dX5_payBack_22 : decode cX5_payBack 22 = .ok (.iadd, 1) := by decide +kernel
theorem dX5_payBack_23 : decode cX5_payBack 23 = .ok (.iastore, 1) := by decide +kernel
theorem dX5_payBack_24 : decode cX5_payBack 24 = .ok (.aload_n 0, 1) := by decide +kernel
theorem dX5_payBack_25 : decode cX5_payBack 25 = .ok (.bipush 11, 2) := by decide +kernel
theorem dX5_payBack_27 : decode cX5_payBack 27 = .ok (.dup2, 1) := by decide +kernel
theorem dX5_payBack_28 : decode cX5_payBack 28 = .ok (.iaload, 1) := by decide +kernel
theorem dX5_payBack_29 : decode cX5_payBack 29 = .ok (.iload_n 2, 1) := by decide +kernel
theorem dX5_payBack_30 : decode cX5_payBack 30 = .ok (.iadd, 1) := by decide +kernel
theorem dX5_payBack_31 : decode cX5_payBack 31 = .ok (.iastore, 1) := by decide +kernel
theorem dX5_payBack_32 : decode cX5_payBack 32 = .ok (.aload_n 0, 1) := by decide +kernel
theorem dX5_payBack_33 : decode cX5_payBack 33 = .ok (.iload_n 1, 1) := by decide +kernel
theorem dX5_payBack_34 : decode cX5_payBack 34 = .ok (.invokestatic 64, 3) := by decide +kernel
theorem dX5_payBack_37 : decode cX5_payBack 37 = .ok (.return_, 1) := by decide +kernel
set_option maxRecDepth 20000 in
theorem ggX5_canAsk_X5_isFront : GoodIn wsX5_canAsk wsX5_isFront := goodIn_r _ [4] (by decide +kernel) (by decide +kernel)
set_option maxRecDepth 20000 in
theorem gX5_canAsk_X5_isFront : GoodIn wsX5_canAsk (va_wsS RX5 52 yX5_isFront wsX5_isFront) := goodIn_app (goodIn_of _ (by decide +kernel)) ggX5_canAsk_X5_isFront
theorem dX5_canAsk_0 : decode cX5_canAsk 0 = .ok (.aload_n 0, 1) := by decide +kernel
theorem dX5_canAsk_1 : decode cX5_canAsk 1 = .ok (.iload_n 2, 1) := by decide +kernel
theorem dX5_canAsk_2 : decode cX5_canAsk 2 = .ok (.invokestatic 52, 3) := by decide +kernel
theorem dX5_canAsk_5 : decode cX5_canAsk 5 = .ok (.ifCond .ne 22, 3) := by decide +kernel
theorem dX5_canAsk_8 : decode cX5_canAsk 8 = .ok (.aload_n 0, 1) := by decide +kernel
theorem dX5_canAsk_9 : decode cX5_canAsk 9 = .ok (.bipush 6, 2) := by decide +kernel
theorem dX5_canAsk_11 : decode cX5_canAsk 11 = .ok (.iaload, 1) := by decide +kernel
theorem dX5_canAsk_12 : decode cX5_canAsk 12 = .ok (.bipush 20, 2) := by decide +kernel
theorem dX5_canAsk_14 : decode cX5_canAsk 14 = .ok (.if_icmp .ge 17, 3) := by decide +kernel
theorem dX5_canAsk_17 : decode cX5_canAsk 17 = .ok (.aload_n 0, 1) := by decide +kernel
theorem dX5_canAsk_18 : decode cX5_canAsk 18 = .ok (.bipush 46, 2) := by decide +kernel
theorem dX5_canAsk_20 : decode cX5_canAsk 20 = .ok (.iload_n 1, 1) := by decide +kernel
theorem dX5_canAsk_21 : decode cX5_canAsk 21 = .ok (.iadd, 1) := by decide +kernel
theorem dX5_canAsk_22 : decode cX5_canAsk 22 = .ok (.iaload, 1) := by decide +kernel
theorem dX5_canAsk_23 : decode cX5_canAsk 23 = .ok (.iload_n 3, 1) := by decide +kernel
theorem dX5_canAsk_24 : decode cX5_canAsk 24 = .ok (.if_icmp .lt 7, 3) := by decide +kernel
theorem dX5_canAsk_27 : decode cX5_canAsk 27 = .ok (.iconst 1, 1) := by decide +kernel
theorem dX5_canAsk_28 : decode cX5_canAsk 28 = .ok (.goto 4, 3) := by decide +kernel
theorem dX5_canAsk_31 : decode cX5_canAsk 31 = .ok (.iconst 0, 1) := by decide +kernel
theorem dX5_canAsk_32 : decode cX5_canAsk 32 = .ok (.ireturn, 1) := by decide +kernel
set_option maxRecDepth 20000 in
theorem ggX5_enter_X5_at : GoodIn wsX5_enter wsX5_at := goodIn_r _ [4] (by decide +kernel) (by decide +kernel)
set_option maxRecDepth 20000 in
theorem gX5_enter_X5_at : GoodIn wsX5_enter (va_wsS RX5 56 yX5_at wsX5_at) := goodIn_app (goodIn_of _ (by decide +kernel)) ggX5_enter_X5_at
theorem dX5_enter_0 : decode cX5_enter 0 = .ok (.aload_n 0, 1) := by decide +kernel
theorem dX5_enter_1 : decode cX5_enter 1 = .ok (.bipush 6, 2) := by decide +kernel
theorem dX5_enter_3 : decode cX5_enter 3 = .ok (.iaload, 1) := by decide +kernel
theorem dX5_enter_4 : decode cX5_enter 4 = .ok (.istore 5, 2) := by decide +kernel
theorem dX5_enter_6 : decode cX5_enter 6 = .ok (.aload_n 0, 1) := by decide +kernel
theorem dX5_enter_7 : decode cX5_enter 7 = .ok (.iload 5, 2) := by decide +kernel
theorem dX5_enter_9 : decode cX5_enter 9 = .ok (.iconst 0, 1) := by decide +kernel
theorem dX5_enter_10 : decode cX5_enter 10 = .ok (.invokestatic 56, 3) := by decide +kernel
theorem dX5_enter_13 : decode cX5_enter 13 = .ok (.iload_n 1, 1) := by decide +kernel
theorem dX5_enter_14 : decode cX5_enter 14 = .ok (.iastore, 1) := by decide +kernel
theorem dX5_enter_15 : decode cX5_enter 15 = .ok (.aload_n 0, 1) := by decide +kernel
theorem dX5_enter_16 : decode cX5_enter 16 = .ok (.iload 5, 2) := by decide +kernel
theorem dX5_enter_18 : decode cX5_enter 18 = .ok (.iconst 1, 1) := by decide +kernel
theorem dX5_enter_19 : decode cX5_enter 19 = .ok (.invokestatic 56, 3) := by decide +kernel
theorem dX5_enter_22 : decode cX5_enter 22 = .ok (.iload_n 2, 1) := by decide +kernel
theorem dX5_enter_23 : decode cX5_enter 23 = .ok (.iastore, 1) := by decide +kernel
theorem dX5_enter_24 : decode cX5_enter 24 = .ok (.aload_n 0, 1) := by decide +kernel
theorem dX5_enter_25 : decode cX5_enter 25 = .ok (.iload 5, 2) := by decide +kernel
theorem dX5_enter_27 : decode cX5_enter 27 = .ok (.iconst 2, 1) := by decide +kernel
theorem dX5_enter_28 : decode cX5_enter 28 = .ok (.invokestatic 56, 3) := by decide +kernel
theorem dX5_enter_31 : decode cX5_enter 31 = .ok (.iload_n 3, 1) := by decide +kernel
theorem dX5_enter_32 : decode cX5_enter 32 = .ok (.iastore, 1) := by decide +kernel
theorem dX5_enter_33 : decode cX5_enter 33 = .ok (.aload_n 0, 1) := by decide +kernel
theorem dX5_enter_34 : decode cX5_enter 34 = .ok (.iload 5, 2) := by decide +kernel
theorem dX5_enter_36 : decode cX5_enter 36 = .ok (.iconst 3, 1) := by decide +kernel
theorem dX5_enter_37 : decode cX5_enter 37 = .ok (.invokestatic 56, 3) := by decide +kernel
theorem dX5_enter_40 : decode cX5_enter 40 = .ok (.iload 4, 2) := by decide +kernel
theorem dX5_enter_42 : decode cX5_enter 42 = .ok (.iastore, 1) := by decide +kernel
theorem dX5_enter_43 : decode cX5_enter 43 = .ok (.aload_n 0, 1) := by decide +kernel
theorem dX5_enter_44 : decode cX5_enter 44 = .ok (.iload 5, 2) := by decide +kernel
theorem dX5_enter_46 : decode cX5_enter 46 = .ok (.iconst 4, 1) := by decide +kernel
theorem dX5_enter_47 : decode cX5_enter 47 = .ok (.invokestatic 56, 3) := by decide +kernel
theorem dX5_enter_50 : decode cX5_enter 50 = .ok (.iconst 0, 1) := by decide +kernel
theorem dX5_enter_51 : decode cX5_enter 51 = .ok (.iastore, 1) := by decide +kernel
theorem dX5_enter_52 : decode cX5_enter 52 = .ok (.aload_n 0, 1) := by decide +kernel
theorem dX5_enter_53 : decode cX5_enter 53 = .ok (.iload 5, 2) := by decide +kernel
theorem dX5_enter_55 : decode cX5_enter 55 = .ok (.iconst 5, 1) := by decide +kernel
theorem dX5_enter_56 : decode cX5_enter 56 = .ok (.invokestatic 56, 3) := by decide +kernel
theorem dX5_enter_59 : decode cX5_enter 59 = .ok (.iconst 0, 1) := by decide +kernel
theorem dX5_enter_60 : decode cX5_enter 60 = .ok (.iastore, 1) := by decide +kernel
theorem dX5_enter_61 : decode cX5_enter 61 = .ok (.aload_n 0, 1) := by decide +kernel
theorem dX5_enter_62 : decode cX5_enter 62 = .ok (.bipush 6, 2) := by decide +kernel
theorem dX5_enter_64 : decode cX5_enter 64 = .ok (.dup2, 1) := by decide +kernel
theorem dX5_enter_65 : decode cX5_enter 65 = .ok (.iaload, 1) := by decide +kernel
theorem dX5_enter_66 : decode cX5_enter 66 = .ok (.iconst 1, 1) := by decide +kernel
theorem dX5_enter_67 : decode cX5_enter 67 = .ok (.iadd, 1) := by decide +kernel
theorem dX5_enter_68 : decode cX5_enter 68 = .ok (.iastore, 1) := by decide +kernel
theorem dX5_enter_69 : decode cX5_enter 69 = .ok (.return_, 1) := by decide +kernel
set_option maxRecDepth 20000 in
theorem ggX5_askIn_X5_isFront : GoodIn wsX5_askIn wsX5_isFront := goodIn_r _ [4] (by decide +kernel) (by decide +kernel)
set_option maxRecDepth 20000 in
theorem gX5_askIn_X5_isFront : GoodIn wsX5_askIn (va_wsS RX5 52 yX5_isFront wsX5_isFront) := goodIn_app (goodIn_of _ (by decide +kernel)) ggX5_askIn_X5_isFront
set_option maxRecDepth 20000 in
theorem ggX5_askIn_X5_deliver : GoodIn wsX5_askIn wsX5_deliver := goodIn_r _ [7, 8, 9, 3, 10] (by decide +kernel) (by decide +kernel)
set_option maxRecDepth 20000 in
theorem gX5_askIn_X5_deliver : GoodIn wsX5_askIn (va_wsS RX5 68 yX5_deliver wsX5_deliver) := goodIn_app (goodIn_of _ (by decide +kernel)) ggX5_askIn_X5_deliver
set_option maxRecDepth 20000 in
theorem ggX5_askIn_X5_enter : GoodIn wsX5_askIn wsX5_enter := goodIn_r _ [13, 14, 15, 3, 16] (by decide +kernel) (by decide +kernel)
set_option maxRecDepth 20000 in
theorem gX5_askIn_X5_enter : GoodIn wsX5_askIn (va_wsS RX5 72 yX5_enter wsX5_enter) := goodIn_app (goodIn_of _ (by decide +kernel)) ggX5_askIn_X5_enter
theorem dX5_askIn_0 : decode cX5_askIn 0 = .ok (.aload_n 0, 1) := by decide +kernel
theorem dX5_askIn_1 : decode cX5_askIn 1 = .ok (.iload_n 2, 1) := by decide +kernel
theorem dX5_askIn_2 : decode cX5_askIn 2 = .ok (.invokestatic 52, 3) := by decide +kernel
theorem dX5_askIn_5 : decode cX5_askIn 5 = .ok (.ifCond .eq 21, 3) := by decide +kernel
theorem dX5_askIn_8 : decode cX5_askIn 8 = .ok (.aload_n 0, 1) := by decide +kernel
theorem dX5_askIn_9 : decode cX5_askIn 9 = .ok (.bipush 14, 2) := by decide +kernel
theorem dX5_askIn_11 : decode cX5_askIn 11 = .ok (.iload_n 2, 1) := by decide +kernel
theorem dX5_askIn_12 : decode cX5_askIn 12 = .ok (.iadd, 1) := by decide +kernel
theorem dX5_askIn_13 : decode cX5_askIn 13 = .ok (.iconst 1, 1) := by decide +kernel
theorem dX5_askIn_14 : decode cX5_askIn 14 = .ok (.iastore, 1) := by decide +kernel
theorem dX5_askIn_15 : decode cX5_askIn 15 = .ok (.aload_n 0, 1) := by decide +kernel
theorem dX5_askIn_16 : decode cX5_askIn 16 = .ok (.iload_n 1, 1) := by decide +kernel
theorem dX5_askIn_17 : decode cX5_askIn 17 = .ok (.iload_n 2, 1) := by decide +kernel
theorem dX5_askIn_18 : decode cX5_askIn 18 = .ok (.iload_n 3, 1) := by decide +kernel
theorem dX5_askIn_19 : decode cX5_askIn 19 = .ok (.iconst 0, 1) := by decide +kernel
theorem dX5_askIn_20 : decode cX5_askIn 20 = .ok (.iconst 0, 1) := by decide +kernel
theorem dX5_askIn_21 : decode cX5_askIn 21 = .ok (.invokestatic 68, 3) := by decide +kernel
theorem dX5_askIn_24 : decode cX5_askIn 24 = .ok (.iconst (-1), 1) := by decide +kernel
theorem dX5_askIn_25 : decode cX5_askIn 25 = .ok (.ireturn, 1) := by decide +kernel
theorem dX5_askIn_26 : decode cX5_askIn 26 = .ok (.aload_n 0, 1) := by decide +kernel
theorem dX5_askIn_27 : decode cX5_askIn 27 = .ok (.bipush 46, 2) := by decide +kernel
theorem dX5_askIn_29 : decode cX5_askIn 29 = .ok (.iload_n 1, 1) := by decide +kernel
theorem dX5_askIn_30 : decode cX5_askIn 30 = .ok (.iadd, 1) := by decide +kernel
theorem dX5_askIn_31 : decode cX5_askIn 31 = .ok (.dup2, 1) := by decide +kernel
theorem dX5_askIn_32 : decode cX5_askIn 32 = .ok (.iaload, 1) := by decide +kernel
theorem dX5_askIn_33 : decode cX5_askIn 33 = .ok (.iload 4, 2) := by decide +kernel
theorem dX5_askIn_35 : decode cX5_askIn 35 = .ok (.isub, 1) := by decide +kernel
theorem dX5_askIn_36 : decode cX5_askIn 36 = .ok (.iastore, 1) := by decide +kernel
theorem dX5_askIn_37 : decode cX5_askIn 37 = .ok (.aload_n 0, 1) := by decide +kernel
theorem dX5_askIn_38 : decode cX5_askIn 38 = .ok (.iload_n 1, 1) := by decide +kernel
theorem dX5_askIn_39 : decode cX5_askIn 39 = .ok (.iload_n 2, 1) := by decide +kernel
theorem dX5_askIn_40 : decode cX5_askIn 40 = .ok (.iload_n 3, 1) := by decide +kernel
theorem dX5_askIn_41 : decode cX5_askIn 41 = .ok (.iload 4, 2) := by decide +kernel
theorem dX5_askIn_43 : decode cX5_askIn 43 = .ok (.invokestatic 72, 3) := by decide +kernel
theorem dX5_askIn_46 : decode cX5_askIn 46 = .ok (.aload_n 0, 1) := by decide +kernel
theorem dX5_askIn_47 : decode cX5_askIn 47 = .ok (.bipush 6, 2) := by decide +kernel
theorem dX5_askIn_49 : decode cX5_askIn 49 = .ok (.iaload, 1) := by decide +kernel
theorem dX5_askIn_50 : decode cX5_askIn 50 = .ok (.iconst 1, 1) := by decide +kernel
theorem dX5_askIn_51 : decode cX5_askIn 51 = .ok (.isub, 1) := by decide +kernel
theorem dX5_askIn_52 : decode cX5_askIn 52 = .ok (.ireturn, 1) := by decide +kernel
set_option maxRecDepth 20000 in
theorem ggX5_cancelIn_X5_at : GoodIn wsX5_cancelIn wsX5_at := goodIn_r _ [4] (by decide +kernel) (by decide +kernel)
set_option maxRecDepth 20000 in
theorem gX5_cancelIn_X5_at : GoodIn wsX5_cancelIn (va_wsS RX5 56 yX5_at wsX5_at) := goodIn_app (goodIn_of _ (by decide +kernel)) ggX5_cancelIn_X5_at
set_option maxRecDepth 20000 in
theorem ggX5_cancelIn_X5_payBack : GoodIn wsX5_cancelIn wsX5_payBack := goodIn_r _ [7, 1, 2, 3, 4, 8, 9, 10, 11, 12, 13] (by decide +kernel) (by decide +kernel)
set_option maxRecDepth 20000 in
theorem gX5_cancelIn_X5_payBack : GoodIn wsX5_cancelIn (va_wsS RX5 76 yX5_payBack wsX5_payBack) := goodIn_app (goodIn_of _ (by decide +kernel)) ggX5_cancelIn_X5_payBack
theorem dX5_cancelIn_0 : decode cX5_cancelIn 0 = .ok (.aload_n 0, 1) := by decide +kernel
theorem dX5_cancelIn_1 : decode cX5_cancelIn 1 = .ok (.iload_n 1, 1) := by decide +kernel
theorem dX5_cancelIn_2 : decode cX5_cancelIn 2 = .ok (.iconst 3, 1) := by decide +kernel
theorem dX5_cancelIn_3 : decode cX5_cancelIn 3 = .ok (.invokestatic 56, 3) := by decide +kernel
theorem dX5_cancelIn_6 : decode cX5_cancelIn 6 = .ok (.iaload, 1) := by decide +kernel
theorem dX5_cancelIn_7 : decode cX5_cancelIn 7 = .ok (.istore_n 2, 1) := by decide +kernel
theorem dX5_cancelIn_8 : decode cX5_cancelIn 8 = .ok (.aload_n 0, 1) := by decide +kernel
theorem dX5_cancelIn_9 : decode cX5_cancelIn 9 = .ok (.iload_n 1, 1) := by decide +kernel
theorem dX5_cancelIn_10 : decode cX5_cancelIn 10 = .ok (.invokestatic 76, 3) := by decide +kernel
theorem dX5_cancelIn_13 : decode cX5_cancelIn 13 = .ok (.aload_n 0, 1) := by decide +kernel
theorem dX5_cancelIn_14 : decode cX5_cancelIn 14 = .ok (.bipush 9, 2) := by decide +kernel
theorem dX5_cancelIn_16 : decode cX5_cancelIn 16 = .ok (.dup2, 1) := by decide +kernel
theorem dX5_cancelIn_17 : decode cX5_cancelIn 17 = .ok (.iaload, 1) := by decide +kernel
theorem dX5_cancelIn_18 : decode cX5_cancelIn 18 = .ok (.iconst 1, 1) := by decide +kernel
theorem dX5_cancelIn_19 : decode cX5_cancelIn 19 = .ok (.iadd, 1) := by decide +kernel
theorem dX5_cancelIn_20 : decode cX5_cancelIn 20 = .ok (.iastore, 1) := by decide +kernel
theorem dX5_cancelIn_21 : decode cX5_cancelIn 21 = .ok (.iload_n 2, 1) := by decide +kernel
theorem dX5_cancelIn_22 : decode cX5_cancelIn 22 = .ok (.ireturn, 1) := by decide +kernel
set_option maxRecDepth 20000 in
theorem ggX5_canRaise_X5_at : GoodIn wsX5_canRaise wsX5_at := goodIn_r _ [4] (by decide +kernel) (by decide +kernel)
set_option maxRecDepth 20000 in
theorem gX5_canRaise_X5_at : GoodIn wsX5_canRaise (va_wsS RX5 56 yX5_at wsX5_at) := goodIn_app (goodIn_of _ (by decide +kernel)) ggX5_canRaise_X5_at
theorem dX5_canRaise_0 : decode cX5_canRaise 0 = .ok (.aload_n 0, 1) := by decide +kernel
theorem dX5_canRaise_1 : decode cX5_canRaise 1 = .ok (.iload_n 1, 1) := by decide +kernel
theorem dX5_canRaise_2 : decode cX5_canRaise 2 = .ok (.iconst 3, 1) := by decide +kernel
theorem dX5_canRaise_3 : decode cX5_canRaise 3 = .ok (.invokestatic 56, 3) := by decide +kernel
theorem dX5_canRaise_6 : decode cX5_canRaise 6 = .ok (.iaload, 1) := by decide +kernel
theorem dX5_canRaise_7 : decode cX5_canRaise 7 = .ok (.iload_n 2, 1) := by decide +kernel
theorem dX5_canRaise_8 : decode cX5_canRaise 8 = .ok (.iadd, 1) := by decide +kernel
theorem dX5_canRaise_9 : decode cX5_canRaise 9 = .ok (.bipush 9, 2) := by decide +kernel
theorem dX5_canRaise_11 : decode cX5_canRaise 11 = .ok (.if_icmp .gt 23, 3) := by decide +kernel
theorem dX5_canRaise_14 : decode cX5_canRaise 14 = .ok (.aload_n 0, 1) := by decide +kernel
theorem dX5_canRaise_15 : decode cX5_canRaise 15 = .ok (.bipush 46, 2) := by decide +kernel
theorem dX5_canRaise_17 : decode cX5_canRaise 17 = .ok (.aload_n 0, 1) := by decide +kernel
theorem dX5_canRaise_18 : decode cX5_canRaise 18 = .ok (.iload_n 1, 1) := by decide +kernel
theorem dX5_canRaise_19 : decode cX5_canRaise 19 = .ok (.iconst 0, 1) := by decide +kernel
theorem dX5_canRaise_20 : decode cX5_canRaise 20 = .ok (.invokestatic 56, 3) := by decide +kernel
theorem dX5_canRaise_23 : decode cX5_canRaise 23 = .ok (.iaload, 1) := by decide +kernel
theorem dX5_canRaise_24 : decode cX5_canRaise 24 = .ok (.iadd, 1) := by decide +kernel
theorem dX5_canRaise_25 : decode cX5_canRaise 25 = .ok (.iaload, 1) := by decide +kernel
theorem dX5_canRaise_26 : decode cX5_canRaise 26 = .ok (.iload_n 2, 1) := by decide +kernel
theorem dX5_canRaise_27 : decode cX5_canRaise 27 = .ok (.if_icmp .lt 7, 3) := by decide +kernel
theorem dX5_canRaise_30 : decode cX5_canRaise 30 = .ok (.iconst 1, 1) := by decide +kernel
theorem dX5_canRaise_31 : decode cX5_canRaise 31 = .ok (.goto 4, 3) := by decide +kernel
theorem dX5_canRaise_34 : decode cX5_canRaise 34 = .ok (.iconst 0, 1) := by decide +kernel
theorem dX5_canRaise_35 : decode cX5_canRaise 35 = .ok (.ireturn, 1) := by decide +kernel
set_option maxRecDepth 20000 in
theorem ggX5_raiseIn_X5_at : GoodIn wsX5_raiseIn wsX5_at := goodIn_r _ [4] (by decide +kernel) (by decide +kernel)
set_option maxRecDepth 20000 in
theorem gX5_raiseIn_X5_at : GoodIn wsX5_raiseIn (va_wsS RX5 56 yX5_at wsX5_at) := goodIn_app (goodIn_of _ (by decide +kernel)) ggX5_raiseIn_X5_at
theorem dX5_raiseIn_0 : decode cX5_raiseIn 0 = .ok (.aload_n 0, 1) := by decide +kernel
theorem dX5_raiseIn_1 : decode cX5_raiseIn 1 = .ok (.bipush 46, 2) := by decide +kernel
theorem dX5_raiseIn_3 : decode cX5_raiseIn 3 = .ok (.aload_n 0, 1) := by decide +kernel
theorem dX5_raiseIn_4 : decode cX5_raiseIn 4 = .ok (.iload_n 1, 1) := by decide +kernel
theorem dX5_raiseIn_5 : decode cX5_raiseIn 5 = .ok (.iconst 0, 1) := by decide +kernel
theorem dX5_raiseIn_6 : decode cX5_raiseIn 6 = .ok (.invokestatic 56, 3) := by decide +kernel
theorem dX5_raiseIn_9 : decode cX5_raiseIn 9 = .ok (.iaload, 1) := by decide +kernel
theorem dX5_raiseIn_10 : decode cX5_raiseIn 10 = .ok (.iadd, 1) := by decide +kernel
theorem dX5_raiseIn_11 : decode cX5_raiseIn 11 = .ok (.dup2, 1) := by decide +kernel
theorem dX5_raiseIn_12 : decode cX5_raiseIn 12 = .ok (.iaload, 1) := by decide +kernel
theorem dX5_raiseIn_13 : decode cX5_raiseIn 13 = .ok (.iload_n 2, 1) := by decide +kernel
theorem dX5_raiseIn_14 : decode cX5_raiseIn 14 = .ok (.isub, 1) := by decide +kernel
theorem dX5_raiseIn_15 : decode cX5_raiseIn 15 = .ok (.iastore, 1) := by decide +kernel
theorem dX5_raiseIn_16 : decode cX5_raiseIn 16 = .ok (.aload_n 0, 1) := by decide +kernel
theorem dX5_raiseIn_17 : decode cX5_raiseIn 17 = .ok (.iload_n 1, 1) := by decide +kernel
theorem dX5_raiseIn_18 : decode cX5_raiseIn 18 = .ok (.iconst 3, 1) := by decide +kernel
theorem dX5_raiseIn_19 : decode cX5_raiseIn 19 = .ok (.invokestatic 56, 3) := by decide +kernel
theorem dX5_raiseIn_22 : decode cX5_raiseIn 22 = .ok (.dup2, 1) := by decide +kernel
theorem dX5_raiseIn_23 : decode cX5_raiseIn 23 = .ok (.iaload, 1) := by decide +kernel
theorem dX5_raiseIn_24 : decode cX5_raiseIn 24 = .ok (.iload_n 2, 1) := by decide +kernel
theorem dX5_raiseIn_25 : decode cX5_raiseIn 25 = .ok (.iadd, 1) := by decide +kernel
theorem dX5_raiseIn_26 : decode cX5_raiseIn 26 = .ok (.iastore, 1) := by decide +kernel
theorem dX5_raiseIn_27 : decode cX5_raiseIn 27 = .ok (.aload_n 0, 1) := by decide +kernel
theorem dX5_raiseIn_28 : decode cX5_raiseIn 28 = .ok (.iload_n 1, 1) := by decide +kernel
theorem dX5_raiseIn_29 : decode cX5_raiseIn 29 = .ok (.iconst 3, 1) := by decide +kernel
theorem dX5_raiseIn_30 : decode cX5_raiseIn 30 = .ok (.invokestatic 56, 3) := by decide +kernel
theorem dX5_raiseIn_33 : decode cX5_raiseIn 33 = .ok (.iaload, 1) := by decide +kernel
theorem dX5_raiseIn_34 : decode cX5_raiseIn 34 = .ok (.ireturn, 1) := by decide +kernel
set_option maxRecDepth 20000 in
theorem ggX5_choice_X5_at : GoodIn wsX5_choice wsX5_at := goodIn_r _ [4] (by decide +kernel) (by decide +kernel)
set_option maxRecDepth 20000 in
theorem gX5_choice_X5_at : GoodIn wsX5_choice (va_wsS RX5 56 yX5_at wsX5_at) := goodIn_app (goodIn_of _ (by decide +kernel)) ggX5_choice_X5_at
set_option maxRecDepth 20000 in
theorem ggX5_choice_X5_feesOf : GoodIn wsX5_choice wsX5_feesOf := goodIn_r _ [7, 1, 2, 3, 4] (by decide +kernel) (by decide +kernel)
set_option maxRecDepth 20000 in
theorem gX5_choice_X5_feesOf : GoodIn wsX5_choice (va_wsS RX5 79 yX5_feesOf wsX5_feesOf) := goodIn_app (goodIn_of _ (by decide +kernel)) ggX5_choice_X5_feesOf
set_option maxRecDepth 20000 in
theorem ggX5_choice_X5_ordersOf : GoodIn wsX5_choice wsX5_ordersOf := goodIn_r _ [10, 1, 2, 3, 4] (by decide +kernel) (by decide +kernel)
set_option maxRecDepth 20000 in
theorem gX5_choice_X5_ordersOf : GoodIn wsX5_choice (va_wsS RX5 83 yX5_ordersOf wsX5_ordersOf) := goodIn_app (goodIn_of _ (by decide +kernel)) ggX5_choice_X5_ordersOf
theorem dX5_choice_0 : decode cX5_choice 0 = .ok (.aload_n 0, 1) := by decide +kernel
theorem dX5_choice_1 : decode cX5_choice 1 = .ok (.bipush 6, 2) := by decide +kernel
theorem dX5_choice_3 : decode cX5_choice 3 = .ok (.iaload, 1) := by decide +kernel
theorem dX5_choice_4 : decode cX5_choice 4 = .ok (.ifCond .ne 5, 3) := by decide +kernel
theorem dX5_choice_7 : decode cX5_choice 7 = .ok (.iconst (-1), 1) := by decide +kernel
theorem dX5_choice_8 : decode cX5_choice 8 = .ok (.ireturn, 1) := by decide +kernel
theorem dX5_choice_9 : decode cX5_choice 9 = .ok (.aload_n 0, 1) := by decide +kernel
theorem dX5_choice_10 : decode cX5_choice 10 = .ok (.iconst 4, 1) := by decide +kernel
theorem dX5_choice_11 : decode cX5_choice 11 = .ok (.iaload, 1) := by decide +kernel
theorem dX5_choice_12 : decode cX5_choice 12 = .ok (.iconst 1, 1) := by decide +kernel
theorem dX5_choice_13 : decode cX5_choice 13 = .ok (.if_icmp .ne 11, 3) := by decide +kernel
theorem dX5_choice_16 : decode cX5_choice 16 = .ok (.aload_n 0, 1) := by decide +kernel
theorem dX5_choice_17 : decode cX5_choice 17 = .ok (.iconst 0, 1) := by decide +kernel
theorem dX5_choice_18 : decode cX5_choice 18 = .ok (.iconst 1, 1) := by decide +kernel
theorem dX5_choice_19 : decode cX5_choice 19 = .ok (.invokestatic 56, 3) := by decide +kernel
theorem dX5_choice_22 : decode cX5_choice 22 = .ok (.iaload, 1) := by decide +kernel
theorem dX5_choice_23 : decode cX5_choice 23 = .ok (.ireturn, 1) := by decide +kernel
theorem dX5_choice_24 : decode cX5_choice 24 = .ok (.iconst (-1), 1) := by decide +kernel
theorem dX5_choice_25 : decode cX5_choice 25 = .ok (.istore_n 1, 1) := by decide +kernel
theorem dX5_choice_26 : decode cX5_choice 26 = .ok (.iconst (-1), 1) := by decide +kernel
theorem dX5_choice_27 : decode cX5_choice 27 = .ok (.istore_n 2, 1) := by decide +kernel
theorem dX5_choice_28 : decode cX5_choice 28 = .ok (.iconst 0, 1) := by decide +kernel
theorem dX5_choice_29 : decode cX5_choice 29 = .ok (.istore_n 3, 1) := by decide +kernel
theorem dX5_choice_30 : decode cX5_choice 30 = .ok (.iload_n 3, 1) := by decide +kernel
theorem dX5_choice_31 : decode cX5_choice 31 = .ok (.bipush 16, 2) := by decide +kernel
theorem dX5_choice_33 : decode cX5_choice 33 = .ok (.if_icmp .ge 74, 3) := by decide +kernel
theorem dX5_choice_36 : decode cX5_choice 36 = .ok (.aload_n 0, 1) := by decide +kernel
theorem dX5_choice_37 : decode cX5_choice 37 = .ok (.iconst 4, 1) := by decide +kernel
theorem dX5_choice_38 : decode cX5_choice 38 = .ok (.iaload, 1) := by decide +kernel
theorem dX5_choice_39 : decode cX5_choice 39 = .ok (.ifCond .ne 11, 3) := by decide +kernel
theorem dX5_choice_42 : decode cX5_choice 42 = .ok (.aload_n 0, 1) := by decide +kernel
theorem dX5_choice_43 : decode cX5_choice 43 = .ok (.iload_n 3, 1) := by decide +kernel
theorem dX5_choice_44 : decode cX5_choice 44 = .ok (.invokestatic 79, 3) := by decide +kernel
theorem dX5_choice_47 : decode cX5_choice 47 = .ok (.goto 8, 3) := by decide +kernel
theorem dX5_choice_50 : decode cX5_choice 50 = .ok (.aload_n 0, 1) := by decide +kernel
theorem dX5_choice_51 : decode cX5_choice 51 = .ok (.iload_n 3, 1) := by decide +kernel
theorem dX5_choice_52 : decode cX5_choice 52 = .ok (.invokestatic 83, 3) := by decide +kernel
theorem dX5_choice_55 : decode cX5_choice 55 = .ok (.istore 4, 2) := by decide +kernel
theorem dX5_choice_57 : decode cX5_choice 57 = .ok (.aload_n 0, 1) := by decide +kernel
theorem dX5_choice_58 : decode cX5_choice 58 = .ok (.iload_n 3, 1) := by decide +kernel
theorem dX5_choice_59 : decode cX5_choice 59 = .ok (.invokestatic 83, 3) := by decide +kernel
theorem dX5_choice_62 : decode cX5_choice 62 = .ok (.ifCond .le 13, 3) := by decide +kernel
theorem dX5_choice_65 : decode cX5_choice 65 = .ok (.iload 4, 2) := by decide +kernel
theorem dX5_choice_67 : decode cX5_choice 67 = .ok (.iload_n 2, 1) := by decide +kernel
theorem dX5_choice_68 : decode cX5_choice 68 = .ok (.if_icmp .le 7, 3) := by decide +kernel
theorem dX5_choice_71 : decode cX5_choice 71 = .ok (.iconst 1, 1) := by decide +kernel
theorem dX5_choice_72 : decode cX5_choice 72 = .ok (.goto 4, 3) := by decide +kernel
theorem dX5_choice_75 : decode cX5_choice 75 = .ok (.iconst 0, 1) := by decide +kernel
theorem dX5_choice_76 : decode cX5_choice 76 = .ok (.istore 5, 2) := by decide +kernel
theorem dX5_choice_78 : decode cX5_choice 78 = .ok (.iload 5, 2) := by decide +kernel
theorem dX5_choice_80 : decode cX5_choice 80 = .ok (.ifCond .eq 7, 3) := by decide +kernel
theorem dX5_choice_83 : decode cX5_choice 83 = .ok (.iload_n 3, 1) := by decide +kernel
theorem dX5_choice_84 : decode cX5_choice 84 = .ok (.goto 4, 3) := by decide +kernel
theorem dX5_choice_87 : decode cX5_choice 87 = .ok (.iload_n 1, 1) := by decide +kernel
theorem dX5_choice_88 : decode cX5_choice 88 = .ok (.istore_n 1, 1) := by decide +kernel
theorem dX5_choice_89 : decode cX5_choice 89 = .ok (.iload 5, 2) := by decide +kernel
theorem dX5_choice_91 : decode cX5_choice 91 = .ok (.ifCond .eq 8, 3) := by decide +kernel
theorem dX5_choice_94 : decode cX5_choice 94 = .ok (.iload 4, 2) := by decide +kernel
theorem dX5_choice_96 : decode cX5_choice 96 = .ok (.goto 4, 3) := by decide +kernel
theorem dX5_choice_99 : decode cX5_choice 99 = .ok (.iload_n 2, 1) := by decide +kernel
theorem dX5_choice_100 : decode cX5_choice 100 = .ok (.istore_n 2, 1) := by decide +kernel
theorem dX5_choice_101 : decode cX5_choice 101 = .ok (.iinc 3 1, 3) := by decide +kernel
theorem dX5_choice_104 : decode cX5_choice 104 = .ok (.goto (-74), 3) := by decide +kernel
theorem dX5_choice_107 : decode cX5_choice 107 = .ok (.iload_n 1, 1) := by decide +kernel
theorem dX5_choice_108 : decode cX5_choice 108 = .ok (.ireturn, 1) := by decide +kernel
set_option maxRecDepth 20000 in
theorem ggX5_sendBack_X5_isFront : GoodIn wsX5_sendBack wsX5_isFront := goodIn_r _ [4] (by decide +kernel) (by decide +kernel)
set_option maxRecDepth 20000 in
theorem gX5_sendBack_X5_isFront : GoodIn wsX5_sendBack (va_wsS RX5 52 yX5_isFront wsX5_isFront) := goodIn_app (goodIn_of _ (by decide +kernel)) ggX5_sendBack_X5_isFront
theorem dX5_sendBack_0 : decode cX5_sendBack 0 = .ok (.iconst (-1), 1) := by decide +kernel
theorem dX5_sendBack_1 : decode cX5_sendBack 1 = .ok (.istore_n 1, 1) := by decide +kernel
theorem dX5_sendBack_2 : decode cX5_sendBack 2 = .ok (.iconst 0, 1) := by decide +kernel
theorem dX5_sendBack_3 : decode cX5_sendBack 3 = .ok (.istore_n 2, 1) := by decide +kernel
theorem dX5_sendBack_4 : decode cX5_sendBack 4 = .ok (.iload_n 2, 1) := by decide +kernel
theorem dX5_sendBack_5 : decode cX5_sendBack 5 = .ok (.bipush 16, 2) := by decide +kernel
theorem dX5_sendBack_7 : decode cX5_sendBack 7 = .ok (.if_icmp .ge 43, 3) := by decide +kernel
theorem dX5_sendBack_10 : decode cX5_sendBack 10 = .ok (.aload_n 0, 1) := by decide +kernel
theorem dX5_sendBack_11 : decode cX5_sendBack 11 = .ok (.iload_n 2, 1) := by decide +kernel
theorem dX5_sendBack_12 : decode cX5_sendBack 12 = .ok (.invokestatic 52, 3) := by decide +kernel
theorem dX5_sendBack_15 : decode cX5_sendBack 15 = .ok (.ifCond .eq 27, 3) := by decide +kernel
theorem dX5_sendBack_18 : decode cX5_sendBack 18 = .ok (.iload_n 1, 1) := by decide +kernel
theorem dX5_sendBack_19 : decode cX5_sendBack 19 = .ok (.iconst (-1), 1) := by decide +kernel
theorem dX5_sendBack_20 : decode cX5_sendBack 20 = .ok (.if_icmp .eq 18, 3) := by decide +kernel
theorem dX5_sendBack_23 : decode cX5_sendBack 23 = .ok (.aload_n 0, 1) := by decide +kernel
theorem dX5_sendBack_24 : decode cX5_sendBack 24 = .ok (.bipush 14, 2) := by decide +kernel
theorem dX5_sendBack_26 : decode cX5_sendBack 26 = .ok (.iload_n 2, 1) := by decide +kernel
theorem dX5_sendBack_27 : decode cX5_sendBack 27 = .ok (.iadd, 1) := by decide +kernel
theorem dX5_sendBack_28 : decode cX5_sendBack 28 = .ok (.iaload, 1) := by decide +kernel
theorem dX5_sendBack_29 : decode cX5_sendBack 29 = .ok (.aload_n 0, 1) := by decide +kernel
theorem dX5_sendBack_30 : decode cX5_sendBack 30 = .ok (.bipush 14, 2) := by decide +kernel
theorem dX5_sendBack_32 : decode cX5_sendBack 32 = .ok (.iload_n 1, 1) := by decide +kernel
theorem dX5_sendBack_33 : decode cX5_sendBack 33 = .ok (.iadd, 1) := by decide +kernel
theorem dX5_sendBack_34 : decode cX5_sendBack 34 = .ok (.iaload, 1) := by decide +kernel
theorem dX5_sendBack_35 : decode cX5_sendBack 35 = .ok (.if_icmp .le 7, 3) := by decide +kernel
theorem dX5_sendBack_38 : decode cX5_sendBack 38 = .ok (.iload_n 2, 1) := by decide +kernel
theorem dX5_sendBack_39 : decode cX5_sendBack 39 = .ok (.goto 4, 3) := by decide +kernel
theorem dX5_sendBack_42 : decode cX5_sendBack 42 = .ok (.iload_n 1, 1) := by decide +kernel
theorem dX5_sendBack_43 : decode cX5_sendBack 43 = .ok (.istore_n 1, 1) := by decide +kernel
theorem dX5_sendBack_44 : decode cX5_sendBack 44 = .ok (.iinc 2 1, 3) := by decide +kernel
theorem dX5_sendBack_47 : decode cX5_sendBack 47 = .ok (.goto (-43), 3) := by decide +kernel
theorem dX5_sendBack_50 : decode cX5_sendBack 50 = .ok (.aload_n 0, 1) := by decide +kernel
theorem dX5_sendBack_51 : decode cX5_sendBack 51 = .ok (.bipush 14, 2) := by decide +kernel
theorem dX5_sendBack_53 : decode cX5_sendBack 53 = .ok (.iload_n 1, 1) := by decide +kernel
theorem dX5_sendBack_54 : decode cX5_sendBack 54 = .ok (.iadd, 1) := by decide +kernel
theorem dX5_sendBack_55 : decode cX5_sendBack 55 = .ok (.iconst 0, 1) := by decide +kernel
theorem dX5_sendBack_56 : decode cX5_sendBack 56 = .ok (.iastore, 1) := by decide +kernel
theorem dX5_sendBack_57 : decode cX5_sendBack 57 = .ok (.return_, 1) := by decide +kernel
set_option maxRecDepth 20000 in
theorem ggX5_bring_X5_fronts : GoodIn wsX5_bring wsX5_fronts := goodIn_r _ [5, 6, 7, 4, 8] (by decide +kernel) (by decide +kernel)
set_option maxRecDepth 20000 in
theorem gX5_bring_X5_fronts : GoodIn wsX5_bring (va_wsS RX5 86 yX5_fronts wsX5_fronts) := goodIn_app (goodIn_of _ (by decide +kernel)) ggX5_bring_X5_fronts
set_option maxRecDepth 20000 in
theorem ggX5_bring_X5_sendBack : GoodIn wsX5_bring wsX5_sendBack := goodIn_r _ [11, 6, 7, 4, 8] (by decide +kernel) (by decide +kernel)
set_option maxRecDepth 20000 in
theorem gX5_bring_X5_sendBack : GoodIn wsX5_bring (va_wsS RX5 90 yX5_sendBack wsX5_sendBack) := goodIn_app (goodIn_of _ (by decide +kernel)) ggX5_bring_X5_sendBack
set_option maxRecDepth 20000 in
theorem ggX5_bring_X5_at : GoodIn wsX5_bring wsX5_at := goodIn_r _ [14] (by decide +kernel) (by decide +kernel)
set_option maxRecDepth 20000 in
theorem gX5_bring_X5_at : GoodIn wsX5_bring (va_wsS RX5 56 yX5_at wsX5_at) := goodIn_app (goodIn_of _ (by decide +kernel)) ggX5_bring_X5_at
set_option maxRecDepth 20000 in
theorem ggX5_bring_X5_deliver : GoodIn wsX5_bring wsX5_deliver := goodIn_r _ [17, 18, 19, 4, 20] (by decide +kernel) (by decide +kernel)
set_option maxRecDepth 20000 in
theorem gX5_bring_X5_deliver : GoodIn wsX5_bring (va_wsS RX5 68 yX5_deliver wsX5_deliver) := goodIn_app (goodIn_of _ (by decide +kernel)) ggX5_bring_X5_deliver
set_option maxRecDepth 20000 in
theorem ggX5_bring_X5_closeOrder : GoodIn wsX5_bring wsX5_closeOrder := goodIn_r _ [23, 12, 13, 4, 14, 24, 25, 26] (by decide +kernel) (by decide +kernel)
set_option maxRecDepth 20000 in
theorem gX5_bring_X5_closeOrder : GoodIn wsX5_bring (va_wsS RX5 64 yX5_closeOrder wsX5_closeOrder) := goodIn_app (goodIn_of _ (by decide +kernel)) ggX5_bring_X5_closeOrder
theorem dX5_bring_0 : decode cX5_bring 0 = .ok (.aload_n 1, 1) := by decide +kernel
theorem dX5_bring_1 : decode cX5_bring 1 = .ok (.invokestatic 86, 3) := by decide +kernel
theorem dX5_bring_4 : decode cX5_bring 4 = .ok (.aload_n 1, 1) := by decide +kernel
theorem dX5_bring_5 : decode cX5_bring 5 = .ok (.iconst 1, 1) := by decide +kernel
theorem dX5_bring_6 : decode cX5_bring 6 = .ok (.iaload, 1) := by decide +kernel
theorem dX5_bring_7 : decode cX5_bring 7 = .ok (.if_icmp .lt 10, 3) := by decide +kernel
theorem dX5_bring_10 : decode cX5_bring 10 = .ok (.aload_n 1, 1) := by decide +kernel
theorem dX5_bring_11 : decode cX5_bring 11 = .ok (.invokestatic 90, 3) := by decide +kernel
theorem dX5_bring_14 : decode cX5_bring 14 = .ok (.goto (-14), 3) := by decide +kernel
theorem dX5_bring_17 : decode cX5_bring 17 = .ok (.aload_n 1, 1) := by decide +kernel
theorem dX5_bring_18 : decode cX5_bring 18 = .ok (.bipush 14, 2) := by decide +kernel
theorem dX5_bring_20 : decode cX5_bring 20 = .ok (.iload_n 2, 1) := by decide +kernel
theorem dX5_bring_21 : decode cX5_bring 21 = .ok (.iadd, 1) := by decide +kernel
theorem dX5_bring_22 : decode cX5_bring 22 = .ok (.iconst 1, 1) := by decide +kernel
theorem dX5_bring_23 : decode cX5_bring 23 = .ok (.iastore, 1) := by decide +kernel
theorem dX5_bring_24 : decode cX5_bring 24 = .ok (.aload_n 1, 1) := by decide +kernel
theorem dX5_bring_25 : decode cX5_bring 25 = .ok (.bipush 30, 2) := by decide +kernel
theorem dX5_bring_27 : decode cX5_bring 27 = .ok (.iload_n 2, 1) := by decide +kernel
theorem dX5_bring_28 : decode cX5_bring 28 = .ok (.iadd, 1) := by decide +kernel
theorem dX5_bring_29 : decode cX5_bring 29 = .ok (.dup2, 1) := by decide +kernel
theorem dX5_bring_30 : decode cX5_bring 30 = .ok (.iaload, 1) := by decide +kernel
theorem dX5_bring_31 : decode cX5_bring 31 = .ok (.iconst 1, 1) := by decide +kernel
theorem dX5_bring_32 : decode cX5_bring 32 = .ok (.iadd, 1) := by decide +kernel
theorem dX5_bring_33 : decode cX5_bring 33 = .ok (.iastore, 1) := by decide +kernel
theorem dX5_bring_34 : decode cX5_bring 34 = .ok (.aload_n 1, 1) := by decide +kernel
theorem dX5_bring_35 : decode cX5_bring 35 = .ok (.bipush 12, 2) := by decide +kernel
theorem dX5_bring_37 : decode cX5_bring 37 = .ok (.dup2, 1) := by decide +kernel
theorem dX5_bring_38 : decode cX5_bring 38 = .ok (.iaload, 1) := by decide +kernel
theorem dX5_bring_39 : decode cX5_bring 39 = .ok (.iconst 1, 1) := by decide +kernel
theorem dX5_bring_40 : decode cX5_bring 40 = .ok (.iadd, 1) := by decide +kernel
theorem dX5_bring_41 : decode cX5_bring 41 = .ok (.iastore, 1) := by decide +kernel
theorem dX5_bring_42 : decode cX5_bring 42 = .ok (.iconst 0, 1) := by decide +kernel
theorem dX5_bring_43 : decode cX5_bring 43 = .ok (.istore_n 3, 1) := by decide +kernel
theorem dX5_bring_44 : decode cX5_bring 44 = .ok (.iload_n 3, 1) := by decide +kernel
theorem dX5_bring_45 : decode cX5_bring 45 = .ok (.aload_n 1, 1) := by decide +kernel
theorem dX5_bring_46 : decode cX5_bring 46 = .ok (.bipush 6, 2) := by decide +kernel
theorem dX5_bring_48 : decode cX5_bring 48 = .ok (.iaload, 1) := by decide +kernel
theorem dX5_bring_49 : decode cX5_bring 49 = .ok (.if_icmp .ge 88, 3) := by decide +kernel
theorem dX5_bring_52 : decode cX5_bring 52 = .ok (.aload_n 1, 1) := by decide +kernel
theorem dX5_bring_53 : decode cX5_bring 53 = .ok (.iload_n 3, 1) := by decide +kernel
theorem dX5_bring_54 : decode cX5_bring 54 = .ok (.iconst 1, 1) := by decide +kernel
theorem dX5_bring_55 : decode cX5_bring 55 = .ok (.invokestatic 56, 3) := by decide +kernel
theorem dX5_bring_58 : decode cX5_bring 58 = .ok (.iaload, 1) := by decide +kernel
theorem dX5_bring_59 : decode cX5_bring 59 = .ok (.iload_n 2, 1) := by decide +kernel
theorem dX5_bring_60 : decode cX5_bring 60 = .ok (.if_icmp .ne 71, 3) := by decide +kernel
theorem dX5_bring_63 : decode cX5_bring 63 = .ok (.aload_n 0, 1) := by decide +kernel
theorem dX5_bring_64 : decode cX5_bring 64 = .ok (.aload_n 0, 1) := by decide +kernel
theorem dX5_bring_65 : decode cX5_bring 65 = .ok (.getfield 93, 3) := by decide +kernel
theorem dX5_bring_68 : decode cX5_bring 68 = .ok (.ifCond .ne 14, 3) := by decide +kernel
theorem dX5_bring_71 : decode cX5_bring 71 = .ok (.aload_n 1, 1) := by decide +kernel
theorem dX5_bring_72 : decode cX5_bring 72 = .ok (.iload_n 3, 1) := by decide +kernel
theorem dX5_bring_73 : decode cX5_bring 73 = .ok (.iconst 5, 1) := by decide +kernel
theorem dX5_bring_74 : decode cX5_bring 74 = .ok (.invokestatic 56, 3) := by decide +kernel
theorem dX5_bring_77 : decode cX5_bring 77 = .ok (.iaload, 1) := by decide +kernel
theorem dX5_bring_78 : decode cX5_bring 78 = .ok (.iconst 1, 1) := by decide +kernel
theorem dX5_bring_79 : decode cX5_bring 79 = .ok (.if_icmp .ne 7, 3) := by decide +kernel
theorem dX5_bring_82 : decode cX5_bring 82 = .ok (.iconst 1, 1) := by decide +kernel
theorem dX5_bring_83 : decode cX5_bring 83 = .ok (.goto 4, 3) := by decide +kernel
theorem dX5_bring_86 : decode cX5_bring 86 = .ok (.iconst 0, 1) := by decide +kernel
theorem dX5_bring_87 : decode cX5_bring 87 = .ok (.putfield 93, 3) := by decide +kernel
theorem dX5_bring_90 : decode cX5_bring 90 = .ok (.aload_n 1, 1) := by decide +kernel
theorem dX5_bring_91 : decode cX5_bring 91 = .ok (.aload_n 1, 1) := by decide +kernel
theorem dX5_bring_92 : decode cX5_bring 92 = .ok (.iload_n 3, 1) := by decide +kernel
theorem dX5_bring_93 : decode cX5_bring 93 = .ok (.iconst 0, 1) := by decide +kernel
theorem dX5_bring_94 : decode cX5_bring 94 = .ok (.invokestatic 56, 3) := by decide +kernel
theorem dX5_bring_97 : decode cX5_bring 97 = .ok (.iaload, 1) := by decide +kernel
theorem dX5_bring_98 : decode cX5_bring 98 = .ok (.iload_n 2, 1) := by decide +kernel
theorem dX5_bring_99 : decode cX5_bring 99 = .ok (.aload_n 1, 1) := by decide +kernel
theorem dX5_bring_100 : decode cX5_bring 100 = .ok (.iload_n 3, 1) := by decide +kernel
theorem dX5_bring_101 : decode cX5_bring 101 = .ok (.iconst 2, 1) := by decide +kernel
theorem dX5_bring_102 : decode cX5_bring 102 = .ok (.invokestatic 56, 3) := by decide +kernel
theorem dX5_bring_105 : decode cX5_bring 105 = .ok (.iaload, 1) := by decide +kernel
theorem dX5_bring_106 : decode cX5_bring 106 = .ok (.aload_n 1, 1) := by decide +kernel
theorem dX5_bring_107 : decode cX5_bring 107 = .ok (.iload_n 3, 1) := by decide +kernel
theorem dX5_bring_108 : decode cX5_bring 108 = .ok (.iconst 4, 1) := by decide +kernel
theorem dX5_bring_109 : decode cX5_bring 109 = .ok (.invokestatic 56, 3) := by decide +kernel
theorem dX5_bring_112 : decode cX5_bring 112 = .ok (.iaload, 1) := by decide +kernel
theorem dX5_bring_113 : decode cX5_bring 113 = .ok (.aload_n 1, 1) := by decide +kernel
theorem dX5_bring_114 : decode cX5_bring 114 = .ok (.iload_n 3, 1) := by decide +kernel
theorem dX5_bring_115 : decode cX5_bring 115 = .ok (.iconst 3, 1) := by decide +kernel
theorem dX5_bring_116 : decode cX5_bring 116 = .ok (.invokestatic 56, 3) := by decide +kernel
theorem dX5_bring_119 : decode cX5_bring 119 = .ok (.iaload, 1) := by decide +kernel
theorem dX5_bring_120 : decode cX5_bring 120 = .ok (.invokestatic 68, 3) := by decide +kernel
theorem dX5_bring_123 : decode cX5_bring 123 = .ok (.aload_n 1, 1) := by decide +kernel
theorem dX5_bring_124 : decode cX5_bring 124 = .ok (.iload_n 3, 1) := by decide +kernel
theorem dX5_bring_125 : decode cX5_bring 125 = .ok (.invokestatic 64, 3) := by decide +kernel
theorem dX5_bring_128 : decode cX5_bring 128 = .ok (.goto (-84), 3) := by decide +kernel
theorem dX5_bring_131 : decode cX5_bring 131 = .ok (.iinc 3 1, 3) := by decide +kernel
theorem dX5_bring_134 : decode cX5_bring 134 = .ok (.goto (-90), 3) := by decide +kernel
theorem dX5_bring_137 : decode cX5_bring 137 = .ok (.return_, 1) := by decide +kernel
set_option maxRecDepth 20000 in
theorem ggX5_night_X5_choice : GoodIn wsX5_night wsX5_choice := goodIn_r _ [6, 7, 8, 5, 9, 10, 11, 12, 13, 14, 15] (by decide +kernel) (by decide +kernel)
set_option maxRecDepth 20000 in
theorem gX5_night_X5_choice : GoodIn wsX5_night (va_wsS RX5 100 yX5_choice wsX5_choice) := goodIn_app (goodIn_of _ (by decide +kernel)) ggX5_night_X5_choice
set_option maxRecDepth 20000 in
theorem ggX5_night_X5_bring : GoodIn wsX5_night wsX5_bring := goodIn_r _ [19, 20, 21, 22, 5, 23, 24, 25, 26, 27, 28, 29, 7, 8, 9, 30, 31, 32, 33, 34, 35, 36, 37, 38, 39, 40, 41, 45, 46, 47, 48, 49, 50, 51, 52, 53, 54, 55, 56, 57, 58, 59, 60] (by decide +kernel) (by decide +kernel)
set_option maxRecDepth 20000 in
theorem gX5_night_X5_bring : GoodIn wsX5_night (wsV RX5 103 RX5 yX5_bring wsX5_bring) := goodIn_app (goodIn_of _ (by decide +kernel)) ggX5_night_X5_bring
set_option maxRecDepth 20000 in
theorem ggX5_night_X5_at : GoodIn wsX5_night wsX5_at := goodIn_r _ [9] (by decide +kernel) (by decide +kernel)
set_option maxRecDepth 20000 in
theorem gX5_night_X5_at : GoodIn wsX5_night (va_wsS RX5 56 yX5_at wsX5_at) := goodIn_app (goodIn_of _ (by decide +kernel)) ggX5_night_X5_at
set_option maxRecDepth 20000 in
theorem ggX5_night_X5_payBack : GoodIn wsX5_night wsX5_payBack := goodIn_r _ [44, 7, 8, 5, 9, 36, 37, 38, 39, 40, 41] (by decide +kernel) (by decide +kernel)
set_option maxRecDepth 20000 in
theorem gX5_night_X5_payBack : GoodIn wsX5_night (va_wsS RX5 76 yX5_payBack wsX5_payBack) := goodIn_app (goodIn_of _ (by decide +kernel)) ggX5_night_X5_payBack
set_option maxRecDepth 20000 in
theorem ggX5_night_X5_isFront : GoodIn wsX5_night wsX5_isFront := goodIn_r _ [26] (by decide +kernel) (by decide +kernel)
set_option maxRecDepth 20000 in
theorem gX5_night_X5_isFront : GoodIn wsX5_night (va_wsS RX5 52 yX5_isFront wsX5_isFront) := goodIn_app (goodIn_of _ (by decide +kernel)) ggX5_night_X5_isFront
theorem dX5_night_0 : decode cX5_night 0 = .ok (.aload_n 0, 1) := by decide +kernel
theorem dX5_night_1 : decode cX5_night 1 = .ok (.iconst 0, 1) := by decide +kernel
theorem dX5_night_2 : decode cX5_night 2 = .ok (.putfield 97, 3) := by decide +kernel
theorem dX5_night_5 : decode cX5_night 5 = .ok (.aload_n 1, 1) := by decide +kernel
theorem dX5_night_6 : decode cX5_night 6 = .ok (.invokestatic 100, 3) := by decide +kernel
theorem dX5_night_9 : decode cX5_night 9 = .ok (.istore_n 2, 1) := by decide +kernel
theorem dX5_night_10 : decode cX5_night 10 = .ok (.aload_n 0, 1) := by decide +kernel
theorem dX5_night_11 : decode cX5_night 11 = .ok (.getfield 97, 3) := by decide +kernel
theorem dX5_night_14 : decode cX5_night 14 = .ok (.aload_n 1, 1) := by decide +kernel
theorem dX5_night_15 : decode cX5_night 15 = .ok (.iconst 0, 1) := by decide +kernel
theorem dX5_night_16 : decode cX5_night 16 = .ok (.iaload, 1) := by decide +kernel
theorem dX5_night_17 : decode cX5_night 17 = .ok (.if_icmp .ge 42, 3) := by decide +kernel
theorem dX5_night_20 : decode cX5_night 20 = .ok (.iload_n 2, 1) := by decide +kernel
theorem dX5_night_21 : decode cX5_night 21 = .ok (.iconst (-1), 1) := by decide +kernel
theorem dX5_night_22 : decode cX5_night 22 = .ok (.if_icmp .eq 37, 3) := by decide +kernel
theorem dX5_night_25 : decode cX5_night 25 = .ok (.aload_n 0, 1) := by decide +kernel
theorem dX5_night_26 : decode cX5_night 26 = .ok (.aload_n 1, 1) := by decide +kernel
theorem dX5_night_27 : decode cX5_night 27 = .ok (.iload_n 2, 1) := by decide +kernel
theorem dX5_night_28 : decode cX5_night 28 = .ok (.invokevirtual 103, 3) := by decide +kernel
theorem dX5_night_31 : decode cX5_night 31 = .ok (.aload_n 0, 1) := by decide +kernel
theorem dX5_night_32 : decode cX5_night 32 = .ok (.getfield 32, 3) := by decide +kernel
theorem dX5_night_35 : decode cX5_night 35 = .ok (.aload_n 0, 1) := by decide +kernel
theorem dX5_night_36 : decode cX5_night 36 = .ok (.getfield 97, 3) := by decide +kernel
theorem dX5_night_39 : decode cX5_night 39 = .ok (.iload_n 2, 1) := by decide +kernel
theorem dX5_night_40 : decode cX5_night 40 = .ok (.iastore, 1) := by decide +kernel
theorem dX5_night_41 : decode cX5_night 41 = .ok (.aload_n 0, 1) := by decide +kernel
theorem dX5_night_42 : decode cX5_night 42 = .ok (.dup, 1) := by decide +kernel
theorem dX5_night_43 : decode cX5_night 43 = .ok (.getfield 97, 3) := by decide +kernel
theorem dX5_night_46 : decode cX5_night 46 = .ok (.iconst 1, 1) := by decide +kernel
theorem dX5_night_47 : decode cX5_night 47 = .ok (.iadd, 1) := by decide +kernel
theorem dX5_night_48 : decode cX5_night 48 = .ok (.putfield 97, 3) := by decide +kernel
theorem dX5_night_51 : decode cX5_night 51 = .ok (.aload_n 1, 1) := by decide +kernel
theorem dX5_night_52 : decode cX5_night 52 = .ok (.invokestatic 100, 3) := by decide +kernel
theorem dX5_night_55 : decode cX5_night 55 = .ok (.istore_n 2, 1) := by decide +kernel
theorem dX5_night_56 : decode cX5_night 56 = .ok (.goto (-46), 3) := by decide +kernel
theorem dX5_night_59 : decode cX5_night 59 = .ok (.aload_n 1, 1) := by decide +kernel
theorem dX5_night_60 : decode cX5_night 60 = .ok (.bipush 13, 2) := by decide +kernel
theorem dX5_night_62 : decode cX5_night 62 = .ok (.dup2, 1) := by decide +kernel
theorem dX5_night_63 : decode cX5_night 63 = .ok (.iaload, 1) := by decide +kernel
theorem dX5_night_64 : decode cX5_night 64 = .ok (.aload_n 0, 1) := by decide +kernel
theorem dX5_night_65 : decode cX5_night 65 = .ok (.getfield 97, 3) := by decide +kernel
theorem dX5_night_68 : decode cX5_night 68 = .ok (.ifCond .le 7, 3) := by decide +kernel
theorem dX5_night_71 : decode cX5_night 71 = .ok (.iconst 1, 1) := by decide +kernel
theorem dX5_night_72 : decode cX5_night 72 = .ok (.goto 4, 3) := by decide +kernel
theorem dX5_night_75 : decode cX5_night 75 = .ok (.iconst 0, 1) := by decide +kernel
theorem dX5_night_76 : decode cX5_night 76 = .ok (.iadd, 1) := by decide +kernel
theorem dX5_night_77 : decode cX5_night 77 = .ok (.iastore, 1) := by decide +kernel
theorem dX5_night_78 : decode cX5_night 78 = .ok (.iconst 0, 1) := by decide +kernel
theorem dX5_night_79 : decode cX5_night 79 = .ok (.istore_n 2, 1) := by decide +kernel
theorem dX5_night_80 : decode cX5_night 80 = .ok (.iload_n 2, 1) := by decide +kernel
theorem dX5_night_81 : decode cX5_night 81 = .ok (.aload_n 1, 1) := by decide +kernel
theorem dX5_night_82 : decode cX5_night 82 = .ok (.bipush 6, 2) := by decide +kernel
theorem dX5_night_84 : decode cX5_night 84 = .ok (.iaload, 1) := by decide +kernel
theorem dX5_night_85 : decode cX5_night 85 = .ok (.if_icmp .ge 65, 3) := by decide +kernel
theorem dX5_night_88 : decode cX5_night 88 = .ok (.aload_n 1, 1) := by decide +kernel
theorem dX5_night_89 : decode cX5_night 89 = .ok (.iload_n 2, 1) := by decide +kernel
theorem dX5_night_90 : decode cX5_night 90 = .ok (.iconst 4, 1) := by decide +kernel
theorem dX5_night_91 : decode cX5_night 91 = .ok (.invokestatic 56, 3) := by decide +kernel
theorem dX5_night_94 : decode cX5_night 94 = .ok (.dup2, 1) := by decide +kernel
theorem dX5_night_95 : decode cX5_night 95 = .ok (.iaload, 1) := by decide +kernel
theorem dX5_night_96 : decode cX5_night 96 = .ok (.iconst 1, 1) := by decide +kernel
theorem dX5_night_97 : decode cX5_night 97 = .ok (.iadd, 1) := by decide +kernel
theorem dX5_night_98 : decode cX5_night 98 = .ok (.iastore, 1) := by decide +kernel
theorem dX5_night_99 : decode cX5_night 99 = .ok (.aload_n 1, 1) := by decide +kernel
theorem dX5_night_100 : decode cX5_night 100 = .ok (.iload_n 2, 1) := by decide +kernel
theorem dX5_night_101 : decode cX5_night 101 = .ok (.iconst 4, 1) := by decide +kernel
theorem dX5_night_102 : decode cX5_night 102 = .ok (.invokestatic 56, 3) := by decide +kernel
theorem dX5_night_105 : decode cX5_night 105 = .ok (.iaload, 1) := by decide +kernel
theorem dX5_night_106 : decode cX5_night 106 = .ok (.aload_n 1, 1) := by decide +kernel
theorem dX5_night_107 : decode cX5_night 107 = .ok (.iconst 3, 1) := by decide +kernel
theorem dX5_night_108 : decode cX5_night 108 = .ok (.iaload, 1) := by decide +kernel
theorem dX5_night_109 : decode cX5_night 109 = .ok (.if_icmp .lt 35, 3) := by decide +kernel
theorem dX5_night_112 : decode cX5_night 112 = .ok (.aload_n 1, 1) := by decide +kernel
theorem dX5_night_113 : decode cX5_night 113 = .ok (.bipush 54, 2) := by decide +kernel
theorem dX5_night_115 : decode cX5_night 115 = .ok (.aload_n 1, 1) := by decide +kernel
theorem dX5_night_116 : decode cX5_night 116 = .ok (.iload_n 2, 1) := by decide +kernel
theorem dX5_night_117 : decode cX5_night 117 = .ok (.iconst 0, 1) := by decide +kernel
theorem dX5_night_118 : decode cX5_night 118 = .ok (.invokestatic 56, 3) := by decide +kernel
theorem dX5_night_121 : decode cX5_night 121 = .ok (.iaload, 1) := by decide +kernel
theorem dX5_night_122 : decode cX5_night 122 = .ok (.iadd, 1) := by decide +kernel
theorem dX5_night_123 : decode cX5_night 123 = .ok (.dup2, 1) := by decide +kernel
theorem dX5_night_124 : decode cX5_night 124 = .ok (.iaload, 1) := by decide +kernel
theorem dX5_night_125 : decode cX5_night 125 = .ok (.iconst 1, 1) := by decide +kernel
theorem dX5_night_126 : decode cX5_night 126 = .ok (.iadd, 1) := by decide +kernel
theorem dX5_night_127 : decode cX5_night 127 = .ok (.iastore, 1) := by decide +kernel
theorem dX5_night_128 : decode cX5_night 128 = .ok (.aload_n 1, 1) := by decide +kernel
theorem dX5_night_129 : decode cX5_night 129 = .ok (.bipush 8, 2) := by decide +kernel
theorem dX5_night_131 : decode cX5_night 131 = .ok (.dup2, 1) := by decide +kernel
theorem dX5_night_132 : decode cX5_night 132 = .ok (.iaload, 1) := by decide +kernel
theorem dX5_night_133 : decode cX5_night 133 = .ok (.iconst 1, 1) := by decide +kernel
theorem dX5_night_134 : decode cX5_night 134 = .ok (.iadd, 1) := by decide +kernel
theorem dX5_night_135 : decode cX5_night 135 = .ok (.iastore, 1) := by decide +kernel
theorem dX5_night_136 : decode cX5_night 136 = .ok (.aload_n 1, 1) := by decide +kernel
theorem dX5_night_137 : decode cX5_night 137 = .ok (.iload_n 2, 1) := by decide +kernel
theorem dX5_night_138 : decode cX5_night 138 = .ok (.invokestatic 76, 3) := by decide +kernel
theorem dX5_night_141 : decode cX5_night 141 = .ok (.goto (-61), 3) := by decide +kernel
theorem dX5_night_144 : decode cX5_night 144 = .ok (.iinc 2 1, 3) := by decide +kernel
theorem dX5_night_147 : decode cX5_night 147 = .ok (.goto (-67), 3) := by decide +kernel
theorem dX5_night_150 : decode cX5_night 150 = .ok (.iconst 0, 1) := by decide +kernel
theorem dX5_night_151 : decode cX5_night 151 = .ok (.istore_n 3, 1) := by decide +kernel
theorem dX5_night_152 : decode cX5_night 152 = .ok (.iload_n 3, 1) := by decide +kernel
theorem dX5_night_153 : decode cX5_night 153 = .ok (.bipush 16, 2) := by decide +kernel
theorem dX5_night_155 : decode cX5_night 155 = .ok (.if_icmp .ge 61, 3) := by decide +kernel
theorem dX5_night_158 : decode cX5_night 158 = .ok (.aload_n 1, 1) := by decide +kernel
theorem dX5_night_159 : decode cX5_night 159 = .ok (.bipush 14, 2) := by decide +kernel
theorem dX5_night_161 : decode cX5_night 161 = .ok (.iload_n 3, 1) := by decide +kernel
theorem dX5_night_162 : decode cX5_night 162 = .ok (.iadd, 1) := by decide +kernel
theorem dX5_night_163 : decode cX5_night 163 = .ok (.dup2, 1) := by decide +kernel
theorem dX5_night_164 : decode cX5_night 164 = .ok (.iaload, 1) := by decide +kernel
theorem dX5_night_165 : decode cX5_night 165 = .ok (.aload_n 1, 1) := by decide +kernel
theorem dX5_night_166 : decode cX5_night 166 = .ok (.iload_n 3, 1) := by decide +kernel
theorem dX5_night_167 : decode cX5_night 167 = .ok (.invokestatic 52, 3) := by decide +kernel
theorem dX5_night_170 : decode cX5_night 170 = .ok (.ifCond .eq 7, 3) := by decide +kernel
theorem dX5_night_173 : decode cX5_night 173 = .ok (.iconst 1, 1) := by decide +kernel
theorem dX5_night_174 : decode cX5_night 174 = .ok (.goto 4, 3) := by decide +kernel
theorem dX5_night_177 : decode cX5_night 177 = .ok (.iconst 0, 1) := by decide +kernel
theorem dX5_night_178 : decode cX5_night 178 = .ok (.iadd, 1) := by decide +kernel
theorem dX5_night_179 : decode cX5_night 179 = .ok (.iastore, 1) := by decide +kernel
theorem dX5_night_180 : decode cX5_night 180 = .ok (.aload_n 1, 1) := by decide +kernel
theorem dX5_night_181 : decode cX5_night 181 = .ok (.bipush 14, 2) := by decide +kernel
theorem dX5_night_183 : decode cX5_night 183 = .ok (.iload_n 3, 1) := by decide +kernel
theorem dX5_night_184 : decode cX5_night 184 = .ok (.iadd, 1) := by decide +kernel
theorem dX5_night_185 : decode cX5_night 185 = .ok (.aload_n 1, 1) := by decide +kernel
theorem dX5_night_186 : decode cX5_night 186 = .ok (.bipush 14, 2) := by decide +kernel
theorem dX5_night_188 : decode cX5_night 188 = .ok (.iload_n 3, 1) := by decide +kernel
theorem dX5_night_189 : decode cX5_night 189 = .ok (.iadd, 1) := by decide +kernel
theorem dX5_night_190 : decode cX5_night 190 = .ok (.iaload, 1) := by decide +kernel
theorem dX5_night_191 : decode cX5_night 191 = .ok (.aload_n 1, 1) := by decide +kernel
theorem dX5_night_192 : decode cX5_night 192 = .ok (.iconst 2, 1) := by decide +kernel
theorem dX5_night_193 : decode cX5_night 193 = .ok (.iaload, 1) := by decide +kernel
theorem dX5_night_194 : decode cX5_night 194 = .ok (.iconst 1, 1) := by decide +kernel
theorem dX5_night_195 : decode cX5_night 195 = .ok (.iadd, 1) := by decide +kernel
theorem dX5_night_196 : decode cX5_night 196 = .ok (.if_icmp .le 7, 3) := by decide +kernel
theorem dX5_night_199 : decode cX5_night 199 = .ok (.iconst 0, 1) := by decide +kernel
theorem dX5_night_200 : decode cX5_night 200 = .ok (.goto 9, 3) := by decide +kernel
theorem dX5_night_203 : decode cX5_night 203 = .ok (.aload_n 1, 1) := by decide +kernel
theorem dX5_night_204 : decode cX5_night 204 = .ok (.bipush 14, 2) := by decide +kernel
theorem dX5_night_206 : decode cX5_night 206 = .ok (.iload_n 3, 1) := by decide +kernel
theorem dX5_night_207 : decode cX5_night 207 = .ok (.iadd, 1) := by decide +kernel
theorem dX5_night_208 : decode cX5_night 208 = .ok (.iaload, 1) := by decide +kernel
theorem dX5_night_209 : decode cX5_night 209 = .ok (.iastore, 1) := by decide +kernel
theorem dX5_night_210 : decode cX5_night 210 = .ok (.iinc 3 1, 3) := by decide +kernel
theorem dX5_night_213 : decode cX5_night 213 = .ok (.goto (-61), 3) := by decide +kernel
theorem dX5_night_216 : decode cX5_night 216 = .ok (.aload_n 1, 1) := by decide +kernel
theorem dX5_night_217 : decode cX5_night 217 = .ok (.iconst 5, 1) := by decide +kernel
theorem dX5_night_218 : decode cX5_night 218 = .ok (.dup2, 1) := by decide +kernel
theorem dX5_night_219 : decode cX5_night 219 = .ok (.iaload, 1) := by decide +kernel
theorem dX5_night_220 : decode cX5_night 220 = .ok (.iconst 1, 1) := by decide +kernel
theorem dX5_night_221 : decode cX5_night 221 = .ok (.iadd, 1) := by decide +kernel
theorem dX5_night_222 : decode cX5_night 222 = .ok (.iastore, 1) := by decide +kernel
theorem dX5_night_223 : decode cX5_night 223 = .ok (.return_, 1) := by decide +kernel
set_option maxRecDepth 20000 in
theorem ggX5_nightsIn_X5_night : GoodIn wsX5_nightsIn wsX5_night := goodIn_r _ [5, 6, 7, 8, 9, 4, 10, 11, 12, 13, 14, 15, 16, 17, 18, 19, 20, 21, 22, 23, 24, 25, 26, 27, 28, 29, 30, 31, 32, 33, 34, 35, 36, 37, 38, 39, 40, 41, 42, 43, 44, 45, 46, 47, 48, 49, 50, 51, 52, 53, 54, 55, 56, 57, 58, 59, 60, 61, 62, 63, 64] (by decide +kernel) (by decide +kernel)
set_option maxRecDepth 20000 in
theorem gX5_nightsIn_X5_night : GoodIn wsX5_nightsIn (wsV RX5 106 RX5 yX5_night wsX5_night) := goodIn_app (goodIn_of _ (by decide +kernel)) ggX5_nightsIn_X5_night
theorem dX5_nightsIn_0 : decode cX5_nightsIn 0 = .ok (.aload_n 1, 1) := by decide +kernel
theorem dX5_nightsIn_1 : decode cX5_nightsIn 1 = .ok (.bipush 7, 2) := by decide +kernel
theorem dX5_nightsIn_3 : decode cX5_nightsIn 3 = .ok (.iaload, 1) := by decide +kernel
theorem dX5_nightsIn_4 : decode cX5_nightsIn 4 = .ok (.istore_n 3, 1) := by decide +kernel
theorem dX5_nightsIn_5 : decode cX5_nightsIn 5 = .ok (.iconst 0, 1) := by decide +kernel
theorem dX5_nightsIn_6 : decode cX5_nightsIn 6 = .ok (.istore 4, 2) := by decide +kernel
theorem dX5_nightsIn_8 : decode cX5_nightsIn 8 = .ok (.iload 4, 2) := by decide +kernel
theorem dX5_nightsIn_10 : decode cX5_nightsIn 10 = .ok (.iload_n 2, 1) := by decide +kernel
theorem dX5_nightsIn_11 : decode cX5_nightsIn 11 = .ok (.if_icmp .ge 14, 3) := by decide +kernel
theorem dX5_nightsIn_14 : decode cX5_nightsIn 14 = .ok (.aload_n 0, 1) := by decide +kernel
theorem dX5_nightsIn_15 : decode cX5_nightsIn 15 = .ok (.aload_n 1, 1) := by decide +kernel
theorem dX5_nightsIn_16 : decode cX5_nightsIn 16 = .ok (.invokevirtual 106, 3) := by decide +kernel
theorem dX5_nightsIn_19 : decode cX5_nightsIn 19 = .ok (.iinc 4 1, 3) := by decide +kernel
theorem dX5_nightsIn_22 : decode cX5_nightsIn 22 = .ok (.goto (-14), 3) := by decide +kernel
theorem dX5_nightsIn_25 : decode cX5_nightsIn 25 = .ok (.aload_n 1, 1) := by decide +kernel
theorem dX5_nightsIn_26 : decode cX5_nightsIn 26 = .ok (.bipush 7, 2) := by decide +kernel
theorem dX5_nightsIn_28 : decode cX5_nightsIn 28 = .ok (.iaload, 1) := by decide +kernel
theorem dX5_nightsIn_29 : decode cX5_nightsIn 29 = .ok (.iload_n 3, 1) := by decide +kernel
theorem dX5_nightsIn_30 : decode cX5_nightsIn 30 = .ok (.isub, 1) := by decide +kernel
theorem dX5_nightsIn_31 : decode cX5_nightsIn 31 = .ok (.ireturn, 1) := by decide +kernel
set_option maxRecDepth 20000 in
theorem ggX5_append_X5_in : GoodIn wsX5_append wsX5_in := goodIn_r _ [7] (by decide +kernel) (by decide +kernel)
set_option maxRecDepth 20000 in
theorem gX5_append_X5_in : GoodIn wsX5_append (va_wsS RX5 111 yX5_in wsX5_in) := goodIn_app (goodIn_of _ (by decide +kernel)) ggX5_append_X5_in
set_option maxRecDepth 20000 in
theorem ggX5_append_X5_refused : GoodIn wsX5_append wsX5_refused := goodIn_r _ [11, 12, 13, 14, 15, 16, 17, 18, 19, 20, 21, 22, 23, 24, 25, 26, 27, 28] (by decide +kernel) (by decide +kernel)
set_option maxRecDepth 20000 in
theorem gX5_append_X5_refused : GoodIn wsX5_append (wsV RX5 118 RX5 yX5_refused wsX5_refused) := goodIn_app (goodIn_of _ (by decide +kernel)) ggX5_append_X5_refused
theorem dX5_append_0 : decode cX5_append 0 = .ok (.aload_n 0, 1) := by decide +kernel
theorem dX5_append_1 : decode cX5_append 1 = .ok (.iload_n 1, 1) := by decide +kernel
theorem dX5_append_2 : decode cX5_append 2 = .ok (.i2l, 1) := by decide +kernel
theorem dX5_append_3 : decode cX5_append 3 = .ok (.lconst 0, 1) := by decide +kernel
theorem dX5_append_4 : decode cX5_append 4 = .ok (.ldc2_w 109, 3) := by decide +kernel
theorem dX5_append_7 : decode cX5_append 7 = .ok (.invokestatic 111, 3) := by decide +kernel
theorem dX5_append_10 : decode cX5_append 10 = .ok (.ifCond .ne 7, 3) := by decide +kernel
theorem dX5_append_13 : decode cX5_append 13 = .ok (.iconst 1, 1) := by decide +kernel
theorem dX5_append_14 : decode cX5_append 14 = .ok (.goto 17, 3) := by decide +kernel
theorem dX5_append_17 : decode cX5_append 17 = .ok (.aload_n 0, 1) := by decide +kernel
theorem dX5_append_18 : decode cX5_append 18 = .ok (.getfield 115, 3) := by decide +kernel
theorem dX5_append_21 : decode cX5_append 21 = .ok (.bipush 120, 2) := by decide +kernel
theorem dX5_append_23 : decode cX5_append 23 = .ok (.if_icmp .ne 7, 3) := by decide +kernel
theorem dX5_append_26 : decode cX5_append 26 = .ok (.iconst 2, 1) := by decide +kernel
theorem dX5_append_27 : decode cX5_append 27 = .ok (.goto 4, 3) := by decide +kernel
theorem dX5_append_30 : decode cX5_append 30 = .ok (.iconst 0, 1) := by decide +kernel
theorem dX5_append_31 : decode cX5_append 31 = .ok (.invokevirtual 118, 3) := by decide +kernel
theorem dX5_append_34 : decode cX5_append 34 = .ok (.ifCond .eq 5, 3) := by decide +kernel
theorem dX5_append_37 : decode cX5_append 37 = .ok (.iconst 0, 1) := by decide +kernel
theorem dX5_append_38 : decode cX5_append 38 = .ok (.ireturn, 1) := by decide +kernel
theorem dX5_append_39 : decode cX5_append 39 = .ok (.aload_n 0, 1) := by decide +kernel
theorem dX5_append_40 : decode cX5_append 40 = .ok (.getfield 7, 3) := by decide +kernel
theorem dX5_append_43 : decode cX5_append 43 = .ok (.aload_n 0, 1) := by decide +kernel
theorem dX5_append_44 : decode cX5_append 44 = .ok (.getfield 115, 3) := by decide +kernel
theorem dX5_append_47 : decode cX5_append 47 = .ok (.iload_n 1, 1) := by decide +kernel
theorem dX5_append_48 : decode cX5_append 48 = .ok (.iastore, 1) := by decide +kernel
theorem dX5_append_49 : decode cX5_append 49 = .ok (.aload_n 0, 1) := by decide +kernel
theorem dX5_append_50 : decode cX5_append 50 = .ok (.dup, 1) := by decide +kernel
theorem dX5_append_51 : decode cX5_append 51 = .ok (.getfield 115, 3) := by decide +kernel
theorem dX5_append_54 : decode cX5_append 54 = .ok (.iconst 1, 1) := by decide +kernel
theorem dX5_append_55 : decode cX5_append 55 = .ok (.iadd, 1) := by decide +kernel
theorem dX5_append_56 : decode cX5_append 56 = .ok (.putfield 115, 3) := by decide +kernel
theorem dX5_append_59 : decode cX5_append 59 = .ok (.aload_n 0, 1) := by decide +kernel
theorem dX5_append_60 : decode cX5_append 60 = .ok (.getfield 115, 3) := by decide +kernel
theorem dX5_append_63 : decode cX5_append 63 = .ok (.ireturn, 1) := by decide +kernel
theorem dX5_clearText_0 : decode cX5_clearText 0 = .ok (.aload_n 0, 1) := by decide +kernel
theorem dX5_clearText_1 : decode cX5_clearText 1 = .ok (.iconst 0, 1) := by decide +kernel
theorem dX5_clearText_2 : decode cX5_clearText 2 = .ok (.putfield 39, 3) := by decide +kernel
theorem dX5_clearText_5 : decode cX5_clearText 5 = .ok (.aload_n 0, 1) := by decide +kernel
theorem dX5_clearText_6 : decode cX5_clearText 6 = .ok (.getfield 115, 3) := by decide +kernel
theorem dX5_clearText_9 : decode cX5_clearText 9 = .ok (.istore_n 1, 1) := by decide +kernel
theorem dX5_clearText_10 : decode cX5_clearText 10 = .ok (.aload_n 0, 1) := by decide +kernel
theorem dX5_clearText_11 : decode cX5_clearText 11 = .ok (.iconst 0, 1) := by decide +kernel
theorem dX5_clearText_12 : decode cX5_clearText 12 = .ok (.putfield 115, 3) := by decide +kernel
theorem dX5_clearText_15 : decode cX5_clearText 15 = .ok (.iload_n 1, 1) := by decide +kernel
theorem dX5_clearText_16 : decode cX5_clearText 16 = .ok (.ireturn, 1) := by decide +kernel
theorem dX5_isNext_0 : decode cX5_isNext 0 = .ok (.aload_n 0, 1) := by decide +kernel
theorem dX5_isNext_1 : decode cX5_isNext 1 = .ok (.getfield 122, 3) := by decide +kernel
theorem dX5_isNext_4 : decode cX5_isNext 4 = .ok (.aload_n 0, 1) := by decide +kernel
theorem dX5_isNext_5 : decode cX5_isNext 5 = .ok (.getfield 115, 3) := by decide +kernel
theorem dX5_isNext_8 : decode cX5_isNext 8 = .ok (.if_icmp .ge 20, 3) := by decide +kernel
theorem dX5_isNext_11 : decode cX5_isNext 11 = .ok (.aload_n 0, 1) := by decide +kernel
theorem dX5_isNext_12 : decode cX5_isNext 12 = .ok (.getfield 7, 3) := by decide +kernel
theorem dX5_isNext_15 : decode cX5_isNext 15 = .ok (.aload_n 0, 1) := by decide +kernel
theorem dX5_isNext_16 : decode cX5_isNext 16 = .ok (.getfield 122, 3) := by decide +kernel
theorem dX5_isNext_19 : decode cX5_isNext 19 = .ok (.iaload, 1) := by decide +kernel
theorem dX5_isNext_20 : decode cX5_isNext 20 = .ok (.iload_n 1, 1) := by decide +kernel
theorem dX5_isNext_21 : decode cX5_isNext 21 = .ok (.if_icmp .ne 7, 3) := by decide +kernel
theorem dX5_isNext_24 : decode cX5_isNext 24 = .ok (.iconst 1, 1) := by decide +kernel
theorem dX5_isNext_25 : decode cX5_isNext 25 = .ok (.goto 4, 3) := by decide +kernel
theorem dX5_isNext_28 : decode cX5_isNext 28 = .ok (.iconst 0, 1) := by decide +kernel
theorem dX5_isNext_29 : decode cX5_isNext 29 = .ok (.ireturn, 1) := by decide +kernel
theorem dX5_accept_0 : decode cX5_accept 0 = .ok (.aload_n 0, 1) := by decide +kernel
theorem dX5_accept_1 : decode cX5_accept 1 = .ok (.aload_n 0, 1) := by decide +kernel
theorem dX5_accept_2 : decode cX5_accept 2 = .ok (.getfield 125, 3) := by decide +kernel
theorem dX5_accept_5 : decode cX5_accept 5 = .ok (.ifCond .eq 11, 3) := by decide +kernel
theorem dX5_accept_8 : decode cX5_accept 8 = .ok (.iload_n 1, 1) := by decide +kernel
theorem dX5_accept_9 : decode cX5_accept 9 = .ok (.ifCond .eq 7, 3) := by decide +kernel
theorem dX5_accept_12 : decode cX5_accept 12 = .ok (.iconst 1, 1) := by decide +kernel
theorem dX5_accept_13 : decode cX5_accept 13 = .ok (.goto 4, 3) := by decide +kernel
theorem dX5_accept_16 : decode cX5_accept 16 = .ok (.iconst 0, 1) := by decide +kernel
theorem dX5_accept_17 : decode cX5_accept 17 = .ok (.putfield 125, 3) := by decide +kernel
theorem dX5_accept_20 : decode cX5_accept 20 = .ok (.aload_n 0, 1) := by decide +kernel
theorem dX5_accept_21 : decode cX5_accept 21 = .ok (.dup, 1) := by decide +kernel
theorem dX5_accept_22 : decode cX5_accept 22 = .ok (.getfield 122, 3) := by decide +kernel
theorem dX5_accept_25 : decode cX5_accept 25 = .ok (.aload_n 0, 1) := by decide +kernel
theorem dX5_accept_26 : decode cX5_accept 26 = .ok (.getfield 125, 3) := by decide +kernel
theorem dX5_accept_29 : decode cX5_accept 29 = .ok (.ifCond .eq 7, 3) := by decide +kernel
theorem dX5_accept_32 : decode cX5_accept 32 = .ok (.iconst 1, 1) := by decide +kernel
theorem dX5_accept_33 : decode cX5_accept 33 = .ok (.goto 4, 3) := by decide +kernel
theorem dX5_accept_36 : decode cX5_accept 36 = .ok (.iconst 0, 1) := by decide +kernel
theorem dX5_accept_37 : decode cX5_accept 37 = .ok (.iadd, 1) := by decide +kernel
theorem dX5_accept_38 : decode cX5_accept 38 = .ok (.putfield 122, 3) := by decide +kernel
theorem dX5_accept_41 : decode cX5_accept 41 = .ok (.return_, 1) := by decide +kernel
set_option maxRecDepth 20000 in
theorem ggX5_digit_X5_in : GoodIn wsX5_digit wsX5_in := goodIn_r _ [9] (by decide +kernel) (by decide +kernel)
set_option maxRecDepth 20000 in
theorem gX5_digit_X5_in : GoodIn wsX5_digit (va_wsS RX5 111 yX5_in wsX5_in) := goodIn_app (goodIn_of _ (by decide +kernel)) ggX5_digit_X5_in
set_option maxRecDepth 20000 in
theorem ggX5_digit_X5_accept : GoodIn wsX5_digit wsX5_accept := goodIn_r _ [13, 5, 1, 14, 15, 16, 17, 18, 19, 20, 21, 22, 23, 24, 25, 26, 27, 28, 29] (by decide +kernel) (by decide +kernel)
set_option maxRecDepth 20000 in
theorem gX5_digit_X5_accept : GoodIn wsX5_digit (wsV RX5 130 RX5 yX5_accept wsX5_accept) := goodIn_app (goodIn_of _ (by decide +kernel)) ggX5_digit_X5_accept
theorem dX5_digit_0 : decode cX5_digit 0 = .ok (.aload_n 0, 1) := by decide +kernel
theorem dX5_digit_1 : decode cX5_digit 1 = .ok (.getfield 122, 3) := by decide +kernel
theorem dX5_digit_4 : decode cX5_digit 4 = .ok (.aload_n 0, 1) := by decide +kernel
theorem dX5_digit_5 : decode cX5_digit 5 = .ok (.getfield 115, 3) := by decide +kernel
theorem dX5_digit_8 : decode cX5_digit 8 = .ok (.if_icmp .ge 18, 3) := by decide +kernel
theorem dX5_digit_11 : decode cX5_digit 11 = .ok (.aload_n 0, 1) := by decide +kernel
theorem dX5_digit_12 : decode cX5_digit 12 = .ok (.getfield 7, 3) := by decide +kernel
theorem dX5_digit_15 : decode cX5_digit 15 = .ok (.aload_n 0, 1) := by decide +kernel
theorem dX5_digit_16 : decode cX5_digit 16 = .ok (.getfield 122, 3) := by decide +kernel
theorem dX5_digit_19 : decode cX5_digit 19 = .ok (.iaload, 1) := by decide +kernel
theorem dX5_digit_20 : decode cX5_digit 20 = .ok (.bipush 48, 2) := by decide +kernel
theorem dX5_digit_22 : decode cX5_digit 22 = .ok (.isub, 1) := by decide +kernel
theorem dX5_digit_23 : decode cX5_digit 23 = .ok (.goto 4, 3) := by decide +kernel
theorem dX5_digit_26 : decode cX5_digit 26 = .ok (.iconst (-1), 1) := by decide +kernel
theorem dX5_digit_27 : decode cX5_digit 27 = .ok (.istore_n 3, 1) := by decide +kernel
theorem dX5_digit_28 : decode cX5_digit 28 = .ok (.aload_n 0, 1) := by decide +kernel
theorem dX5_digit_29 : decode cX5_digit 29 = .ok (.iload_n 3, 1) := by decide +kernel
theorem dX5_digit_30 : decode cX5_digit 30 = .ok (.i2l, 1) := by decide +kernel
theorem dX5_digit_31 : decode cX5_digit 31 = .ok (.lconst 0, 1) := by decide +kernel
theorem dX5_digit_32 : decode cX5_digit 32 = .ok (.ldc2_w 128, 3) := by decide +kernel
theorem dX5_digit_35 : decode cX5_digit 35 = .ok (.invokestatic 111, 3) := by decide +kernel
theorem dX5_digit_38 : decode cX5_digit 38 = .ok (.ifCond .eq 19, 3) := by decide +kernel
theorem dX5_digit_41 : decode cX5_digit 41 = .ok (.iload_n 3, 1) := by decide +kernel
theorem dX5_digit_42 : decode cX5_digit 42 = .ok (.i2l, 1) := by decide +kernel
theorem dX5_digit_43 : decode cX5_digit 43 = .ok (.iload_n 1, 1) := by decide +kernel
theorem dX5_digit_44 : decode cX5_digit 44 = .ok (.i2l, 1) := by decide +kernel
theorem dX5_digit_45 : decode cX5_digit 45 = .ok (.iload_n 2, 1) := by decide +kernel
theorem dX5_digit_46 : decode cX5_digit 46 = .ok (.i2l, 1) := by decide +kernel
theorem dX5_digit_47 : decode cX5_digit 47 = .ok (.invokestatic 111, 3) := by decide +kernel
theorem dX5_digit_50 : decode cX5_digit 50 = .ok (.ifCond .eq 7, 3) := by decide +kernel
theorem dX5_digit_53 : decode cX5_digit 53 = .ok (.iconst 1, 1) := by decide +kernel
theorem dX5_digit_54 : decode cX5_digit 54 = .ok (.goto 4, 3) := by decide +kernel
theorem dX5_digit_57 : decode cX5_digit 57 = .ok (.iconst 0, 1) := by decide +kernel
theorem dX5_digit_58 : decode cX5_digit 58 = .ok (.invokevirtual 130, 3) := by decide +kernel
theorem dX5_digit_61 : decode cX5_digit 61 = .ok (.aload_n 0, 1) := by decide +kernel
theorem dX5_digit_62 : decode cX5_digit 62 = .ok (.getfield 125, 3) := by decide +kernel
theorem dX5_digit_65 : decode cX5_digit 65 = .ok (.ifCond .eq 7, 3) := by decide +kernel
theorem dX5_digit_68 : decode cX5_digit 68 = .ok (.iload_n 3, 1) := by decide +kernel
theorem dX5_digit_69 : decode cX5_digit 69 = .ok (.goto 4, 3) := by decide +kernel
theorem dX5_digit_72 : decode cX5_digit 72 = .ok (.iload_n 1, 1) := by decide +kernel
theorem dX5_digit_73 : decode cX5_digit 73 = .ok (.ireturn, 1) := by decide +kernel
set_option maxRecDepth 20000 in
theorem ggX5_readAsk_X5_accept : GoodIn wsX5_readAsk wsX5_accept := goodIn_r _ [8, 1, 9, 41, 42, 43, 44, 45, 46, 47, 48, 49, 50, 51, 52, 53, 54, 55, 56] (by decide +kernel) (by decide +kernel)
set_option maxRecDepth 20000 in
theorem gX5_readAsk_X5_accept : GoodIn wsX5_readAsk (wsV RX5 130 RX5 yX5_accept wsX5_accept) := goodIn_app (goodIn_of _ (by decide +kernel)) ggX5_readAsk_X5_accept
set_option maxRecDepth 20000 in
theorem ggX5_readAsk_X5_digit : GoodIn wsX5_readAsk wsX5_digit := goodIn_r _ [13, 9, 14, 15, 16, 1, 17, 18, 7, 19, 4, 5, 6, 8, 41, 42, 43, 44, 45, 46, 47, 48, 49, 50, 51, 52, 53, 54, 55, 56] (by decide +kernel) (by decide +kernel)
set_option maxRecDepth 20000 in
theorem gX5_readAsk_X5_digit : GoodIn wsX5_readAsk (wsV RX5 134 RX5 yX5_digit wsX5_digit) := goodIn_app (goodIn_of _ (by decide +kernel)) ggX5_readAsk_X5_digit
set_option maxRecDepth 20000 in
theorem ggX5_readAsk_X5_canAsk : GoodIn wsX5_readAsk wsX5_canAsk := goodIn_r _ [22, 23, 24, 7, 25] (by decide +kernel) (by decide +kernel)
set_option maxRecDepth 20000 in
theorem gX5_readAsk_X5_canAsk : GoodIn wsX5_readAsk (va_wsS RX5 137 yX5_canAsk wsX5_canAsk) := goodIn_app (goodIn_of _ (by decide +kernel)) ggX5_readAsk_X5_canAsk
set_option maxRecDepth 20000 in
theorem ggX5_readAsk_X5_askIn : GoodIn wsX5_readAsk wsX5_askIn := goodIn_r _ [28, 23, 24, 7, 25, 29, 30, 31, 32, 33, 34, 35, 36, 37, 38, 39, 40] (by decide +kernel) (by decide +kernel)
set_option maxRecDepth 20000 in
theorem gX5_readAsk_X5_askIn : GoodIn wsX5_readAsk (va_wsS RX5 144 yX5_askIn wsX5_askIn) := goodIn_app (goodIn_of _ (by decide +kernel)) ggX5_readAsk_X5_askIn
theorem dX5_readAsk_0 : decode cX5_readAsk 0 = .ok (.aload_n 0, 1) := by decide +kernel
theorem dX5_readAsk_1 : decode cX5_readAsk 1 = .ok (.iconst 1, 1) := by decide +kernel
theorem dX5_readAsk_2 : decode cX5_readAsk 2 = .ok (.invokevirtual 130, 3) := by decide +kernel
theorem dX5_readAsk_5 : decode cX5_readAsk 5 = .ok (.aload_n 0, 1) := by decide +kernel
theorem dX5_readAsk_6 : decode cX5_readAsk 6 = .ok (.iconst 0, 1) := by decide +kernel
theorem dX5_readAsk_7 : decode cX5_readAsk 7 = .ok (.iconst 3, 1) := by decide +kernel
theorem dX5_readAsk_8 : decode cX5_readAsk 8 = .ok (.invokevirtual 134, 3) := by decide +kernel
theorem dX5_readAsk_11 : decode cX5_readAsk 11 = .ok (.istore_n 1, 1) := by decide +kernel
theorem dX5_readAsk_12 : decode cX5_readAsk 12 = .ok (.aload_n 0, 1) := by decide +kernel
theorem dX5_readAsk_13 : decode cX5_readAsk 13 = .ok (.iconst 0, 1) := by decide +kernel
theorem dX5_readAsk_14 : decode cX5_readAsk 14 = .ok (.iconst 1, 1) := by decide +kernel
theorem dX5_readAsk_15 : decode cX5_readAsk 15 = .ok (.invokevirtual 134, 3) := by decide +kernel
theorem dX5_readAsk_18 : decode cX5_readAsk 18 = .ok (.istore_n 2, 1) := by decide +kernel
theorem dX5_readAsk_19 : decode cX5_readAsk 19 = .ok (.bipush 10, 2) := by decide +kernel
theorem dX5_readAsk_21 : decode cX5_readAsk 21 = .ok (.iload_n 2, 1) := by decide +kernel
theorem dX5_readAsk_22 : decode cX5_readAsk 22 = .ok (.imul, 1) := by decide +kernel
theorem dX5_readAsk_23 : decode cX5_readAsk 23 = .ok (.aload_n 0, 1) := by decide +kernel
theorem dX5_readAsk_24 : decode cX5_readAsk 24 = .ok (.iconst 0, 1) := by decide +kernel
theorem dX5_readAsk_25 : decode cX5_readAsk 25 = .ok (.iload_n 2, 1) := by decide +kernel
theorem dX5_readAsk_26 : decode cX5_readAsk 26 = .ok (.iconst 1, 1) := by decide +kernel
theorem dX5_readAsk_27 : decode cX5_readAsk 27 = .ok (.if_icmp .ne 7, 3) := by decide +kernel
theorem dX5_readAsk_30 : decode cX5_readAsk 30 = .ok (.iconst 5, 1) := by decide +kernel
theorem dX5_readAsk_31 : decode cX5_readAsk 31 = .ok (.goto 5, 3) := by decide +kernel
theorem dX5_readAsk_34 : decode cX5_readAsk 34 = .ok (.bipush 9, 2) := by decide +kernel
theorem dX5_readAsk_36 : decode cX5_readAsk 36 = .ok (.invokevirtual 134, 3) := by decide +kernel
theorem dX5_readAsk_39 : decode cX5_readAsk 39 = .ok (.iadd, 1) := by decide +kernel
theorem dX5_readAsk_40 : decode cX5_readAsk 40 = .ok (.istore_n 3, 1) := by decide +kernel
theorem dX5_readAsk_41 : decode cX5_readAsk 41 = .ok (.aload_n 0, 1) := by decide +kernel
theorem dX5_readAsk_42 : decode cX5_readAsk 42 = .ok (.iconst 0, 1) := by decide +kernel
theorem dX5_readAsk_43 : decode cX5_readAsk 43 = .ok (.bipush 7, 2) := by decide +kernel
theorem dX5_readAsk_45 : decode cX5_readAsk 45 = .ok (.invokevirtual 134, 3) := by decide +kernel
theorem dX5_readAsk_48 : decode cX5_readAsk 48 = .ok (.istore 4, 2) := by decide +kernel
theorem dX5_readAsk_50 : decode cX5_readAsk 50 = .ok (.aload_n 0, 1) := by decide +kernel
theorem dX5_readAsk_51 : decode cX5_readAsk 51 = .ok (.iconst 0, 1) := by decide +kernel
theorem dX5_readAsk_52 : decode cX5_readAsk 52 = .ok (.bipush 9, 2) := by decide +kernel
theorem dX5_readAsk_54 : decode cX5_readAsk 54 = .ok (.invokevirtual 134, 3) := by decide +kernel
theorem dX5_readAsk_57 : decode cX5_readAsk 57 = .ok (.istore 5, 2) := by decide +kernel
theorem dX5_readAsk_59 : decode cX5_readAsk 59 = .ok (.aload_n 0, 1) := by decide +kernel
theorem dX5_readAsk_60 : decode cX5_readAsk 60 = .ok (.getfield 125, 3) := by decide +kernel
theorem dX5_readAsk_63 : decode cX5_readAsk 63 = .ok (.ifCond .eq 54, 3) := by decide +kernel
theorem dX5_readAsk_66 : decode cX5_readAsk 66 = .ok (.aload_n 0, 1) := by decide +kernel
theorem dX5_readAsk_67 : decode cX5_readAsk 67 = .ok (.getfield 13, 3) := by decide +kernel
theorem dX5_readAsk_70 : decode cX5_readAsk 70 = .ok (.iload_n 1, 1) := by decide +kernel
theorem dX5_readAsk_71 : decode cX5_readAsk 71 = .ok (.iload_n 3, 1) := by decide +kernel
theorem dX5_readAsk_72 : decode cX5_readAsk 72 = .ok (.iload 5, 2) := by decide +kernel
theorem dX5_readAsk_74 : decode cX5_readAsk 74 = .ok (.invokestatic 137, 3) := by decide +kernel
theorem dX5_readAsk_77 : decode cX5_readAsk 77 = .ok (.istore 6, 2) := by decide +kernel
theorem dX5_readAsk_79 : decode cX5_readAsk 79 = .ok (.aload_n 0, 1) := by decide +kernel
theorem dX5_readAsk_80 : decode cX5_readAsk 80 = .ok (.dup, 1) := by decide +kernel
theorem dX5_readAsk_81 : decode cX5_readAsk 81 = .ok (.getfield 141, 3) := by decide +kernel
theorem dX5_readAsk_84 : decode cX5_readAsk 84 = .ok (.iload 6, 2) := by decide +kernel
theorem dX5_readAsk_86 : decode cX5_readAsk 86 = .ok (.ifCond .eq 7, 3) := by decide +kernel
theorem dX5_readAsk_89 : decode cX5_readAsk 89 = .ok (.iconst 0, 1) := by decide +kernel
theorem dX5_readAsk_90 : decode cX5_readAsk 90 = .ok (.goto 4, 3) := by decide +kernel
theorem dX5_readAsk_93 : decode cX5_readAsk 93 = .ok (.iconst 1, 1) := by decide +kernel
theorem dX5_readAsk_94 : decode cX5_readAsk 94 = .ok (.iadd, 1) := by decide +kernel
theorem dX5_readAsk_95 : decode cX5_readAsk 95 = .ok (.putfield 141, 3) := by decide +kernel
theorem dX5_readAsk_98 : decode cX5_readAsk 98 = .ok (.iload 6, 2) := by decide +kernel
theorem dX5_readAsk_100 : decode cX5_readAsk 100 = .ok (.ifCond .eq 17, 3) := by decide +kernel
theorem dX5_readAsk_103 : decode cX5_readAsk 103 = .ok (.aload_n 0, 1) := by decide +kernel
theorem dX5_readAsk_104 : decode cX5_readAsk 104 = .ok (.getfield 13, 3) := by decide +kernel
theorem dX5_readAsk_107 : decode cX5_readAsk 107 = .ok (.iload_n 1, 1) := by decide +kernel
theorem dX5_readAsk_108 : decode cX5_readAsk 108 = .ok (.iload_n 3, 1) := by decide +kernel
theorem dX5_readAsk_109 : decode cX5_readAsk 109 = .ok (.iload 4, 2) := by decide +kernel
theorem dX5_readAsk_111 : decode cX5_readAsk 111 = .ok (.iload 5, 2) := by decide +kernel
theorem dX5_readAsk_113 : decode cX5_readAsk 113 = .ok (.invokestatic 144, 3) := by decide +kernel
theorem dX5_readAsk_116 : decode cX5_readAsk 116 = .ok (.pop, 1) := by decide +kernel
theorem dX5_readAsk_117 : decode cX5_readAsk 117 = .ok (.return_, 1) := by decide +kernel
set_option maxRecDepth 20000 in
theorem ggX5_readCancel_X5_accept : GoodIn wsX5_readCancel wsX5_accept := goodIn_r _ [8, 1, 9, 35, 36, 37, 38, 39, 40, 41, 42, 43, 44, 45, 46, 47, 48, 49, 50] (by decide +kernel) (by decide +kernel)
set_option maxRecDepth 20000 in
theorem gX5_readCancel_X5_accept : GoodIn wsX5_readCancel (wsV RX5 130 RX5 yX5_accept wsX5_accept) := goodIn_app (goodIn_of _ (by decide +kernel)) ggX5_readCancel_X5_accept
set_option maxRecDepth 20000 in
theorem ggX5_readCancel_X5_digit : GoodIn wsX5_readCancel wsX5_digit := goodIn_r _ [13, 9, 14, 15, 16, 1, 17, 18, 7, 19, 4, 5, 6, 8, 35, 36, 37, 38, 39, 40, 41, 42, 43, 44, 45, 46, 47, 48, 49, 50] (by decide +kernel) (by decide +kernel)
set_option maxRecDepth 20000 in
theorem gX5_readCancel_X5_digit : GoodIn wsX5_readCancel (wsV RX5 134 RX5 yX5_digit wsX5_digit) := goodIn_app (goodIn_of _ (by decide +kernel)) ggX5_readCancel_X5_digit
set_option maxRecDepth 20000 in
theorem ggX5_readCancel_X5_cancelIn : GoodIn wsX5_readCancel wsX5_cancelIn := goodIn_r _ [22, 23, 24, 7, 25, 26, 27, 28, 29, 30, 31, 32, 33, 34] (by decide +kernel) (by decide +kernel)
set_option maxRecDepth 20000 in
theorem gX5_readCancel_X5_cancelIn : GoodIn wsX5_readCancel (va_wsS RX5 148 yX5_cancelIn wsX5_cancelIn) := goodIn_app (goodIn_of _ (by decide +kernel)) ggX5_readCancel_X5_cancelIn
theorem dX5_readCancel_0 : decode cX5_readCancel 0 = .ok (.aload_n 0, 1) := by decide +kernel
theorem dX5_readCancel_1 : decode cX5_readCancel 1 = .ok (.iconst 1, 1) := by decide +kernel
theorem dX5_readCancel_2 : decode cX5_readCancel 2 = .ok (.invokevirtual 130, 3) := by decide +kernel
theorem dX5_readCancel_5 : decode cX5_readCancel 5 = .ok (.aload_n 0, 1) := by decide +kernel
theorem dX5_readCancel_6 : decode cX5_readCancel 6 = .ok (.iconst 0, 1) := by decide +kernel
theorem dX5_readCancel_7 : decode cX5_readCancel 7 = .ok (.iconst 1, 1) := by decide +kernel
theorem dX5_readCancel_8 : decode cX5_readCancel 8 = .ok (.invokevirtual 134, 3) := by decide +kernel
theorem dX5_readCancel_11 : decode cX5_readCancel 11 = .ok (.istore_n 1, 1) := by decide +kernel
theorem dX5_readCancel_12 : decode cX5_readCancel 12 = .ok (.bipush 10, 2) := by decide +kernel
theorem dX5_readCancel_14 : decode cX5_readCancel 14 = .ok (.iload_n 1, 1) := by decide +kernel
theorem dX5_readCancel_15 : decode cX5_readCancel 15 = .ok (.imul, 1) := by decide +kernel
theorem dX5_readCancel_16 : decode cX5_readCancel 16 = .ok (.aload_n 0, 1) := by decide +kernel
theorem dX5_readCancel_17 : decode cX5_readCancel 17 = .ok (.iconst 0, 1) := by decide +kernel
theorem dX5_readCancel_18 : decode cX5_readCancel 18 = .ok (.bipush 9, 2) := by decide +kernel
theorem dX5_readCancel_20 : decode cX5_readCancel 20 = .ok (.invokevirtual 134, 3) := by decide +kernel
theorem dX5_readCancel_23 : decode cX5_readCancel 23 = .ok (.iadd, 1) := by decide +kernel
theorem dX5_readCancel_24 : decode cX5_readCancel 24 = .ok (.istore_n 2, 1) := by decide +kernel
theorem dX5_readCancel_25 : decode cX5_readCancel 25 = .ok (.aload_n 0, 1) := by decide +kernel
theorem dX5_readCancel_26 : decode cX5_readCancel 26 = .ok (.getfield 125, 3) := by decide +kernel
theorem dX5_readCancel_29 : decode cX5_readCancel 29 = .ok (.ifCond .eq 51, 3) := by decide +kernel
theorem dX5_readCancel_32 : decode cX5_readCancel 32 = .ok (.iload_n 2, 1) := by decide +kernel
theorem dX5_readCancel_33 : decode cX5_readCancel 33 = .ok (.aload_n 0, 1) := by decide +kernel
theorem dX5_readCancel_34 : decode cX5_readCancel 34 = .ok (.getfield 13, 3) := by decide +kernel
theorem dX5_readCancel_37 : decode cX5_readCancel 37 = .ok (.bipush 6, 2) := by decide +kernel
theorem dX5_readCancel_39 : decode cX5_readCancel 39 = .ok (.iaload, 1) := by decide +kernel
theorem dX5_readCancel_40 : decode cX5_readCancel 40 = .ok (.if_icmp .ge 7, 3) := by decide +kernel
theorem dX5_readCancel_43 : decode cX5_readCancel 43 = .ok (.iconst 1, 1) := by decide +kernel
theorem dX5_readCancel_44 : decode cX5_readCancel 44 = .ok (.goto 4, 3) := by decide +kernel
theorem dX5_readCancel_47 : decode cX5_readCancel 47 = .ok (.iconst 0, 1) := by decide +kernel
theorem dX5_readCancel_48 : decode cX5_readCancel 48 = .ok (.istore_n 3, 1) := by decide +kernel
theorem dX5_readCancel_49 : decode cX5_readCancel 49 = .ok (.aload_n 0, 1) := by decide +kernel
theorem dX5_readCancel_50 : decode cX5_readCancel 50 = .ok (.dup, 1) := by decide +kernel
theorem dX5_readCancel_51 : decode cX5_readCancel 51 = .ok (.getfield 141, 3) := by decide +kernel
theorem dX5_readCancel_54 : decode cX5_readCancel 54 = .ok (.iload_n 3, 1) := by decide +kernel
theorem dX5_readCancel_55 : decode cX5_readCancel 55 = .ok (.ifCond .eq 7, 3) := by decide +kernel
theorem dX5_readCancel_58 : decode cX5_readCancel 58 = .ok (.iconst 0, 1) := by decide +kernel
theorem dX5_readCancel_59 : decode cX5_readCancel 59 = .ok (.goto 4, 3) := by decide +kernel
theorem dX5_readCancel_62 : decode cX5_readCancel 62 = .ok (.iconst 1, 1) := by decide +kernel
theorem dX5_readCancel_63 : decode cX5_readCancel 63 = .ok (.iadd, 1) := by decide +kernel
theorem dX5_readCancel_64 : decode cX5_readCancel 64 = .ok (.putfield 141, 3) := by decide +kernel
theorem dX5_readCancel_67 : decode cX5_readCancel 67 = .ok (.iload_n 3, 1) := by decide +kernel
theorem dX5_readCancel_68 : decode cX5_readCancel 68 = .ok (.ifCond .eq 12, 3) := by decide +kernel
theorem dX5_readCancel_71 : decode cX5_readCancel 71 = .ok (.aload_n 0, 1) := by decide +kernel
theorem dX5_readCancel_72 : decode cX5_readCancel 72 = .ok (.getfield 13, 3) := by decide +kernel
theorem dX5_readCancel_75 : decode cX5_readCancel 75 = .ok (.iload_n 2, 1) := by decide +kernel
theorem dX5_readCancel_76 : decode cX5_readCancel 76 = .ok (.invokestatic 148, 3) := by decide +kernel
theorem dX5_readCancel_79 : decode cX5_readCancel 79 = .ok (.pop, 1) := by decide +kernel
theorem dX5_readCancel_80 : decode cX5_readCancel 80 = .ok (.return_, 1) := by decide +kernel
set_option maxRecDepth 20000 in
theorem ggX5_readCommand_X5_isNext : GoodIn wsX5_readCommand wsX5_isNext := goodIn_r _ [7, 8, 9, 10, 95, 96, 97, 98, 99, 100, 101, 102, 103, 104, 105, 106, 107, 108, 109, 110] (by decide +kernel) (by decide +kernel)
set_option maxRecDepth 20000 in
theorem gX5_readCommand_X5_isNext : GoodIn wsX5_readCommand (wsV RX5 151 RX5 yX5_isNext wsX5_isNext) := goodIn_app (goodIn_of _ (by decide +kernel)) ggX5_readCommand_X5_isNext
set_option maxRecDepth 20000 in
theorem ggX5_readCommand_X5_readAsk : GoodIn wsX5_readCommand wsX5_readAsk := goodIn_r _ [14, 2, 1, 15, 16, 17, 18, 6, 19, 8, 20, 21, 22, 23, 9, 10, 24, 25, 26, 27, 28, 29, 30, 31, 32, 33, 34, 35, 36, 37, 38, 39, 40, 41, 42, 43, 44, 45, 46, 47, 48, 95, 96, 97, 98, 99, 100, 101, 102, 103, 104, 105, 106, 107, 108, 109, 110] (by decide +kernel) (by decide +kernel)
set_option maxRecDepth 20000 in
theorem gX5_readCommand_X5_readAsk : GoodIn wsX5_readCommand (wsV RX5 154 RX5 yX5_readAsk wsX5_readAsk) := goodIn_app (goodIn_of _ (by decide +kernel)) ggX5_readCommand_X5_readAsk
set_option maxRecDepth 20000 in
theorem ggX5_readCommand_X5_readCancel : GoodIn wsX5_readCommand wsX5_readCancel := goodIn_r _ [52, 2, 1, 15, 16, 17, 18, 6, 19, 8, 20, 21, 22, 23, 9, 10, 24, 25, 26, 27, 53, 54, 55, 46, 47, 48, 56, 57, 58, 59, 60, 61, 62, 63, 64, 95, 96, 97, 98, 99, 100, 101, 102, 103, 104, 105, 106, 107, 108, 109, 110] (by decide +kernel) (by decide +kernel)
set_option maxRecDepth 20000 in
theorem gX5_readCommand_X5_readCancel : GoodIn wsX5_readCommand (wsV RX5 157 RX5 yX5_readCancel wsX5_readCancel) := goodIn_app (goodIn_of _ (by decide +kernel)) ggX5_readCommand_X5_readCancel
set_option maxRecDepth 20000 in
theorem ggX5_readCommand_X5_accept : GoodIn wsX5_readCommand wsX5_accept := goodIn_r _ [19, 2, 8, 95, 96, 97, 98, 99, 100, 101, 102, 103, 104, 105, 106, 107, 108, 109, 110] (by decide +kernel) (by decide +kernel)
set_option maxRecDepth 20000 in
theorem gX5_readCommand_X5_accept : GoodIn wsX5_readCommand (wsV RX5 130 RX5 yX5_accept wsX5_accept) := goodIn_app (goodIn_of _ (by decide +kernel)) ggX5_readCommand_X5_accept
set_option maxRecDepth 20000 in
theorem ggX5_readCommand_X5_digit : GoodIn wsX5_readCommand wsX5_digit := goodIn_r _ [23, 8, 9, 10, 24, 2, 25, 26, 6, 27, 16, 17, 18, 19, 95, 96, 97, 98, 99, 100, 101, 102, 103, 104, 105, 106, 107, 108, 109, 110] (by decide +kernel) (by decide +kernel)
set_option maxRecDepth 20000 in
theorem gX5_readCommand_X5_digit : GoodIn wsX5_readCommand (wsV RX5 134 RX5 yX5_digit wsX5_digit) := goodIn_app (goodIn_of _ (by decide +kernel)) ggX5_readCommand_X5_digit
set_option maxRecDepth 20000 in
theorem ggX5_readCommand_X5_nightsIn : GoodIn wsX5_readCommand wsX5_nightsIn := goodIn_r _ [68, 69, 70, 71, 6, 72, 73, 74, 75, 76, 77, 46, 47, 48, 78, 79, 80, 81, 82, 83, 84, 85, 86, 87, 88, 89, 90, 91, 31, 32, 33, 92, 93, 94, 37, 38, 39, 40, 41, 42, 59, 60, 61, 62, 63, 64, 56, 57, 58, 95, 96, 97, 98, 99, 100, 101, 102, 103, 104, 105, 106, 107, 108, 109, 110] (by decide +kernel) (by decide +kernel)
set_option maxRecDepth 20000 in
theorem gX5_readCommand_X5_nightsIn : GoodIn wsX5_readCommand (wsV RX5 160 RX5 yX5_nightsIn wsX5_nightsIn) := goodIn_app (goodIn_of _ (by decide +kernel)) ggX5_readCommand_X5_nightsIn
theorem dX5_readCommand_0 : decode cX5_readCommand 0 = .ok (.aload_n 0, 1) := by decide +kernel
theorem dX5_readCommand_1 : decode cX5_readCommand 1 = .ok (.bipush 111, 2) := by decide +kernel
theorem dX5_readCommand_3 : decode cX5_readCommand 3 = .ok (.invokevirtual 151, 3) := by decide +kernel
theorem dX5_readCommand_6 : decode cX5_readCommand 6 = .ok (.ifCond .eq 10, 3) := by decide +kernel
theorem dX5_readCommand_9 : decode cX5_readCommand 9 = .ok (.aload_n 0, 1) := by decide +kernel
theorem dX5_readCommand_10 : decode cX5_readCommand 10 = .ok (.invokevirtual 154, 3) := by decide +kernel
theorem dX5_readCommand_13 : decode cX5_readCommand 13 = .ok (.goto 58, 3) := by decide +kernel
theorem dX5_readCommand_16 : decode cX5_readCommand 16 = .ok (.aload_n 0, 1) := by decide +kernel
theorem dX5_readCommand_17 : decode cX5_readCommand 17 = .ok (.bipush 99, 2) := by decide +kernel
theorem dX5_readCommand_19 : decode cX5_readCommand 19 = .ok (.invokevirtual 151, 3) := by decide +kernel
theorem dX5_readCommand_22 : decode cX5_readCommand 22 = .ok (.ifCond .eq 10, 3) := by decide +kernel
theorem dX5_readCommand_25 : decode cX5_readCommand 25 = .ok (.aload_n 0, 1) := by decide +kernel
theorem dX5_readCommand_26 : decode cX5_readCommand 26 = .ok (.invokevirtual 157, 3) := by decide +kernel
theorem dX5_readCommand_29 : decode cX5_readCommand 29 = .ok (.goto 42, 3) := by decide +kernel
theorem dX5_readCommand_32 : decode cX5_readCommand 32 = .ok (.aload_n 0, 1) := by decide +kernel
theorem dX5_readCommand_33 : decode cX5_readCommand 33 = .ok (.aload_n 0, 1) := by decide +kernel
theorem dX5_readCommand_34 : decode cX5_readCommand 34 = .ok (.bipush 110, 2) := by decide +kernel
theorem dX5_readCommand_36 : decode cX5_readCommand 36 = .ok (.invokevirtual 151, 3) := by decide +kernel
theorem dX5_readCommand_39 : decode cX5_readCommand 39 = .ok (.invokevirtual 130, 3) := by decide +kernel
theorem dX5_readCommand_42 : decode cX5_readCommand 42 = .ok (.aload_n 0, 1) := by decide +kernel
theorem dX5_readCommand_43 : decode cX5_readCommand 43 = .ok (.iconst 1, 1) := by decide +kernel
theorem dX5_readCommand_44 : decode cX5_readCommand 44 = .ok (.bipush 9, 2) := by decide +kernel
theorem dX5_readCommand_46 : decode cX5_readCommand 46 = .ok (.invokevirtual 134, 3) := by decide +kernel
theorem dX5_readCommand_49 : decode cX5_readCommand 49 = .ok (.istore_n 1, 1) := by decide +kernel
theorem dX5_readCommand_50 : decode cX5_readCommand 50 = .ok (.aload_n 0, 1) := by decide +kernel
theorem dX5_readCommand_51 : decode cX5_readCommand 51 = .ok (.aload_n 0, 1) := by decide +kernel
theorem dX5_readCommand_52 : decode cX5_readCommand 52 = .ok (.getfield 13, 3) := by decide +kernel
theorem dX5_readCommand_55 : decode cX5_readCommand 55 = .ok (.aload_n 0, 1) := by decide +kernel
theorem dX5_readCommand_56 : decode cX5_readCommand 56 = .ok (.getfield 125, 3) := by decide +kernel
theorem dX5_readCommand_59 : decode cX5_readCommand 59 = .ok (.ifCond .eq 7, 3) := by decide +kernel
theorem dX5_readCommand_62 : decode cX5_readCommand 62 = .ok (.iload_n 1, 1) := by decide +kernel
theorem dX5_readCommand_63 : decode cX5_readCommand 63 = .ok (.goto 4, 3) := by decide +kernel
theorem dX5_readCommand_66 : decode cX5_readCommand 66 = .ok (.iconst 0, 1) := by decide +kernel
theorem dX5_readCommand_67 : decode cX5_readCommand 67 = .ok (.invokevirtual 160, 3) := by decide +kernel
theorem dX5_readCommand_70 : decode cX5_readCommand 70 = .ok (.pop, 1) := by decide +kernel
theorem dX5_readCommand_71 : decode cX5_readCommand 71 = .ok (.return_, 1) := by decide +kernel
set_option maxRecDepth 20000 in
theorem ggX5_readText_X5_clean : GoodIn wsX5_readText wsX5_clean := goodIn_r _ [9] (by decide +kernel) (by decide +kernel)
set_option maxRecDepth 20000 in
theorem gX5_readText_X5_clean : GoodIn wsX5_readText (va_wsS RX5 35 yX5_clean wsX5_clean) := goodIn_app (goodIn_of _ (by decide +kernel)) ggX5_readText_X5_clean
set_option maxRecDepth 20000 in
theorem ggX5_readText_X5_isNext : GoodIn wsX5_readText wsX5_isNext := goodIn_r _ [13, 1, 5, 14, 108, 109, 110, 111, 112, 113, 114, 115, 116, 117, 118, 119, 120, 121, 122, 123] (by decide +kernel) (by decide +kernel)
set_option maxRecDepth 20000 in
theorem gX5_readText_X5_isNext : GoodIn wsX5_readText (wsV RX5 151 RX5 yX5_isNext wsX5_isNext) := goodIn_app (goodIn_of _ (by decide +kernel)) ggX5_readText_X5_isNext
set_option maxRecDepth 20000 in
theorem ggX5_readText_X5_accept : GoodIn wsX5_readText wsX5_accept := goodIn_r _ [18, 2, 1, 108, 109, 110, 111, 112, 113, 114, 115, 116, 117, 118, 119, 120, 121, 122, 123] (by decide +kernel) (by decide +kernel)
set_option maxRecDepth 20000 in
theorem gX5_readText_X5_accept : GoodIn wsX5_readText (wsV RX5 130 RX5 yX5_accept wsX5_accept) := goodIn_app (goodIn_of _ (by decide +kernel)) ggX5_readText_X5_accept
set_option maxRecDepth 20000 in
theorem ggX5_readText_X5_least : GoodIn wsX5_readText wsX5_least := goodIn_r _ [21] (by decide +kernel) (by decide +kernel)
set_option maxRecDepth 20000 in
theorem gX5_readText_X5_least : GoodIn wsX5_readText (va_wsS RX5 163 yX5_least wsX5_least) := goodIn_app (goodIn_of _ (by decide +kernel)) ggX5_readText_X5_least
set_option maxRecDepth 20000 in
theorem ggX5_readText_X5_most : GoodIn wsX5_readText wsX5_most := goodIn_r _ [24] (by decide +kernel) (by decide +kernel)
set_option maxRecDepth 20000 in
theorem gX5_readText_X5_most : GoodIn wsX5_readText (va_wsS RX5 167 yX5_most wsX5_most) := goodIn_app (goodIn_of _ (by decide +kernel)) ggX5_readText_X5_most
set_option maxRecDepth 20000 in
theorem ggX5_readText_X5_digit : GoodIn wsX5_readText wsX5_digit := goodIn_r _ [28, 1, 5, 14, 29, 2, 30, 31, 8, 32, 15, 16, 17, 18, 108, 109, 110, 111, 112, 113, 114, 115, 116, 117, 118, 119, 120, 121, 122, 123] (by decide +kernel) (by decide +kernel)
set_option maxRecDepth 20000 in
theorem gX5_readText_X5_digit : GoodIn wsX5_readText (wsV RX5 134 RX5 yX5_digit wsX5_digit) := goodIn_app (goodIn_of _ (by decide +kernel)) ggX5_readText_X5_digit
set_option maxRecDepth 20000 in
theorem ggX5_readText_X5_readCommand : GoodIn wsX5_readText wsX5_readCommand := goodIn_r _ [36, 4, 2, 10, 11, 12, 8, 13, 1, 5, 14, 37, 38, 39, 40, 3, 15, 16, 17, 18, 25, 26, 27, 28, 29, 30, 31, 32, 41, 42, 43, 44, 45, 46, 47, 48, 49, 50, 51, 52, 53, 54, 55, 56, 57, 58, 59, 60, 61, 62, 63, 64, 65, 66, 67, 68, 69, 70, 71, 72, 73, 74, 75, 76, 77, 78, 79, 80, 81, 82, 83, 84, 85, 86, 87, 88, 89, 90, 91, 92, 93, 94, 95, 96, 97, 98, 99, 100, 101, 102, 103, 104, 105, 106, 107, 108, 109, 110, 111, 112, 113, 114, 115, 116, 117, 118, 119, 120, 121, 122, 123] (by decide +kernel) (by decide +kernel)
set_option maxRecDepth 20000 in
theorem gX5_readText_X5_readCommand : GoodIn wsX5_readText (wsV RX5 170 RX5 yX5_readCommand wsX5_readCommand) := goodIn_app (goodIn_of _ (by decide +kernel)) ggX5_readText_X5_readCommand
theorem dX5_readText_0 : decode cX5_readText 0 = .ok (.aload_n 0, 1) := by decide +kernel
theorem dX5_readText_1 : decode cX5_readText 1 = .ok (.iconst 0, 1) := by decide +kernel
theorem dX5_readText_2 : decode cX5_readText 2 = .ok (.putfield 122, 3) := by decide +kernel
theorem dX5_readText_5 : decode cX5_readText 5 = .ok (.aload_n 0, 1) := by decide +kernel
theorem dX5_readText_6 : decode cX5_readText 6 = .ok (.iconst 1, 1) := by decide +kernel
theorem dX5_readText_7 : decode cX5_readText 7 = .ok (.putfield 125, 3) := by decide +kernel
theorem dX5_readText_10 : decode cX5_readText 10 = .ok (.aload_n 0, 1) := by decide +kernel
theorem dX5_readText_11 : decode cX5_readText 11 = .ok (.iconst 0, 1) := by decide +kernel
theorem dX5_readText_12 : decode cX5_readText 12 = .ok (.putfield 141, 3) := by decide +kernel
theorem dX5_readText_15 : decode cX5_readText 15 = .ok (.aload_n 0, 1) := by decide +kernel
theorem dX5_readText_16 : decode cX5_readText 16 = .ok (.getfield 13, 3) := by decide +kernel
theorem dX5_readText_19 : decode cX5_readText 19 = .ok (.invokestatic 35, 3) := by decide +kernel
theorem dX5_readText_22 : decode cX5_readText 22 = .ok (.aload_n 0, 1) := by decide +kernel
theorem dX5_readText_23 : decode cX5_readText 23 = .ok (.aload_n 0, 1) := by decide +kernel
theorem dX5_readText_24 : decode cX5_readText 24 = .ok (.bipush 68, 2) := by decide +kernel
theorem dX5_readText_26 : decode cX5_readText 26 = .ok (.invokevirtual 151, 3) := by decide +kernel
theorem dX5_readText_29 : decode cX5_readText 29 = .ok (.invokevirtual 130, 3) := by decide +kernel
theorem dX5_readText_32 : decode cX5_readText 32 = .ok (.iconst 0, 1) := by decide +kernel
theorem dX5_readText_33 : decode cX5_readText 33 = .ok (.istore_n 1, 1) := by decide +kernel
theorem dX5_readText_34 : decode cX5_readText 34 = .ok (.iload_n 1, 1) := by decide +kernel
theorem dX5_readText_35 : decode cX5_readText 35 = .ok (.iconst 5, 1) := by decide +kernel
theorem dX5_readText_36 : decode cX5_readText 36 = .ok (.if_icmp .ge 27, 3) := by decide +kernel
theorem dX5_readText_39 : decode cX5_readText 39 = .ok (.aload_n 0, 1) := by decide +kernel
theorem dX5_readText_40 : decode cX5_readText 40 = .ok (.getfield 13, 3) := by decide +kernel
theorem dX5_readText_43 : decode cX5_readText 43 = .ok (.iload_n 1, 1) := by decide +kernel
theorem dX5_readText_44 : decode cX5_readText 44 = .ok (.aload_n 0, 1) := by decide +kernel
theorem dX5_readText_45 : decode cX5_readText 45 = .ok (.iload_n 1, 1) := by decide +kernel
theorem dX5_readText_46 : decode cX5_readText 46 = .ok (.invokestatic 163, 3) := by decide +kernel
theorem dX5_readText_49 : decode cX5_readText 49 = .ok (.iload_n 1, 1) := by decide +kernel
theorem dX5_readText_50 : decode cX5_readText 50 = .ok (.invokestatic 167, 3) := by decide +kernel
theorem dX5_readText_53 : decode cX5_readText 53 = .ok (.invokevirtual 134, 3) := by decide +kernel
theorem dX5_readText_56 : decode cX5_readText 56 = .ok (.iastore, 1) := by decide +kernel
theorem dX5_readText_57 : decode cX5_readText 57 = .ok (.iinc 1 1, 3) := by decide +kernel
theorem dX5_readText_60 : decode cX5_readText 60 = .ok (.goto (-26), 3) := by decide +kernel
theorem dX5_readText_63 : decode cX5_readText 63 = .ok (.aload_n 0, 1) := by decide +kernel
theorem dX5_readText_64 : decode cX5_readText 64 = .ok (.getfield 125, 3) := by decide +kernel
theorem dX5_readText_67 : decode cX5_readText 67 = .ok (.ifCond .eq 21, 3) := by decide +kernel
theorem dX5_readText_70 : decode cX5_readText 70 = .ok (.aload_n 0, 1) := by decide +kernel
theorem dX5_readText_71 : decode cX5_readText 71 = .ok (.getfield 122, 3) := by decide +kernel
theorem dX5_readText_74 : decode cX5_readText 74 = .ok (.aload_n 0, 1) := by decide +kernel
theorem dX5_readText_75 : decode cX5_readText 75 = .ok (.getfield 115, 3) := by decide +kernel
theorem dX5_readText_78 : decode cX5_readText 78 = .ok (.if_icmp .ge 10, 3) := by decide +kernel
theorem dX5_readText_81 : decode cX5_readText 81 = .ok (.aload_n 0, 1) := by decide +kernel
theorem dX5_readText_82 : decode cX5_readText 82 = .ok (.invokevirtual 170, 3) := by decide +kernel
theorem dX5_readText_85 : decode cX5_readText 85 = .ok (.goto (-22), 3) := by decide +kernel
theorem dX5_readText_88 : decode cX5_readText 88 = .ok (.aload_n 0, 1) := by decide +kernel
theorem dX5_readText_89 : decode cX5_readText 89 = .ok (.getfield 125, 3) := by decide +kernel
theorem dX5_readText_92 : decode cX5_readText 92 = .ok (.ifCond .eq 7, 3) := by decide +kernel
theorem dX5_readText_95 : decode cX5_readText 95 = .ok (.iconst (-1), 1) := by decide +kernel
theorem dX5_readText_96 : decode cX5_readText 96 = .ok (.goto 7, 3) := by decide +kernel
theorem dX5_readText_99 : decode cX5_readText 99 = .ok (.aload_n 0, 1) := by decide +kernel
theorem dX5_readText_100 : decode cX5_readText 100 = .ok (.getfield 122, 3) := by decide +kernel
theorem dX5_readText_103 : decode cX5_readText 103 = .ok (.ireturn, 1) := by decide +kernel
set_option maxRecDepth 20000 in
theorem ggX5_errorPosition_X5_readText : GoodIn wsX5_errorPosition wsX5_readText := goodIn_r _ [6, 7, 8, 9, 10, 11, 12, 13, 5, 14, 15, 16, 17, 18, 19, 20, 21, 22, 23, 24, 25, 26, 27, 28, 29, 30, 31, 32, 33, 34, 35, 36, 37, 38, 39, 40, 41, 42, 43, 44, 45, 46, 47, 48, 49, 50, 51, 52, 53, 54, 55, 56, 57, 58, 59, 60, 61, 62, 63, 64, 65, 66, 67, 68, 69, 70, 71, 72, 73, 74, 75, 76, 77, 78, 79, 80, 81, 82, 83, 84, 85, 86, 87, 88, 89, 90, 91, 92, 93, 94, 95, 96, 97, 98, 99, 100, 101, 102, 103, 104, 105, 106, 107, 108, 109, 110, 111, 112, 113, 114, 115, 116, 117, 118, 119, 120, 121, 122, 123, 124, 125, 126, 127, 128] (by decide +kernel) (by decide +kernel)
set_option maxRecDepth 20000 in
theorem gX5_errorPosition_X5_readText : GoodIn wsX5_errorPosition (wsV RX5 173 RX5 yX5_readText wsX5_readText) := goodIn_app (goodIn_of _ (by decide +kernel)) ggX5_errorPosition_X5_readText
theorem dX5_errorPosition_0 : decode cX5_errorPosition 0 = .ok (.aload_n 0, 1) := by decide +kernel
theorem dX5_errorPosition_1 : decode cX5_errorPosition 1 = .ok (.iconst 0, 1) := by decide +kernel
theorem dX5_errorPosition_2 : decode cX5_errorPosition 2 = .ok (.putfield 39, 3) := by decide +kernel
theorem dX5_errorPosition_5 : decode cX5_errorPosition 5 = .ok (.aload_n 0, 1) := by decide +kernel
theorem dX5_errorPosition_6 : decode cX5_errorPosition 6 = .ok (.invokevirtual 173, 3) := by decide +kernel
theorem dX5_errorPosition_9 : decode cX5_errorPosition 9 = .ok (.ireturn, 1) := by decide +kernel
set_option maxRecDepth 20000 in
theorem ggX5_load_X5_readText : GoodIn wsX5_load wsX5_readText := goodIn_r _ [10, 11, 12, 5, 1, 13, 14, 15, 9, 16, 17, 18, 19, 20, 21, 22, 23, 24, 25, 26, 27, 28, 29, 30, 31, 32, 33, 34, 35, 36, 37, 38, 39, 40, 41, 42, 43, 44, 45, 46, 47, 48, 49, 50, 51, 52, 53, 54, 55, 56, 57, 58, 59, 60, 61, 62, 63, 64, 65, 66, 67, 68, 69, 70, 71, 72, 73, 74, 75, 76, 77, 78, 79, 80, 81, 82, 83, 84, 85, 86, 87, 88, 89, 90, 91, 92, 93, 94, 95, 96, 97, 98, 99, 100, 101, 102, 103, 104, 105, 106, 107, 108, 109, 110, 111, 112, 113, 114, 120, 121, 122, 123, 124, 125, 126, 127, 128, 129, 130, 131, 132, 133, 134, 135] (by decide +kernel) (by decide +kernel)
set_option maxRecDepth 20000 in
theorem gX5_load_X5_readText : GoodIn wsX5_load (wsV RX5 173 RX5 yX5_readText wsX5_readText) := goodIn_app (goodIn_of _ (by decide +kernel)) ggX5_load_X5_readText
set_option maxRecDepth 20000 in
theorem ggX5_load_X5_refused : GoodIn wsX5_load wsX5_refused := goodIn_r _ [118, 119, 120, 121, 122, 123, 124, 125, 126, 127, 128, 129, 130, 131, 132, 133, 134, 135] (by decide +kernel) (by decide +kernel)
set_option maxRecDepth 20000 in
theorem gX5_load_X5_refused : GoodIn wsX5_load (wsV RX5 118 RX5 yX5_refused wsX5_refused) := goodIn_app (goodIn_of _ (by decide +kernel)) ggX5_load_X5_refused
set_option maxRecDepth 20000 in
theorem ggX5_load_X5_copy : GoodIn wsX5_load wsX5_copy := goodIn_r _ [84] (by decide +kernel) (by decide +kernel)
set_option maxRecDepth 20000 in
theorem gX5_load_X5_copy : GoodIn wsX5_load (va_wsS RX5 48 yX5_copy wsX5_copy) := goodIn_app (goodIn_of _ (by decide +kernel)) ggX5_load_X5_copy
theorem dX5_load_0 : decode cX5_load 0 = .ok (.aload_n 0, 1) := by decide +kernel
theorem dX5_load_1 : decode cX5_load 1 = .ok (.aload_n 0, 1) := by decide +kernel
theorem dX5_load_2 : decode cX5_load 2 = .ok (.invokevirtual 173, 3) := by decide +kernel
theorem dX5_load_5 : decode cX5_load 5 = .ok (.iconst (-1), 1) := by decide +kernel
theorem dX5_load_6 : decode cX5_load 6 = .ok (.if_icmp .ne 7, 3) := by decide +kernel
theorem dX5_load_9 : decode cX5_load 9 = .ok (.iconst 0, 1) := by decide +kernel
theorem dX5_load_10 : decode cX5_load 10 = .ok (.goto 4, 3) := by decide +kernel
theorem dX5_load_13 : decode cX5_load 13 = .ok (.iconst 1, 1) := by decide +kernel
theorem dX5_load_14 : decode cX5_load 14 = .ok (.invokevirtual 118, 3) := by decide +kernel
theorem dX5_load_17 : decode cX5_load 17 = .ok (.ifCond .eq 5, 3) := by decide +kernel
theorem dX5_load_20 : decode cX5_load 20 = .ok (.iconst 0, 1) := by decide +kernel
theorem dX5_load_21 : decode cX5_load 21 = .ok (.ireturn, 1) := by decide +kernel
theorem dX5_load_22 : decode cX5_load 22 = .ok (.aload_n 0, 1) := by decide +kernel
theorem dX5_load_23 : decode cX5_load 23 = .ok (.getfield 13, 3) := by decide +kernel
theorem dX5_load_26 : decode cX5_load 26 = .ok (.iconst 0, 1) := by decide +kernel
theorem dX5_load_27 : decode cX5_load 27 = .ok (.aload_n 0, 1) := by decide +kernel
theorem dX5_load_28 : decode cX5_load 28 = .ok (.getfield 16, 3) := by decide +kernel
theorem dX5_load_31 : decode cX5_load 31 = .ok (.iconst 0, 1) := by decide +kernel
theorem dX5_load_32 : decode cX5_load 32 = .ok (.sipush 235, 3) := by decide +kernel
theorem dX5_load_35 : decode cX5_load 35 = .ok (.invokestatic 48, 3) := by decide +kernel
theorem dX5_load_38 : decode cX5_load 38 = .ok (.aload_n 0, 1) := by decide +kernel
theorem dX5_load_39 : decode cX5_load 39 = .ok (.iconst 0, 1) := by decide +kernel
theorem dX5_load_40 : decode cX5_load 40 = .ok (.putfield 45, 3) := by decide +kernel
theorem dX5_load_43 : decode cX5_load 43 = .ok (.aload_n 0, 1) := by decide +kernel
theorem dX5_load_44 : decode cX5_load 44 = .ok (.getfield 28, 3) := by decide +kernel
theorem dX5_load_47 : decode cX5_load 47 = .ok (.iconst 0, 1) := by decide +kernel
theorem dX5_load_48 : decode cX5_load 48 = .ok (.iconst 0, 1) := by decide +kernel
theorem dX5_load_49 : decode cX5_load 49 = .ok (.bastore, 1) := by decide +kernel
theorem dX5_load_50 : decode cX5_load 50 = .ok (.aload_n 0, 1) := by decide +kernel
theorem dX5_load_51 : decode cX5_load 51 = .ok (.getfield 28, 3) := by decide +kernel
theorem dX5_load_54 : decode cX5_load 54 = .ok (.iconst 1, 1) := by decide +kernel
theorem dX5_load_55 : decode cX5_load 55 = .ok (.iconst 0, 1) := by decide +kernel
theorem dX5_load_56 : decode cX5_load 56 = .ok (.bastore, 1) := by decide +kernel
theorem dX5_load_57 : decode cX5_load 57 = .ok (.aload_n 0, 1) := by decide +kernel
theorem dX5_load_58 : decode cX5_load 58 = .ok (.getfield 141, 3) := by decide +kernel
theorem dX5_load_61 : decode cX5_load 61 = .ok (.ireturn, 1) := by decide +kernel
set_option maxRecDepth 20000 in
theorem ggX5_held_X5_feesOf : GoodIn wsX5_held wsX5_feesOf := goodIn_r _ [5, 6, 7, 4, 8] (by decide +kernel) (by decide +kernel)
set_option maxRecDepth 20000 in
theorem gX5_held_X5_feesOf : GoodIn wsX5_held (va_wsS RX5 79 yX5_feesOf wsX5_feesOf) := goodIn_app (goodIn_of _ (by decide +kernel)) ggX5_held_X5_feesOf
theorem dX5_held_0 : decode cX5_held 0 = .ok (.iconst 0, 1) := by decide +kernel
theorem dX5_held_1 : decode cX5_held 1 = .ok (.istore_n 1, 1) := by decide +kernel
theorem dX5_held_2 : decode cX5_held 2 = .ok (.iconst 0, 1) := by decide +kernel
theorem dX5_held_3 : decode cX5_held 3 = .ok (.istore_n 2, 1) := by decide +kernel
theorem dX5_held_4 : decode cX5_held 4 = .ok (.iload_n 2, 1) := by decide +kernel
theorem dX5_held_5 : decode cX5_held 5 = .ok (.bipush 16, 2) := by decide +kernel
theorem dX5_held_7 : decode cX5_held 7 = .ok (.if_icmp .ge 20, 3) := by decide +kernel
theorem dX5_held_10 : decode cX5_held 10 = .ok (.iload_n 1, 1) := by decide +kernel
theorem dX5_held_11 : decode cX5_held 11 = .ok (.aload_n 0, 1) := by decide +kernel
theorem dX5_held_12 : decode cX5_held 12 = .ok (.getfield 16, 3) := by decide +kernel
theorem dX5_held_15 : decode cX5_held 15 = .ok (.iload_n 2, 1) := by decide +kernel
theorem dX5_held_16 : decode cX5_held 16 = .ok (.invokestatic 79, 3) := by decide +kernel
theorem dX5_held_19 : decode cX5_held 19 = .ok (.iadd, 1) := by decide +kernel
theorem dX5_held_20 : decode cX5_held 20 = .ok (.istore_n 1, 1) := by decide +kernel
theorem dX5_held_21 : decode cX5_held 21 = .ok (.iinc 2 1, 3) := by decide +kernel
theorem dX5_held_24 : decode cX5_held 24 = .ok (.goto (-20), 3) := by decide +kernel
theorem dX5_held_27 : decode cX5_held 27 = .ok (.iload_n 1, 1) := by decide +kernel
theorem dX5_held_28 : decode cX5_held 28 = .ok (.ireturn, 1) := by decide +kernel
set_option maxRecDepth 20000 in
theorem ggX5_about_X5_in : GoodIn wsX5_about wsX5_in := goodIn_r _ [6] (by decide +kernel) (by decide +kernel)
set_option maxRecDepth 20000 in
theorem gX5_about_X5_in : GoodIn wsX5_about (va_wsS RX5 111 yX5_in wsX5_in) := goodIn_app (goodIn_of _ (by decide +kernel)) ggX5_about_X5_in
set_option maxRecDepth 20000 in
theorem ggX5_about_X5_refused : GoodIn wsX5_about wsX5_refused := goodIn_r _ [10, 11, 28, 29, 30, 31, 32, 33, 34, 35, 36, 37, 38, 39, 40, 41, 42, 43] (by decide +kernel) (by decide +kernel)
set_option maxRecDepth 20000 in
theorem gX5_about_X5_refused : GoodIn wsX5_about (wsV RX5 118 RX5 yX5_refused wsX5_refused) := goodIn_app (goodIn_of _ (by decide +kernel)) ggX5_about_X5_refused
set_option maxRecDepth 20000 in
theorem ggX5_about_X5_held : GoodIn wsX5_about wsX5_held := goodIn_r _ [15, 2, 16, 17, 5, 18, 19, 20, 21, 28, 29, 30, 31, 32, 33, 34, 35, 36, 37, 38, 39, 40, 41, 42, 43] (by decide +kernel) (by decide +kernel)
set_option maxRecDepth 20000 in
theorem gX5_about_X5_held : GoodIn wsX5_about (wsV RX5 177 RX5 yX5_held wsX5_held) := goodIn_app (goodIn_of _ (by decide +kernel)) ggX5_about_X5_held
set_option maxRecDepth 20000 in
theorem ggX5_about_X5_fronts : GoodIn wsX5_about wsX5_fronts := goodIn_r _ [24, 25, 26, 5, 27] (by decide +kernel) (by decide +kernel)
set_option maxRecDepth 20000 in
theorem gX5_about_X5_fronts : GoodIn wsX5_about (va_wsS RX5 86 yX5_fronts wsX5_fronts) := goodIn_app (goodIn_of _ (by decide +kernel)) ggX5_about_X5_fronts
theorem dX5_about_0 : decode cX5_about 0 = .ok (.aload_n 0, 1) := by decide +kernel
theorem dX5_about_1 : decode cX5_about 1 = .ok (.iload_n 1, 1) := by decide +kernel
theorem dX5_about_2 : decode cX5_about 2 = .ok (.i2l, 1) := by decide +kernel
theorem dX5_about_3 : decode cX5_about 3 = .ok (.lconst 0, 1) := by decide +kernel
theorem dX5_about_4 : decode cX5_about 4 = .ok (.ldc2_w 43, 3) := by decide +kernel
theorem dX5_about_7 : decode cX5_about 7 = .ok (.invokestatic 111, 3) := by decide +kernel
theorem dX5_about_10 : decode cX5_about 10 = .ok (.ifCond .eq 7, 3) := by decide +kernel
theorem dX5_about_13 : decode cX5_about 13 = .ok (.iconst 0, 1) := by decide +kernel
theorem dX5_about_14 : decode cX5_about 14 = .ok (.goto 4, 3) := by decide +kernel
theorem dX5_about_17 : decode cX5_about 17 = .ok (.iconst 1, 1) := by decide +kernel
theorem dX5_about_18 : decode cX5_about 18 = .ok (.invokevirtual 118, 3) := by decide +kernel
theorem dX5_about_21 : decode cX5_about 21 = .ok (.ifCond .eq 5, 3) := by decide +kernel
theorem dX5_about_24 : decode cX5_about 24 = .ok (.iconst 0, 1) := by decide +kernel
theorem dX5_about_25 : decode cX5_about 25 = .ok (.ireturn, 1) := by decide +kernel
theorem dX5_about_26 : decode cX5_about 26 = .ok (.iload_n 1, 1) := by decide +kernel
theorem dX5_about_27 : decode cX5_about 27 = .ok (.bipush 6, 2) := by decide +kernel
theorem dX5_about_29 : decode cX5_about 29 = .ok (.if_icmp .ne 8, 3) := by decide +kernel
theorem dX5_about_32 : decode cX5_about 32 = .ok (.aload_n 0, 1) := by decide +kernel
theorem dX5_about_33 : decode cX5_about 33 = .ok (.invokevirtual 177, 3) := by decide +kernel
theorem dX5_about_36 : decode cX5_about 36 = .ok (.ireturn, 1) := by decide +kernel
theorem dX5_about_37 : decode cX5_about 37 = .ok (.iload_n 1, 1) := by decide +kernel
theorem dX5_about_38 : decode cX5_about 38 = .ok (.bipush 8, 2) := by decide +kernel
theorem dX5_about_40 : decode cX5_about 40 = .ok (.if_icmp .ne 11, 3) := by decide +kernel
theorem dX5_about_43 : decode cX5_about 43 = .ok (.aload_n 0, 1) := by decide +kernel
theorem dX5_about_44 : decode cX5_about 44 = .ok (.getfield 16, 3) := by decide +kernel
theorem dX5_about_47 : decode cX5_about 47 = .ok (.invokestatic 86, 3) := by decide +kernel
theorem dX5_about_50 : decode cX5_about 50 = .ok (.ireturn, 1) := by decide +kernel
theorem dX5_about_51 : decode cX5_about 51 = .ok (.iload_n 1, 1) := by decide +kernel
theorem dX5_about_52 : decode cX5_about 52 = .ok (.bipush 6, 2) := by decide +kernel
theorem dX5_about_54 : decode cX5_about 54 = .ok (.if_icmp .ge 14, 3) := by decide +kernel
theorem dX5_about_57 : decode cX5_about 57 = .ok (.aload_n 0, 1) := by decide +kernel
theorem dX5_about_58 : decode cX5_about 58 = .ok (.getfield 16, 3) := by decide +kernel
theorem dX5_about_61 : decode cX5_about 61 = .ok (.iconst 5, 1) := by decide +kernel
theorem dX5_about_62 : decode cX5_about 62 = .ok (.iload_n 1, 1) := by decide +kernel
theorem dX5_about_63 : decode cX5_about 63 = .ok (.iadd, 1) := by decide +kernel
theorem dX5_about_64 : decode cX5_about 64 = .ok (.iaload, 1) := by decide +kernel
theorem dX5_about_65 : decode cX5_about 65 = .ok (.goto 31, 3) := by decide +kernel
theorem dX5_about_68 : decode cX5_about 68 = .ok (.iload_n 1, 1) := by decide +kernel
theorem dX5_about_69 : decode cX5_about 69 = .ok (.bipush 7, 2) := by decide +kernel
theorem dX5_about_71 : decode cX5_about 71 = .ok (.if_icmp .ne 13, 3) := by decide +kernel
theorem dX5_about_74 : decode cX5_about 74 = .ok (.aload_n 0, 1) := by decide +kernel
theorem dX5_about_75 : decode cX5_about 75 = .ok (.getfield 16, 3) := by decide +kernel
theorem dX5_about_78 : decode cX5_about 78 = .ok (.bipush 11, 2) := by decide +kernel
theorem dX5_about_80 : decode cX5_about 80 = .ok (.iaload, 1) := by decide +kernel
theorem dX5_about_81 : decode cX5_about 81 = .ok (.goto 15, 3) := by decide +kernel
theorem dX5_about_84 : decode cX5_about 84 = .ok (.aload_n 0, 1) := by decide +kernel
theorem dX5_about_85 : decode cX5_about 85 = .ok (.getfield 16, 3) := by decide +kernel
theorem dX5_about_88 : decode cX5_about 88 = .ok (.bipush 12, 2) := by decide +kernel
theorem dX5_about_90 : decode cX5_about 90 = .ok (.iload_n 1, 1) := by decide +kernel
theorem dX5_about_91 : decode cX5_about 91 = .ok (.iadd, 1) := by decide +kernel
theorem dX5_about_92 : decode cX5_about 92 = .ok (.bipush 9, 2) := by decide +kernel
theorem dX5_about_94 : decode cX5_about 94 = .ok (.isub, 1) := by decide +kernel
theorem dX5_about_95 : decode cX5_about 95 = .ok (.iaload, 1) := by decide +kernel
theorem dX5_about_96 : decode cX5_about 96 = .ok (.ireturn, 1) := by decide +kernel
set_option maxRecDepth 20000 in
theorem ggX5_isOrder_X5_in : GoodIn wsX5_isOrder wsX5_in := goodIn_r _ [5] (by decide +kernel) (by decide +kernel)
set_option maxRecDepth 20000 in
theorem gX5_isOrder_X5_in : GoodIn wsX5_isOrder (va_wsS RX5 111 yX5_in wsX5_in) := goodIn_app (goodIn_of _ (by decide +kernel)) ggX5_isOrder_X5_in
theorem dX5_isOrder_0 : decode cX5_isOrder 0 = .ok (.iload_n 1, 1) := by decide +kernel
theorem dX5_isOrder_1 : decode cX5_isOrder 1 = .ok (.i2l, 1) := by decide +kernel
theorem dX5_isOrder_2 : decode cX5_isOrder 2 = .ok (.lconst 0, 1) := by decide +kernel
theorem dX5_isOrder_3 : decode cX5_isOrder 3 = .ok (.aload_n 0, 1) := by decide +kernel
theorem dX5_isOrder_4 : decode cX5_isOrder 4 = .ok (.getfield 16, 3) := by decide +kernel
theorem dX5_isOrder_7 : decode cX5_isOrder 7 = .ok (.bipush 6, 2) := by decide +kernel
theorem dX5_isOrder_9 : decode cX5_isOrder 9 = .ok (.iaload, 1) := by decide +kernel
theorem dX5_isOrder_10 : decode cX5_isOrder 10 = .ok (.iconst 1, 1) := by decide +kernel
theorem dX5_isOrder_11 : decode cX5_isOrder 11 = .ok (.isub, 1) := by decide +kernel
theorem dX5_isOrder_12 : decode cX5_isOrder 12 = .ok (.i2l, 1) := by decide +kernel
theorem dX5_isOrder_13 : decode cX5_isOrder 13 = .ok (.invokestatic 111, 3) := by decide +kernel
theorem dX5_isOrder_16 : decode cX5_isOrder 16 = .ok (.ireturn, 1) := by decide +kernel
set_option maxRecDepth 20000 in
theorem ggX5_order_X5_isOrder : GoodIn wsX5_order wsX5_isOrder := goodIn_r _ [7, 2, 8, 9, 6, 10, 19, 20, 21, 22, 23, 24, 25, 26, 27, 28, 29, 30, 31, 32, 33, 34] (by decide +kernel) (by decide +kernel)
set_option maxRecDepth 20000 in
theorem gX5_order_X5_isOrder : GoodIn wsX5_order (wsV RX5 180 RX5 yX5_isOrder wsX5_isOrder) := goodIn_app (goodIn_of _ (by decide +kernel)) ggX5_order_X5_isOrder
set_option maxRecDepth 20000 in
theorem ggX5_order_X5_in : GoodIn wsX5_order wsX5_in := goodIn_r _ [10] (by decide +kernel) (by decide +kernel)
set_option maxRecDepth 20000 in
theorem gX5_order_X5_in : GoodIn wsX5_order (va_wsS RX5 111 yX5_in wsX5_in) := goodIn_app (goodIn_of _ (by decide +kernel)) ggX5_order_X5_in
set_option maxRecDepth 20000 in
theorem ggX5_order_X5_refused : GoodIn wsX5_order wsX5_refused := goodIn_r _ [14, 15, 19, 20, 21, 22, 23, 24, 25, 26, 27, 28, 29, 30, 31, 32, 33, 34] (by decide +kernel) (by decide +kernel)
set_option maxRecDepth 20000 in
theorem gX5_order_X5_refused : GoodIn wsX5_order (wsV RX5 118 RX5 yX5_refused wsX5_refused) := goodIn_app (goodIn_of _ (by decide +kernel)) ggX5_order_X5_refused
set_option maxRecDepth 20000 in
theorem ggX5_order_X5_at : GoodIn wsX5_order wsX5_at := goodIn_r _ [18] (by decide +kernel) (by decide +kernel)
set_option maxRecDepth 20000 in
theorem gX5_order_X5_at : GoodIn wsX5_order (va_wsS RX5 56 yX5_at wsX5_at) := goodIn_app (goodIn_of _ (by decide +kernel)) ggX5_order_X5_at
theorem dX5_order_0 : decode cX5_order 0 = .ok (.aload_n 0, 1) := by decide +kernel
theorem dX5_order_1 : decode cX5_order 1 = .ok (.aload_n 0, 1) := by decide +kernel
theorem dX5_order_2 : decode cX5_order 2 = .ok (.iload_n 1, 1) := by decide +kernel
theorem dX5_order_3 : decode cX5_order 3 = .ok (.invokevirtual 180, 3) := by decide +kernel
theorem dX5_order_6 : decode cX5_order 6 = .ok (.ifCond .ne 7, 3) := by decide +kernel
theorem dX5_order_9 : decode cX5_order 9 = .ok (.iconst 1, 1) := by decide +kernel
theorem dX5_order_10 : decode cX5_order 10 = .ok (.goto 20, 3) := by decide +kernel
theorem dX5_order_13 : decode cX5_order 13 = .ok (.iload_n 2, 1) := by decide +kernel
theorem dX5_order_14 : decode cX5_order 14 = .ok (.i2l, 1) := by decide +kernel
theorem dX5_order_15 : decode cX5_order 15 = .ok (.lconst 0, 1) := by decide +kernel
theorem dX5_order_16 : decode cX5_order 16 = .ok (.ldc2_w 183, 3) := by decide +kernel
theorem dX5_order_19 : decode cX5_order 19 = .ok (.invokestatic 111, 3) := by decide +kernel
theorem dX5_order_22 : decode cX5_order 22 = .ok (.ifCond .eq 7, 3) := by decide +kernel
theorem dX5_order_25 : decode cX5_order 25 = .ok (.iconst 0, 1) := by decide +kernel
theorem dX5_order_26 : decode cX5_order 26 = .ok (.goto 4, 3) := by decide +kernel
theorem dX5_order_29 : decode cX5_order 29 = .ok (.iconst 2, 1) := by decide +kernel
theorem dX5_order_30 : decode cX5_order 30 = .ok (.invokevirtual 118, 3) := by decide +kernel
theorem dX5_order_33 : decode cX5_order 33 = .ok (.ifCond .eq 7, 3) := by decide +kernel
theorem dX5_order_36 : decode cX5_order 36 = .ok (.iconst 0, 1) := by decide +kernel
theorem dX5_order_37 : decode cX5_order 37 = .ok (.goto 13, 3) := by decide +kernel
theorem dX5_order_40 : decode cX5_order 40 = .ok (.aload_n 0, 1) := by decide +kernel
theorem dX5_order_41 : decode cX5_order 41 = .ok (.getfield 16, 3) := by decide +kernel
theorem dX5_order_44 : decode cX5_order 44 = .ok (.iload_n 1, 1) := by decide +kernel
theorem dX5_order_45 : decode cX5_order 45 = .ok (.iload_n 2, 1) := by decide +kernel
theorem dX5_order_46 : decode cX5_order 46 = .ok (.invokestatic 56, 3) := by decide +kernel
theorem dX5_order_49 : decode cX5_order 49 = .ok (.iaload, 1) := by decide +kernel
theorem dX5_order_50 : decode cX5_order 50 = .ok (.ireturn, 1) := by decide +kernel
set_option maxRecDepth 20000 in
theorem ggX5_isLot_X5_in : GoodIn wsX5_isLot wsX5_in := goodIn_r _ [5] (by decide +kernel) (by decide +kernel)
set_option maxRecDepth 20000 in
theorem gX5_isLot_X5_in : GoodIn wsX5_isLot (va_wsS RX5 111 yX5_in wsX5_in) := goodIn_app (goodIn_of _ (by decide +kernel)) ggX5_isLot_X5_in
theorem dX5_isLot_0 : decode cX5_isLot 0 = .ok (.iload_n 0, 1) := by decide +kernel
theorem dX5_isLot_1 : decode cX5_isLot 1 = .ok (.i2l, 1) := by decide +kernel
theorem dX5_isLot_2 : decode cX5_isLot 2 = .ok (.lconst 0, 1) := by decide +kernel
theorem dX5_isLot_3 : decode cX5_isLot 3 = .ok (.ldc2_w 185, 3) := by decide +kernel
theorem dX5_isLot_6 : decode cX5_isLot 6 = .ok (.invokestatic 111, 3) := by decide +kernel
theorem dX5_isLot_9 : decode cX5_isLot 9 = .ok (.ireturn, 1) := by decide +kernel
set_option maxRecDepth 20000 in
theorem ggX5_lot_X5_isLot : GoodIn wsX5_lot wsX5_isLot := goodIn_r _ [6, 7, 8, 9, 5, 10] (by decide +kernel) (by decide +kernel)
set_option maxRecDepth 20000 in
theorem gX5_lot_X5_isLot : GoodIn wsX5_lot (va_wsS RX5 187 yX5_isLot wsX5_isLot) := goodIn_app (goodIn_of _ (by decide +kernel)) ggX5_lot_X5_isLot
set_option maxRecDepth 20000 in
theorem ggX5_lot_X5_in : GoodIn wsX5_lot wsX5_in := goodIn_r _ [10] (by decide +kernel) (by decide +kernel)
set_option maxRecDepth 20000 in
theorem gX5_lot_X5_in : GoodIn wsX5_lot (va_wsS RX5 111 yX5_in wsX5_in) := goodIn_app (goodIn_of _ (by decide +kernel)) ggX5_lot_X5_in
set_option maxRecDepth 20000 in
theorem ggX5_lot_X5_refused : GoodIn wsX5_lot wsX5_refused := goodIn_r _ [14, 15, 25, 26, 27, 28, 29, 30, 31, 32, 33, 34, 35, 36, 37, 38, 39, 40] (by decide +kernel) (by decide +kernel)
set_option maxRecDepth 20000 in
theorem gX5_lot_X5_refused : GoodIn wsX5_lot (wsV RX5 118 RX5 yX5_refused wsX5_refused) := goodIn_app (goodIn_of _ (by decide +kernel)) ggX5_lot_X5_refused
set_option maxRecDepth 20000 in
theorem ggX5_lot_X5_ordersOf : GoodIn wsX5_lot wsX5_ordersOf := goodIn_r _ [18, 19, 20, 5, 21] (by decide +kernel) (by decide +kernel)
set_option maxRecDepth 20000 in
theorem gX5_lot_X5_ordersOf : GoodIn wsX5_lot (va_wsS RX5 83 yX5_ordersOf wsX5_ordersOf) := goodIn_app (goodIn_of _ (by decide +kernel)) ggX5_lot_X5_ordersOf
set_option maxRecDepth 20000 in
theorem ggX5_lot_X5_feesOf : GoodIn wsX5_lot wsX5_feesOf := goodIn_r _ [24, 19, 20, 5, 21] (by decide +kernel) (by decide +kernel)
set_option maxRecDepth 20000 in
theorem gX5_lot_X5_feesOf : GoodIn wsX5_lot (va_wsS RX5 79 yX5_feesOf wsX5_feesOf) := goodIn_app (goodIn_of _ (by decide +kernel)) ggX5_lot_X5_feesOf
theorem dX5_lot_0 : decode cX5_lot 0 = .ok (.aload_n 0, 1) := by decide +kernel
theorem dX5_lot_1 : decode cX5_lot 1 = .ok (.iload_n 1, 1) := by decide +kernel
theorem dX5_lot_2 : decode cX5_lot 2 = .ok (.invokestatic 187, 3) := by decide +kernel
theorem dX5_lot_5 : decode cX5_lot 5 = .ok (.ifCond .ne 7, 3) := by decide +kernel
theorem dX5_lot_8 : decode cX5_lot 8 = .ok (.iconst 1, 1) := by decide +kernel
theorem dX5_lot_9 : decode cX5_lot 9 = .ok (.goto 20, 3) := by decide +kernel
theorem dX5_lot_12 : decode cX5_lot 12 = .ok (.iload_n 2, 1) := by decide +kernel
theorem dX5_lot_13 : decode cX5_lot 13 = .ok (.i2l, 1) := by decide +kernel
theorem dX5_lot_14 : decode cX5_lot 14 = .ok (.lconst 0, 1) := by decide +kernel
theorem dX5_lot_15 : decode cX5_lot 15 = .ok (.ldc2_w 190, 3) := by decide +kernel
theorem dX5_lot_18 : decode cX5_lot 18 = .ok (.invokestatic 111, 3) := by decide +kernel
theorem dX5_lot_21 : decode cX5_lot 21 = .ok (.ifCond .eq 7, 3) := by decide +kernel
theorem dX5_lot_24 : decode cX5_lot 24 = .ok (.iconst 0, 1) := by decide +kernel
theorem dX5_lot_25 : decode cX5_lot 25 = .ok (.goto 4, 3) := by decide +kernel
theorem dX5_lot_28 : decode cX5_lot 28 = .ok (.iconst 2, 1) := by decide +kernel
theorem dX5_lot_29 : decode cX5_lot 29 = .ok (.invokevirtual 118, 3) := by decide +kernel
theorem dX5_lot_32 : decode cX5_lot 32 = .ok (.ifCond .eq 5, 3) := by decide +kernel
theorem dX5_lot_35 : decode cX5_lot 35 = .ok (.iconst 0, 1) := by decide +kernel
theorem dX5_lot_36 : decode cX5_lot 36 = .ok (.ireturn, 1) := by decide +kernel
theorem dX5_lot_37 : decode cX5_lot 37 = .ok (.iload_n 2, 1) := by decide +kernel
theorem dX5_lot_38 : decode cX5_lot 38 = .ok (.ifCond .ne 17, 3) := by decide +kernel
theorem dX5_lot_41 : decode cX5_lot 41 = .ok (.aload_n 0, 1) := by decide +kernel
theorem dX5_lot_42 : decode cX5_lot 42 = .ok (.getfield 16, 3) := by decide +kernel
theorem dX5_lot_45 : decode cX5_lot 45 = .ok (.bipush 14, 2) := by decide +kernel
theorem dX5_lot_47 : decode cX5_lot 47 = .ok (.iload_n 1, 1) := by decide +kernel
theorem dX5_lot_48 : decode cX5_lot 48 = .ok (.iadd, 1) := by decide +kernel
theorem dX5_lot_49 : decode cX5_lot 49 = .ok (.iaload, 1) := by decide +kernel
theorem dX5_lot_50 : decode cX5_lot 50 = .ok (.iconst 1, 1) := by decide +kernel
theorem dX5_lot_51 : decode cX5_lot 51 = .ok (.isub, 1) := by decide +kernel
theorem dX5_lot_52 : decode cX5_lot 52 = .ok (.goto 44, 3) := by decide +kernel
theorem dX5_lot_55 : decode cX5_lot 55 = .ok (.iload_n 2, 1) := by decide +kernel
theorem dX5_lot_56 : decode cX5_lot 56 = .ok (.iconst 1, 1) := by decide +kernel
theorem dX5_lot_57 : decode cX5_lot 57 = .ok (.if_icmp .ne 14, 3) := by decide +kernel
theorem dX5_lot_60 : decode cX5_lot 60 = .ok (.aload_n 0, 1) := by decide +kernel
theorem dX5_lot_61 : decode cX5_lot 61 = .ok (.getfield 16, 3) := by decide +kernel
theorem dX5_lot_64 : decode cX5_lot 64 = .ok (.iload_n 1, 1) := by decide +kernel
theorem dX5_lot_65 : decode cX5_lot 65 = .ok (.invokestatic 83, 3) := by decide +kernel
theorem dX5_lot_68 : decode cX5_lot 68 = .ok (.goto 28, 3) := by decide +kernel
theorem dX5_lot_71 : decode cX5_lot 71 = .ok (.iload_n 2, 1) := by decide +kernel
theorem dX5_lot_72 : decode cX5_lot 72 = .ok (.iconst 2, 1) := by decide +kernel
theorem dX5_lot_73 : decode cX5_lot 73 = .ok (.if_icmp .ne 14, 3) := by decide +kernel
theorem dX5_lot_76 : decode cX5_lot 76 = .ok (.aload_n 0, 1) := by decide +kernel
theorem dX5_lot_77 : decode cX5_lot 77 = .ok (.getfield 16, 3) := by decide +kernel
theorem dX5_lot_80 : decode cX5_lot 80 = .ok (.iload_n 1, 1) := by decide +kernel
theorem dX5_lot_81 : decode cX5_lot 81 = .ok (.invokestatic 79, 3) := by decide +kernel
theorem dX5_lot_84 : decode cX5_lot 84 = .ok (.goto 12, 3) := by decide +kernel
theorem dX5_lot_87 : decode cX5_lot 87 = .ok (.aload_n 0, 1) := by decide +kernel
theorem dX5_lot_88 : decode cX5_lot 88 = .ok (.getfield 16, 3) := by decide +kernel
theorem dX5_lot_91 : decode cX5_lot 91 = .ok (.bipush 30, 2) := by decide +kernel
theorem dX5_lot_93 : decode cX5_lot 93 = .ok (.iload_n 1, 1) := by decide +kernel
theorem dX5_lot_94 : decode cX5_lot 94 = .ok (.iadd, 1) := by decide +kernel
theorem dX5_lot_95 : decode cX5_lot 95 = .ok (.iaload, 1) := by decide +kernel
theorem dX5_lot_96 : decode cX5_lot 96 = .ok (.ireturn, 1) := by decide +kernel
set_option maxRecDepth 20000 in
theorem ggX5_isReader_X5_in : GoodIn wsX5_isReader wsX5_in := goodIn_r _ [5] (by decide +kernel) (by decide +kernel)
set_option maxRecDepth 20000 in
theorem gX5_isReader_X5_in : GoodIn wsX5_isReader (va_wsS RX5 111 yX5_in wsX5_in) := goodIn_app (goodIn_of _ (by decide +kernel)) ggX5_isReader_X5_in
theorem dX5_isReader_0 : decode cX5_isReader 0 = .ok (.iload_n 0, 1) := by decide +kernel
theorem dX5_isReader_1 : decode cX5_isReader 1 = .ok (.i2l, 1) := by decide +kernel
theorem dX5_isReader_2 : decode cX5_isReader 2 = .ok (.lconst 0, 1) := by decide +kernel
theorem dX5_isReader_3 : decode cX5_isReader 3 = .ok (.ldc2_w 190, 3) := by decide +kernel
theorem dX5_isReader_6 : decode cX5_isReader 6 = .ok (.invokestatic 111, 3) := by decide +kernel
theorem dX5_isReader_9 : decode cX5_isReader 9 = .ok (.ireturn, 1) := by decide +kernel
set_option maxRecDepth 20000 in
theorem ggX5_openOf_X5_at : GoodIn wsX5_openOf wsX5_at := goodIn_r _ [5] (by decide +kernel) (by decide +kernel)
set_option maxRecDepth 20000 in
theorem gX5_openOf_X5_at : GoodIn wsX5_openOf (va_wsS RX5 56 yX5_at wsX5_at) := goodIn_app (goodIn_of _ (by decide +kernel)) ggX5_openOf_X5_at
theorem dX5_openOf_0 : decode cX5_openOf 0 = .ok (.iconst 0, 1) := by decide +kernel
theorem dX5_openOf_1 : decode cX5_openOf 1 = .ok (.istore_n 2, 1) := by decide +kernel
theorem dX5_openOf_2 : decode cX5_openOf 2 = .ok (.iconst 0, 1) := by decide +kernel
theorem dX5_openOf_3 : decode cX5_openOf 3 = .ok (.istore_n 3, 1) := by decide +kernel
theorem dX5_openOf_4 : decode cX5_openOf 4 = .ok (.iload_n 3, 1) := by decide +kernel
theorem dX5_openOf_5 : decode cX5_openOf 5 = .ok (.aload_n 0, 1) := by decide +kernel
theorem dX5_openOf_6 : decode cX5_openOf 6 = .ok (.getfield 16, 3) := by decide +kernel
theorem dX5_openOf_9 : decode cX5_openOf 9 = .ok (.bipush 6, 2) := by decide +kernel
theorem dX5_openOf_11 : decode cX5_openOf 11 = .ok (.iaload, 1) := by decide +kernel
theorem dX5_openOf_12 : decode cX5_openOf 12 = .ok (.if_icmp .ge 31, 3) := by decide +kernel
theorem dX5_openOf_15 : decode cX5_openOf 15 = .ok (.iload_n 2, 1) := by decide +kernel
theorem dX5_openOf_16 : decode cX5_openOf 16 = .ok (.aload_n 0, 1) := by decide +kernel
theorem dX5_openOf_17 : decode cX5_openOf 17 = .ok (.getfield 16, 3) := by decide +kernel
theorem dX5_openOf_20 : decode cX5_openOf 20 = .ok (.iload_n 3, 1) := by decide +kernel
theorem dX5_openOf_21 : decode cX5_openOf 21 = .ok (.iconst 0, 1) := by decide +kernel
theorem dX5_openOf_22 : decode cX5_openOf 22 = .ok (.invokestatic 56, 3) := by decide +kernel
theorem dX5_openOf_25 : decode cX5_openOf 25 = .ok (.iaload, 1) := by decide +kernel
theorem dX5_openOf_26 : decode cX5_openOf 26 = .ok (.iload_n 1, 1) := by decide +kernel
theorem dX5_openOf_27 : decode cX5_openOf 27 = .ok (.if_icmp .ne 7, 3) := by decide +kernel
theorem dX5_openOf_30 : decode cX5_openOf 30 = .ok (.iconst 1, 1) := by decide +kernel
theorem dX5_openOf_31 : decode cX5_openOf 31 = .ok (.goto 4, 3) := by decide +kernel
theorem dX5_openOf_34 : decode cX5_openOf 34 = .ok (.iconst 0, 1) := by decide +kernel
theorem dX5_openOf_35 : decode cX5_openOf 35 = .ok (.iadd, 1) := by decide +kernel
theorem dX5_openOf_36 : decode cX5_openOf 36 = .ok (.istore_n 2, 1) := by decide +kernel
theorem dX5_openOf_37 : decode cX5_openOf 37 = .ok (.iinc 3 1, 3) := by decide +kernel
theorem dX5_openOf_40 : decode cX5_openOf 40 = .ok (.goto (-36), 3) := by decide +kernel
theorem dX5_openOf_43 : decode cX5_openOf 43 = .ok (.iload_n 2, 1) := by decide +kernel
theorem dX5_openOf_44 : decode cX5_openOf 44 = .ok (.ireturn, 1) := by decide +kernel
set_option maxRecDepth 20000 in
theorem ggX5_reader_X5_isReader : GoodIn wsX5_reader wsX5_isReader := goodIn_r _ [6, 1, 7, 8, 5, 9] (by decide +kernel) (by decide +kernel)
set_option maxRecDepth 20000 in
theorem gX5_reader_X5_isReader : GoodIn wsX5_reader (va_wsS RX5 192 yX5_isReader wsX5_isReader) := goodIn_app (goodIn_of _ (by decide +kernel)) ggX5_reader_X5_isReader
set_option maxRecDepth 20000 in
theorem ggX5_reader_X5_in : GoodIn wsX5_reader wsX5_in := goodIn_r _ [9] (by decide +kernel) (by decide +kernel)
set_option maxRecDepth 20000 in
theorem gX5_reader_X5_in : GoodIn wsX5_reader (va_wsS RX5 111 yX5_in wsX5_in) := goodIn_app (goodIn_of _ (by decide +kernel)) ggX5_reader_X5_in
set_option maxRecDepth 20000 in
theorem ggX5_reader_X5_refused : GoodIn wsX5_reader wsX5_refused := goodIn_r _ [13, 14, 22, 23, 24, 25, 26, 27, 28, 29, 30, 31, 32, 33, 34, 35, 36, 37] (by decide +kernel) (by decide +kernel)
set_option maxRecDepth 20000 in
theorem gX5_reader_X5_refused : GoodIn wsX5_reader (wsV RX5 118 RX5 yX5_refused wsX5_refused) := goodIn_app (goodIn_of _ (by decide +kernel)) ggX5_reader_X5_refused
set_option maxRecDepth 20000 in
theorem ggX5_reader_X5_openOf : GoodIn wsX5_reader wsX5_openOf := goodIn_r _ [18, 2, 19, 20, 5, 21, 22, 23, 24, 25, 26, 27, 28, 29, 30, 31, 32, 33, 34, 35, 36, 37] (by decide +kernel) (by decide +kernel)
set_option maxRecDepth 20000 in
theorem gX5_reader_X5_openOf : GoodIn wsX5_reader (wsV RX5 195 RX5 yX5_openOf wsX5_openOf) := goodIn_app (goodIn_of _ (by decide +kernel)) ggX5_reader_X5_openOf
theorem dX5_reader_0 : decode cX5_reader 0 = .ok (.aload_n 0, 1) := by decide +kernel
theorem dX5_reader_1 : decode cX5_reader 1 = .ok (.iload_n 1, 1) := by decide +kernel
theorem dX5_reader_2 : decode cX5_reader 2 = .ok (.invokestatic 192, 3) := by decide +kernel
theorem dX5_reader_5 : decode cX5_reader 5 = .ok (.ifCond .ne 7, 3) := by decide +kernel
theorem dX5_reader_8 : decode cX5_reader 8 = .ok (.iconst 1, 1) := by decide +kernel
theorem dX5_reader_9 : decode cX5_reader 9 = .ok (.goto 20, 3) := by decide +kernel
theorem dX5_reader_12 : decode cX5_reader 12 = .ok (.iload_n 2, 1) := by decide +kernel
theorem dX5_reader_13 : decode cX5_reader 13 = .ok (.i2l, 1) := by decide +kernel
theorem dX5_reader_14 : decode cX5_reader 14 = .ok (.lconst 0, 1) := by decide +kernel
theorem dX5_reader_15 : decode cX5_reader 15 = .ok (.ldc2_w 190, 3) := by decide +kernel
theorem dX5_reader_18 : decode cX5_reader 18 = .ok (.invokestatic 111, 3) := by decide +kernel
theorem dX5_reader_21 : decode cX5_reader 21 = .ok (.ifCond .eq 7, 3) := by decide +kernel
theorem dX5_reader_24 : decode cX5_reader 24 = .ok (.iconst 0, 1) := by decide +kernel
theorem dX5_reader_25 : decode cX5_reader 25 = .ok (.goto 4, 3) := by decide +kernel
theorem dX5_reader_28 : decode cX5_reader 28 = .ok (.iconst 2, 1) := by decide +kernel
theorem dX5_reader_29 : decode cX5_reader 29 = .ok (.invokevirtual 118, 3) := by decide +kernel
theorem dX5_reader_32 : decode cX5_reader 32 = .ok (.ifCond .eq 5, 3) := by decide +kernel
theorem dX5_reader_35 : decode cX5_reader 35 = .ok (.iconst 0, 1) := by decide +kernel
theorem dX5_reader_36 : decode cX5_reader 36 = .ok (.ireturn, 1) := by decide +kernel
theorem dX5_reader_37 : decode cX5_reader 37 = .ok (.iload_n 2, 1) := by decide +kernel
theorem dX5_reader_38 : decode cX5_reader 38 = .ok (.ifCond .ne 15, 3) := by decide +kernel
theorem dX5_reader_41 : decode cX5_reader 41 = .ok (.aload_n 0, 1) := by decide +kernel
theorem dX5_reader_42 : decode cX5_reader 42 = .ok (.getfield 16, 3) := by decide +kernel
theorem dX5_reader_45 : decode cX5_reader 45 = .ok (.bipush 46, 2) := by decide +kernel
theorem dX5_reader_47 : decode cX5_reader 47 = .ok (.iload_n 1, 1) := by decide +kernel
theorem dX5_reader_48 : decode cX5_reader 48 = .ok (.iadd, 1) := by decide +kernel
theorem dX5_reader_49 : decode cX5_reader 49 = .ok (.iaload, 1) := by decide +kernel
theorem dX5_reader_50 : decode cX5_reader 50 = .ok (.goto 42, 3) := by decide +kernel
theorem dX5_reader_53 : decode cX5_reader 53 = .ok (.iload_n 2, 1) := by decide +kernel
theorem dX5_reader_54 : decode cX5_reader 54 = .ok (.iconst 1, 1) := by decide +kernel
theorem dX5_reader_55 : decode cX5_reader 55 = .ok (.if_icmp .ne 11, 3) := by decide +kernel
theorem dX5_reader_58 : decode cX5_reader 58 = .ok (.aload_n 0, 1) := by decide +kernel
theorem dX5_reader_59 : decode cX5_reader 59 = .ok (.iload_n 1, 1) := by decide +kernel
theorem dX5_reader_60 : decode cX5_reader 60 = .ok (.invokevirtual 195, 3) := by decide +kernel
theorem dX5_reader_63 : decode cX5_reader 63 = .ok (.goto 29, 3) := by decide +kernel
theorem dX5_reader_66 : decode cX5_reader 66 = .ok (.iload_n 2, 1) := by decide +kernel
theorem dX5_reader_67 : decode cX5_reader 67 = .ok (.iconst 2, 1) := by decide +kernel
theorem dX5_reader_68 : decode cX5_reader 68 = .ok (.if_icmp .ne 15, 3) := by decide +kernel
theorem dX5_reader_71 : decode cX5_reader 71 = .ok (.aload_n 0, 1) := by decide +kernel
theorem dX5_reader_72 : decode cX5_reader 72 = .ok (.getfield 16, 3) := by decide +kernel
theorem dX5_reader_75 : decode cX5_reader 75 = .ok (.bipush 50, 2) := by decide +kernel
theorem dX5_reader_77 : decode cX5_reader 77 = .ok (.iload_n 1, 1) := by decide +kernel
theorem dX5_reader_78 : decode cX5_reader 78 = .ok (.iadd, 1) := by decide +kernel
theorem dX5_reader_79 : decode cX5_reader 79 = .ok (.iaload, 1) := by decide +kernel
theorem dX5_reader_80 : decode cX5_reader 80 = .ok (.goto 12, 3) := by decide +kernel
theorem dX5_reader_83 : decode cX5_reader 83 = .ok (.aload_n 0, 1) := by decide +kernel
theorem dX5_reader_84 : decode cX5_reader 84 = .ok (.getfield 16, 3) := by decide +kernel
theorem dX5_reader_87 : decode cX5_reader 87 = .ok (.bipush 54, 2) := by decide +kernel
theorem dX5_reader_89 : decode cX5_reader 89 = .ok (.iload_n 1, 1) := by decide +kernel
theorem dX5_reader_90 : decode cX5_reader 90 = .ok (.iadd, 1) := by decide +kernel
theorem dX5_reader_91 : decode cX5_reader 91 = .ok (.iaload, 1) := by decide +kernel
theorem dX5_reader_92 : decode cX5_reader 92 = .ok (.ireturn, 1) := by decide +kernel
set_option maxRecDepth 20000 in
theorem ggX5_delivered_X5_in : GoodIn wsX5_delivered wsX5_in := goodIn_r _ [7] (by decide +kernel) (by decide +kernel)
set_option maxRecDepth 20000 in
theorem gX5_delivered_X5_in : GoodIn wsX5_delivered (va_wsS RX5 111 yX5_in wsX5_in) := goodIn_app (goodIn_of _ (by decide +kernel)) ggX5_delivered_X5_in
set_option maxRecDepth 20000 in
theorem ggX5_delivered_X5_refused : GoodIn wsX5_delivered wsX5_refused := goodIn_r _ [11, 12, 13, 14, 15, 16, 17, 18, 19, 20, 21, 22, 23, 24, 25, 26, 27, 28] (by decide +kernel) (by decide +kernel)
set_option maxRecDepth 20000 in
theorem gX5_delivered_X5_refused : GoodIn wsX5_delivered (wsV RX5 118 RX5 yX5_refused wsX5_refused) := goodIn_app (goodIn_of _ (by decide +kernel)) ggX5_delivered_X5_refused
theorem dX5_delivered_0 : decode cX5_delivered 0 = .ok (.aload_n 0, 1) := by decide +kernel
theorem dX5_delivered_1 : decode cX5_delivered 1 = .ok (.iload_n 1, 1) := by decide +kernel
theorem dX5_delivered_2 : decode cX5_delivered 2 = .ok (.i2l, 1) := by decide +kernel
theorem dX5_delivered_3 : decode cX5_delivered 3 = .ok (.lconst 0, 1) := by decide +kernel
theorem dX5_delivered_4 : decode cX5_delivered 4 = .ok (.ldc2_w 128, 3) := by decide +kernel
theorem dX5_delivered_7 : decode cX5_delivered 7 = .ok (.invokestatic 111, 3) := by decide +kernel
theorem dX5_delivered_10 : decode cX5_delivered 10 = .ok (.ifCond .eq 19, 3) := by decide +kernel
theorem dX5_delivered_13 : decode cX5_delivered 13 = .ok (.iload_n 2, 1) := by decide +kernel
theorem dX5_delivered_14 : decode cX5_delivered 14 = .ok (.i2l, 1) := by decide +kernel
theorem dX5_delivered_15 : decode cX5_delivered 15 = .ok (.lconst 0, 1) := by decide +kernel
theorem dX5_delivered_16 : decode cX5_delivered 16 = .ok (.ldc2_w 183, 3) := by decide +kernel
theorem dX5_delivered_19 : decode cX5_delivered 19 = .ok (.invokestatic 111, 3) := by decide +kernel
theorem dX5_delivered_22 : decode cX5_delivered 22 = .ok (.ifCond .eq 7, 3) := by decide +kernel
theorem dX5_delivered_25 : decode cX5_delivered 25 = .ok (.iconst 0, 1) := by decide +kernel
theorem dX5_delivered_26 : decode cX5_delivered 26 = .ok (.goto 4, 3) := by decide +kernel
theorem dX5_delivered_29 : decode cX5_delivered 29 = .ok (.iconst 1, 1) := by decide +kernel
theorem dX5_delivered_30 : decode cX5_delivered 30 = .ok (.invokevirtual 118, 3) := by decide +kernel
theorem dX5_delivered_33 : decode cX5_delivered 33 = .ok (.ifCond .eq 5, 3) := by decide +kernel
theorem dX5_delivered_36 : decode cX5_delivered 36 = .ok (.iconst 0, 1) := by decide +kernel
theorem dX5_delivered_37 : decode cX5_delivered 37 = .ok (.ireturn, 1) := by decide +kernel
theorem dX5_delivered_38 : decode cX5_delivered 38 = .ok (.iload_n 1, 1) := by decide +kernel
theorem dX5_delivered_39 : decode cX5_delivered 39 = .ok (.aload_n 0, 1) := by decide +kernel
theorem dX5_delivered_40 : decode cX5_delivered 40 = .ok (.getfield 16, 3) := by decide +kernel
theorem dX5_delivered_43 : decode cX5_delivered 43 = .ok (.bipush 58, 2) := by decide +kernel
theorem dX5_delivered_45 : decode cX5_delivered 45 = .ok (.iaload, 1) := by decide +kernel
theorem dX5_delivered_46 : decode cX5_delivered 46 = .ok (.if_icmp .ge 19, 3) := by decide +kernel
theorem dX5_delivered_49 : decode cX5_delivered 49 = .ok (.aload_n 0, 1) := by decide +kernel
theorem dX5_delivered_50 : decode cX5_delivered 50 = .ok (.getfield 16, 3) := by decide +kernel
theorem dX5_delivered_53 : decode cX5_delivered 53 = .ok (.bipush 59, 2) := by decide +kernel
theorem dX5_delivered_55 : decode cX5_delivered 55 = .ok (.iconst 5, 1) := by decide +kernel
theorem dX5_delivered_56 : decode cX5_delivered 56 = .ok (.iload_n 1, 1) := by decide +kernel
theorem dX5_delivered_57 : decode cX5_delivered 57 = .ok (.imul, 1) := by decide +kernel
theorem dX5_delivered_58 : decode cX5_delivered 58 = .ok (.iadd, 1) := by decide +kernel
theorem dX5_delivered_59 : decode cX5_delivered 59 = .ok (.iload_n 2, 1) := by decide +kernel
theorem dX5_delivered_60 : decode cX5_delivered 60 = .ok (.iadd, 1) := by decide +kernel
theorem dX5_delivered_61 : decode cX5_delivered 61 = .ok (.iaload, 1) := by decide +kernel
theorem dX5_delivered_62 : decode cX5_delivered 62 = .ok (.goto 4, 3) := by decide +kernel
theorem dX5_delivered_65 : decode cX5_delivered 65 = .ok (.iconst (-1), 1) := by decide +kernel
theorem dX5_delivered_66 : decode cX5_delivered 66 = .ok (.ireturn, 1) := by decide +kernel
set_option maxRecDepth 20000 in
theorem ggX5_setting_X5_in : GoodIn wsX5_setting wsX5_in := goodIn_r _ [6] (by decide +kernel) (by decide +kernel)
set_option maxRecDepth 20000 in
theorem gX5_setting_X5_in : GoodIn wsX5_setting (va_wsS RX5 111 yX5_in wsX5_in) := goodIn_app (goodIn_of _ (by decide +kernel)) ggX5_setting_X5_in
set_option maxRecDepth 20000 in
theorem ggX5_setting_X5_refused : GoodIn wsX5_setting wsX5_refused := goodIn_r _ [10, 11, 12, 13, 14, 15, 16, 17, 18, 19, 20, 21, 22, 23, 24, 25, 26, 27] (by decide +kernel) (by decide +kernel)
set_option maxRecDepth 20000 in
theorem gX5_setting_X5_refused : GoodIn wsX5_setting (wsV RX5 118 RX5 yX5_refused wsX5_refused) := goodIn_app (goodIn_of _ (by decide +kernel)) ggX5_setting_X5_refused
theorem dX5_setting_0 : decode cX5_setting 0 = .ok (.aload_n 0, 1) := by decide +kernel
theorem dX5_setting_1 : decode cX5_setting 1 = .ok (.iload_n 1, 1) := by decide +kernel
theorem dX5_setting_2 : decode cX5_setting 2 = .ok (.i2l, 1) := by decide +kernel
theorem dX5_setting_3 : decode cX5_setting 3 = .ok (.lconst 0, 1) := by decide +kernel
theorem dX5_setting_4 : decode cX5_setting 4 = .ok (.ldc2_w 183, 3) := by decide +kernel
theorem dX5_setting_7 : decode cX5_setting 7 = .ok (.invokestatic 111, 3) := by decide +kernel
theorem dX5_setting_10 : decode cX5_setting 10 = .ok (.ifCond .eq 7, 3) := by decide +kernel
theorem dX5_setting_13 : decode cX5_setting 13 = .ok (.iconst 0, 1) := by decide +kernel
theorem dX5_setting_14 : decode cX5_setting 14 = .ok (.goto 4, 3) := by decide +kernel
theorem dX5_setting_17 : decode cX5_setting 17 = .ok (.iconst 1, 1) := by decide +kernel
theorem dX5_setting_18 : decode cX5_setting 18 = .ok (.invokevirtual 118, 3) := by decide +kernel
theorem dX5_setting_21 : decode cX5_setting 21 = .ok (.ifCond .eq 7, 3) := by decide +kernel
theorem dX5_setting_24 : decode cX5_setting 24 = .ok (.iconst 0, 1) := by decide +kernel
theorem dX5_setting_25 : decode cX5_setting 25 = .ok (.goto 9, 3) := by decide +kernel
theorem dX5_setting_28 : decode cX5_setting 28 = .ok (.aload_n 0, 1) := by decide +kernel
theorem dX5_setting_29 : decode cX5_setting 29 = .ok (.getfield 16, 3) := by decide +kernel
theorem dX5_setting_32 : decode cX5_setting 32 = .ok (.iload_n 1, 1) := by decide +kernel
theorem dX5_setting_33 : decode cX5_setting 33 = .ok (.iaload, 1) := by decide +kernel
theorem dX5_setting_34 : decode cX5_setting 34 = .ok (.ireturn, 1) := by decide +kernel
set_option maxRecDepth 20000 in
theorem ggX5_isFee_X5_in : GoodIn wsX5_isFee wsX5_in := goodIn_r _ [5] (by decide +kernel) (by decide +kernel)
set_option maxRecDepth 20000 in
theorem gX5_isFee_X5_in : GoodIn wsX5_isFee (va_wsS RX5 111 yX5_in wsX5_in) := goodIn_app (goodIn_of _ (by decide +kernel)) ggX5_isFee_X5_in
theorem dX5_isFee_0 : decode cX5_isFee 0 = .ok (.iload_n 0, 1) := by decide +kernel
theorem dX5_isFee_1 : decode cX5_isFee 1 = .ok (.i2l, 1) := by decide +kernel
theorem dX5_isFee_2 : decode cX5_isFee 2 = .ok (.lconst 0, 1) := by decide +kernel
theorem dX5_isFee_3 : decode cX5_isFee 3 = .ok (.ldc2_w 128, 3) := by decide +kernel
theorem dX5_isFee_6 : decode cX5_isFee 6 = .ok (.invokestatic 111, 3) := by decide +kernel
theorem dX5_isFee_9 : decode cX5_isFee 9 = .ok (.ireturn, 1) := by decide +kernel
set_option maxRecDepth 20000 in
theorem ggX5_ask_X5_isReader : GoodIn wsX5_ask wsX5_isReader := goodIn_r _ [6, 7, 8, 9, 5, 10] (by decide +kernel) (by decide +kernel)
set_option maxRecDepth 20000 in
theorem gX5_ask_X5_isReader : GoodIn wsX5_ask (va_wsS RX5 192 yX5_isReader wsX5_isReader) := goodIn_app (goodIn_of _ (by decide +kernel)) ggX5_ask_X5_isReader
set_option maxRecDepth 20000 in
theorem ggX5_ask_X5_isLot : GoodIn wsX5_ask wsX5_isLot := goodIn_r _ [13, 14, 8, 9, 5, 10] (by decide +kernel) (by decide +kernel)
set_option maxRecDepth 20000 in
theorem gX5_ask_X5_isLot : GoodIn wsX5_ask (va_wsS RX5 187 yX5_isLot wsX5_isLot) := goodIn_app (goodIn_of _ (by decide +kernel)) ggX5_ask_X5_isLot
set_option maxRecDepth 20000 in
theorem ggX5_ask_X5_in : GoodIn wsX5_ask wsX5_in := goodIn_r _ [10] (by decide +kernel) (by decide +kernel)
set_option maxRecDepth 20000 in
theorem gX5_ask_X5_in : GoodIn wsX5_ask (va_wsS RX5 111 yX5_in wsX5_in) := goodIn_app (goodIn_of _ (by decide +kernel)) ggX5_ask_X5_in
set_option maxRecDepth 20000 in
theorem ggX5_ask_X5_isFee : GoodIn wsX5_ask wsX5_isFee := goodIn_r _ [17, 18, 8, 9, 5, 10] (by decide +kernel) (by decide +kernel)
set_option maxRecDepth 20000 in
theorem gX5_ask_X5_isFee : GoodIn wsX5_ask (va_wsS RX5 200 yX5_isFee wsX5_isFee) := goodIn_app (goodIn_of _ (by decide +kernel)) ggX5_ask_X5_isFee
set_option maxRecDepth 20000 in
theorem ggX5_ask_X5_canAsk : GoodIn wsX5_ask wsX5_canAsk := goodIn_r _ [21, 22, 23, 5, 24] (by decide +kernel) (by decide +kernel)
set_option maxRecDepth 20000 in
theorem gX5_ask_X5_canAsk : GoodIn wsX5_ask (va_wsS RX5 137 yX5_canAsk wsX5_canAsk) := goodIn_app (goodIn_of _ (by decide +kernel)) ggX5_ask_X5_canAsk
set_option maxRecDepth 20000 in
theorem ggX5_ask_X5_refused : GoodIn wsX5_ask wsX5_refused := goodIn_r _ [28, 29, 54, 55, 56, 57, 58, 59, 60, 61, 62, 63, 64, 65, 66, 67, 68, 69] (by decide +kernel) (by decide +kernel)
set_option maxRecDepth 20000 in
theorem gX5_ask_X5_refused : GoodIn wsX5_ask (wsV RX5 118 RX5 yX5_refused wsX5_refused) := goodIn_app (goodIn_of _ (by decide +kernel)) ggX5_ask_X5_refused
set_option maxRecDepth 20000 in
theorem ggX5_ask_X5_remember : GoodIn wsX5_ask wsX5_remember := goodIn_r _ [33, 34, 35, 2, 36, 37, 5, 38, 54, 55, 56, 57, 58, 59, 60, 61, 62, 63, 64, 65, 66, 67, 68, 69] (by decide +kernel) (by decide +kernel)
set_option maxRecDepth 20000 in
theorem gX5_ask_X5_remember : GoodIn wsX5_ask (wsV RX5 203 RX5 yX5_remember wsX5_remember) := goodIn_app (goodIn_of _ (by decide +kernel)) ggX5_ask_X5_remember
set_option maxRecDepth 20000 in
theorem ggX5_ask_X5_askIn : GoodIn wsX5_ask wsX5_askIn := goodIn_r _ [41, 22, 23, 5, 24, 42, 43, 44, 45, 46, 47, 48, 49, 50, 51, 52, 53] (by decide +kernel) (by decide +kernel)
set_option maxRecDepth 20000 in
theorem gX5_ask_X5_askIn : GoodIn wsX5_ask (va_wsS RX5 144 yX5_askIn wsX5_askIn) := goodIn_app (goodIn_of _ (by decide +kernel)) ggX5_ask_X5_askIn
theorem dX5_ask_0 : decode cX5_ask 0 = .ok (.iload_n 1, 1) := by decide +kernel
theorem dX5_ask_1 : decode cX5_ask 1 = .ok (.invokestatic 192, 3) := by decide +kernel
theorem dX5_ask_4 : decode cX5_ask 4 = .ok (.ifCond .eq 14, 3) := by decide +kernel
theorem dX5_ask_7 : decode cX5_ask 7 = .ok (.iload_n 2, 1) := by decide +kernel
theorem dX5_ask_8 : decode cX5_ask 8 = .ok (.invokestatic 187, 3) := by decide +kernel
theorem dX5_ask_11 : decode cX5_ask 11 = .ok (.ifCond .eq 7, 3) := by decide +kernel
theorem dX5_ask_14 : decode cX5_ask 14 = .ok (.iconst 1, 1) := by decide +kernel
theorem dX5_ask_15 : decode cX5_ask 15 = .ok (.goto 4, 3) := by decide +kernel
theorem dX5_ask_18 : decode cX5_ask 18 = .ok (.iconst 0, 1) := by decide +kernel
theorem dX5_ask_19 : decode cX5_ask 19 = .ok (.istore 5, 2) := by decide +kernel
theorem dX5_ask_21 : decode cX5_ask 21 = .ok (.iload_n 3, 1) := by decide +kernel
theorem dX5_ask_22 : decode cX5_ask 22 = .ok (.i2l, 1) := by decide +kernel
theorem dX5_ask_23 : decode cX5_ask 23 = .ok (.lconst 0, 1) := by decide +kernel
theorem dX5_ask_24 : decode cX5_ask 24 = .ok (.ldc2_w 198, 3) := by decide +kernel
theorem dX5_ask_27 : decode cX5_ask 27 = .ok (.invokestatic 111, 3) := by decide +kernel
theorem dX5_ask_30 : decode cX5_ask 30 = .ok (.ifCond .eq 15, 3) := by decide +kernel
theorem dX5_ask_33 : decode cX5_ask 33 = .ok (.iload 4, 2) := by decide +kernel
theorem dX5_ask_35 : decode cX5_ask 35 = .ok (.invokestatic 200, 3) := by decide +kernel
theorem dX5_ask_38 : decode cX5_ask 38 = .ok (.ifCond .eq 7, 3) := by decide +kernel
theorem dX5_ask_41 : decode cX5_ask 41 = .ok (.iconst 1, 1) := by decide +kernel
theorem dX5_ask_42 : decode cX5_ask 42 = .ok (.goto 4, 3) := by decide +kernel
theorem dX5_ask_45 : decode cX5_ask 45 = .ok (.iconst 0, 1) := by decide +kernel
theorem dX5_ask_46 : decode cX5_ask 46 = .ok (.istore 6, 2) := by decide +kernel
theorem dX5_ask_48 : decode cX5_ask 48 = .ok (.aload_n 0, 1) := by decide +kernel
theorem dX5_ask_49 : decode cX5_ask 49 = .ok (.iload 5, 2) := by decide +kernel
theorem dX5_ask_51 : decode cX5_ask 51 = .ok (.ifCond .ne 7, 3) := by decide +kernel
theorem dX5_ask_54 : decode cX5_ask 54 = .ok (.iconst 1, 1) := by decide +kernel
theorem dX5_ask_55 : decode cX5_ask 55 = .ok (.goto 31, 3) := by decide +kernel
theorem dX5_ask_58 : decode cX5_ask 58 = .ok (.iload 6, 2) := by decide +kernel
theorem dX5_ask_60 : decode cX5_ask 60 = .ok (.ifCond .ne 7, 3) := by decide +kernel
theorem dX5_ask_63 : decode cX5_ask 63 = .ok (.iconst 2, 1) := by decide +kernel
theorem dX5_ask_64 : decode cX5_ask 64 = .ok (.goto 22, 3) := by decide +kernel
theorem dX5_ask_67 : decode cX5_ask 67 = .ok (.aload_n 0, 1) := by decide +kernel
theorem dX5_ask_68 : decode cX5_ask 68 = .ok (.getfield 16, 3) := by decide +kernel
theorem dX5_ask_71 : decode cX5_ask 71 = .ok (.iload_n 1, 1) := by decide +kernel
theorem dX5_ask_72 : decode cX5_ask 72 = .ok (.iload_n 2, 1) := by decide +kernel
theorem dX5_ask_73 : decode cX5_ask 73 = .ok (.iload 4, 2) := by decide +kernel
theorem dX5_ask_75 : decode cX5_ask 75 = .ok (.invokestatic 137, 3) := by decide +kernel
theorem dX5_ask_78 : decode cX5_ask 78 = .ok (.ifCond .eq 7, 3) := by decide +kernel
theorem dX5_ask_81 : decode cX5_ask 81 = .ok (.iconst 0, 1) := by decide +kernel
theorem dX5_ask_82 : decode cX5_ask 82 = .ok (.goto 4, 3) := by decide +kernel
theorem dX5_ask_85 : decode cX5_ask 85 = .ok (.iconst 3, 1) := by decide +kernel
theorem dX5_ask_86 : decode cX5_ask 86 = .ok (.invokevirtual 118, 3) := by decide +kernel
theorem dX5_ask_89 : decode cX5_ask 89 = .ok (.ifCond .eq 5, 3) := by decide +kernel
theorem dX5_ask_92 : decode cX5_ask 92 = .ok (.iconst 0, 1) := by decide +kernel
theorem dX5_ask_93 : decode cX5_ask 93 = .ok (.ireturn, 1) := by decide +kernel
theorem dX5_ask_94 : decode cX5_ask 94 = .ok (.aload_n 0, 1) := by decide +kernel
theorem dX5_ask_95 : decode cX5_ask 95 = .ok (.invokevirtual 203, 3) := by decide +kernel
theorem dX5_ask_98 : decode cX5_ask 98 = .ok (.aload_n 0, 1) := by decide +kernel
theorem dX5_ask_99 : decode cX5_ask 99 = .ok (.getfield 16, 3) := by decide +kernel
theorem dX5_ask_102 : decode cX5_ask 102 = .ok (.iload_n 1, 1) := by decide +kernel
theorem dX5_ask_103 : decode cX5_ask 103 = .ok (.iload_n 2, 1) := by decide +kernel
theorem dX5_ask_104 : decode cX5_ask 104 = .ok (.iload_n 3, 1) := by decide +kernel
theorem dX5_ask_105 : decode cX5_ask 105 = .ok (.iload 4, 2) := by decide +kernel
theorem dX5_ask_107 : decode cX5_ask 107 = .ok (.invokestatic 144, 3) := by decide +kernel
theorem dX5_ask_110 : decode cX5_ask 110 = .ok (.ireturn, 1) := by decide +kernel
set_option maxRecDepth 20000 in
theorem ggX5_cancel_X5_isOrder : GoodIn wsX5_cancel wsX5_isOrder := goodIn_r _ [6, 1, 7, 8, 5, 9, 36, 37, 38, 39, 40, 41, 42, 43, 44, 45, 46, 47, 48, 49, 50, 51] (by decide +kernel) (by decide +kernel)
set_option maxRecDepth 20000 in
theorem gX5_cancel_X5_isOrder : GoodIn wsX5_cancel (wsV RX5 180 RX5 yX5_isOrder wsX5_isOrder) := goodIn_app (goodIn_of _ (by decide +kernel)) ggX5_cancel_X5_isOrder
set_option maxRecDepth 20000 in
theorem ggX5_cancel_X5_refused : GoodIn wsX5_cancel wsX5_refused := goodIn_r _ [13, 14, 36, 37, 38, 39, 40, 41, 42, 43, 44, 45, 46, 47, 48, 49, 50, 51] (by decide +kernel) (by decide +kernel)
set_option maxRecDepth 20000 in
theorem gX5_cancel_X5_refused : GoodIn wsX5_cancel (wsV RX5 118 RX5 yX5_refused wsX5_refused) := goodIn_app (goodIn_of _ (by decide +kernel)) ggX5_cancel_X5_refused
set_option maxRecDepth 20000 in
theorem ggX5_cancel_X5_remember : GoodIn wsX5_cancel wsX5_remember := goodIn_r _ [18, 19, 20, 1, 21, 22, 5, 23, 36, 37, 38, 39, 40, 41, 42, 43, 44, 45, 46, 47, 48, 49, 50, 51] (by decide +kernel) (by decide +kernel)
set_option maxRecDepth 20000 in
theorem gX5_cancel_X5_remember : GoodIn wsX5_cancel (wsV RX5 203 RX5 yX5_remember wsX5_remember) := goodIn_app (goodIn_of _ (by decide +kernel)) ggX5_cancel_X5_remember
set_option maxRecDepth 20000 in
theorem ggX5_cancel_X5_cancelIn : GoodIn wsX5_cancel wsX5_cancelIn := goodIn_r _ [26, 27, 28, 5, 29, 30, 31, 32, 33, 34, 35, 21, 22, 23] (by decide +kernel) (by decide +kernel)
set_option maxRecDepth 20000 in
theorem gX5_cancel_X5_cancelIn : GoodIn wsX5_cancel (va_wsS RX5 148 yX5_cancelIn wsX5_cancelIn) := goodIn_app (goodIn_of _ (by decide +kernel)) ggX5_cancel_X5_cancelIn
theorem dX5_cancel_0 : decode cX5_cancel 0 = .ok (.aload_n 0, 1) := by decide +kernel
theorem dX5_cancel_1 : decode cX5_cancel 1 = .ok (.aload_n 0, 1) := by decide +kernel
theorem dX5_cancel_2 : decode cX5_cancel 2 = .ok (.iload_n 1, 1) := by decide +kernel
theorem dX5_cancel_3 : decode cX5_cancel 3 = .ok (.invokevirtual 180, 3) := by decide +kernel
theorem dX5_cancel_6 : decode cX5_cancel 6 = .ok (.ifCond .eq 7, 3) := by decide +kernel
theorem dX5_cancel_9 : decode cX5_cancel 9 = .ok (.iconst 0, 1) := by decide +kernel
theorem dX5_cancel_10 : decode cX5_cancel 10 = .ok (.goto 4, 3) := by decide +kernel
theorem dX5_cancel_13 : decode cX5_cancel 13 = .ok (.iconst 1, 1) := by decide +kernel
theorem dX5_cancel_14 : decode cX5_cancel 14 = .ok (.invokevirtual 118, 3) := by decide +kernel
theorem dX5_cancel_17 : decode cX5_cancel 17 = .ok (.ifCond .eq 5, 3) := by decide +kernel
theorem dX5_cancel_20 : decode cX5_cancel 20 = .ok (.iconst 0, 1) := by decide +kernel
theorem dX5_cancel_21 : decode cX5_cancel 21 = .ok (.ireturn, 1) := by decide +kernel
theorem dX5_cancel_22 : decode cX5_cancel 22 = .ok (.aload_n 0, 1) := by decide +kernel
theorem dX5_cancel_23 : decode cX5_cancel 23 = .ok (.invokevirtual 203, 3) := by decide +kernel
theorem dX5_cancel_26 : decode cX5_cancel 26 = .ok (.aload_n 0, 1) := by decide +kernel
theorem dX5_cancel_27 : decode cX5_cancel 27 = .ok (.getfield 16, 3) := by decide +kernel
theorem dX5_cancel_30 : decode cX5_cancel 30 = .ok (.iload_n 1, 1) := by decide +kernel
theorem dX5_cancel_31 : decode cX5_cancel 31 = .ok (.invokestatic 148, 3) := by decide +kernel
theorem dX5_cancel_34 : decode cX5_cancel 34 = .ok (.ireturn, 1) := by decide +kernel
set_option maxRecDepth 20000 in
theorem ggX5_isRaise_X5_in : GoodIn wsX5_isRaise wsX5_in := goodIn_r _ [5] (by decide +kernel) (by decide +kernel)
set_option maxRecDepth 20000 in
theorem gX5_isRaise_X5_in : GoodIn wsX5_isRaise (va_wsS RX5 111 yX5_in wsX5_in) := goodIn_app (goodIn_of _ (by decide +kernel)) ggX5_isRaise_X5_in
theorem dX5_isRaise_0 : decode cX5_isRaise 0 = .ok (.iload_n 0, 1) := by decide +kernel
theorem dX5_isRaise_1 : decode cX5_isRaise 1 = .ok (.i2l, 1) := by decide +kernel
theorem dX5_isRaise_2 : decode cX5_isRaise 2 = .ok (.lconst 1, 1) := by decide +kernel
theorem dX5_isRaise_3 : decode cX5_isRaise 3 = .ok (.ldc2_w 128, 3) := by decide +kernel
theorem dX5_isRaise_6 : decode cX5_isRaise 6 = .ok (.invokestatic 111, 3) := by decide +kernel
theorem dX5_isRaise_9 : decode cX5_isRaise 9 = .ok (.ireturn, 1) := by decide +kernel
set_option maxRecDepth 20000 in
theorem ggX5_raise_X5_isOrder : GoodIn wsX5_raise wsX5_isOrder := goodIn_r _ [6, 1, 7, 8, 5, 9, 37, 38, 39, 40, 41, 42, 43, 44, 45, 46, 47, 48, 49, 50, 51, 52] (by decide +kernel) (by decide +kernel)
set_option maxRecDepth 20000 in
theorem gX5_raise_X5_isOrder : GoodIn wsX5_raise (wsV RX5 180 RX5 yX5_isOrder wsX5_isOrder) := goodIn_app (goodIn_of _ (by decide +kernel)) ggX5_raise_X5_isOrder
set_option maxRecDepth 20000 in
theorem ggX5_raise_X5_isRaise : GoodIn wsX5_raise wsX5_isRaise := goodIn_r _ [12, 13, 7, 8, 5, 9] (by decide +kernel) (by decide +kernel)
set_option maxRecDepth 20000 in
theorem gX5_raise_X5_isRaise : GoodIn wsX5_raise (va_wsS RX5 206 yX5_isRaise wsX5_isRaise) := goodIn_app (goodIn_of _ (by decide +kernel)) ggX5_raise_X5_isRaise
set_option maxRecDepth 20000 in
theorem ggX5_raise_X5_canRaise : GoodIn wsX5_raise wsX5_canRaise := goodIn_r _ [16, 17, 18, 5, 19] (by decide +kernel) (by decide +kernel)
set_option maxRecDepth 20000 in
theorem gX5_raise_X5_canRaise : GoodIn wsX5_raise (va_wsS RX5 209 yX5_canRaise wsX5_canRaise) := goodIn_app (goodIn_of _ (by decide +kernel)) ggX5_raise_X5_canRaise
set_option maxRecDepth 20000 in
theorem ggX5_raise_X5_refused : GoodIn wsX5_raise wsX5_refused := goodIn_r _ [23, 24, 37, 38, 39, 40, 41, 42, 43, 44, 45, 46, 47, 48, 49, 50, 51, 52] (by decide +kernel) (by decide +kernel)
set_option maxRecDepth 20000 in
theorem gX5_raise_X5_refused : GoodIn wsX5_raise (wsV RX5 118 RX5 yX5_refused wsX5_refused) := goodIn_app (goodIn_of _ (by decide +kernel)) ggX5_raise_X5_refused
set_option maxRecDepth 20000 in
theorem ggX5_raise_X5_remember : GoodIn wsX5_raise wsX5_remember := goodIn_r _ [28, 29, 30, 1, 31, 32, 5, 33, 37, 38, 39, 40, 41, 42, 43, 44, 45, 46, 47, 48, 49, 50, 51, 52] (by decide +kernel) (by decide +kernel)
set_option maxRecDepth 20000 in
theorem gX5_raise_X5_remember : GoodIn wsX5_raise (wsV RX5 203 RX5 yX5_remember wsX5_remember) := goodIn_app (goodIn_of _ (by decide +kernel)) ggX5_raise_X5_remember
set_option maxRecDepth 20000 in
theorem ggX5_raise_X5_raiseIn : GoodIn wsX5_raise wsX5_raiseIn := goodIn_r _ [36, 17, 18, 5, 19] (by decide +kernel) (by decide +kernel)
set_option maxRecDepth 20000 in
theorem gX5_raise_X5_raiseIn : GoodIn wsX5_raise (va_wsS RX5 213 yX5_raiseIn wsX5_raiseIn) := goodIn_app (goodIn_of _ (by decide +kernel)) ggX5_raise_X5_raiseIn
theorem dX5_raise_0 : decode cX5_raise 0 = .ok (.aload_n 0, 1) := by decide +kernel
theorem dX5_raise_1 : decode cX5_raise 1 = .ok (.aload_n 0, 1) := by decide +kernel
theorem dX5_raise_2 : decode cX5_raise 2 = .ok (.iload_n 1, 1) := by decide +kernel
theorem dX5_raise_3 : decode cX5_raise 3 = .ok (.invokevirtual 180, 3) := by decide +kernel
theorem dX5_raise_6 : decode cX5_raise 6 = .ok (.ifCond .ne 7, 3) := by decide +kernel
theorem dX5_raise_9 : decode cX5_raise 9 = .ok (.iconst 1, 1) := by decide +kernel
theorem dX5_raise_10 : decode cX5_raise 10 = .ok (.goto 31, 3) := by decide +kernel
theorem dX5_raise_13 : decode cX5_raise 13 = .ok (.iload_n 2, 1) := by decide +kernel
theorem dX5_raise_14 : decode cX5_raise 14 = .ok (.invokestatic 206, 3) := by decide +kernel
theorem dX5_raise_17 : decode cX5_raise 17 = .ok (.ifCond .ne 7, 3) := by decide +kernel
theorem dX5_raise_20 : decode cX5_raise 20 = .ok (.iconst 2, 1) := by decide +kernel
theorem dX5_raise_21 : decode cX5_raise 21 = .ok (.goto 20, 3) := by decide +kernel
theorem dX5_raise_24 : decode cX5_raise 24 = .ok (.aload_n 0, 1) := by decide +kernel
theorem dX5_raise_25 : decode cX5_raise 25 = .ok (.getfield 16, 3) := by decide +kernel
theorem dX5_raise_28 : decode cX5_raise 28 = .ok (.iload_n 1, 1) := by decide +kernel
theorem dX5_raise_29 : decode cX5_raise 29 = .ok (.iload_n 2, 1) := by decide +kernel
theorem dX5_raise_30 : decode cX5_raise 30 = .ok (.invokestatic 209, 3) := by decide +kernel
theorem dX5_raise_33 : decode cX5_raise 33 = .ok (.ifCond .eq 7, 3) := by decide +kernel
theorem dX5_raise_36 : decode cX5_raise 36 = .ok (.iconst 0, 1) := by decide +kernel
theorem dX5_raise_37 : decode cX5_raise 37 = .ok (.goto 4, 3) := by decide +kernel
theorem dX5_raise_40 : decode cX5_raise 40 = .ok (.iconst 3, 1) := by decide +kernel
theorem dX5_raise_41 : decode cX5_raise 41 = .ok (.invokevirtual 118, 3) := by decide +kernel
theorem dX5_raise_44 : decode cX5_raise 44 = .ok (.ifCond .eq 5, 3) := by decide +kernel
theorem dX5_raise_47 : decode cX5_raise 47 = .ok (.iconst 0, 1) := by decide +kernel
theorem dX5_raise_48 : decode cX5_raise 48 = .ok (.ireturn, 1) := by decide +kernel
theorem dX5_raise_49 : decode cX5_raise 49 = .ok (.aload_n 0, 1) := by decide +kernel
theorem dX5_raise_50 : decode cX5_raise 50 = .ok (.invokevirtual 203, 3) := by decide +kernel
theorem dX5_raise_53 : decode cX5_raise 53 = .ok (.aload_n 0, 1) := by decide +kernel
theorem dX5_raise_54 : decode cX5_raise 54 = .ok (.getfield 16, 3) := by decide +kernel
theorem dX5_raise_57 : decode cX5_raise 57 = .ok (.iload_n 1, 1) := by decide +kernel
theorem dX5_raise_58 : decode cX5_raise 58 = .ok (.iload_n 2, 1) := by decide +kernel
theorem dX5_raise_59 : decode cX5_raise 59 = .ok (.invokestatic 213, 3) := by decide +kernel
theorem dX5_raise_62 : decode cX5_raise 62 = .ok (.ireturn, 1) := by decide +kernel
set_option maxRecDepth 20000 in
theorem ggX5_isNights_X5_in : GoodIn wsX5_isNights wsX5_in := goodIn_r _ [5] (by decide +kernel) (by decide +kernel)
set_option maxRecDepth 20000 in
theorem gX5_isNights_X5_in : GoodIn wsX5_isNights (va_wsS RX5 111 yX5_in wsX5_in) := goodIn_app (goodIn_of _ (by decide +kernel)) ggX5_isNights_X5_in
theorem dX5_isNights_0 : decode cX5_isNights 0 = .ok (.iload_n 0, 1) := by decide +kernel
theorem dX5_isNights_1 : decode cX5_isNights 1 = .ok (.i2l, 1) := by decide +kernel
theorem dX5_isNights_2 : decode cX5_isNights 2 = .ok (.lconst 1, 1) := by decide +kernel
theorem dX5_isNights_3 : decode cX5_isNights 3 = .ok (.ldc2_w 217, 3) := by decide +kernel
theorem dX5_isNights_6 : decode cX5_isNights 6 = .ok (.invokestatic 111, 3) := by decide +kernel
theorem dX5_isNights_9 : decode cX5_isNights 9 = .ok (.ireturn, 1) := by decide +kernel
set_option maxRecDepth 20000 in
theorem ggX5_nights_X5_isNights : GoodIn wsX5_nights wsX5_isNights := goodIn_r _ [5, 6, 7, 8, 4, 9] (by decide +kernel) (by decide +kernel)
set_option maxRecDepth 20000 in
theorem gX5_nights_X5_isNights : GoodIn wsX5_nights (va_wsS RX5 219 yX5_isNights wsX5_isNights) := goodIn_app (goodIn_of _ (by decide +kernel)) ggX5_nights_X5_isNights
set_option maxRecDepth 20000 in
theorem ggX5_nights_X5_refused : GoodIn wsX5_nights wsX5_refused := goodIn_r _ [13, 14, 72, 73, 74, 75, 76, 77, 78, 79, 80, 81, 82, 83, 84, 85, 86, 87] (by decide +kernel) (by decide +kernel)
set_option maxRecDepth 20000 in
theorem gX5_nights_X5_refused : GoodIn wsX5_nights (wsV RX5 118 RX5 yX5_refused wsX5_refused) := goodIn_app (goodIn_of _ (by decide +kernel)) ggX5_nights_X5_refused
set_option maxRecDepth 20000 in
theorem ggX5_nights_X5_remember : GoodIn wsX5_nights wsX5_remember := goodIn_r _ [18, 19, 20, 1, 21, 22, 4, 23, 72, 73, 74, 75, 76, 77, 78, 79, 80, 81, 82, 83, 84, 85, 86, 87] (by decide +kernel) (by decide +kernel)
set_option maxRecDepth 20000 in
theorem gX5_nights_X5_remember : GoodIn wsX5_nights (wsV RX5 203 RX5 yX5_remember wsX5_remember) := goodIn_app (goodIn_of _ (by decide +kernel)) ggX5_nights_X5_remember
set_option maxRecDepth 20000 in
theorem ggX5_nights_X5_nightsIn : GoodIn wsX5_nights wsX5_nightsIn := goodIn_r _ [27, 28, 29, 30, 4, 31, 32, 33, 34, 35, 36, 37, 38, 39, 40, 41, 42, 43, 44, 45, 46, 47, 48, 49, 50, 51, 52, 53, 54, 55, 56, 57, 58, 59, 60, 61, 62, 63, 64, 65, 66, 67, 68, 21, 22, 23, 69, 70, 71, 72, 73, 74, 75, 76, 77, 78, 79, 80, 81, 82, 83, 84, 85, 86, 87] (by decide +kernel) (by decide +kernel)
set_option maxRecDepth 20000 in
theorem gX5_nights_X5_nightsIn : GoodIn wsX5_nights (wsV RX5 160 RX5 yX5_nightsIn wsX5_nightsIn) := goodIn_app (goodIn_of _ (by decide +kernel)) ggX5_nights_X5_nightsIn
theorem dX5_nights_0 : decode cX5_nights 0 = .ok (.aload_n 0, 1) := by decide +kernel
theorem dX5_nights_1 : decode cX5_nights 1 = .ok (.iload_n 1, 1) := by decide +kernel
theorem dX5_nights_2 : decode cX5_nights 2 = .ok (.invokestatic 219, 3) := by decide +kernel
theorem dX5_nights_5 : decode cX5_nights 5 = .ok (.ifCond .eq 7, 3) := by decide +kernel
theorem dX5_nights_8 : decode cX5_nights 8 = .ok (.iconst 0, 1) := by decide +kernel
theorem dX5_nights_9 : decode cX5_nights 9 = .ok (.goto 4, 3) := by decide +kernel
theorem dX5_nights_12 : decode cX5_nights 12 = .ok (.iconst 1, 1) := by decide +kernel
theorem dX5_nights_13 : decode cX5_nights 13 = .ok (.invokevirtual 118, 3) := by decide +kernel
theorem dX5_nights_16 : decode cX5_nights 16 = .ok (.ifCond .eq 5, 3) := by decide +kernel
theorem dX5_nights_19 : decode cX5_nights 19 = .ok (.iconst 0, 1) := by decide +kernel
theorem dX5_nights_20 : decode cX5_nights 20 = .ok (.ireturn, 1) := by decide +kernel
theorem dX5_nights_21 : decode cX5_nights 21 = .ok (.aload_n 0, 1) := by decide +kernel
theorem dX5_nights_22 : decode cX5_nights 22 = .ok (.invokevirtual 203, 3) := by decide +kernel
theorem dX5_nights_25 : decode cX5_nights 25 = .ok (.aload_n 0, 1) := by decide +kernel
theorem dX5_nights_26 : decode cX5_nights 26 = .ok (.aload_n 0, 1) := by decide +kernel
theorem dX5_nights_27 : decode cX5_nights 27 = .ok (.getfield 16, 3) := by decide +kernel
theorem dX5_nights_30 : decode cX5_nights 30 = .ok (.iload_n 1, 1) := by decide +kernel
theorem dX5_nights_31 : decode cX5_nights 31 = .ok (.invokevirtual 160, 3) := by decide +kernel
theorem dX5_nights_34 : decode cX5_nights 34 = .ok (.ireturn, 1) := by decide +kernel
set_option maxRecDepth 20000 in
theorem ggX5_give_X5_isReader : GoodIn wsX5_give wsX5_isReader := goodIn_r _ [6, 7, 8, 9, 5, 10] (by decide +kernel) (by decide +kernel)
set_option maxRecDepth 20000 in
theorem gX5_give_X5_isReader : GoodIn wsX5_give (va_wsS RX5 192 yX5_isReader wsX5_isReader) := goodIn_app (goodIn_of _ (by decide +kernel)) ggX5_give_X5_isReader
set_option maxRecDepth 20000 in
theorem ggX5_give_X5_in : GoodIn wsX5_give wsX5_in := goodIn_r _ [10] (by decide +kernel) (by decide +kernel)
set_option maxRecDepth 20000 in
theorem gX5_give_X5_in : GoodIn wsX5_give (va_wsS RX5 111 yX5_in wsX5_in) := goodIn_app (goodIn_of _ (by decide +kernel)) ggX5_give_X5_in
set_option maxRecDepth 20000 in
theorem ggX5_give_X5_refused : GoodIn wsX5_give wsX5_refused := goodIn_r _ [14, 15, 25, 26, 27, 28, 29, 30, 31, 32, 33, 34, 35, 36, 37, 38, 39, 40] (by decide +kernel) (by decide +kernel)
set_option maxRecDepth 20000 in
theorem gX5_give_X5_refused : GoodIn wsX5_give (wsV RX5 118 RX5 yX5_refused wsX5_refused) := goodIn_app (goodIn_of _ (by decide +kernel)) ggX5_give_X5_refused
set_option maxRecDepth 20000 in
theorem ggX5_give_X5_remember : GoodIn wsX5_give wsX5_remember := goodIn_r _ [19, 20, 21, 2, 22, 23, 5, 24, 25, 26, 27, 28, 29, 30, 31, 32, 33, 34, 35, 36, 37, 38, 39, 40] (by decide +kernel) (by decide +kernel)
set_option maxRecDepth 20000 in
theorem gX5_give_X5_remember : GoodIn wsX5_give (wsV RX5 203 RX5 yX5_remember wsX5_remember) := goodIn_app (goodIn_of _ (by decide +kernel)) ggX5_give_X5_remember
theorem dX5_give_0 : decode cX5_give 0 = .ok (.aload_n 0, 1) := by decide +kernel
theorem dX5_give_1 : decode cX5_give 1 = .ok (.iload_n 1, 1) := by decide +kernel
theorem dX5_give_2 : decode cX5_give 2 = .ok (.invokestatic 192, 3) := by decide +kernel
theorem dX5_give_5 : decode cX5_give 5 = .ok (.ifCond .ne 7, 3) := by decide +kernel
theorem dX5_give_8 : decode cX5_give 8 = .ok (.iconst 1, 1) := by decide +kernel
theorem dX5_give_9 : decode cX5_give 9 = .ok (.goto 20, 3) := by decide +kernel
theorem dX5_give_12 : decode cX5_give 12 = .ok (.iload_n 2, 1) := by decide +kernel
theorem dX5_give_13 : decode cX5_give 13 = .ok (.i2l, 1) := by decide +kernel
theorem dX5_give_14 : decode cX5_give 14 = .ok (.lconst 1, 1) := by decide +kernel
theorem dX5_give_15 : decode cX5_give 15 = .ok (.ldc2_w 222, 3) := by decide +kernel
theorem dX5_give_18 : decode cX5_give 18 = .ok (.invokestatic 111, 3) := by decide +kernel
theorem dX5_give_21 : decode cX5_give 21 = .ok (.ifCond .eq 7, 3) := by decide +kernel
theorem dX5_give_24 : decode cX5_give 24 = .ok (.iconst 0, 1) := by decide +kernel
theorem dX5_give_25 : decode cX5_give 25 = .ok (.goto 4, 3) := by decide +kernel
theorem dX5_give_28 : decode cX5_give 28 = .ok (.iconst 2, 1) := by decide +kernel
theorem dX5_give_29 : decode cX5_give 29 = .ok (.invokevirtual 118, 3) := by decide +kernel
theorem dX5_give_32 : decode cX5_give 32 = .ok (.ifCond .eq 5, 3) := by decide +kernel
theorem dX5_give_35 : decode cX5_give 35 = .ok (.iconst 0, 1) := by decide +kernel
theorem dX5_give_36 : decode cX5_give 36 = .ok (.ireturn, 1) := by decide +kernel
theorem dX5_give_37 : decode cX5_give 37 = .ok (.aload_n 0, 1) := by decide +kernel
theorem dX5_give_38 : decode cX5_give 38 = .ok (.invokevirtual 203, 3) := by decide +kernel
theorem dX5_give_41 : decode cX5_give 41 = .ok (.aload_n 0, 1) := by decide +kernel
theorem dX5_give_42 : decode cX5_give 42 = .ok (.getfield 16, 3) := by decide +kernel
theorem dX5_give_45 : decode cX5_give 45 = .ok (.bipush 46, 2) := by decide +kernel
theorem dX5_give_47 : decode cX5_give 47 = .ok (.iload_n 1, 1) := by decide +kernel
theorem dX5_give_48 : decode cX5_give 48 = .ok (.iadd, 1) := by decide +kernel
theorem dX5_give_49 : decode cX5_give 49 = .ok (.dup2, 1) := by decide +kernel
theorem dX5_give_50 : decode cX5_give 50 = .ok (.iaload, 1) := by decide +kernel
theorem dX5_give_51 : decode cX5_give 51 = .ok (.iload_n 2, 1) := by decide +kernel
theorem dX5_give_52 : decode cX5_give 52 = .ok (.iadd, 1) := by decide +kernel
theorem dX5_give_53 : decode cX5_give 53 = .ok (.iastore, 1) := by decide +kernel
theorem dX5_give_54 : decode cX5_give 54 = .ok (.aload_n 0, 1) := by decide +kernel
theorem dX5_give_55 : decode cX5_give 55 = .ok (.getfield 16, 3) := by decide +kernel
theorem dX5_give_58 : decode cX5_give 58 = .ok (.bipush 46, 2) := by decide +kernel
theorem dX5_give_60 : decode cX5_give 60 = .ok (.iload_n 1, 1) := by decide +kernel
theorem dX5_give_61 : decode cX5_give 61 = .ok (.iadd, 1) := by decide +kernel
theorem dX5_give_62 : decode cX5_give 62 = .ok (.iaload, 1) := by decide +kernel
theorem dX5_give_63 : decode cX5_give 63 = .ok (.ireturn, 1) := by decide +kernel
theorem dX5_least_0 : decode cX5_least 0 = .ok (.iload_n 0, 1) := by decide +kernel
theorem dX5_least_1 : decode cX5_least 1 = .ok (.ifCond .eq 8, 3) := by decide +kernel
theorem dX5_least_4 : decode cX5_least 4 = .ok (.iload_n 0, 1) := by decide +kernel
theorem dX5_least_5 : decode cX5_least 5 = .ok (.iconst 4, 1) := by decide +kernel
theorem dX5_least_6 : decode cX5_least 6 = .ok (.if_icmp .ne 7, 3) := by decide +kernel
theorem dX5_least_9 : decode cX5_least 9 = .ok (.iconst 0, 1) := by decide +kernel
theorem dX5_least_10 : decode cX5_least 10 = .ok (.goto 4, 3) := by decide +kernel
theorem dX5_least_13 : decode cX5_least 13 = .ok (.iconst 1, 1) := by decide +kernel
theorem dX5_least_14 : decode cX5_least 14 = .ok (.ireturn, 1) := by decide +kernel
theorem dX5_most_0 : decode cX5_most 0 = .ok (.iload_n 0, 1) := by decide +kernel
theorem dX5_most_1 : decode cX5_most 1 = .ok (.ifCond .ne 7, 3) := by decide +kernel
theorem dX5_most_4 : decode cX5_most 4 = .ok (.iconst 4, 1) := by decide +kernel
theorem dX5_most_5 : decode cX5_most 5 = .ok (.goto 24, 3) := by decide +kernel
theorem dX5_most_8 : decode cX5_most 8 = .ok (.iload_n 0, 1) := by decide +kernel
theorem dX5_most_9 : decode cX5_most 9 = .ok (.iconst 1, 1) := by decide +kernel
theorem dX5_most_10 : decode cX5_most 10 = .ok (.if_icmp .ne 8, 3) := by decide +kernel
theorem dX5_most_13 : decode cX5_most 13 = .ok (.bipush 6, 2) := by decide +kernel
theorem dX5_most_15 : decode cX5_most 15 = .ok (.goto 14, 3) := by decide +kernel
theorem dX5_most_18 : decode cX5_most 18 = .ok (.iload_n 0, 1) := by decide +kernel
theorem dX5_most_19 : decode cX5_most 19 = .ok (.iconst 4, 1) := by decide +kernel
theorem dX5_most_20 : decode cX5_most 20 = .ok (.if_icmp .ne 7, 3) := by decide +kernel
theorem dX5_most_23 : decode cX5_most 23 = .ok (.iconst 2, 1) := by decide +kernel
theorem dX5_most_24 : decode cX5_most 24 = .ok (.goto 5, 3) := by decide +kernel
theorem dX5_most_27 : decode cX5_most 27 = .ok (.bipush 9, 2) := by decide +kernel
theorem dX5_most_29 : decode cX5_most 29 = .ok (.ireturn, 1) := by decide +kernel
set_option maxRecDepth 20000 in
theorem ggX5_isSetting_X5_in : GoodIn wsX5_isSetting wsX5_in := goodIn_r _ [5] (by decide +kernel) (by decide +kernel)
set_option maxRecDepth 20000 in
theorem gX5_isSetting_X5_in : GoodIn wsX5_isSetting (va_wsS RX5 111 yX5_in wsX5_in) := goodIn_app (goodIn_of _ (by decide +kernel)) ggX5_isSetting_X5_in
set_option maxRecDepth 20000 in
theorem ggX5_isSetting_X5_least : GoodIn wsX5_isSetting wsX5_least := goodIn_r _ [8] (by decide +kernel) (by decide +kernel)
set_option maxRecDepth 20000 in
theorem gX5_isSetting_X5_least : GoodIn wsX5_isSetting (va_wsS RX5 163 yX5_least wsX5_least) := goodIn_app (goodIn_of _ (by decide +kernel)) ggX5_isSetting_X5_least
set_option maxRecDepth 20000 in
theorem ggX5_isSetting_X5_most : GoodIn wsX5_isSetting wsX5_most := goodIn_r _ [11] (by decide +kernel) (by decide +kernel)
set_option maxRecDepth 20000 in
theorem gX5_isSetting_X5_most : GoodIn wsX5_isSetting (va_wsS RX5 167 yX5_most wsX5_most) := goodIn_app (goodIn_of _ (by decide +kernel)) ggX5_isSetting_X5_most
theorem dX5_isSetting_0 : decode cX5_isSetting 0 = .ok (.iload_n 0, 1) := by decide +kernel
theorem dX5_isSetting_1 : decode cX5_isSetting 1 = .ok (.i2l, 1) := by decide +kernel
theorem dX5_isSetting_2 : decode cX5_isSetting 2 = .ok (.lconst 0, 1) := by decide +kernel
theorem dX5_isSetting_3 : decode cX5_isSetting 3 = .ok (.ldc2_w 183, 3) := by decide +kernel
theorem dX5_isSetting_6 : decode cX5_isSetting 6 = .ok (.invokestatic 111, 3) := by decide +kernel
theorem dX5_isSetting_9 : decode cX5_isSetting 9 = .ok (.ifCond .eq 25, 3) := by decide +kernel
theorem dX5_isSetting_12 : decode cX5_isSetting 12 = .ok (.iload_n 1, 1) := by decide +kernel
theorem dX5_isSetting_13 : decode cX5_isSetting 13 = .ok (.i2l, 1) := by decide +kernel
theorem dX5_isSetting_14 : decode cX5_isSetting 14 = .ok (.iload_n 0, 1) := by decide +kernel
theorem dX5_isSetting_15 : decode cX5_isSetting 15 = .ok (.invokestatic 163, 3) := by decide +kernel
theorem dX5_isSetting_18 : decode cX5_isSetting 18 = .ok (.i2l, 1) := by decide +kernel
theorem dX5_isSetting_19 : decode cX5_isSetting 19 = .ok (.iload_n 0, 1) := by decide +kernel
theorem dX5_isSetting_20 : decode cX5_isSetting 20 = .ok (.invokestatic 167, 3) := by decide +kernel
theorem dX5_isSetting_23 : decode cX5_isSetting 23 = .ok (.i2l, 1) := by decide +kernel
theorem dX5_isSetting_24 : decode cX5_isSetting 24 = .ok (.invokestatic 111, 3) := by decide +kernel
theorem dX5_isSetting_27 : decode cX5_isSetting 27 = .ok (.ifCond .eq 7, 3) := by decide +kernel
theorem dX5_isSetting_30 : decode cX5_isSetting 30 = .ok (.iconst 1, 1) := by decide +kernel
theorem dX5_isSetting_31 : decode cX5_isSetting 31 = .ok (.goto 4, 3) := by decide +kernel
theorem dX5_isSetting_34 : decode cX5_isSetting 34 = .ok (.iconst 0, 1) := by decide +kernel
theorem dX5_isSetting_35 : decode cX5_isSetting 35 = .ok (.ireturn, 1) := by decide +kernel
set_option maxRecDepth 20000 in
theorem ggX5_set_X5_isSetting : GoodIn wsX5_set wsX5_isSetting := goodIn_r _ [5, 6, 7, 8, 4, 9, 10, 11, 12, 13, 14, 15] (by decide +kernel) (by decide +kernel)
set_option maxRecDepth 20000 in
theorem gX5_set_X5_isSetting : GoodIn wsX5_set (va_wsS RX5 224 yX5_isSetting wsX5_isSetting) := goodIn_app (goodIn_of _ (by decide +kernel)) ggX5_set_X5_isSetting
set_option maxRecDepth 20000 in
theorem ggX5_set_X5_refused : GoodIn wsX5_set wsX5_refused := goodIn_r _ [19, 20, 30, 31, 32, 33, 34, 35, 36, 37, 38, 39, 40, 41, 42, 43, 44, 45] (by decide +kernel) (by decide +kernel)
set_option maxRecDepth 20000 in
theorem gX5_set_X5_refused : GoodIn wsX5_set (wsV RX5 118 RX5 yX5_refused wsX5_refused) := goodIn_app (goodIn_of _ (by decide +kernel)) ggX5_set_X5_refused
set_option maxRecDepth 20000 in
theorem ggX5_set_X5_remember : GoodIn wsX5_set wsX5_remember := goodIn_r _ [24, 25, 26, 1, 27, 28, 4, 29, 30, 31, 32, 33, 34, 35, 36, 37, 38, 39, 40, 41, 42, 43, 44, 45] (by decide +kernel) (by decide +kernel)
set_option maxRecDepth 20000 in
theorem gX5_set_X5_remember : GoodIn wsX5_set (wsV RX5 203 RX5 yX5_remember wsX5_remember) := goodIn_app (goodIn_of _ (by decide +kernel)) ggX5_set_X5_remember
theorem dX5_set_0 : decode cX5_set 0 = .ok (.aload_n 0, 1) := by decide +kernel
theorem dX5_set_1 : decode cX5_set 1 = .ok (.iload_n 1, 1) := by decide +kernel
theorem dX5_set_2 : decode cX5_set 2 = .ok (.iload_n 2, 1) := by decide +kernel
theorem dX5_set_3 : decode cX5_set 3 = .ok (.invokestatic 224, 3) := by decide +kernel
theorem dX5_set_6 : decode cX5_set 6 = .ok (.ifCond .eq 7, 3) := by decide +kernel
theorem dX5_set_9 : decode cX5_set 9 = .ok (.iconst 0, 1) := by decide +kernel
theorem dX5_set_10 : decode cX5_set 10 = .ok (.goto 4, 3) := by decide +kernel
theorem dX5_set_13 : decode cX5_set 13 = .ok (.iconst 1, 1) := by decide +kernel
theorem dX5_set_14 : decode cX5_set 14 = .ok (.invokevirtual 118, 3) := by decide +kernel
theorem dX5_set_17 : decode cX5_set 17 = .ok (.ifCond .eq 5, 3) := by decide +kernel
theorem dX5_set_20 : decode cX5_set 20 = .ok (.iconst 0, 1) := by decide +kernel
theorem dX5_set_21 : decode cX5_set 21 = .ok (.ireturn, 1) := by decide +kernel
theorem dX5_set_22 : decode cX5_set 22 = .ok (.aload_n 0, 1) := by decide +kernel
theorem dX5_set_23 : decode cX5_set 23 = .ok (.invokevirtual 203, 3) := by decide +kernel
theorem dX5_set_26 : decode cX5_set 26 = .ok (.aload_n 0, 1) := by decide +kernel
theorem dX5_set_27 : decode cX5_set 27 = .ok (.getfield 16, 3) := by decide +kernel
theorem dX5_set_30 : decode cX5_set 30 = .ok (.iload_n 1, 1) := by decide +kernel
theorem dX5_set_31 : decode cX5_set 31 = .ok (.iaload, 1) := by decide +kernel
theorem dX5_set_32 : decode cX5_set 32 = .ok (.istore_n 3, 1) := by decide +kernel
theorem dX5_set_33 : decode cX5_set 33 = .ok (.aload_n 0, 1) := by decide +kernel
theorem dX5_set_34 : decode cX5_set 34 = .ok (.getfield 16, 3) := by decide +kernel
theorem dX5_set_37 : decode cX5_set 37 = .ok (.iload_n 1, 1) := by decide +kernel
theorem dX5_set_38 : decode cX5_set 38 = .ok (.iload_n 2, 1) := by decide +kernel
theorem dX5_set_39 : decode cX5_set 39 = .ok (.iastore, 1) := by decide +kernel
theorem dX5_set_40 : decode cX5_set 40 = .ok (.iload_n 3, 1) := by decide +kernel
theorem dX5_set_41 : decode cX5_set 41 = .ok (.ireturn, 1) := by decide +kernel
set_option maxRecDepth 20000 in
theorem ggX5_undo_X5_refused : GoodIn wsX5_undo wsX5_refused := goodIn_r _ [8, 9, 13, 14, 15, 16, 17, 18, 19, 20, 21, 22, 23, 24, 25, 26, 27, 28] (by decide +kernel) (by decide +kernel)
set_option maxRecDepth 20000 in
theorem gX5_undo_X5_refused : GoodIn wsX5_undo (wsV RX5 118 RX5 yX5_refused wsX5_refused) := goodIn_app (goodIn_of _ (by decide +kernel)) ggX5_undo_X5_refused
set_option maxRecDepth 20000 in
theorem ggX5_undo_X5_copy : GoodIn wsX5_undo wsX5_copy := goodIn_r _ [12] (by decide +kernel) (by decide +kernel)
set_option maxRecDepth 20000 in
theorem gX5_undo_X5_copy : GoodIn wsX5_undo (va_wsS RX5 48 yX5_copy wsX5_copy) := goodIn_app (goodIn_of _ (by decide +kernel)) ggX5_undo_X5_copy
theorem dX5_undo_0 : decode cX5_undo 0 = .ok (.aload_n 0, 1) := by decide +kernel
theorem dX5_undo_1 : decode cX5_undo 1 = .ok (.aload_n 0, 1) := by decide +kernel
theorem dX5_undo_2 : decode cX5_undo 2 = .ok (.getfield 45, 3) := by decide +kernel
theorem dX5_undo_5 : decode cX5_undo 5 = .ok (.ifCond .ne 7, 3) := by decide +kernel
theorem dX5_undo_8 : decode cX5_undo 8 = .ok (.iconst 1, 1) := by decide +kernel
theorem dX5_undo_9 : decode cX5_undo 9 = .ok (.goto 4, 3) := by decide +kernel
theorem dX5_undo_12 : decode cX5_undo 12 = .ok (.iconst 0, 1) := by decide +kernel
theorem dX5_undo_13 : decode cX5_undo 13 = .ok (.invokevirtual 118, 3) := by decide +kernel
theorem dX5_undo_16 : decode cX5_undo 16 = .ok (.ifCond .eq 5, 3) := by decide +kernel
theorem dX5_undo_19 : decode cX5_undo 19 = .ok (.iconst 0, 1) := by decide +kernel
theorem dX5_undo_20 : decode cX5_undo 20 = .ok (.ireturn, 1) := by decide +kernel
theorem dX5_undo_21 : decode cX5_undo 21 = .ok (.aload_n 0, 1) := by decide +kernel
theorem dX5_undo_22 : decode cX5_undo 22 = .ok (.dup, 1) := by decide +kernel
theorem dX5_undo_23 : decode cX5_undo 23 = .ok (.getfield 45, 3) := by decide +kernel
theorem dX5_undo_26 : decode cX5_undo 26 = .ok (.iconst 1, 1) := by decide +kernel
theorem dX5_undo_27 : decode cX5_undo 27 = .ok (.isub, 1) := by decide +kernel
theorem dX5_undo_28 : decode cX5_undo 28 = .ok (.putfield 45, 3) := by decide +kernel
theorem dX5_undo_31 : decode cX5_undo 31 = .ok (.aload_n 0, 1) := by decide +kernel
theorem dX5_undo_32 : decode cX5_undo 32 = .ok (.getfield 22, 3) := by decide +kernel
theorem dX5_undo_35 : decode cX5_undo 35 = .ok (.sipush 235, 3) := by decide +kernel
theorem dX5_undo_38 : decode cX5_undo 38 = .ok (.aload_n 0, 1) := by decide +kernel
theorem dX5_undo_39 : decode cX5_undo 39 = .ok (.getfield 45, 3) := by decide +kernel
theorem dX5_undo_42 : decode cX5_undo 42 = .ok (.imul, 1) := by decide +kernel
theorem dX5_undo_43 : decode cX5_undo 43 = .ok (.aload_n 0, 1) := by decide +kernel
theorem dX5_undo_44 : decode cX5_undo 44 = .ok (.getfield 16, 3) := by decide +kernel
theorem dX5_undo_47 : decode cX5_undo 47 = .ok (.iconst 0, 1) := by decide +kernel
theorem dX5_undo_48 : decode cX5_undo 48 = .ok (.sipush 235, 3) := by decide +kernel
theorem dX5_undo_51 : decode cX5_undo 51 = .ok (.invokestatic 48, 3) := by decide +kernel
theorem dX5_undo_54 : decode cX5_undo 54 = .ok (.aload_n 0, 1) := by decide +kernel
theorem dX5_undo_55 : decode cX5_undo 55 = .ok (.getfield 45, 3) := by decide +kernel
theorem dX5_undo_58 : decode cX5_undo 58 = .ok (.ireturn, 1) := by decide +kernel
set_option maxRecDepth 20000 in
theorem ggX5_isWatched_X5_at : GoodIn wsX5_isWatched wsX5_at := goodIn_r _ [5] (by decide +kernel) (by decide +kernel)
set_option maxRecDepth 20000 in
theorem gX5_isWatched_X5_at : GoodIn wsX5_isWatched (va_wsS RX5 56 yX5_at wsX5_at) := goodIn_app (goodIn_of _ (by decide +kernel)) ggX5_isWatched_X5_at
theorem dX5_isWatched_0 : decode cX5_isWatched 0 = .ok (.iconst 0, 1) := by decide +kernel
theorem dX5_isWatched_1 : decode cX5_isWatched 1 = .ok (.istore_n 1, 1) := by decide +kernel
theorem dX5_isWatched_2 : decode cX5_isWatched 2 = .ok (.iconst 0, 1) := by decide +kernel
theorem dX5_isWatched_3 : decode cX5_isWatched 3 = .ok (.istore_n 2, 1) := by decide +kernel
theorem dX5_isWatched_4 : decode cX5_isWatched 4 = .ok (.iload_n 2, 1) := by decide +kernel
theorem dX5_isWatched_5 : decode cX5_isWatched 5 = .ok (.aload_n 0, 1) := by decide +kernel
theorem dX5_isWatched_6 : decode cX5_isWatched 6 = .ok (.getfield 19, 3) := by decide +kernel
theorem dX5_isWatched_9 : decode cX5_isWatched 9 = .ok (.bipush 6, 2) := by decide +kernel
theorem dX5_isWatched_11 : decode cX5_isWatched 11 = .ok (.iaload, 1) := by decide +kernel
theorem dX5_isWatched_12 : decode cX5_isWatched 12 = .ok (.if_icmp .ge 33, 3) := by decide +kernel
theorem dX5_isWatched_15 : decode cX5_isWatched 15 = .ok (.iload_n 1, 1) := by decide +kernel
theorem dX5_isWatched_16 : decode cX5_isWatched 16 = .ok (.ifCond .ne 17, 3) := by decide +kernel
theorem dX5_isWatched_19 : decode cX5_isWatched 19 = .ok (.aload_n 0, 1) := by decide +kernel
theorem dX5_isWatched_20 : decode cX5_isWatched 20 = .ok (.getfield 19, 3) := by decide +kernel
theorem dX5_isWatched_23 : decode cX5_isWatched 23 = .ok (.iload_n 2, 1) := by decide +kernel
theorem dX5_isWatched_24 : decode cX5_isWatched 24 = .ok (.iconst 5, 1) := by decide +kernel
theorem dX5_isWatched_25 : decode cX5_isWatched 25 = .ok (.invokestatic 56, 3) := by decide +kernel
theorem dX5_isWatched_28 : decode cX5_isWatched 28 = .ok (.iaload, 1) := by decide +kernel
theorem dX5_isWatched_29 : decode cX5_isWatched 29 = .ok (.iconst 1, 1) := by decide +kernel
theorem dX5_isWatched_30 : decode cX5_isWatched 30 = .ok (.if_icmp .ne 7, 3) := by decide +kernel
theorem dX5_isWatched_33 : decode cX5_isWatched 33 = .ok (.iconst 1, 1) := by decide +kernel
theorem dX5_isWatched_34 : decode cX5_isWatched 34 = .ok (.goto 4, 3) := by decide +kernel
theorem dX5_isWatched_37 : decode cX5_isWatched 37 = .ok (.iconst 0, 1) := by decide +kernel
theorem dX5_isWatched_38 : decode cX5_isWatched 38 = .ok (.istore_n 1, 1) := by decide +kernel
theorem dX5_isWatched_39 : decode cX5_isWatched 39 = .ok (.iinc 2 1, 3) := by decide +kernel
theorem dX5_isWatched_42 : decode cX5_isWatched 42 = .ok (.goto (-38), 3) := by decide +kernel
theorem dX5_isWatched_45 : decode cX5_isWatched 45 = .ok (.iload_n 1, 1) := by decide +kernel
theorem dX5_isWatched_46 : decode cX5_isWatched 46 = .ok (.ireturn, 1) := by decide +kernel
set_option maxRecDepth 20000 in
theorem ggX5_arrives_X5_isOrder : GoodIn wsX5_arrives wsX5_isOrder := goodIn_r _ [7, 8, 9, 10, 6, 11, 71, 72, 73, 74, 75, 76, 77, 78, 79, 80, 81, 82, 83, 84, 85, 86] (by decide +kernel) (by decide +kernel)
set_option maxRecDepth 20000 in
theorem gX5_arrives_X5_isOrder : GoodIn wsX5_arrives (wsV RX5 180 RX5 yX5_isOrder wsX5_isOrder) := goodIn_app (goodIn_of _ (by decide +kernel)) ggX5_arrives_X5_isOrder
set_option maxRecDepth 20000 in
theorem ggX5_arrives_X5_refused : GoodIn wsX5_arrives wsX5_refused := goodIn_r _ [15, 16, 71, 72, 73, 74, 75, 76, 77, 78, 79, 80, 81, 82, 83, 84, 85, 86] (by decide +kernel) (by decide +kernel)
set_option maxRecDepth 20000 in
theorem gX5_arrives_X5_refused : GoodIn wsX5_arrives (wsV RX5 118 RX5 yX5_refused wsX5_refused) := goodIn_app (goodIn_of _ (by decide +kernel)) ggX5_arrives_X5_refused
set_option maxRecDepth 20000 in
theorem ggX5_arrives_X5_tryIt : GoodIn wsX5_arrives wsX5_tryIt := goodIn_r _ [20, 8, 1, 21, 22, 6, 23, 71, 72, 73, 74, 75, 76, 77, 78, 79, 80, 81, 82, 83, 84, 85, 86] (by decide +kernel) (by decide +kernel)
set_option maxRecDepth 20000 in
theorem gX5_arrives_X5_tryIt : GoodIn wsX5_arrives (wsV RX5 228 RX5 yX5_tryIt wsX5_tryIt) := goodIn_app (goodIn_of _ (by decide +kernel)) ggX5_arrives_X5_tryIt
set_option maxRecDepth 20000 in
theorem ggX5_arrives_X5_at : GoodIn wsX5_arrives wsX5_at := goodIn_r _ [26] (by decide +kernel) (by decide +kernel)
set_option maxRecDepth 20000 in
theorem gX5_arrives_X5_at : GoodIn wsX5_arrives (va_wsS RX5 56 yX5_at wsX5_at) := goodIn_app (goodIn_of _ (by decide +kernel)) ggX5_arrives_X5_at
set_option maxRecDepth 20000 in
theorem ggX5_arrives_X5_isWatched : GoodIn wsX5_arrives wsX5_isWatched := goodIn_r _ [30, 1, 24, 25, 6, 26, 71, 72, 73, 74, 75, 76, 77, 78, 79, 80, 81, 82, 83, 84, 85, 86] (by decide +kernel) (by decide +kernel)
set_option maxRecDepth 20000 in
theorem gX5_arrives_X5_isWatched : GoodIn wsX5_arrives (wsV RX5 231 RX5 yX5_isWatched wsX5_isWatched) := goodIn_app (goodIn_of _ (by decide +kernel)) ggX5_arrives_X5_isWatched
set_option maxRecDepth 20000 in
theorem ggX5_arrives_X5_night : GoodIn wsX5_arrives wsX5_night := goodIn_r _ [34, 35, 36, 37, 38, 6, 39, 24, 25, 26, 40, 41, 42, 43, 44, 45, 46, 47, 48, 49, 2, 50, 51, 52, 53, 54, 55, 56, 57, 58, 59, 60, 61, 62, 63, 64, 65, 66, 67, 21, 22, 23, 68, 69, 70, 71, 72, 73, 74, 75, 76, 77, 78, 79, 80, 81, 82, 83, 84, 85, 86] (by decide +kernel) (by decide +kernel)
set_option maxRecDepth 20000 in
theorem gX5_arrives_X5_night : GoodIn wsX5_arrives (wsV RX5 106 RX5 yX5_night wsX5_night) := goodIn_app (goodIn_of _ (by decide +kernel)) ggX5_arrives_X5_night
theorem dX5_arrives_0 : decode cX5_arrives 0 = .ok (.aload_n 0, 1) := by decide +kernel
theorem dX5_arrives_1 : decode cX5_arrives 1 = .ok (.aload_n 0, 1) := by decide +kernel
theorem dX5_arrives_2 : decode cX5_arrives 2 = .ok (.iload_n 1, 1) := by decide +kernel
theorem dX5_arrives_3 : decode cX5_arrives 3 = .ok (.invokevirtual 180, 3) := by decide +kernel
theorem dX5_arrives_6 : decode cX5_arrives 6 = .ok (.ifCond .eq 7, 3) := by decide +kernel
theorem dX5_arrives_9 : decode cX5_arrives 9 = .ok (.iconst 0, 1) := by decide +kernel
theorem dX5_arrives_10 : decode cX5_arrives 10 = .ok (.goto 4, 3) := by decide +kernel
theorem dX5_arrives_13 : decode cX5_arrives 13 = .ok (.iconst 1, 1) := by decide +kernel
theorem dX5_arrives_14 : decode cX5_arrives 14 = .ok (.invokevirtual 118, 3) := by decide +kernel
theorem dX5_arrives_17 : decode cX5_arrives 17 = .ok (.ifCond .eq 5, 3) := by decide +kernel
theorem dX5_arrives_20 : decode cX5_arrives 20 = .ok (.iconst 0, 1) := by decide +kernel
theorem dX5_arrives_21 : decode cX5_arrives 21 = .ok (.ireturn, 1) := by decide +kernel
theorem dX5_arrives_22 : decode cX5_arrives 22 = .ok (.aload_n 0, 1) := by decide +kernel
theorem dX5_arrives_23 : decode cX5_arrives 23 = .ok (.invokevirtual 228, 3) := by decide +kernel
theorem dX5_arrives_26 : decode cX5_arrives 26 = .ok (.aload_n 0, 1) := by decide +kernel
theorem dX5_arrives_27 : decode cX5_arrives 27 = .ok (.getfield 19, 3) := by decide +kernel
theorem dX5_arrives_30 : decode cX5_arrives 30 = .ok (.iload_n 1, 1) := by decide +kernel
theorem dX5_arrives_31 : decode cX5_arrives 31 = .ok (.iconst 5, 1) := by decide +kernel
theorem dX5_arrives_32 : decode cX5_arrives 32 = .ok (.invokestatic 56, 3) := by decide +kernel
theorem dX5_arrives_35 : decode cX5_arrives 35 = .ok (.iconst 1, 1) := by decide +kernel
theorem dX5_arrives_36 : decode cX5_arrives 36 = .ok (.iastore, 1) := by decide +kernel
theorem dX5_arrives_37 : decode cX5_arrives 37 = .ok (.aload_n 0, 1) := by decide +kernel
theorem dX5_arrives_38 : decode cX5_arrives 38 = .ok (.iconst 0, 1) := by decide +kernel
theorem dX5_arrives_39 : decode cX5_arrives 39 = .ok (.putfield 93, 3) := by decide +kernel
theorem dX5_arrives_42 : decode cX5_arrives 42 = .ok (.iconst 0, 1) := by decide +kernel
theorem dX5_arrives_43 : decode cX5_arrives 43 = .ok (.istore_n 2, 1) := by decide +kernel
theorem dX5_arrives_44 : decode cX5_arrives 44 = .ok (.aload_n 0, 1) := by decide +kernel
theorem dX5_arrives_45 : decode cX5_arrives 45 = .ok (.invokevirtual 231, 3) := by decide +kernel
theorem dX5_arrives_48 : decode cX5_arrives 48 = .ok (.ifCond .eq 17, 3) := by decide +kernel
theorem dX5_arrives_51 : decode cX5_arrives 51 = .ok (.aload_n 0, 1) := by decide +kernel
theorem dX5_arrives_52 : decode cX5_arrives 52 = .ok (.aload_n 0, 1) := by decide +kernel
theorem dX5_arrives_53 : decode cX5_arrives 53 = .ok (.getfield 19, 3) := by decide +kernel
theorem dX5_arrives_56 : decode cX5_arrives 56 = .ok (.invokevirtual 106, 3) := by decide +kernel
theorem dX5_arrives_59 : decode cX5_arrives 59 = .ok (.iinc 2 1, 3) := by decide +kernel
theorem dX5_arrives_62 : decode cX5_arrives 62 = .ok (.goto (-18), 3) := by decide +kernel
theorem dX5_arrives_65 : decode cX5_arrives 65 = .ok (.aload_n 0, 1) := by decide +kernel
theorem dX5_arrives_66 : decode cX5_arrives 66 = .ok (.getfield 93, 3) := by decide +kernel
theorem dX5_arrives_69 : decode cX5_arrives 69 = .ok (.ifCond .eq 7, 3) := by decide +kernel
theorem dX5_arrives_72 : decode cX5_arrives 72 = .ok (.iload_n 2, 1) := by decide +kernel
theorem dX5_arrives_73 : decode cX5_arrives 73 = .ok (.goto 4, 3) := by decide +kernel
theorem dX5_arrives_76 : decode cX5_arrives 76 = .ok (.iconst (-1), 1) := by decide +kernel
theorem dX5_arrives_77 : decode cX5_arrives 77 = .ok (.ireturn, 1) := by decide +kernel
set_option maxRecDepth 20000 in
theorem ggX5_next_X5_refused : GoodIn wsX5_next wsX5_refused := goodIn_r _ [8, 9, 60, 61, 62, 63, 64, 65, 66, 67, 68, 69, 70, 71, 72, 73, 74, 75] (by decide +kernel) (by decide +kernel)
set_option maxRecDepth 20000 in
theorem gX5_next_X5_refused : GoodIn wsX5_next (wsV RX5 118 RX5 yX5_refused wsX5_refused) := goodIn_app (goodIn_of _ (by decide +kernel)) ggX5_next_X5_refused
set_option maxRecDepth 20000 in
theorem ggX5_next_X5_tryIt : GoodIn wsX5_next wsX5_tryIt := goodIn_r _ [13, 14, 1, 15, 16, 7, 17, 60, 61, 62, 63, 64, 65, 66, 67, 68, 69, 70, 71, 72, 73, 74, 75] (by decide +kernel) (by decide +kernel)
set_option maxRecDepth 20000 in
theorem gX5_next_X5_tryIt : GoodIn wsX5_next (wsV RX5 228 RX5 yX5_tryIt wsX5_tryIt) := goodIn_app (goodIn_of _ (by decide +kernel)) ggX5_next_X5_tryIt
set_option maxRecDepth 20000 in
theorem ggX5_next_X5_night : GoodIn wsX5_next wsX5_night := goodIn_r _ [21, 2, 3, 22, 23, 7, 24, 25, 26, 27, 28, 29, 30, 31, 32, 33, 34, 35, 36, 37, 38, 39, 40, 41, 42, 43, 44, 45, 46, 47, 48, 49, 50, 51, 52, 53, 54, 55, 56, 15, 16, 17, 57, 58, 59, 60, 61, 62, 63, 64, 65, 66, 67, 68, 69, 70, 71, 72, 73, 74, 75] (by decide +kernel) (by decide +kernel)
set_option maxRecDepth 20000 in
theorem gX5_next_X5_night : GoodIn wsX5_next (wsV RX5 106 RX5 yX5_night wsX5_night) := goodIn_app (goodIn_of _ (by decide +kernel)) ggX5_next_X5_night
theorem dX5_next_0 : decode cX5_next 0 = .ok (.aload_n 0, 1) := by decide +kernel
theorem dX5_next_1 : decode cX5_next 1 = .ok (.iload_n 1, 1) := by decide +kernel
theorem dX5_next_2 : decode cX5_next 2 = .ok (.ifCond .ge 7, 3) := by decide +kernel
theorem dX5_next_5 : decode cX5_next 5 = .ok (.iconst 1, 1) := by decide +kernel
theorem dX5_next_6 : decode cX5_next 6 = .ok (.goto 4, 3) := by decide +kernel
theorem dX5_next_9 : decode cX5_next 9 = .ok (.iconst 0, 1) := by decide +kernel
theorem dX5_next_10 : decode cX5_next 10 = .ok (.invokevirtual 118, 3) := by decide +kernel
theorem dX5_next_13 : decode cX5_next 13 = .ok (.ifCond .eq 5, 3) := by decide +kernel
theorem dX5_next_16 : decode cX5_next 16 = .ok (.iconst 0, 1) := by decide +kernel
theorem dX5_next_17 : decode cX5_next 17 = .ok (.ireturn, 1) := by decide +kernel
theorem dX5_next_18 : decode cX5_next 18 = .ok (.aload_n 0, 1) := by decide +kernel
theorem dX5_next_19 : decode cX5_next 19 = .ok (.invokevirtual 228, 3) := by decide +kernel
theorem dX5_next_22 : decode cX5_next 22 = .ok (.aload_n 0, 1) := by decide +kernel
theorem dX5_next_23 : decode cX5_next 23 = .ok (.aload_n 0, 1) := by decide +kernel
theorem dX5_next_24 : decode cX5_next 24 = .ok (.getfield 19, 3) := by decide +kernel
theorem dX5_next_27 : decode cX5_next 27 = .ok (.invokevirtual 106, 3) := by decide +kernel
theorem dX5_next_30 : decode cX5_next 30 = .ok (.iload_n 1, 1) := by decide +kernel
theorem dX5_next_31 : decode cX5_next 31 = .ok (.aload_n 0, 1) := by decide +kernel
theorem dX5_next_32 : decode cX5_next 32 = .ok (.getfield 97, 3) := by decide +kernel
theorem dX5_next_35 : decode cX5_next 35 = .ok (.if_icmp .ge 12, 3) := by decide +kernel
theorem dX5_next_38 : decode cX5_next 38 = .ok (.aload_n 0, 1) := by decide +kernel
theorem dX5_next_39 : decode cX5_next 39 = .ok (.getfield 32, 3) := by decide +kernel
theorem dX5_next_42 : decode cX5_next 42 = .ok (.iload_n 1, 1) := by decide +kernel
theorem dX5_next_43 : decode cX5_next 43 = .ok (.iaload, 1) := by decide +kernel
theorem dX5_next_44 : decode cX5_next 44 = .ok (.goto 4, 3) := by decide +kernel
theorem dX5_next_47 : decode cX5_next 47 = .ok (.iconst (-1), 1) := by decide +kernel
theorem dX5_next_48 : decode cX5_next 48 = .ok (.ireturn, 1) := by decide +kernel
set_option maxRecDepth 20000 in
theorem ggX5_feeFor_X5_isLot : GoodIn wsX5_feeFor wsX5_isLot := goodIn_r _ [6, 7, 8, 9, 5, 10] (by decide +kernel) (by decide +kernel)
set_option maxRecDepth 20000 in
theorem gX5_feeFor_X5_isLot : GoodIn wsX5_feeFor (va_wsS RX5 187 yX5_isLot wsX5_isLot) := goodIn_app (goodIn_of _ (by decide +kernel)) ggX5_feeFor_X5_isLot
set_option maxRecDepth 20000 in
theorem ggX5_feeFor_X5_refused : GoodIn wsX5_feeFor wsX5_refused := goodIn_r _ [14, 15, 70, 71, 72, 73, 74, 75, 76, 77, 78, 79, 80, 81, 82, 83, 84, 85] (by decide +kernel) (by decide +kernel)
set_option maxRecDepth 20000 in
theorem gX5_feeFor_X5_refused : GoodIn wsX5_feeFor (wsV RX5 118 RX5 yX5_refused wsX5_refused) := goodIn_app (goodIn_of _ (by decide +kernel)) ggX5_feeFor_X5_refused
set_option maxRecDepth 20000 in
theorem ggX5_feeFor_X5_tryIt : GoodIn wsX5_feeFor wsX5_tryIt := goodIn_r _ [19, 20, 1, 21, 22, 5, 23, 70, 71, 72, 73, 74, 75, 76, 77, 78, 79, 80, 81, 82, 83, 84, 85] (by decide +kernel) (by decide +kernel)
set_option maxRecDepth 20000 in
theorem gX5_feeFor_X5_tryIt : GoodIn wsX5_feeFor (wsV RX5 228 RX5 yX5_tryIt wsX5_tryIt) := goodIn_app (goodIn_of _ (by decide +kernel)) ggX5_feeFor_X5_tryIt
set_option maxRecDepth 20000 in
theorem ggX5_feeFor_X5_isFront : GoodIn wsX5_feeFor wsX5_isFront := goodIn_r _ [26] (by decide +kernel) (by decide +kernel)
set_option maxRecDepth 20000 in
theorem gX5_feeFor_X5_isFront : GoodIn wsX5_feeFor (va_wsS RX5 52 yX5_isFront wsX5_isFront) := goodIn_app (goodIn_of _ (by decide +kernel)) ggX5_feeFor_X5_isFront
set_option maxRecDepth 20000 in
theorem ggX5_feeFor_X5_enter : GoodIn wsX5_feeFor wsX5_enter := goodIn_r _ [29, 30, 31, 5, 32] (by decide +kernel) (by decide +kernel)
set_option maxRecDepth 20000 in
theorem gX5_feeFor_X5_enter : GoodIn wsX5_feeFor (va_wsS RX5 72 yX5_enter wsX5_enter) := goodIn_app (goodIn_of _ (by decide +kernel)) ggX5_feeFor_X5_enter
set_option maxRecDepth 20000 in
theorem ggX5_feeFor_X5_at : GoodIn wsX5_feeFor wsX5_at := goodIn_r _ [32] (by decide +kernel) (by decide +kernel)
set_option maxRecDepth 20000 in
theorem gX5_feeFor_X5_at : GoodIn wsX5_feeFor (va_wsS RX5 56 yX5_at wsX5_at) := goodIn_app (goodIn_of _ (by decide +kernel)) ggX5_feeFor_X5_at
set_option maxRecDepth 20000 in
theorem ggX5_feeFor_X5_night : GoodIn wsX5_feeFor wsX5_night := goodIn_r _ [36, 37, 38, 39, 40, 5, 41, 30, 31, 32, 42, 43, 44, 45, 46, 47, 48, 49, 50, 51, 2, 52, 53, 54, 24, 25, 26, 55, 56, 57, 58, 59, 60, 61, 62, 63, 64, 65, 66, 21, 22, 23, 67, 68, 69, 70, 71, 72, 73, 74, 75, 76, 77, 78, 79, 80, 81, 82, 83, 84, 85] (by decide +kernel) (by decide +kernel)
set_option maxRecDepth 20000 in
theorem gX5_feeFor_X5_night : GoodIn wsX5_feeFor (wsV RX5 106 RX5 yX5_night wsX5_night) := goodIn_app (goodIn_of _ (by decide +kernel)) ggX5_feeFor_X5_night
theorem dX5_feeFor_0 : decode cX5_feeFor 0 = .ok (.aload_n 0, 1) := by decide +kernel
theorem dX5_feeFor_1 : decode cX5_feeFor 1 = .ok (.iload_n 1, 1) := by decide +kernel
theorem dX5_feeFor_2 : decode cX5_feeFor 2 = .ok (.invokestatic 187, 3) := by decide +kernel
theorem dX5_feeFor_5 : decode cX5_feeFor 5 = .ok (.ifCond .eq 7, 3) := by decide +kernel
theorem dX5_feeFor_8 : decode cX5_feeFor 8 = .ok (.iconst 0, 1) := by decide +kernel
theorem dX5_feeFor_9 : decode cX5_feeFor 9 = .ok (.goto 4, 3) := by decide +kernel
theorem dX5_feeFor_12 : decode cX5_feeFor 12 = .ok (.iconst 1, 1) := by decide +kernel
theorem dX5_feeFor_13 : decode cX5_feeFor 13 = .ok (.invokevirtual 118, 3) := by decide +kernel
theorem dX5_feeFor_16 : decode cX5_feeFor 16 = .ok (.ifCond .eq 5, 3) := by decide +kernel
theorem dX5_feeFor_19 : decode cX5_feeFor 19 = .ok (.iconst 0, 1) := by decide +kernel
theorem dX5_feeFor_20 : decode cX5_feeFor 20 = .ok (.ireturn, 1) := by decide +kernel
theorem dX5_feeFor_21 : decode cX5_feeFor 21 = .ok (.iconst 0, 1) := by decide +kernel
theorem dX5_feeFor_22 : decode cX5_feeFor 22 = .ok (.istore_n 2, 1) := by decide +kernel
theorem dX5_feeFor_23 : decode cX5_feeFor 23 = .ok (.iload_n 2, 1) := by decide +kernel
theorem dX5_feeFor_24 : decode cX5_feeFor 24 = .ok (.bipush 9, 2) := by decide +kernel
theorem dX5_feeFor_26 : decode cX5_feeFor 26 = .ok (.if_icmp .gt 79, 3) := by decide +kernel
theorem dX5_feeFor_29 : decode cX5_feeFor 29 = .ok (.aload_n 0, 1) := by decide +kernel
theorem dX5_feeFor_30 : decode cX5_feeFor 30 = .ok (.invokevirtual 228, 3) := by decide +kernel
theorem dX5_feeFor_33 : decode cX5_feeFor 33 = .ok (.aload_n 0, 1) := by decide +kernel
theorem dX5_feeFor_34 : decode cX5_feeFor 34 = .ok (.aload_n 0, 1) := by decide +kernel
theorem dX5_feeFor_35 : decode cX5_feeFor 35 = .ok (.getfield 19, 3) := by decide +kernel
theorem dX5_feeFor_38 : decode cX5_feeFor 38 = .ok (.iload_n 1, 1) := by decide +kernel
theorem dX5_feeFor_39 : decode cX5_feeFor 39 = .ok (.invokestatic 52, 3) := by decide +kernel
theorem dX5_feeFor_42 : decode cX5_feeFor 42 = .ok (.putfield 93, 3) := by decide +kernel
theorem dX5_feeFor_45 : decode cX5_feeFor 45 = .ok (.aload_n 0, 1) := by decide +kernel
theorem dX5_feeFor_46 : decode cX5_feeFor 46 = .ok (.getfield 19, 3) := by decide +kernel
theorem dX5_feeFor_49 : decode cX5_feeFor 49 = .ok (.iconst 0, 1) := by decide +kernel
theorem dX5_feeFor_50 : decode cX5_feeFor 50 = .ok (.iload_n 1, 1) := by decide +kernel
theorem dX5_feeFor_51 : decode cX5_feeFor 51 = .ok (.iconst 0, 1) := by decide +kernel
theorem dX5_feeFor_52 : decode cX5_feeFor 52 = .ok (.iload_n 2, 1) := by decide +kernel
theorem dX5_feeFor_53 : decode cX5_feeFor 53 = .ok (.invokestatic 72, 3) := by decide +kernel
theorem dX5_feeFor_56 : decode cX5_feeFor 56 = .ok (.aload_n 0, 1) := by decide +kernel
theorem dX5_feeFor_57 : decode cX5_feeFor 57 = .ok (.getfield 19, 3) := by decide +kernel
theorem dX5_feeFor_60 : decode cX5_feeFor 60 = .ok (.aload_n 0, 1) := by decide +kernel
theorem dX5_feeFor_61 : decode cX5_feeFor 61 = .ok (.getfield 19, 3) := by decide +kernel
theorem dX5_feeFor_64 : decode cX5_feeFor 64 = .ok (.bipush 6, 2) := by decide +kernel
theorem dX5_feeFor_66 : decode cX5_feeFor 66 = .ok (.iaload, 1) := by decide +kernel
theorem dX5_feeFor_67 : decode cX5_feeFor 67 = .ok (.iconst 1, 1) := by decide +kernel
theorem dX5_feeFor_68 : decode cX5_feeFor 68 = .ok (.isub, 1) := by decide +kernel
theorem dX5_feeFor_69 : decode cX5_feeFor 69 = .ok (.iconst 5, 1) := by decide +kernel
theorem dX5_feeFor_70 : decode cX5_feeFor 70 = .ok (.invokestatic 56, 3) := by decide +kernel
theorem dX5_feeFor_73 : decode cX5_feeFor 73 = .ok (.iconst 1, 1) := by decide +kernel
theorem dX5_feeFor_74 : decode cX5_feeFor 74 = .ok (.iastore, 1) := by decide +kernel
theorem dX5_feeFor_75 : decode cX5_feeFor 75 = .ok (.aload_n 0, 1) := by decide +kernel
theorem dX5_feeFor_76 : decode cX5_feeFor 76 = .ok (.getfield 93, 3) := by decide +kernel
theorem dX5_feeFor_79 : decode cX5_feeFor 79 = .ok (.ifCond .ne 11, 3) := by decide +kernel
theorem dX5_feeFor_82 : decode cX5_feeFor 82 = .ok (.aload_n 0, 1) := by decide +kernel
theorem dX5_feeFor_83 : decode cX5_feeFor 83 = .ok (.aload_n 0, 1) := by decide +kernel
theorem dX5_feeFor_84 : decode cX5_feeFor 84 = .ok (.getfield 19, 3) := by decide +kernel
theorem dX5_feeFor_87 : decode cX5_feeFor 87 = .ok (.invokevirtual 106, 3) := by decide +kernel
theorem dX5_feeFor_90 : decode cX5_feeFor 90 = .ok (.aload_n 0, 1) := by decide +kernel
theorem dX5_feeFor_91 : decode cX5_feeFor 91 = .ok (.getfield 93, 3) := by decide +kernel
theorem dX5_feeFor_94 : decode cX5_feeFor 94 = .ok (.ifCond .eq 5, 3) := by decide +kernel
theorem dX5_feeFor_97 : decode cX5_feeFor 97 = .ok (.iload_n 2, 1) := by decide +kernel
theorem dX5_feeFor_98 : decode cX5_feeFor 98 = .ok (.ireturn, 1) := by decide +kernel
theorem dX5_feeFor_99 : decode cX5_feeFor 99 = .ok (.iinc 2 1, 3) := by decide +kernel
theorem dX5_feeFor_102 : decode cX5_feeFor 102 = .ok (.goto (-79), 3) := by decide +kernel
theorem dX5_feeFor_105 : decode cX5_feeFor 105 = .ok (.iconst (-1), 1) := by decide +kernel
theorem dX5_feeFor_106 : decode cX5_feeFor 106 = .ok (.ireturn, 1) := by decide +kernel
set_option maxRecDepth 20000 in
theorem ggX5_would_X5_in : GoodIn wsX5_would wsX5_in := goodIn_r _ [8] (by decide +kernel) (by decide +kernel)
set_option maxRecDepth 20000 in
theorem gX5_would_X5_in : GoodIn wsX5_would (va_wsS RX5 111 yX5_in wsX5_in) := goodIn_app (goodIn_of _ (by decide +kernel)) ggX5_would_X5_in
set_option maxRecDepth 20000 in
theorem ggX5_would_X5_refused : GoodIn wsX5_would wsX5_refused := goodIn_r _ [12, 13, 69, 70, 71, 72, 73, 74, 75, 76, 77, 78, 79, 80, 81, 82, 83, 84] (by decide +kernel) (by decide +kernel)
set_option maxRecDepth 20000 in
theorem gX5_would_X5_refused : GoodIn wsX5_would (wsV RX5 118 RX5 yX5_refused wsX5_refused) := goodIn_app (goodIn_of _ (by decide +kernel)) ggX5_would_X5_refused
set_option maxRecDepth 20000 in
theorem ggX5_would_X5_tryIt : GoodIn wsX5_would wsX5_tryIt := goodIn_r _ [17, 4, 3, 18, 19, 7, 20, 69, 70, 71, 72, 73, 74, 75, 76, 77, 78, 79, 80, 81, 82, 83, 84] (by decide +kernel) (by decide +kernel)
set_option maxRecDepth 20000 in
theorem gX5_would_X5_tryIt : GoodIn wsX5_would (wsV RX5 228 RX5 yX5_tryIt wsX5_tryIt) := goodIn_app (goodIn_of _ (by decide +kernel)) ggX5_would_X5_tryIt
set_option maxRecDepth 20000 in
theorem ggX5_would_X5_nightsIn : GoodIn wsX5_would wsX5_nightsIn := goodIn_r _ [24, 25, 26, 27, 7, 28, 29, 30, 31, 32, 33, 34, 35, 36, 37, 38, 39, 40, 41, 42, 43, 44, 45, 46, 47, 48, 49, 50, 51, 52, 53, 54, 55, 56, 57, 58, 59, 60, 61, 62, 63, 64, 65, 18, 19, 20, 66, 67, 68, 69, 70, 71, 72, 73, 74, 75, 76, 77, 78, 79, 80, 81, 82, 83, 84] (by decide +kernel) (by decide +kernel)
set_option maxRecDepth 20000 in
theorem gX5_would_X5_nightsIn : GoodIn wsX5_would (wsV RX5 160 RX5 yX5_nightsIn wsX5_nightsIn) := goodIn_app (goodIn_of _ (by decide +kernel)) ggX5_would_X5_nightsIn
theorem dX5_would_0 : decode cX5_would 0 = .ok (.aload_n 0, 1) := by decide +kernel
theorem dX5_would_1 : decode cX5_would 1 = .ok (.iload_n 1, 1) := by decide +kernel
theorem dX5_would_2 : decode cX5_would 2 = .ok (.i2l, 1) := by decide +kernel
theorem dX5_would_3 : decode cX5_would 3 = .ok (.lconst 0, 1) := by decide +kernel
theorem dX5_would_4 : decode cX5_would 4 = .ok (.ldc2_w 235, 3) := by decide +kernel
theorem dX5_would_7 : decode cX5_would 7 = .ok (.invokestatic 111, 3) := by decide +kernel
theorem dX5_would_10 : decode cX5_would 10 = .ok (.ifCond .eq 19, 3) := by decide +kernel
theorem dX5_would_13 : decode cX5_would 13 = .ok (.iload_n 2, 1) := by decide +kernel
theorem dX5_would_14 : decode cX5_would 14 = .ok (.i2l, 1) := by decide +kernel
theorem dX5_would_15 : decode cX5_would 15 = .ok (.lconst 0, 1) := by decide +kernel
theorem dX5_would_16 : decode cX5_would 16 = .ok (.ldc2_w 190, 3) := by decide +kernel
theorem dX5_would_19 : decode cX5_would 19 = .ok (.invokestatic 111, 3) := by decide +kernel
theorem dX5_would_22 : decode cX5_would 22 = .ok (.ifCond .eq 7, 3) := by decide +kernel
theorem dX5_would_25 : decode cX5_would 25 = .ok (.iconst 0, 1) := by decide +kernel
theorem dX5_would_26 : decode cX5_would 26 = .ok (.goto 4, 3) := by decide +kernel
theorem dX5_would_29 : decode cX5_would 29 = .ok (.iconst 1, 1) := by decide +kernel
theorem dX5_would_30 : decode cX5_would 30 = .ok (.invokevirtual 118, 3) := by decide +kernel
theorem dX5_would_33 : decode cX5_would 33 = .ok (.ifCond .eq 5, 3) := by decide +kernel
theorem dX5_would_36 : decode cX5_would 36 = .ok (.iconst 0, 1) := by decide +kernel
theorem dX5_would_37 : decode cX5_would 37 = .ok (.ireturn, 1) := by decide +kernel
theorem dX5_would_38 : decode cX5_would 38 = .ok (.aload_n 0, 1) := by decide +kernel
theorem dX5_would_39 : decode cX5_would 39 = .ok (.invokevirtual 228, 3) := by decide +kernel
theorem dX5_would_42 : decode cX5_would 42 = .ok (.aload_n 0, 1) := by decide +kernel
theorem dX5_would_43 : decode cX5_would 43 = .ok (.aload_n 0, 1) := by decide +kernel
theorem dX5_would_44 : decode cX5_would 44 = .ok (.getfield 19, 3) := by decide +kernel
theorem dX5_would_47 : decode cX5_would 47 = .ok (.iload_n 1, 1) := by decide +kernel
theorem dX5_would_48 : decode cX5_would 48 = .ok (.invokevirtual 160, 3) := by decide +kernel
theorem dX5_would_51 : decode cX5_would 51 = .ok (.pop, 1) := by decide +kernel
theorem dX5_would_52 : decode cX5_would 52 = .ok (.iload_n 2, 1) := by decide +kernel
theorem dX5_would_53 : decode cX5_would 53 = .ok (.ifCond .ne 8, 3) := by decide +kernel
theorem dX5_would_56 : decode cX5_would 56 = .ok (.bipush 7, 2) := by decide +kernel
theorem dX5_would_58 : decode cX5_would 58 = .ok (.goto 25, 3) := by decide +kernel
theorem dX5_would_61 : decode cX5_would 61 = .ok (.iload_n 2, 1) := by decide +kernel
theorem dX5_would_62 : decode cX5_would 62 = .ok (.iconst 1, 1) := by decide +kernel
theorem dX5_would_63 : decode cX5_would 63 = .ok (.if_icmp .ne 8, 3) := by decide +kernel
theorem dX5_would_66 : decode cX5_would 66 = .ok (.bipush 8, 2) := by decide +kernel
theorem dX5_would_68 : decode cX5_would 68 = .ok (.goto 15, 3) := by decide +kernel
theorem dX5_would_71 : decode cX5_would 71 = .ok (.iload_n 2, 1) := by decide +kernel
theorem dX5_would_72 : decode cX5_would 72 = .ok (.iconst 2, 1) := by decide +kernel
theorem dX5_would_73 : decode cX5_would 73 = .ok (.if_icmp .ne 8, 3) := by decide +kernel
theorem dX5_would_76 : decode cX5_would 76 = .ok (.bipush 10, 2) := by decide +kernel
theorem dX5_would_78 : decode cX5_would 78 = .ok (.goto 5, 3) := by decide +kernel
theorem dX5_would_81 : decode cX5_would 81 = .ok (.bipush 12, 2) := by decide +kernel
theorem dX5_would_83 : decode cX5_would 83 = .ok (.istore_n 3, 1) := by decide +kernel
theorem dX5_would_84 : decode cX5_would 84 = .ok (.aload_n 0, 1) := by decide +kernel
theorem dX5_would_85 : decode cX5_would 85 = .ok (.getfield 19, 3) := by decide +kernel
theorem dX5_would_88 : decode cX5_would 88 = .ok (.iload_n 3, 1) := by decide +kernel
theorem dX5_would_89 : decode cX5_would 89 = .ok (.iaload, 1) := by decide +kernel
theorem dX5_would_90 : decode cX5_would 90 = .ok (.aload_n 0, 1) := by decide +kernel
theorem dX5_would_91 : decode cX5_would 91 = .ok (.getfield 16, 3) := by decide +kernel
theorem dX5_would_94 : decode cX5_would 94 = .ok (.iload_n 3, 1) := by decide +kernel
theorem dX5_would_95 : decode cX5_would 95 = .ok (.iaload, 1) := by decide +kernel
theorem dX5_would_96 : decode cX5_would 96 = .ok (.isub, 1) := by decide +kernel
theorem dX5_would_97 : decode cX5_would 97 = .ok (.ireturn, 1) := by decide +kernel
set_option maxRecDepth 20000 in
theorem ggX5_goOn_X5_night : GoodIn wsX5_goOn wsX5_night := goodIn_r _ [6, 7, 8, 9, 10, 5, 11, 12, 13, 14, 15, 16, 17, 18, 19, 20, 21, 22, 23, 24, 25, 26, 27, 28, 29, 30, 31, 32, 33, 34, 35, 36, 37, 38, 39, 40, 41, 42, 43, 44, 45, 46, 47, 48, 49, 50, 51, 52, 53, 54, 55, 56, 57, 58, 59, 60, 61, 62, 63, 64, 65] (by decide +kernel) (by decide +kernel)
set_option maxRecDepth 20000 in
theorem gX5_goOn_X5_night : GoodIn wsX5_goOn (wsV RX5 106 RX5 yX5_night wsX5_night) := goodIn_app (goodIn_of _ (by decide +kernel)) ggX5_goOn_X5_night
theorem dX5_goOn_0 : decode cX5_goOn 0 = .ok (.aload_n 0, 1) := by decide +kernel
theorem dX5_goOn_1 : decode cX5_goOn 1 = .ok (.getfield 19, 3) := by decide +kernel
theorem dX5_goOn_4 : decode cX5_goOn 4 = .ok (.bipush 6, 2) := by decide +kernel
theorem dX5_goOn_6 : decode cX5_goOn 6 = .ok (.iaload, 1) := by decide +kernel
theorem dX5_goOn_7 : decode cX5_goOn 7 = .ok (.ifCond .le 14, 3) := by decide +kernel
theorem dX5_goOn_10 : decode cX5_goOn 10 = .ok (.aload_n 0, 1) := by decide +kernel
theorem dX5_goOn_11 : decode cX5_goOn 11 = .ok (.aload_n 0, 1) := by decide +kernel
theorem dX5_goOn_12 : decode cX5_goOn 12 = .ok (.getfield 19, 3) := by decide +kernel
theorem dX5_goOn_15 : decode cX5_goOn 15 = .ok (.invokevirtual 106, 3) := by decide +kernel
theorem dX5_goOn_18 : decode cX5_goOn 18 = .ok (.goto (-18), 3) := by decide +kernel
theorem dX5_goOn_21 : decode cX5_goOn 21 = .ok (.return_, 1) := by decide +kernel
set_option maxRecDepth 20000 in
theorem ggX5_bestRule_X5_tryIt : GoodIn wsX5_bestRule wsX5_tryIt := goodIn_r _ [7, 8, 2, 9, 10, 6, 11, 60, 61, 62, 63, 64, 65, 66, 67, 68, 69, 70, 71, 72, 73, 74, 75] (by decide +kernel) (by decide +kernel)
set_option maxRecDepth 20000 in
theorem gX5_bestRule_X5_tryIt : GoodIn wsX5_bestRule (wsV RX5 228 RX5 yX5_tryIt wsX5_tryIt) := goodIn_app (goodIn_of _ (by decide +kernel)) ggX5_bestRule_X5_tryIt
set_option maxRecDepth 20000 in
theorem ggX5_bestRule_X5_goOn : GoodIn wsX5_bestRule wsX5_goOn := goodIn_r _ [15, 2, 16, 17, 18, 6, 19, 20, 21, 22, 23, 24, 25, 26, 27, 28, 29, 30, 31, 32, 33, 34, 35, 36, 37, 38, 39, 40, 41, 42, 43, 44, 45, 46, 47, 48, 49, 50, 51, 52, 53, 54, 55, 56, 9, 10, 11, 57, 58, 59, 60, 61, 62, 63, 64, 65, 66, 67, 68, 69, 70, 71, 72, 73, 74, 75] (by decide +kernel) (by decide +kernel)
set_option maxRecDepth 20000 in
theorem gX5_bestRule_X5_goOn : GoodIn wsX5_bestRule (wsV RX5 237 RX5 yX5_goOn wsX5_goOn) := goodIn_app (goodIn_of _ (by decide +kernel)) ggX5_bestRule_X5_goOn
theorem dX5_bestRule_0 : decode cX5_bestRule 0 = .ok (.aload_n 0, 1) := by decide +kernel
theorem dX5_bestRule_1 : decode cX5_bestRule 1 = .ok (.iconst 0, 1) := by decide +kernel
theorem dX5_bestRule_2 : decode cX5_bestRule 2 = .ok (.putfield 39, 3) := by decide +kernel
theorem dX5_bestRule_5 : decode cX5_bestRule 5 = .ok (.iconst (-1), 1) := by decide +kernel
theorem dX5_bestRule_6 : decode cX5_bestRule 6 = .ok (.istore_n 1, 1) := by decide +kernel
theorem dX5_bestRule_7 : decode cX5_bestRule 7 = .ok (.iconst 0, 1) := by decide +kernel
theorem dX5_bestRule_8 : decode cX5_bestRule 8 = .ok (.istore_n 2, 1) := by decide +kernel
theorem dX5_bestRule_9 : decode cX5_bestRule 9 = .ok (.iconst 0, 1) := by decide +kernel
theorem dX5_bestRule_10 : decode cX5_bestRule 10 = .ok (.istore_n 3, 1) := by decide +kernel
theorem dX5_bestRule_11 : decode cX5_bestRule 11 = .ok (.iconst 0, 1) := by decide +kernel
theorem dX5_bestRule_12 : decode cX5_bestRule 12 = .ok (.istore 4, 2) := by decide +kernel
theorem dX5_bestRule_14 : decode cX5_bestRule 14 = .ok (.iload 4, 2) := by decide +kernel
theorem dX5_bestRule_16 : decode cX5_bestRule 16 = .ok (.iconst 3, 1) := by decide +kernel
theorem dX5_bestRule_17 : decode cX5_bestRule 17 = .ok (.if_icmp .ge 116, 3) := by decide +kernel
theorem dX5_bestRule_20 : decode cX5_bestRule 20 = .ok (.aload_n 0, 1) := by decide +kernel
theorem dX5_bestRule_21 : decode cX5_bestRule 21 = .ok (.invokevirtual 228, 3) := by decide +kernel
theorem dX5_bestRule_24 : decode cX5_bestRule 24 = .ok (.aload_n 0, 1) := by decide +kernel
theorem dX5_bestRule_25 : decode cX5_bestRule 25 = .ok (.getfield 19, 3) := by decide +kernel
theorem dX5_bestRule_28 : decode cX5_bestRule 28 = .ok (.iconst 4, 1) := by decide +kernel
theorem dX5_bestRule_29 : decode cX5_bestRule 29 = .ok (.iload 4, 2) := by decide +kernel
theorem dX5_bestRule_31 : decode cX5_bestRule 31 = .ok (.iastore, 1) := by decide +kernel
theorem dX5_bestRule_32 : decode cX5_bestRule 32 = .ok (.aload_n 0, 1) := by decide +kernel
theorem dX5_bestRule_33 : decode cX5_bestRule 33 = .ok (.invokevirtual 237, 3) := by decide +kernel
theorem dX5_bestRule_36 : decode cX5_bestRule 36 = .ok (.iload_n 1, 1) := by decide +kernel
theorem dX5_bestRule_37 : decode cX5_bestRule 37 = .ok (.iconst (-1), 1) := by decide +kernel
theorem dX5_bestRule_38 : decode cX5_bestRule 38 = .ok (.if_icmp .eq 36, 3) := by decide +kernel
theorem dX5_bestRule_41 : decode cX5_bestRule 41 = .ok (.aload_n 0, 1) := by decide +kernel
theorem dX5_bestRule_42 : decode cX5_bestRule 42 = .ok (.getfield 19, 3) := by decide +kernel
theorem dX5_bestRule_45 : decode cX5_bestRule 45 = .ok (.bipush 7, 2) := by decide +kernel
theorem dX5_bestRule_47 : decode cX5_bestRule 47 = .ok (.iaload, 1) := by decide +kernel
theorem dX5_bestRule_48 : decode cX5_bestRule 48 = .ok (.iload_n 2, 1) := by decide +kernel
theorem dX5_bestRule_49 : decode cX5_bestRule 49 = .ok (.if_icmp .gt 25, 3) := by decide +kernel
theorem dX5_bestRule_52 : decode cX5_bestRule 52 = .ok (.aload_n 0, 1) := by decide +kernel
theorem dX5_bestRule_53 : decode cX5_bestRule 53 = .ok (.getfield 19, 3) := by decide +kernel
theorem dX5_bestRule_56 : decode cX5_bestRule 56 = .ok (.bipush 7, 2) := by decide +kernel
theorem dX5_bestRule_58 : decode cX5_bestRule 58 = .ok (.iaload, 1) := by decide +kernel
theorem dX5_bestRule_59 : decode cX5_bestRule 59 = .ok (.iload_n 2, 1) := by decide +kernel
theorem dX5_bestRule_60 : decode cX5_bestRule 60 = .ok (.if_icmp .ne 18, 3) := by decide +kernel
theorem dX5_bestRule_63 : decode cX5_bestRule 63 = .ok (.aload_n 0, 1) := by decide +kernel
theorem dX5_bestRule_64 : decode cX5_bestRule 64 = .ok (.getfield 19, 3) := by decide +kernel
theorem dX5_bestRule_67 : decode cX5_bestRule 67 = .ok (.bipush 10, 2) := by decide +kernel
theorem dX5_bestRule_69 : decode cX5_bestRule 69 = .ok (.iaload, 1) := by decide +kernel
theorem dX5_bestRule_70 : decode cX5_bestRule 70 = .ok (.iload_n 3, 1) := by decide +kernel
theorem dX5_bestRule_71 : decode cX5_bestRule 71 = .ok (.if_icmp .le 7, 3) := by decide +kernel
theorem dX5_bestRule_74 : decode cX5_bestRule 74 = .ok (.iconst 1, 1) := by decide +kernel
theorem dX5_bestRule_75 : decode cX5_bestRule 75 = .ok (.goto 4, 3) := by decide +kernel
theorem dX5_bestRule_78 : decode cX5_bestRule 78 = .ok (.iconst 0, 1) := by decide +kernel
theorem dX5_bestRule_79 : decode cX5_bestRule 79 = .ok (.istore 5, 2) := by decide +kernel
theorem dX5_bestRule_81 : decode cX5_bestRule 81 = .ok (.iload 5, 2) := by decide +kernel
theorem dX5_bestRule_83 : decode cX5_bestRule 83 = .ok (.ifCond .eq 8, 3) := by decide +kernel
theorem dX5_bestRule_86 : decode cX5_bestRule 86 = .ok (.iload 4, 2) := by decide +kernel
theorem dX5_bestRule_88 : decode cX5_bestRule 88 = .ok (.goto 4, 3) := by decide +kernel
theorem dX5_bestRule_91 : decode cX5_bestRule 91 = .ok (.iload_n 1, 1) := by decide +kernel
theorem dX5_bestRule_92 : decode cX5_bestRule 92 = .ok (.istore_n 1, 1) := by decide +kernel
theorem dX5_bestRule_93 : decode cX5_bestRule 93 = .ok (.iload 5, 2) := by decide +kernel
theorem dX5_bestRule_95 : decode cX5_bestRule 95 = .ok (.ifCond .eq 13, 3) := by decide +kernel
theorem dX5_bestRule_98 : decode cX5_bestRule 98 = .ok (.aload_n 0, 1) := by decide +kernel
theorem dX5_bestRule_99 : decode cX5_bestRule 99 = .ok (.getfield 19, 3) := by decide +kernel
theorem dX5_bestRule_102 : decode cX5_bestRule 102 = .ok (.bipush 7, 2) := by decide +kernel
theorem dX5_bestRule_104 : decode cX5_bestRule 104 = .ok (.iaload, 1) := by decide +kernel
theorem dX5_bestRule_105 : decode cX5_bestRule 105 = .ok (.goto 4, 3) := by decide +kernel
theorem dX5_bestRule_108 : decode cX5_bestRule 108 = .ok (.iload_n 2, 1) := by decide +kernel
theorem dX5_bestRule_109 : decode cX5_bestRule 109 = .ok (.istore_n 2, 1) := by decide +kernel
theorem dX5_bestRule_110 : decode cX5_bestRule 110 = .ok (.iload 5, 2) := by decide +kernel
theorem dX5_bestRule_112 : decode cX5_bestRule 112 = .ok (.ifCond .eq 13, 3) := by decide +kernel
theorem dX5_bestRule_115 : decode cX5_bestRule 115 = .ok (.aload_n 0, 1) := by decide +kernel
theorem dX5_bestRule_116 : decode cX5_bestRule 116 = .ok (.getfield 19, 3) := by decide +kernel
theorem dX5_bestRule_119 : decode cX5_bestRule 119 = .ok (.bipush 10, 2) := by decide +kernel
theorem dX5_bestRule_121 : decode cX5_bestRule 121 = .ok (.iaload, 1) := by decide +kernel
theorem dX5_bestRule_122 : decode cX5_bestRule 122 = .ok (.goto 4, 3) := by decide +kernel
theorem dX5_bestRule_125 : decode cX5_bestRule 125 = .ok (.iload_n 3, 1) := by decide +kernel
theorem dX5_bestRule_126 : decode cX5_bestRule 126 = .ok (.istore_n 3, 1) := by decide +kernel
theorem dX5_bestRule_127 : decode cX5_bestRule 127 = .ok (.iinc 4 1, 3) := by decide +kernel
theorem dX5_bestRule_130 : decode cX5_bestRule 130 = .ok (.goto (-116), 3) := by decide +kernel
theorem dX5_bestRule_133 : decode cX5_bestRule 133 = .ok (.iload_n 1, 1) := by decide +kernel
theorem dX5_bestRule_134 : decode cX5_bestRule 134 = .ok (.ireturn, 1) := by decide +kernel
set_option maxRecDepth 20000 in
theorem ggX5_leastRoom_X5_tryIt : GoodIn wsX5_leastRoom wsX5_tryIt := goodIn_r _ [8, 3, 2, 9, 10, 7, 11, 60, 61, 62, 63, 64, 65, 66, 67, 68, 69, 70, 71, 72, 73, 74, 75] (by decide +kernel) (by decide +kernel)
set_option maxRecDepth 20000 in
theorem gX5_leastRoom_X5_tryIt : GoodIn wsX5_leastRoom (wsV RX5 228 RX5 yX5_tryIt wsX5_tryIt) := goodIn_app (goodIn_of _ (by decide +kernel)) ggX5_leastRoom_X5_tryIt
set_option maxRecDepth 20000 in
theorem ggX5_leastRoom_X5_goOn : GoodIn wsX5_leastRoom wsX5_goOn := goodIn_r _ [15, 2, 16, 17, 18, 7, 19, 20, 21, 22, 23, 24, 25, 26, 27, 28, 29, 30, 31, 32, 33, 34, 35, 36, 37, 38, 39, 40, 41, 42, 43, 44, 45, 46, 47, 48, 49, 50, 51, 52, 53, 54, 55, 56, 9, 10, 11, 57, 58, 59, 60, 61, 62, 63, 64, 65, 66, 67, 68, 69, 70, 71, 72, 73, 74, 75] (by decide +kernel) (by decide +kernel)
set_option maxRecDepth 20000 in
theorem gX5_leastRoom_X5_goOn : GoodIn wsX5_leastRoom (wsV RX5 237 RX5 yX5_goOn wsX5_goOn) := goodIn_app (goodIn_of _ (by decide +kernel)) ggX5_leastRoom_X5_goOn
theorem dX5_leastRoom_0 : decode cX5_leastRoom 0 = .ok (.aload_n 0, 1) := by decide +kernel
theorem dX5_leastRoom_1 : decode cX5_leastRoom 1 = .ok (.iconst 0, 1) := by decide +kernel
theorem dX5_leastRoom_2 : decode cX5_leastRoom 2 = .ok (.putfield 39, 3) := by decide +kernel
theorem dX5_leastRoom_5 : decode cX5_leastRoom 5 = .ok (.iconst 0, 1) := by decide +kernel
theorem dX5_leastRoom_6 : decode cX5_leastRoom 6 = .ok (.istore_n 1, 1) := by decide +kernel
theorem dX5_leastRoom_7 : decode cX5_leastRoom 7 = .ok (.iload_n 1, 1) := by decide +kernel
theorem dX5_leastRoom_8 : decode cX5_leastRoom 8 = .ok (.bipush 16, 2) := by decide +kernel
theorem dX5_leastRoom_10 : decode cX5_leastRoom 10 = .ok (.if_icmp .gt 43, 3) := by decide +kernel
theorem dX5_leastRoom_13 : decode cX5_leastRoom 13 = .ok (.aload_n 0, 1) := by decide +kernel
theorem dX5_leastRoom_14 : decode cX5_leastRoom 14 = .ok (.invokevirtual 228, 3) := by decide +kernel
theorem dX5_leastRoom_17 : decode cX5_leastRoom 17 = .ok (.aload_n 0, 1) := by decide +kernel
theorem dX5_leastRoom_18 : decode cX5_leastRoom 18 = .ok (.getfield 19, 3) := by decide +kernel
theorem dX5_leastRoom_21 : decode cX5_leastRoom 21 = .ok (.iconst 0, 1) := by decide +kernel
theorem dX5_leastRoom_22 : decode cX5_leastRoom 22 = .ok (.iload_n 1, 1) := by decide +kernel
theorem dX5_leastRoom_23 : decode cX5_leastRoom 23 = .ok (.iastore, 1) := by decide +kernel
theorem dX5_leastRoom_24 : decode cX5_leastRoom 24 = .ok (.aload_n 0, 1) := by decide +kernel
theorem dX5_leastRoom_25 : decode cX5_leastRoom 25 = .ok (.invokevirtual 237, 3) := by decide +kernel
theorem dX5_leastRoom_28 : decode cX5_leastRoom 28 = .ok (.aload_n 0, 1) := by decide +kernel
theorem dX5_leastRoom_29 : decode cX5_leastRoom 29 = .ok (.getfield 19, 3) := by decide +kernel
theorem dX5_leastRoom_32 : decode cX5_leastRoom 32 = .ok (.bipush 8, 2) := by decide +kernel
theorem dX5_leastRoom_34 : decode cX5_leastRoom 34 = .ok (.iaload, 1) := by decide +kernel
theorem dX5_leastRoom_35 : decode cX5_leastRoom 35 = .ok (.aload_n 0, 1) := by decide +kernel
theorem dX5_leastRoom_36 : decode cX5_leastRoom 36 = .ok (.getfield 16, 3) := by decide +kernel
theorem dX5_leastRoom_39 : decode cX5_leastRoom 39 = .ok (.bipush 8, 2) := by decide +kernel
theorem dX5_leastRoom_41 : decode cX5_leastRoom 41 = .ok (.iaload, 1) := by decide +kernel
theorem dX5_leastRoom_42 : decode cX5_leastRoom 42 = .ok (.if_icmp .ne 5, 3) := by decide +kernel
theorem dX5_leastRoom_45 : decode cX5_leastRoom 45 = .ok (.iload_n 1, 1) := by decide +kernel
theorem dX5_leastRoom_46 : decode cX5_leastRoom 46 = .ok (.ireturn, 1) := by decide +kernel
theorem dX5_leastRoom_47 : decode cX5_leastRoom 47 = .ok (.iinc 1 1, 3) := by decide +kernel
theorem dX5_leastRoom_50 : decode cX5_leastRoom 50 = .ok (.goto (-43), 3) := by decide +kernel
theorem dX5_leastRoom_53 : decode cX5_leastRoom 53 = .ok (.iconst (-1), 1) := by decide +kernel
theorem dX5_leastRoom_54 : decode cX5_leastRoom 54 = .ok (.ireturn, 1) := by decide +kernel
set_option maxRecDepth 20000 in
theorem ggX5_asks_X5_canAsk : GoodIn wsX5_asks wsX5_canAsk := goodIn_r _ [5, 6, 7, 4, 8] (by decide +kernel) (by decide +kernel)
set_option maxRecDepth 20000 in
theorem gX5_asks_X5_canAsk : GoodIn wsX5_asks (va_wsS RX5 137 yX5_canAsk wsX5_canAsk) := goodIn_app (goodIn_of _ (by decide +kernel)) ggX5_asks_X5_canAsk
set_option maxRecDepth 20000 in
theorem ggX5_asks_X5_askIn : GoodIn wsX5_asks wsX5_askIn := goodIn_r _ [11, 6, 7, 4, 8, 12, 13, 14, 15, 16, 17, 18, 19, 20, 21, 22, 23] (by decide +kernel) (by decide +kernel)
set_option maxRecDepth 20000 in
theorem gX5_asks_X5_askIn : GoodIn wsX5_asks (va_wsS RX5 144 yX5_askIn wsX5_askIn) := goodIn_app (goodIn_of _ (by decide +kernel)) ggX5_asks_X5_askIn
theorem dX5_asks_0 : decode cX5_asks 0 = .ok (.iload_n 1, 1) := by decide +kernel
theorem dX5_asks_1 : decode cX5_asks 1 = .ok (.iconst 4, 1) := by decide +kernel
theorem dX5_asks_2 : decode cX5_asks 2 = .ok (.if_icmp .ge 23, 3) := by decide +kernel
theorem dX5_asks_5 : decode cX5_asks 5 = .ok (.iload_n 2, 1) := by decide +kernel
theorem dX5_asks_6 : decode cX5_asks 6 = .ok (.bipush 16, 2) := by decide +kernel
theorem dX5_asks_8 : decode cX5_asks 8 = .ok (.if_icmp .ge 17, 3) := by decide +kernel
theorem dX5_asks_11 : decode cX5_asks 11 = .ok (.aload_n 0, 1) := by decide +kernel
theorem dX5_asks_12 : decode cX5_asks 12 = .ok (.getfield 19, 3) := by decide +kernel
theorem dX5_asks_15 : decode cX5_asks 15 = .ok (.iload_n 1, 1) := by decide +kernel
theorem dX5_asks_16 : decode cX5_asks 16 = .ok (.iload_n 2, 1) := by decide +kernel
theorem dX5_asks_17 : decode cX5_asks 17 = .ok (.iload 4, 2) := by decide +kernel
theorem dX5_asks_19 : decode cX5_asks 19 = .ok (.invokestatic 137, 3) := by decide +kernel
theorem dX5_asks_22 : decode cX5_asks 22 = .ok (.ifCond .ne 5, 3) := by decide +kernel
theorem dX5_asks_25 : decode cX5_asks 25 = .ok (.iconst 0, 1) := by decide +kernel
theorem dX5_asks_26 : decode cX5_asks 26 = .ok (.ireturn, 1) := by decide +kernel
theorem dX5_asks_27 : decode cX5_asks 27 = .ok (.aload_n 0, 1) := by decide +kernel
theorem dX5_asks_28 : decode cX5_asks 28 = .ok (.getfield 19, 3) := by decide +kernel
theorem dX5_asks_31 : decode cX5_asks 31 = .ok (.iload_n 1, 1) := by decide +kernel
theorem dX5_asks_32 : decode cX5_asks 32 = .ok (.iload_n 2, 1) := by decide +kernel
theorem dX5_asks_33 : decode cX5_asks 33 = .ok (.iload_n 3, 1) := by decide +kernel
theorem dX5_asks_34 : decode cX5_asks 34 = .ok (.iload 4, 2) := by decide +kernel
theorem dX5_asks_36 : decode cX5_asks 36 = .ok (.invokestatic 144, 3) := by decide +kernel
theorem dX5_asks_39 : decode cX5_asks 39 = .ok (.pop, 1) := by decide +kernel
theorem dX5_asks_40 : decode cX5_asks 40 = .ok (.iconst 1, 1) := by decide +kernel
theorem dX5_asks_41 : decode cX5_asks 41 = .ok (.ireturn, 1) := by decide +kernel
set_option maxRecDepth 20000 in
theorem ggX5_cancels_X5_cancelIn : GoodIn wsX5_cancels wsX5_cancelIn := goodIn_r _ [5, 6, 7, 4, 8, 9, 10, 11, 12, 13, 14, 15, 16, 17] (by decide +kernel) (by decide +kernel)
set_option maxRecDepth 20000 in
theorem gX5_cancels_X5_cancelIn : GoodIn wsX5_cancels (va_wsS RX5 148 yX5_cancelIn wsX5_cancelIn) := goodIn_app (goodIn_of _ (by decide +kernel)) ggX5_cancels_X5_cancelIn
theorem dX5_cancels_0 : decode cX5_cancels 0 = .ok (.iload_n 1, 1) := by decide +kernel
theorem dX5_cancels_1 : decode cX5_cancels 1 = .ok (.aload_n 0, 1) := by decide +kernel
theorem dX5_cancels_2 : decode cX5_cancels 2 = .ok (.getfield 19, 3) := by decide +kernel
theorem dX5_cancels_5 : decode cX5_cancels 5 = .ok (.bipush 6, 2) := by decide +kernel
theorem dX5_cancels_7 : decode cX5_cancels 7 = .ok (.iaload, 1) := by decide +kernel
theorem dX5_cancels_8 : decode cX5_cancels 8 = .ok (.if_icmp .lt 5, 3) := by decide +kernel
theorem dX5_cancels_11 : decode cX5_cancels 11 = .ok (.iconst 0, 1) := by decide +kernel
theorem dX5_cancels_12 : decode cX5_cancels 12 = .ok (.ireturn, 1) := by decide +kernel
theorem dX5_cancels_13 : decode cX5_cancels 13 = .ok (.aload_n 0, 1) := by decide +kernel
theorem dX5_cancels_14 : decode cX5_cancels 14 = .ok (.getfield 19, 3) := by decide +kernel
theorem dX5_cancels_17 : decode cX5_cancels 17 = .ok (.iload_n 1, 1) := by decide +kernel
theorem dX5_cancels_18 : decode cX5_cancels 18 = .ok (.invokestatic 148, 3) := by decide +kernel
theorem dX5_cancels_21 : decode cX5_cancels 21 = .ok (.pop, 1) := by decide +kernel
theorem dX5_cancels_22 : decode cX5_cancels 22 = .ok (.iconst 1, 1) := by decide +kernel
theorem dX5_cancels_23 : decode cX5_cancels 23 = .ok (.ireturn, 1) := by decide +kernel
set_option maxRecDepth 20000 in
theorem ggX5_raises_X5_isRaise : GoodIn wsX5_raises wsX5_isRaise := goodIn_r _ [5, 6, 7, 8, 4, 9] (by decide +kernel) (by decide +kernel)
set_option maxRecDepth 20000 in
theorem gX5_raises_X5_isRaise : GoodIn wsX5_raises (va_wsS RX5 206 yX5_isRaise wsX5_isRaise) := goodIn_app (goodIn_of _ (by decide +kernel)) ggX5_raises_X5_isRaise
set_option maxRecDepth 20000 in
theorem ggX5_raises_X5_canRaise : GoodIn wsX5_raises wsX5_canRaise := goodIn_r _ [12, 13, 14, 4, 15] (by decide +kernel) (by decide +kernel)
set_option maxRecDepth 20000 in
theorem gX5_raises_X5_canRaise : GoodIn wsX5_raises (va_wsS RX5 209 yX5_canRaise wsX5_canRaise) := goodIn_app (goodIn_of _ (by decide +kernel)) ggX5_raises_X5_canRaise
set_option maxRecDepth 20000 in
theorem ggX5_raises_X5_raiseIn : GoodIn wsX5_raises wsX5_raiseIn := goodIn_r _ [18, 13, 14, 4, 15] (by decide +kernel) (by decide +kernel)
set_option maxRecDepth 20000 in
theorem gX5_raises_X5_raiseIn : GoodIn wsX5_raises (va_wsS RX5 213 yX5_raiseIn wsX5_raiseIn) := goodIn_app (goodIn_of _ (by decide +kernel)) ggX5_raises_X5_raiseIn
theorem dX5_raises_0 : decode cX5_raises 0 = .ok (.iload_n 1, 1) := by decide +kernel
theorem dX5_raises_1 : decode cX5_raises 1 = .ok (.aload_n 0, 1) := by decide +kernel
theorem dX5_raises_2 : decode cX5_raises 2 = .ok (.getfield 19, 3) := by decide +kernel
theorem dX5_raises_5 : decode cX5_raises 5 = .ok (.bipush 6, 2) := by decide +kernel
theorem dX5_raises_7 : decode cX5_raises 7 = .ok (.iaload, 1) := by decide +kernel
theorem dX5_raises_8 : decode cX5_raises 8 = .ok (.if_icmp .ge 22, 3) := by decide +kernel
theorem dX5_raises_11 : decode cX5_raises 11 = .ok (.iload_n 2, 1) := by decide +kernel
theorem dX5_raises_12 : decode cX5_raises 12 = .ok (.invokestatic 206, 3) := by decide +kernel
theorem dX5_raises_15 : decode cX5_raises 15 = .ok (.ifCond .eq 15, 3) := by decide +kernel
theorem dX5_raises_18 : decode cX5_raises 18 = .ok (.aload_n 0, 1) := by decide +kernel
theorem dX5_raises_19 : decode cX5_raises 19 = .ok (.getfield 19, 3) := by decide +kernel
theorem dX5_raises_22 : decode cX5_raises 22 = .ok (.iload_n 1, 1) := by decide +kernel
theorem dX5_raises_23 : decode cX5_raises 23 = .ok (.iload_n 2, 1) := by decide +kernel
theorem dX5_raises_24 : decode cX5_raises 24 = .ok (.invokestatic 209, 3) := by decide +kernel
theorem dX5_raises_27 : decode cX5_raises 27 = .ok (.ifCond .ne 5, 3) := by decide +kernel
theorem dX5_raises_30 : decode cX5_raises 30 = .ok (.iconst 0, 1) := by decide +kernel
theorem dX5_raises_31 : decode cX5_raises 31 = .ok (.ireturn, 1) := by decide +kernel
theorem dX5_raises_32 : decode cX5_raises 32 = .ok (.aload_n 0, 1) := by decide +kernel
theorem dX5_raises_33 : decode cX5_raises 33 = .ok (.getfield 19, 3) := by decide +kernel
theorem dX5_raises_36 : decode cX5_raises 36 = .ok (.iload_n 1, 1) := by decide +kernel
theorem dX5_raises_37 : decode cX5_raises 37 = .ok (.iload_n 2, 1) := by decide +kernel
theorem dX5_raises_38 : decode cX5_raises 38 = .ok (.invokestatic 213, 3) := by decide +kernel
theorem dX5_raises_41 : decode cX5_raises 41 = .ok (.pop, 1) := by decide +kernel
theorem dX5_raises_42 : decode cX5_raises 42 = .ok (.iconst 1, 1) := by decide +kernel
theorem dX5_raises_43 : decode cX5_raises 43 = .ok (.ireturn, 1) := by decide +kernel
set_option maxRecDepth 20000 in
theorem ggX5_goes_X5_isNights : GoodIn wsX5_goes wsX5_isNights := goodIn_r _ [5, 6, 7, 8, 4, 9] (by decide +kernel) (by decide +kernel)
set_option maxRecDepth 20000 in
theorem gX5_goes_X5_isNights : GoodIn wsX5_goes (va_wsS RX5 219 yX5_isNights wsX5_isNights) := goodIn_app (goodIn_of _ (by decide +kernel)) ggX5_goes_X5_isNights
set_option maxRecDepth 20000 in
theorem ggX5_goes_X5_nightsIn : GoodIn wsX5_goes wsX5_nightsIn := goodIn_r _ [13, 14, 15, 16, 4, 17, 18, 19, 20, 21, 22, 23, 24, 25, 26, 27, 28, 29, 30, 31, 32, 33, 34, 35, 36, 37, 38, 39, 40, 41, 42, 43, 44, 45, 46, 47, 48, 49, 50, 51, 52, 53, 54, 55, 56, 57, 58, 59, 60, 61, 62, 63, 64, 65, 66, 67, 68, 69, 70, 71, 72, 73, 74, 75, 76] (by decide +kernel) (by decide +kernel)
set_option maxRecDepth 20000 in
theorem gX5_goes_X5_nightsIn : GoodIn wsX5_goes (wsV RX5 160 RX5 yX5_nightsIn wsX5_nightsIn) := goodIn_app (goodIn_of _ (by decide +kernel)) ggX5_goes_X5_nightsIn
theorem dX5_goes_0 : decode cX5_goes 0 = .ok (.iload_n 1, 1) := by decide +kernel
theorem dX5_goes_1 : decode cX5_goes 1 = .ok (.invokestatic 219, 3) := by decide +kernel
theorem dX5_goes_4 : decode cX5_goes 4 = .ok (.ifCond .ne 5, 3) := by decide +kernel
theorem dX5_goes_7 : decode cX5_goes 7 = .ok (.iconst 0, 1) := by decide +kernel
theorem dX5_goes_8 : decode cX5_goes 8 = .ok (.ireturn, 1) := by decide +kernel
theorem dX5_goes_9 : decode cX5_goes 9 = .ok (.aload_n 0, 1) := by decide +kernel
theorem dX5_goes_10 : decode cX5_goes 10 = .ok (.aload_n 0, 1) := by decide +kernel
theorem dX5_goes_11 : decode cX5_goes 11 = .ok (.getfield 19, 3) := by decide +kernel
theorem dX5_goes_14 : decode cX5_goes 14 = .ok (.iload_n 1, 1) := by decide +kernel
theorem dX5_goes_15 : decode cX5_goes 15 = .ok (.invokevirtual 160, 3) := by decide +kernel
theorem dX5_goes_18 : decode cX5_goes 18 = .ok (.pop, 1) := by decide +kernel
theorem dX5_goes_19 : decode cX5_goes 19 = .ok (.iconst 1, 1) := by decide +kernel
theorem dX5_goes_20 : decode cX5_goes 20 = .ok (.ireturn, 1) := by decide +kernel
set_option maxRecDepth 20000 in
theorem ggX5_sets_X5_isSetting : GoodIn wsX5_sets wsX5_isSetting := goodIn_r _ [5, 6, 7, 8, 4, 9, 10, 11, 12, 13, 14, 15] (by decide +kernel) (by decide +kernel)
set_option maxRecDepth 20000 in
theorem gX5_sets_X5_isSetting : GoodIn wsX5_sets (va_wsS RX5 224 yX5_isSetting wsX5_isSetting) := goodIn_app (goodIn_of _ (by decide +kernel)) ggX5_sets_X5_isSetting
theorem dX5_sets_0 : decode cX5_sets 0 = .ok (.iload_n 1, 1) := by decide +kernel
theorem dX5_sets_1 : decode cX5_sets 1 = .ok (.iload_n 2, 1) := by decide +kernel
theorem dX5_sets_2 : decode cX5_sets 2 = .ok (.invokestatic 224, 3) := by decide +kernel
theorem dX5_sets_5 : decode cX5_sets 5 = .ok (.ifCond .ne 5, 3) := by decide +kernel
theorem dX5_sets_8 : decode cX5_sets 8 = .ok (.iconst 0, 1) := by decide +kernel
theorem dX5_sets_9 : decode cX5_sets 9 = .ok (.ireturn, 1) := by decide +kernel
theorem dX5_sets_10 : decode cX5_sets 10 = .ok (.aload_n 0, 1) := by decide +kernel
theorem dX5_sets_11 : decode cX5_sets 11 = .ok (.getfield 19, 3) := by decide +kernel
theorem dX5_sets_14 : decode cX5_sets 14 = .ok (.iload_n 1, 1) := by decide +kernel
theorem dX5_sets_15 : decode cX5_sets 15 = .ok (.iload_n 2, 1) := by decide +kernel
theorem dX5_sets_16 : decode cX5_sets 16 = .ok (.iastore, 1) := by decide +kernel
theorem dX5_sets_17 : decode cX5_sets 17 = .ok (.iconst 1, 1) := by decide +kernel
theorem dX5_sets_18 : decode cX5_sets 18 = .ok (.ireturn, 1) := by decide +kernel
set_option maxRecDepth 20000 in
theorem ggX5_does_X5_asks : GoodIn wsX5_does wsX5_asks := goodIn_r _ [6, 1, 7, 8, 5, 9, 10, 11, 12, 13, 14, 15, 16, 17, 18, 19, 20, 21, 22, 23, 24, 25, 26, 27, 113, 114, 115, 116, 117, 118, 119, 120, 121, 122, 123, 124, 125, 126, 127, 128] (by decide +kernel) (by decide +kernel)
set_option maxRecDepth 20000 in
theorem gX5_does_X5_asks : GoodIn wsX5_does (wsV RX5 240 RX5 yX5_asks wsX5_asks) := goodIn_app (goodIn_of _ (by decide +kernel)) ggX5_does_X5_asks
set_option maxRecDepth 20000 in
theorem ggX5_does_X5_cancels : GoodIn wsX5_does wsX5_cancels := goodIn_r _ [31, 1, 32, 33, 5, 34, 25, 26, 27, 35, 36, 37, 38, 39, 40, 41, 42, 43, 113, 114, 115, 116, 117, 118, 119, 120, 121, 122, 123, 124, 125, 126, 127, 128] (by decide +kernel) (by decide +kernel)
set_option maxRecDepth 20000 in
theorem gX5_does_X5_cancels : GoodIn wsX5_does (wsV RX5 244 RX5 yX5_cancels wsX5_cancels) := goodIn_app (goodIn_of _ (by decide +kernel)) ggX5_does_X5_cancels
set_option maxRecDepth 20000 in
theorem ggX5_does_X5_raises : GoodIn wsX5_does wsX5_raises := goodIn_r _ [47, 1, 48, 49, 5, 50, 51, 52, 53, 54, 55, 56, 57, 25, 26, 27, 58, 59, 60, 113, 114, 115, 116, 117, 118, 119, 120, 121, 122, 123, 124, 125, 126, 127, 128] (by decide +kernel) (by decide +kernel)
set_option maxRecDepth 20000 in
theorem gX5_does_X5_raises : GoodIn wsX5_does (wsV RX5 247 RX5 yX5_raises wsX5_raises) := goodIn_app (goodIn_of _ (by decide +kernel)) ggX5_does_X5_raises
set_option maxRecDepth 20000 in
theorem ggX5_does_X5_goes : GoodIn wsX5_does wsX5_goes := goodIn_r _ [64, 1, 65, 66, 5, 67, 68, 52, 53, 54, 69, 70, 71, 72, 73, 74, 75, 76, 77, 78, 79, 80, 81, 25, 26, 27, 82, 83, 84, 85, 86, 87, 88, 89, 90, 91, 92, 93, 94, 95, 10, 11, 12, 96, 97, 98, 16, 17, 18, 19, 20, 21, 38, 39, 40, 41, 42, 43, 35, 36, 37, 113, 114, 115, 116, 117, 118, 119, 120, 121, 122, 123, 124, 125, 126, 127, 128] (by decide +kernel) (by decide +kernel)
set_option maxRecDepth 20000 in
theorem gX5_does_X5_goes : GoodIn wsX5_does (wsV RX5 250 RX5 yX5_goes wsX5_goes) := goodIn_app (goodIn_of _ (by decide +kernel)) ggX5_does_X5_goes
set_option maxRecDepth 20000 in
theorem ggX5_does_X5_sets : GoodIn wsX5_does wsX5_sets := goodIn_r _ [102, 1, 103, 104, 5, 105, 106, 52, 53, 54, 107, 108, 109, 110, 111, 112, 113, 114, 115, 116, 117, 118, 119, 120, 121, 122, 123, 124, 125, 126, 127, 128] (by decide +kernel) (by decide +kernel)
set_option maxRecDepth 20000 in
theorem gX5_does_X5_sets : GoodIn wsX5_does (wsV RX5 253 RX5 yX5_sets wsX5_sets) := goodIn_app (goodIn_of _ (by decide +kernel)) ggX5_does_X5_sets
set_option maxRecDepth 20000 in
theorem ggX5_does_X5_isFront : GoodIn wsX5_does wsX5_isFront := goodIn_r _ [12] (by decide +kernel) (by decide +kernel)
set_option maxRecDepth 20000 in
theorem gX5_does_X5_isFront : GoodIn wsX5_does (va_wsS RX5 52 yX5_isFront wsX5_isFront) := goodIn_app (goodIn_of _ (by decide +kernel)) ggX5_does_X5_isFront
theorem dX5_does_0 : decode cX5_does 0 = .ok (.iload_n 1, 1) := by decide +kernel
theorem dX5_does_1 : decode cX5_does 1 = .ok (.sipush 10000, 3) := by decide +kernel
theorem dX5_does_4 : decode cX5_does 4 = .ok (.idiv, 1) := by decide +kernel
theorem dX5_does_5 : decode cX5_does 5 = .ok (.istore_n 2, 1) := by decide +kernel
theorem dX5_does_6 : decode cX5_does 6 = .ok (.iload_n 1, 1) := by decide +kernel
theorem dX5_does_7 : decode cX5_does 7 = .ok (.bipush 100, 2) := by decide +kernel
theorem dX5_does_9 : decode cX5_does 9 = .ok (.idiv, 1) := by decide +kernel
theorem dX5_does_10 : decode cX5_does 10 = .ok (.bipush 100, 2) := by decide +kernel
theorem dX5_does_12 : decode cX5_does 12 = .ok (.irem, 1) := by decide +kernel
theorem dX5_does_13 : decode cX5_does 13 = .ok (.istore_n 3, 1) := by decide +kernel
theorem dX5_does_14 : decode cX5_does 14 = .ok (.iload_n 1, 1) := by decide +kernel
theorem dX5_does_15 : decode cX5_does 15 = .ok (.sipush 1000, 3) := by decide +kernel
theorem dX5_does_18 : decode cX5_does 18 = .ok (.idiv, 1) := by decide +kernel
theorem dX5_does_19 : decode cX5_does 19 = .ok (.bipush 10, 2) := by decide +kernel
theorem dX5_does_21 : decode cX5_does 21 = .ok (.irem, 1) := by decide +kernel
theorem dX5_does_22 : decode cX5_does 22 = .ok (.istore 4, 2) := by decide +kernel
theorem dX5_does_24 : decode cX5_does 24 = .ok (.iload_n 1, 1) := by decide +kernel
theorem dX5_does_25 : decode cX5_does 25 = .ok (.bipush 100, 2) := by decide +kernel
theorem dX5_does_27 : decode cX5_does 27 = .ok (.irem, 1) := by decide +kernel
theorem dX5_does_28 : decode cX5_does 28 = .ok (.istore 5, 2) := by decide +kernel
theorem dX5_does_30 : decode cX5_does 30 = .ok (.iload_n 2, 1) := by decide +kernel
theorem dX5_does_31 : decode cX5_does 31 = .ok (.tableswitch 286 1 9 #[49, 68, 87, 110, 129, 164, 204, 238, 260], 49) := by decide +kernel
theorem dX5_does_80 : decode cX5_does 80 = .ok (.aload_n 0, 1) := by decide +kernel
theorem dX5_does_81 : decode cX5_does 81 = .ok (.iload 4, 2) := by decide +kernel
theorem dX5_does_83 : decode cX5_does 83 = .ok (.iload_n 1, 1) := by decide +kernel
theorem dX5_does_84 : decode cX5_does 84 = .ok (.bipush 10, 2) := by decide +kernel
theorem dX5_does_86 : decode cX5_does 86 = .ok (.idiv, 1) := by decide +kernel
theorem dX5_does_87 : decode cX5_does 87 = .ok (.bipush 100, 2) := by decide +kernel
theorem dX5_does_89 : decode cX5_does 89 = .ok (.irem, 1) := by decide +kernel
theorem dX5_does_90 : decode cX5_does 90 = .ok (.iconst 0, 1) := by decide +kernel
theorem dX5_does_91 : decode cX5_does 91 = .ok (.iload_n 1, 1) := by decide +kernel
theorem dX5_does_92 : decode cX5_does 92 = .ok (.bipush 10, 2) := by decide +kernel
theorem dX5_does_94 : decode cX5_does 94 = .ok (.irem, 1) := by decide +kernel
theorem dX5_does_95 : decode cX5_does 95 = .ok (.invokevirtual 240, 3) := by decide +kernel
theorem dX5_does_98 : decode cX5_does 98 = .ok (.ireturn, 1) := by decide +kernel
theorem dX5_does_99 : decode cX5_does 99 = .ok (.iload 5, 2) := by decide +kernel
theorem dX5_does_101 : decode cX5_does 101 = .ok (.ifCond .ne 15, 3) := by decide +kernel
theorem dX5_does_104 : decode cX5_does 104 = .ok (.aload_n 0, 1) := by decide +kernel
theorem dX5_does_105 : decode cX5_does 105 = .ok (.iload_n 3, 1) := by decide +kernel
theorem dX5_does_106 : decode cX5_does 106 = .ok (.invokevirtual 244, 3) := by decide +kernel
theorem dX5_does_109 : decode cX5_does 109 = .ok (.ifCond .eq 7, 3) := by decide +kernel
theorem dX5_does_112 : decode cX5_does 112 = .ok (.iconst 1, 1) := by decide +kernel
theorem dX5_does_113 : decode cX5_does 113 = .ok (.goto 4, 3) := by decide +kernel
theorem dX5_does_116 : decode cX5_does 116 = .ok (.iconst 0, 1) := by decide +kernel
theorem dX5_does_117 : decode cX5_does 117 = .ok (.ireturn, 1) := by decide +kernel
theorem dX5_does_118 : decode cX5_does 118 = .ok (.iload 5, 2) := by decide +kernel
theorem dX5_does_120 : decode cX5_does 120 = .ok (.bipush 10, 2) := by decide +kernel
theorem dX5_does_122 : decode cX5_does 122 = .ok (.if_icmp .ge 17, 3) := by decide +kernel
theorem dX5_does_125 : decode cX5_does 125 = .ok (.aload_n 0, 1) := by decide +kernel
theorem dX5_does_126 : decode cX5_does 126 = .ok (.iload_n 3, 1) := by decide +kernel
theorem dX5_does_127 : decode cX5_does 127 = .ok (.iload 5, 2) := by decide +kernel
theorem dX5_does_129 : decode cX5_does 129 = .ok (.invokevirtual 247, 3) := by decide +kernel
theorem dX5_does_132 : decode cX5_does 132 = .ok (.ifCond .eq 7, 3) := by decide +kernel
theorem dX5_does_135 : decode cX5_does 135 = .ok (.iconst 1, 1) := by decide +kernel
theorem dX5_does_136 : decode cX5_does 136 = .ok (.goto 4, 3) := by decide +kernel
theorem dX5_does_139 : decode cX5_does 139 = .ok (.iconst 0, 1) := by decide +kernel
theorem dX5_does_140 : decode cX5_does 140 = .ok (.ireturn, 1) := by decide +kernel
theorem dX5_does_141 : decode cX5_does 141 = .ok (.iload_n 3, 1) := by decide +kernel
theorem dX5_does_142 : decode cX5_does 142 = .ok (.ifCond .ne 16, 3) := by decide +kernel
theorem dX5_does_145 : decode cX5_does 145 = .ok (.aload_n 0, 1) := by decide +kernel
theorem dX5_does_146 : decode cX5_does 146 = .ok (.iload 5, 2) := by decide +kernel
theorem dX5_does_148 : decode cX5_does 148 = .ok (.invokevirtual 250, 3) := by decide +kernel
theorem dX5_does_151 : decode cX5_does 151 = .ok (.ifCond .eq 7, 3) := by decide +kernel
theorem dX5_does_154 : decode cX5_does 154 = .ok (.iconst 1, 1) := by decide +kernel
theorem dX5_does_155 : decode cX5_does 155 = .ok (.goto 4, 3) := by decide +kernel
theorem dX5_does_158 : decode cX5_does 158 = .ok (.iconst 0, 1) := by decide +kernel
theorem dX5_does_159 : decode cX5_does 159 = .ok (.ireturn, 1) := by decide +kernel
theorem dX5_does_160 : decode cX5_does 160 = .ok (.iload_n 3, 1) := by decide +kernel
theorem dX5_does_161 : decode cX5_does 161 = .ok (.bipush 10, 2) := by decide +kernel
theorem dX5_does_163 : decode cX5_does 163 = .ok (.irem, 1) := by decide +kernel
theorem dX5_does_164 : decode cX5_does 164 = .ok (.ifCond .ne 29, 3) := by decide +kernel
theorem dX5_does_167 : decode cX5_does 167 = .ok (.iload 5, 2) := by decide +kernel
theorem dX5_does_169 : decode cX5_does 169 = .ok (.bipush 10, 2) := by decide +kernel
theorem dX5_does_171 : decode cX5_does 171 = .ok (.irem, 1) := by decide +kernel
theorem dX5_does_172 : decode cX5_does 172 = .ok (.ifCond .ne 21, 3) := by decide +kernel
theorem dX5_does_175 : decode cX5_does 175 = .ok (.aload_n 0, 1) := by decide +kernel
theorem dX5_does_176 : decode cX5_does 176 = .ok (.iload 4, 2) := by decide +kernel
theorem dX5_does_178 : decode cX5_does 178 = .ok (.iload 5, 2) := by decide +kernel
theorem dX5_does_180 : decode cX5_does 180 = .ok (.bipush 10, 2) := by decide +kernel
theorem dX5_does_182 : decode cX5_does 182 = .ok (.idiv, 1) := by decide +kernel
theorem dX5_does_183 : decode cX5_does 183 = .ok (.invokevirtual 253, 3) := by decide +kernel
theorem dX5_does_186 : decode cX5_does 186 = .ok (.ifCond .eq 7, 3) := by decide +kernel
theorem dX5_does_189 : decode cX5_does 189 = .ok (.iconst 1, 1) := by decide +kernel
theorem dX5_does_190 : decode cX5_does 190 = .ok (.goto 4, 3) := by decide +kernel
theorem dX5_does_193 : decode cX5_does 193 = .ok (.iconst 0, 1) := by decide +kernel
theorem dX5_does_194 : decode cX5_does 194 = .ok (.ireturn, 1) := by decide +kernel
theorem dX5_does_195 : decode cX5_does 195 = .ok (.iload_n 3, 1) := by decide +kernel
theorem dX5_does_196 : decode cX5_does 196 = .ok (.bipush 16, 2) := by decide +kernel
theorem dX5_does_198 : decode cX5_does 198 = .ok (.if_icmp .ge 35, 3) := by decide +kernel
theorem dX5_does_201 : decode cX5_does 201 = .ok (.iload 5, 2) := by decide +kernel
theorem dX5_does_203 : decode cX5_does 203 = .ok (.iconst 2, 1) := by decide +kernel
theorem dX5_does_204 : decode cX5_does 204 = .ok (.if_icmp .ge 29, 3) := by decide +kernel
theorem dX5_does_207 : decode cX5_does 207 = .ok (.aload_n 0, 1) := by decide +kernel
theorem dX5_does_208 : decode cX5_does 208 = .ok (.getfield 19, 3) := by decide +kernel
theorem dX5_does_211 : decode cX5_does 211 = .ok (.iload_n 3, 1) := by decide +kernel
theorem dX5_does_212 : decode cX5_does 212 = .ok (.invokestatic 52, 3) := by decide +kernel
theorem dX5_does_215 : decode cX5_does 215 = .ok (.iload 5, 2) := by decide +kernel
theorem dX5_does_217 : decode cX5_does 217 = .ok (.iconst 1, 1) := by decide +kernel
theorem dX5_does_218 : decode cX5_does 218 = .ok (.if_icmp .ne 7, 3) := by decide +kernel
theorem dX5_does_221 : decode cX5_does 221 = .ok (.iconst 1, 1) := by decide +kernel
theorem dX5_does_222 : decode cX5_does 222 = .ok (.goto 4, 3) := by decide +kernel
theorem dX5_does_225 : decode cX5_does 225 = .ok (.iconst 0, 1) := by decide +kernel
theorem dX5_does_226 : decode cX5_does 226 = .ok (.if_icmp .ne 7, 3) := by decide +kernel
theorem dX5_does_229 : decode cX5_does 229 = .ok (.iconst 1, 1) := by decide +kernel
theorem dX5_does_230 : decode cX5_does 230 = .ok (.goto 4, 3) := by decide +kernel
theorem dX5_does_233 : decode cX5_does 233 = .ok (.iconst 0, 1) := by decide +kernel
theorem dX5_does_234 : decode cX5_does 234 = .ok (.ireturn, 1) := by decide +kernel
theorem dX5_does_235 : decode cX5_does 235 = .ok (.iload 4, 2) := by decide +kernel
theorem dX5_does_237 : decode cX5_does 237 = .ok (.iconst 4, 1) := by decide +kernel
theorem dX5_does_238 : decode cX5_does 238 = .ok (.if_icmp .ge 29, 3) := by decide +kernel
theorem dX5_does_241 : decode cX5_does 241 = .ok (.iload_n 3, 1) := by decide +kernel
theorem dX5_does_242 : decode cX5_does 242 = .ok (.bipush 10, 2) := by decide +kernel
theorem dX5_does_244 : decode cX5_does 244 = .ok (.irem, 1) := by decide +kernel
theorem dX5_does_245 : decode cX5_does 245 = .ok (.ifCond .ne 22, 3) := by decide +kernel
theorem dX5_does_248 : decode cX5_does 248 = .ok (.aload_n 0, 1) := by decide +kernel
theorem dX5_does_249 : decode cX5_does 249 = .ok (.getfield 19, 3) := by decide +kernel
theorem dX5_does_252 : decode cX5_does 252 = .ok (.bipush 50, 2) := by decide +kernel
theorem dX5_does_254 : decode cX5_does 254 = .ok (.iload 4, 2) := by decide +kernel
theorem dX5_does_256 : decode cX5_does 256 = .ok (.iadd, 1) := by decide +kernel
theorem dX5_does_257 : decode cX5_does 257 = .ok (.iaload, 1) := by decide +kernel
theorem dX5_does_258 : decode cX5_does 258 = .ok (.iload 5, 2) := by decide +kernel
theorem dX5_does_260 : decode cX5_does 260 = .ok (.if_icmp .lt 7, 3) := by decide +kernel
theorem dX5_does_263 : decode cX5_does 263 = .ok (.iconst 1, 1) := by decide +kernel
theorem dX5_does_264 : decode cX5_does 264 = .ok (.goto 4, 3) := by decide +kernel
theorem dX5_does_267 : decode cX5_does 267 = .ok (.iconst 0, 1) := by decide +kernel
theorem dX5_does_268 : decode cX5_does 268 = .ok (.ireturn, 1) := by decide +kernel
theorem dX5_does_269 : decode cX5_does 269 = .ok (.iload_n 3, 1) := by decide +kernel
theorem dX5_does_270 : decode cX5_does 270 = .ok (.ifCond .ne 19, 3) := by decide +kernel
theorem dX5_does_273 : decode cX5_does 273 = .ok (.aload_n 0, 1) := by decide +kernel
theorem dX5_does_274 : decode cX5_does 274 = .ok (.getfield 19, 3) := by decide +kernel
theorem dX5_does_277 : decode cX5_does 277 = .ok (.bipush 8, 2) := by decide +kernel
theorem dX5_does_279 : decode cX5_does 279 = .ok (.iaload, 1) := by decide +kernel
theorem dX5_does_280 : decode cX5_does 280 = .ok (.iload 5, 2) := by decide +kernel
theorem dX5_does_282 : decode cX5_does 282 = .ok (.if_icmp .gt 7, 3) := by decide +kernel
theorem dX5_does_285 : decode cX5_does 285 = .ok (.iconst 1, 1) := by decide +kernel
theorem dX5_does_286 : decode cX5_does 286 = .ok (.goto 4, 3) := by decide +kernel
theorem dX5_does_289 : decode cX5_does 289 = .ok (.iconst 0, 1) := by decide +kernel
theorem dX5_does_290 : decode cX5_does 290 = .ok (.ireturn, 1) := by decide +kernel
theorem dX5_does_291 : decode cX5_does 291 = .ok (.iload 4, 2) := by decide +kernel
theorem dX5_does_293 : decode cX5_does 293 = .ok (.ifCond .ne 22, 3) := by decide +kernel
theorem dX5_does_296 : decode cX5_does 296 = .ok (.aload_n 0, 1) := by decide +kernel
theorem dX5_does_297 : decode cX5_does 297 = .ok (.getfield 19, 3) := by decide +kernel
theorem dX5_does_300 : decode cX5_does 300 = .ok (.bipush 10, 2) := by decide +kernel
theorem dX5_does_302 : decode cX5_does 302 = .ok (.iaload, 1) := by decide +kernel
theorem dX5_does_303 : decode cX5_does 303 = .ok (.iload_n 1, 1) := by decide +kernel
theorem dX5_does_304 : decode cX5_does 304 = .ok (.sipush 1000, 3) := by decide +kernel
theorem dX5_does_307 : decode cX5_does 307 = .ok (.irem, 1) := by decide +kernel
theorem dX5_does_308 : decode cX5_does 308 = .ok (.if_icmp .lt 7, 3) := by decide +kernel
theorem dX5_does_311 : decode cX5_does 311 = .ok (.iconst 1, 1) := by decide +kernel
theorem dX5_does_312 : decode cX5_does 312 = .ok (.goto 4, 3) := by decide +kernel
theorem dX5_does_315 : decode cX5_does 315 = .ok (.iconst 0, 1) := by decide +kernel
theorem dX5_does_316 : decode cX5_does 316 = .ok (.ireturn, 1) := by decide +kernel
theorem dX5_does_317 : decode cX5_does 317 = .ok (.iconst 0, 1) := by decide +kernel
theorem dX5_does_318 : decode cX5_does 318 = .ok (.ireturn, 1) := by decide +kernel
set_option maxRecDepth 20000 in
theorem ggX5_runScript_X5_in : GoodIn wsX5_runScript wsX5_in := goodIn_r _ [6] (by decide +kernel) (by decide +kernel)
set_option maxRecDepth 20000 in
theorem gX5_runScript_X5_in : GoodIn wsX5_runScript (va_wsS RX5 111 yX5_in wsX5_in) := goodIn_app (goodIn_of _ (by decide +kernel)) ggX5_runScript_X5_in
set_option maxRecDepth 20000 in
theorem ggX5_runScript_X5_tenTo : GoodIn wsX5_runScript wsX5_tenTo := goodIn_r _ [9, 10] (by decide +kernel) (by decide +kernel)
set_option maxRecDepth 20000 in
theorem gX5_runScript_X5_tenTo : GoodIn wsX5_runScript (va_wsS RX5 256 yX5_tenTo wsX5_tenTo) := goodIn_app (goodIn_of _ (by decide +kernel)) ggX5_runScript_X5_tenTo
set_option maxRecDepth 20000 in
theorem ggX5_runScript_X5_refused : GoodIn wsX5_runScript wsX5_refused := goodIn_r _ [14, 15, 133, 134, 135, 136, 137, 138, 139, 140, 141, 142, 143, 144, 145, 146, 147, 148] (by decide +kernel) (by decide +kernel)
set_option maxRecDepth 20000 in
theorem gX5_runScript_X5_refused : GoodIn wsX5_runScript (wsV RX5 118 RX5 yX5_refused wsX5_refused) := goodIn_app (goodIn_of _ (by decide +kernel)) ggX5_runScript_X5_refused
set_option maxRecDepth 20000 in
theorem ggX5_runScript_X5_tryIt : GoodIn wsX5_runScript wsX5_tryIt := goodIn_r _ [19, 20, 21, 22, 23, 5, 24, 133, 134, 135, 136, 137, 138, 139, 140, 141, 142, 143, 144, 145, 146, 147, 148] (by decide +kernel) (by decide +kernel)
set_option maxRecDepth 20000 in
theorem gX5_runScript_X5_tryIt : GoodIn wsX5_runScript (wsV RX5 228 RX5 yX5_tryIt wsX5_tryIt) := goodIn_app (goodIn_of _ (by decide +kernel)) ggX5_runScript_X5_tryIt
set_option maxRecDepth 20000 in
theorem ggX5_runScript_X5_does : GoodIn wsX5_runScript wsX5_does := goodIn_r _ [28, 21, 29, 30, 31, 5, 32, 33, 34, 35, 36, 37, 38, 39, 40, 41, 42, 43, 44, 45, 46, 47, 48, 49, 50, 51, 52, 53, 54, 55, 56, 57, 58, 59, 60, 61, 62, 63, 64, 65, 66, 22, 23, 24, 67, 68, 69, 70, 71, 72, 73, 74, 3, 4, 6, 75, 76, 77, 78, 79, 80, 81, 82, 83, 84, 85, 86, 87, 88, 89, 90, 91, 92, 93, 94, 95, 96, 97, 98, 99, 100, 101, 102, 103, 104, 105, 106, 107, 108, 109, 110, 111, 112, 113, 114, 115, 116, 117, 118, 119, 120, 121, 122, 123, 124, 125, 126, 127, 128, 129, 130, 131, 132, 133, 134, 135, 136, 137, 138, 139, 140, 141, 142, 143, 144, 145, 146, 147, 148] (by decide +kernel) (by decide +kernel)
set_option maxRecDepth 20000 in
theorem gX5_runScript_X5_does : GoodIn wsX5_runScript (wsV RX5 262 RX5 yX5_does wsX5_does) := goodIn_app (goodIn_of _ (by decide +kernel)) ggX5_runScript_X5_does
theorem dX5_runScript_0 : decode cX5_runScript 0 = .ok (.iload_n 1, 1) := by decide +kernel
theorem dX5_runScript_1 : decode cX5_runScript 1 = .ok (.i2l, 1) := by decide +kernel
theorem dX5_runScript_2 : decode cX5_runScript 2 = .ok (.lconst 1, 1) := by decide +kernel
theorem dX5_runScript_3 : decode cX5_runScript 3 = .ok (.ldc2_w 190, 3) := by decide +kernel
theorem dX5_runScript_6 : decode cX5_runScript 6 = .ok (.invokestatic 111, 3) := by decide +kernel
theorem dX5_runScript_9 : decode cX5_runScript 9 = .ok (.istore 4, 2) := by decide +kernel
theorem dX5_runScript_11 : decode cX5_runScript 11 = .ok (.aload_n 0, 1) := by decide +kernel
theorem dX5_runScript_12 : decode cX5_runScript 12 = .ok (.iload 4, 2) := by decide +kernel
theorem dX5_runScript_14 : decode cX5_runScript 14 = .ok (.ifCond .eq 32, 3) := by decide +kernel
theorem dX5_runScript_17 : decode cX5_runScript 17 = .ok (.lload_n 2, 1) := by decide +kernel
theorem dX5_runScript_18 : decode cX5_runScript 18 = .ok (.lconst 0, 1) := by decide +kernel
theorem dX5_runScript_19 : decode cX5_runScript 19 = .ok (.iload 4, 2) := by decide +kernel
theorem dX5_runScript_21 : decode cX5_runScript 21 = .ok (.ifCond .eq 9, 3) := by decide +kernel
theorem dX5_runScript_24 : decode cX5_runScript 24 = .ok (.iconst 5, 1) := by decide +kernel
theorem dX5_runScript_25 : decode cX5_runScript 25 = .ok (.iload_n 1, 1) := by decide +kernel
theorem dX5_runScript_26 : decode cX5_runScript 26 = .ok (.imul, 1) := by decide +kernel
theorem dX5_runScript_27 : decode cX5_runScript 27 = .ok (.goto 4, 3) := by decide +kernel
theorem dX5_runScript_30 : decode cX5_runScript 30 = .ok (.iconst 0, 1) := by decide +kernel
theorem dX5_runScript_31 : decode cX5_runScript 31 = .ok (.invokestatic 256, 3) := by decide +kernel
theorem dX5_runScript_34 : decode cX5_runScript 34 = .ok (.lconst 1, 1) := by decide +kernel
theorem dX5_runScript_35 : decode cX5_runScript 35 = .ok (.lsub, 1) := by decide +kernel
theorem dX5_runScript_36 : decode cX5_runScript 36 = .ok (.invokestatic 111, 3) := by decide +kernel
theorem dX5_runScript_39 : decode cX5_runScript 39 = .ok (.ifCond .eq 7, 3) := by decide +kernel
theorem dX5_runScript_42 : decode cX5_runScript 42 = .ok (.iconst 0, 1) := by decide +kernel
theorem dX5_runScript_43 : decode cX5_runScript 43 = .ok (.goto 4, 3) := by decide +kernel
theorem dX5_runScript_46 : decode cX5_runScript 46 = .ok (.iconst 1, 1) := by decide +kernel
theorem dX5_runScript_47 : decode cX5_runScript 47 = .ok (.invokevirtual 118, 3) := by decide +kernel
theorem dX5_runScript_50 : decode cX5_runScript 50 = .ok (.ifCond .eq 5, 3) := by decide +kernel
theorem dX5_runScript_53 : decode cX5_runScript 53 = .ok (.iconst 0, 1) := by decide +kernel
theorem dX5_runScript_54 : decode cX5_runScript 54 = .ok (.ireturn, 1) := by decide +kernel
theorem dX5_runScript_55 : decode cX5_runScript 55 = .ok (.aload_n 0, 1) := by decide +kernel
theorem dX5_runScript_56 : decode cX5_runScript 56 = .ok (.invokevirtual 228, 3) := by decide +kernel
theorem dX5_runScript_59 : decode cX5_runScript 59 = .ok (.iconst 0, 1) := by decide +kernel
theorem dX5_runScript_60 : decode cX5_runScript 60 = .ok (.istore 5, 2) := by decide +kernel
theorem dX5_runScript_62 : decode cX5_runScript 62 = .ok (.iload 5, 2) := by decide +kernel
theorem dX5_runScript_64 : decode cX5_runScript 64 = .ok (.iload_n 1, 1) := by decide +kernel
theorem dX5_runScript_65 : decode cX5_runScript 65 = .ok (.if_icmp .ge 37, 3) := by decide +kernel
theorem dX5_runScript_68 : decode cX5_runScript 68 = .ok (.aload_n 0, 1) := by decide +kernel
theorem dX5_runScript_69 : decode cX5_runScript 69 = .ok (.lload_n 2, 1) := by decide +kernel
theorem dX5_runScript_70 : decode cX5_runScript 70 = .ok (.iconst 5, 1) := by decide +kernel
theorem dX5_runScript_71 : decode cX5_runScript 71 = .ok (.iload_n 1, 1) := by decide +kernel
theorem dX5_runScript_72 : decode cX5_runScript 72 = .ok (.iconst 1, 1) := by decide +kernel
theorem dX5_runScript_73 : decode cX5_runScript 73 = .ok (.isub, 1) := by decide +kernel
theorem dX5_runScript_74 : decode cX5_runScript 74 = .ok (.iload 5, 2) := by decide +kernel
theorem dX5_runScript_76 : decode cX5_runScript 76 = .ok (.isub, 1) := by decide +kernel
theorem dX5_runScript_77 : decode cX5_runScript 77 = .ok (.imul, 1) := by decide +kernel
theorem dX5_runScript_78 : decode cX5_runScript 78 = .ok (.invokestatic 256, 3) := by decide +kernel
theorem dX5_runScript_81 : decode cX5_runScript 81 = .ok (.ldiv, 1) := by decide +kernel
theorem dX5_runScript_82 : decode cX5_runScript 82 = .ok (.ldc2_w 260, 3) := by decide +kernel
theorem dX5_runScript_85 : decode cX5_runScript 85 = .ok (.lrem, 1) := by decide +kernel
theorem dX5_runScript_86 : decode cX5_runScript 86 = .ok (.l2i, 1) := by decide +kernel
theorem dX5_runScript_87 : decode cX5_runScript 87 = .ok (.invokevirtual 262, 3) := by decide +kernel
theorem dX5_runScript_90 : decode cX5_runScript 90 = .ok (.ifCond .ne 6, 3) := by decide +kernel
theorem dX5_runScript_93 : decode cX5_runScript 93 = .ok (.iload 5, 2) := by decide +kernel
theorem dX5_runScript_95 : decode cX5_runScript 95 = .ok (.ireturn, 1) := by decide +kernel
theorem dX5_runScript_96 : decode cX5_runScript 96 = .ok (.iinc 5 1, 3) := by decide +kernel
theorem dX5_runScript_99 : decode cX5_runScript 99 = .ok (.goto (-37), 3) := by decide +kernel
theorem dX5_runScript_102 : decode cX5_runScript 102 = .ok (.iconst (-1), 1) := by decide +kernel
theorem dX5_runScript_103 : decode cX5_runScript 103 = .ok (.ireturn, 1) := by decide +kernel
set_option maxRecDepth 20000 in
theorem ggX5_simulate_X5_in : GoodIn wsX5_simulate wsX5_in := goodIn_r _ [11] (by decide +kernel) (by decide +kernel)
set_option maxRecDepth 20000 in
theorem gX5_simulate_X5_in : GoodIn wsX5_simulate (va_wsS RX5 111 yX5_in wsX5_in) := goodIn_app (goodIn_of _ (by decide +kernel)) ggX5_simulate_X5_in
set_option maxRecDepth 20000 in
theorem ggX5_simulate_X5_refused : GoodIn wsX5_simulate wsX5_refused := goodIn_r _ [15, 16, 88, 89, 90, 91, 92, 93, 94, 95, 96, 97, 98, 99, 100, 101, 102, 103] (by decide +kernel) (by decide +kernel)
set_option maxRecDepth 20000 in
theorem gX5_simulate_X5_refused : GoodIn wsX5_simulate (wsV RX5 118 RX5 yX5_refused wsX5_refused) := goodIn_app (goodIn_of _ (by decide +kernel)) ggX5_simulate_X5_refused
set_option maxRecDepth 20000 in
theorem ggX5_simulate_X5_tryIt : GoodIn wsX5_simulate wsX5_tryIt := goodIn_r _ [20, 7, 6, 21, 22, 10, 23, 88, 89, 90, 91, 92, 93, 94, 95, 96, 97, 98, 99, 100, 101, 102, 103] (by decide +kernel) (by decide +kernel)
set_option maxRecDepth 20000 in
theorem gX5_simulate_X5_tryIt : GoodIn wsX5_simulate (wsV RX5 228 RX5 yX5_tryIt wsX5_tryIt) := goodIn_app (goodIn_of _ (by decide +kernel)) ggX5_simulate_X5_tryIt
set_option maxRecDepth 20000 in
theorem ggX5_simulate_X5_asks : GoodIn wsX5_simulate wsX5_asks := goodIn_r _ [27, 6, 28, 29, 10, 30, 31, 32, 33, 34, 35, 36, 37, 38, 39, 40, 41, 42, 43, 44, 45, 46, 47, 48, 88, 89, 90, 91, 92, 93, 94, 95, 96, 97, 98, 99, 100, 101, 102, 103] (by decide +kernel) (by decide +kernel)
set_option maxRecDepth 20000 in
theorem gX5_simulate_X5_asks : GoodIn wsX5_simulate (wsV RX5 240 RX5 yX5_asks wsX5_asks) := goodIn_app (goodIn_of _ (by decide +kernel)) ggX5_simulate_X5_asks
set_option maxRecDepth 20000 in
theorem ggX5_simulate_X5_cancels : GoodIn wsX5_simulate wsX5_cancels := goodIn_r _ [52, 6, 53, 54, 10, 55, 46, 47, 48, 56, 57, 58, 59, 60, 61, 21, 22, 23, 88, 89, 90, 91, 92, 93, 94, 95, 96, 97, 98, 99, 100, 101, 102, 103] (by decide +kernel) (by decide +kernel)
set_option maxRecDepth 20000 in
theorem gX5_simulate_X5_cancels : GoodIn wsX5_simulate (wsV RX5 244 RX5 yX5_cancels wsX5_cancels) := goodIn_app (goodIn_of _ (by decide +kernel)) ggX5_simulate_X5_cancels
set_option maxRecDepth 20000 in
theorem ggX5_simulate_X5_night : GoodIn wsX5_simulate wsX5_night := goodIn_r _ [65, 66, 67, 68, 69, 10, 70, 46, 47, 48, 71, 72, 73, 74, 75, 76, 77, 78, 79, 80, 81, 82, 83, 84, 31, 32, 33, 85, 86, 87, 37, 38, 39, 40, 41, 42, 59, 60, 61, 21, 22, 23, 56, 57, 58, 88, 89, 90, 91, 92, 93, 94, 95, 96, 97, 98, 99, 100, 101, 102, 103] (by decide +kernel) (by decide +kernel)
set_option maxRecDepth 20000 in
theorem gX5_simulate_X5_night : GoodIn wsX5_simulate (wsV RX5 106 RX5 yX5_night wsX5_night) := goodIn_app (goodIn_of _ (by decide +kernel)) ggX5_simulate_X5_night
theorem dX5_simulate_0 : decode cX5_simulate 0 = .ok (.aload_n 0, 1) := by decide +kernel
theorem dX5_simulate_1 : decode cX5_simulate 1 = .ok (.iload_n 3, 1) := by decide +kernel
theorem dX5_simulate_2 : decode cX5_simulate 2 = .ok (.i2l, 1) := by decide +kernel
theorem dX5_simulate_3 : decode cX5_simulate 3 = .ok (.lconst 1, 1) := by decide +kernel
theorem dX5_simulate_4 : decode cX5_simulate 4 = .ok (.ldc2_w 265, 3) := by decide +kernel
theorem dX5_simulate_7 : decode cX5_simulate 7 = .ok (.invokestatic 111, 3) := by decide +kernel
theorem dX5_simulate_10 : decode cX5_simulate 10 = .ok (.ifCond .eq 7, 3) := by decide +kernel
theorem dX5_simulate_13 : decode cX5_simulate 13 = .ok (.iconst 0, 1) := by decide +kernel
theorem dX5_simulate_14 : decode cX5_simulate 14 = .ok (.goto 4, 3) := by decide +kernel
theorem dX5_simulate_17 : decode cX5_simulate 17 = .ok (.iconst 1, 1) := by decide +kernel
theorem dX5_simulate_18 : decode cX5_simulate 18 = .ok (.invokevirtual 118, 3) := by decide +kernel
theorem dX5_simulate_21 : decode cX5_simulate 21 = .ok (.ifCond .eq 5, 3) := by decide +kernel
theorem dX5_simulate_24 : decode cX5_simulate 24 = .ok (.iconst 0, 1) := by decide +kernel
theorem dX5_simulate_25 : decode cX5_simulate 25 = .ok (.ireturn, 1) := by decide +kernel
theorem dX5_simulate_26 : decode cX5_simulate 26 = .ok (.aload_n 0, 1) := by decide +kernel
theorem dX5_simulate_27 : decode cX5_simulate 27 = .ok (.invokevirtual 228, 3) := by decide +kernel
theorem dX5_simulate_30 : decode cX5_simulate 30 = .ok (.lload_n 1, 1) := by decide +kernel
theorem dX5_simulate_31 : decode cX5_simulate 31 = .ok (.lstore 4, 2) := by decide +kernel
theorem dX5_simulate_33 : decode cX5_simulate 33 = .ok (.iconst 0, 1) := by decide +kernel
theorem dX5_simulate_34 : decode cX5_simulate 34 = .ok (.istore 6, 2) := by decide +kernel
theorem dX5_simulate_36 : decode cX5_simulate 36 = .ok (.iload 6, 2) := by decide +kernel
theorem dX5_simulate_38 : decode cX5_simulate 38 = .ok (.iload_n 3, 1) := by decide +kernel
theorem dX5_simulate_39 : decode cX5_simulate 39 = .ok (.if_icmp .ge 106, 3) := by decide +kernel
theorem dX5_simulate_42 : decode cX5_simulate 42 = .ok (.lload 4, 2) := by decide +kernel
theorem dX5_simulate_44 : decode cX5_simulate 44 = .ok (.ldc2_w 267, 3) := by decide +kernel
theorem dX5_simulate_47 : decode cX5_simulate 47 = .ok (.lmul, 1) := by decide +kernel
theorem dX5_simulate_48 : decode cX5_simulate 48 = .ok (.ldc2_w 269, 3) := by decide +kernel
theorem dX5_simulate_51 : decode cX5_simulate 51 = .ok (.ladd, 1) := by decide +kernel
theorem dX5_simulate_52 : decode cX5_simulate 52 = .ok (.lstore 4, 2) := by decide +kernel
theorem dX5_simulate_54 : decode cX5_simulate 54 = .ok (.lload 4, 2) := by decide +kernel
theorem dX5_simulate_56 : decode cX5_simulate 56 = .ok (.bipush 33, 2) := by decide +kernel
theorem dX5_simulate_58 : decode cX5_simulate 58 = .ok (.lushr, 1) := by decide +kernel
theorem dX5_simulate_59 : decode cX5_simulate 59 = .ok (.l2i, 1) := by decide +kernel
theorem dX5_simulate_60 : decode cX5_simulate 60 = .ok (.istore 7, 2) := by decide +kernel
theorem dX5_simulate_62 : decode cX5_simulate 62 = .ok (.aload_n 0, 1) := by decide +kernel
theorem dX5_simulate_63 : decode cX5_simulate 63 = .ok (.iload 7, 2) := by decide +kernel
theorem dX5_simulate_65 : decode cX5_simulate 65 = .ok (.iconst 4, 1) := by decide +kernel
theorem dX5_simulate_66 : decode cX5_simulate 66 = .ok (.irem, 1) := by decide +kernel
theorem dX5_simulate_67 : decode cX5_simulate 67 = .ok (.iload 7, 2) := by decide +kernel
theorem dX5_simulate_69 : decode cX5_simulate 69 = .ok (.iconst 4, 1) := by decide +kernel
theorem dX5_simulate_70 : decode cX5_simulate 70 = .ok (.idiv, 1) := by decide +kernel
theorem dX5_simulate_71 : decode cX5_simulate 71 = .ok (.bipush 16, 2) := by decide +kernel
theorem dX5_simulate_73 : decode cX5_simulate 73 = .ok (.irem, 1) := by decide +kernel
theorem dX5_simulate_74 : decode cX5_simulate 74 = .ok (.iload 7, 2) := by decide +kernel
theorem dX5_simulate_76 : decode cX5_simulate 76 = .ok (.bipush 64, 2) := by decide +kernel
theorem dX5_simulate_78 : decode cX5_simulate 78 = .ok (.idiv, 1) := by decide +kernel
theorem dX5_simulate_79 : decode cX5_simulate 79 = .ok (.bipush 8, 2) := by decide +kernel
theorem dX5_simulate_81 : decode cX5_simulate 81 = .ok (.irem, 1) := by decide +kernel
theorem dX5_simulate_82 : decode cX5_simulate 82 = .ok (.iload 7, 2) := by decide +kernel
theorem dX5_simulate_84 : decode cX5_simulate 84 = .ok (.sipush 512, 3) := by decide +kernel
theorem dX5_simulate_87 : decode cX5_simulate 87 = .ok (.idiv, 1) := by decide +kernel
theorem dX5_simulate_88 : decode cX5_simulate 88 = .ok (.bipush 10, 2) := by decide +kernel
theorem dX5_simulate_90 : decode cX5_simulate 90 = .ok (.irem, 1) := by decide +kernel
theorem dX5_simulate_91 : decode cX5_simulate 91 = .ok (.invokevirtual 240, 3) := by decide +kernel
theorem dX5_simulate_94 : decode cX5_simulate 94 = .ok (.pop, 1) := by decide +kernel
theorem dX5_simulate_95 : decode cX5_simulate 95 = .ok (.iload 7, 2) := by decide +kernel
theorem dX5_simulate_97 : decode cX5_simulate 97 = .ok (.sipush 8192, 3) := by decide +kernel
theorem dX5_simulate_100 : decode cX5_simulate 100 = .ok (.idiv, 1) := by decide +kernel
theorem dX5_simulate_101 : decode cX5_simulate 101 = .ok (.iconst 4, 1) := by decide +kernel
theorem dX5_simulate_102 : decode cX5_simulate 102 = .ok (.irem, 1) := by decide +kernel
theorem dX5_simulate_103 : decode cX5_simulate 103 = .ok (.ifCond .ne 17, 3) := by decide +kernel
theorem dX5_simulate_106 : decode cX5_simulate 106 = .ok (.aload_n 0, 1) := by decide +kernel
theorem dX5_simulate_107 : decode cX5_simulate 107 = .ok (.iload 7, 2) := by decide +kernel
theorem dX5_simulate_109 : decode cX5_simulate 109 = .ok (.ldc_w 271, 3) := by decide +kernel
theorem dX5_simulate_112 : decode cX5_simulate 112 = .ok (.idiv, 1) := by decide +kernel
theorem dX5_simulate_113 : decode cX5_simulate 113 = .ok (.bipush 20, 2) := by decide +kernel
theorem dX5_simulate_115 : decode cX5_simulate 115 = .ok (.irem, 1) := by decide +kernel
theorem dX5_simulate_116 : decode cX5_simulate 116 = .ok (.invokevirtual 244, 3) := by decide +kernel
theorem dX5_simulate_119 : decode cX5_simulate 119 = .ok (.pop, 1) := by decide +kernel
theorem dX5_simulate_120 : decode cX5_simulate 120 = .ok (.iload 7, 2) := by decide +kernel
theorem dX5_simulate_122 : decode cX5_simulate 122 = .ok (.ldc_w 272, 3) := by decide +kernel
theorem dX5_simulate_125 : decode cX5_simulate 125 = .ok (.idiv, 1) := by decide +kernel
theorem dX5_simulate_126 : decode cX5_simulate 126 = .ok (.iconst 2, 1) := by decide +kernel
theorem dX5_simulate_127 : decode cX5_simulate 127 = .ok (.irem, 1) := by decide +kernel
theorem dX5_simulate_128 : decode cX5_simulate 128 = .ok (.ifCond .ne 11, 3) := by decide +kernel
theorem dX5_simulate_131 : decode cX5_simulate 131 = .ok (.aload_n 0, 1) := by decide +kernel
theorem dX5_simulate_132 : decode cX5_simulate 132 = .ok (.aload_n 0, 1) := by decide +kernel
theorem dX5_simulate_133 : decode cX5_simulate 133 = .ok (.getfield 19, 3) := by decide +kernel
theorem dX5_simulate_136 : decode cX5_simulate 136 = .ok (.invokevirtual 106, 3) := by decide +kernel
theorem dX5_simulate_139 : decode cX5_simulate 139 = .ok (.iinc 6 1, 3) := by decide +kernel
theorem dX5_simulate_142 : decode cX5_simulate 142 = .ok (.goto (-106), 3) := by decide +kernel
theorem dX5_simulate_145 : decode cX5_simulate 145 = .ok (.sipush 10000, 3) := by decide +kernel
theorem dX5_simulate_148 : decode cX5_simulate 148 = .ok (.aload_n 0, 1) := by decide +kernel
theorem dX5_simulate_149 : decode cX5_simulate 149 = .ok (.getfield 19, 3) := by decide +kernel
theorem dX5_simulate_152 : decode cX5_simulate 152 = .ok (.bipush 7, 2) := by decide +kernel
theorem dX5_simulate_154 : decode cX5_simulate 154 = .ok (.iaload, 1) := by decide +kernel
theorem dX5_simulate_155 : decode cX5_simulate 155 = .ok (.aload_n 0, 1) := by decide +kernel
theorem dX5_simulate_156 : decode cX5_simulate 156 = .ok (.getfield 16, 3) := by decide +kernel
theorem dX5_simulate_159 : decode cX5_simulate 159 = .ok (.bipush 7, 2) := by decide +kernel
theorem dX5_simulate_161 : decode cX5_simulate 161 = .ok (.iaload, 1) := by decide +kernel
theorem dX5_simulate_162 : decode cX5_simulate 162 = .ok (.isub, 1) := by decide +kernel
theorem dX5_simulate_163 : decode cX5_simulate 163 = .ok (.imul, 1) := by decide +kernel
theorem dX5_simulate_164 : decode cX5_simulate 164 = .ok (.bipush 100, 2) := by decide +kernel
theorem dX5_simulate_166 : decode cX5_simulate 166 = .ok (.aload_n 0, 1) := by decide +kernel
theorem dX5_simulate_167 : decode cX5_simulate 167 = .ok (.getfield 19, 3) := by decide +kernel
theorem dX5_simulate_170 : decode cX5_simulate 170 = .ok (.bipush 8, 2) := by decide +kernel
theorem dX5_simulate_172 : decode cX5_simulate 172 = .ok (.iaload, 1) := by decide +kernel
theorem dX5_simulate_173 : decode cX5_simulate 173 = .ok (.aload_n 0, 1) := by decide +kernel
theorem dX5_simulate_174 : decode cX5_simulate 174 = .ok (.getfield 16, 3) := by decide +kernel
theorem dX5_simulate_177 : decode cX5_simulate 177 = .ok (.bipush 8, 2) := by decide +kernel
theorem dX5_simulate_179 : decode cX5_simulate 179 = .ok (.iaload, 1) := by decide +kernel
theorem dX5_simulate_180 : decode cX5_simulate 180 = .ok (.isub, 1) := by decide +kernel
theorem dX5_simulate_181 : decode cX5_simulate 181 = .ok (.imul, 1) := by decide +kernel
theorem dX5_simulate_182 : decode cX5_simulate 182 = .ok (.iadd, 1) := by decide +kernel
theorem dX5_simulate_183 : decode cX5_simulate 183 = .ok (.aload_n 0, 1) := by decide +kernel
theorem dX5_simulate_184 : decode cX5_simulate 184 = .ok (.getfield 19, 3) := by decide +kernel
theorem dX5_simulate_187 : decode cX5_simulate 187 = .ok (.bipush 6, 2) := by decide +kernel
theorem dX5_simulate_189 : decode cX5_simulate 189 = .ok (.iaload, 1) := by decide +kernel
theorem dX5_simulate_190 : decode cX5_simulate 190 = .ok (.iadd, 1) := by decide +kernel
theorem dX5_simulate_191 : decode cX5_simulate 191 = .ok (.ireturn, 1) := by decide +kernel
set_option maxRecDepth 20000 in
theorem ggX5_save_X5_in : GoodIn wsX5_save wsX5_in := goodIn_r _ [7] (by decide +kernel) (by decide +kernel)
set_option maxRecDepth 20000 in
theorem gX5_save_X5_in : GoodIn wsX5_save (va_wsS RX5 111 yX5_in wsX5_in) := goodIn_app (goodIn_of _ (by decide +kernel)) ggX5_save_X5_in
set_option maxRecDepth 20000 in
theorem ggX5_save_X5_refused : GoodIn wsX5_save wsX5_refused := goodIn_r _ [11, 12, 16, 17, 18, 19, 20, 21, 22, 23, 24, 25, 26, 27, 28, 29, 30, 31] (by decide +kernel) (by decide +kernel)
set_option maxRecDepth 20000 in
theorem gX5_save_X5_refused : GoodIn wsX5_save (wsV RX5 118 RX5 yX5_refused wsX5_refused) := goodIn_app (goodIn_of _ (by decide +kernel)) ggX5_save_X5_refused
set_option maxRecDepth 20000 in
theorem ggX5_save_X5_copy : GoodIn wsX5_save wsX5_copy := goodIn_r _ [15] (by decide +kernel) (by decide +kernel)
set_option maxRecDepth 20000 in
theorem gX5_save_X5_copy : GoodIn wsX5_save (va_wsS RX5 48 yX5_copy wsX5_copy) := goodIn_app (goodIn_of _ (by decide +kernel)) ggX5_save_X5_copy
theorem dX5_save_0 : decode cX5_save 0 = .ok (.aload_n 0, 1) := by decide +kernel
theorem dX5_save_1 : decode cX5_save 1 = .ok (.iload_n 1, 1) := by decide +kernel
theorem dX5_save_2 : decode cX5_save 2 = .ok (.i2l, 1) := by decide +kernel
theorem dX5_save_3 : decode cX5_save 3 = .ok (.lconst 0, 1) := by decide +kernel
theorem dX5_save_4 : decode cX5_save 4 = .ok (.lconst 1, 1) := by decide +kernel
theorem dX5_save_5 : decode cX5_save 5 = .ok (.invokestatic 111, 3) := by decide +kernel
theorem dX5_save_8 : decode cX5_save 8 = .ok (.ifCond .eq 7, 3) := by decide +kernel
theorem dX5_save_11 : decode cX5_save 11 = .ok (.iconst 0, 1) := by decide +kernel
theorem dX5_save_12 : decode cX5_save 12 = .ok (.goto 4, 3) := by decide +kernel
theorem dX5_save_15 : decode cX5_save 15 = .ok (.iconst 1, 1) := by decide +kernel
theorem dX5_save_16 : decode cX5_save 16 = .ok (.invokevirtual 118, 3) := by decide +kernel
theorem dX5_save_19 : decode cX5_save 19 = .ok (.ifCond .eq 5, 3) := by decide +kernel
theorem dX5_save_22 : decode cX5_save 22 = .ok (.iconst 0, 1) := by decide +kernel
theorem dX5_save_23 : decode cX5_save 23 = .ok (.ireturn, 1) := by decide +kernel
theorem dX5_save_24 : decode cX5_save 24 = .ok (.aload_n 0, 1) := by decide +kernel
theorem dX5_save_25 : decode cX5_save 25 = .ok (.getfield 16, 3) := by decide +kernel
theorem dX5_save_28 : decode cX5_save 28 = .ok (.iconst 0, 1) := by decide +kernel
theorem dX5_save_29 : decode cX5_save 29 = .ok (.aload_n 0, 1) := by decide +kernel
theorem dX5_save_30 : decode cX5_save 30 = .ok (.getfield 25, 3) := by decide +kernel
theorem dX5_save_33 : decode cX5_save 33 = .ok (.sipush 235, 3) := by decide +kernel
theorem dX5_save_36 : decode cX5_save 36 = .ok (.iload_n 1, 1) := by decide +kernel
theorem dX5_save_37 : decode cX5_save 37 = .ok (.imul, 1) := by decide +kernel
theorem dX5_save_38 : decode cX5_save 38 = .ok (.sipush 235, 3) := by decide +kernel
theorem dX5_save_41 : decode cX5_save 41 = .ok (.invokestatic 48, 3) := by decide +kernel
theorem dX5_save_44 : decode cX5_save 44 = .ok (.aload_n 0, 1) := by decide +kernel
theorem dX5_save_45 : decode cX5_save 45 = .ok (.getfield 28, 3) := by decide +kernel
theorem dX5_save_48 : decode cX5_save 48 = .ok (.iload_n 1, 1) := by decide +kernel
theorem dX5_save_49 : decode cX5_save 49 = .ok (.iconst 1, 1) := by decide +kernel
theorem dX5_save_50 : decode cX5_save 50 = .ok (.bastore, 1) := by decide +kernel
theorem dX5_save_51 : decode cX5_save 51 = .ok (.aload_n 0, 1) := by decide +kernel
theorem dX5_save_52 : decode cX5_save 52 = .ok (.getfield 16, 3) := by decide +kernel
theorem dX5_save_55 : decode cX5_save 55 = .ok (.iconst 5, 1) := by decide +kernel
theorem dX5_save_56 : decode cX5_save 56 = .ok (.iaload, 1) := by decide +kernel
theorem dX5_save_57 : decode cX5_save 57 = .ok (.ireturn, 1) := by decide +kernel
set_option maxRecDepth 20000 in
theorem ggX5_restore_X5_in : GoodIn wsX5_restore wsX5_in := goodIn_r _ [8] (by decide +kernel) (by decide +kernel)
set_option maxRecDepth 20000 in
theorem gX5_restore_X5_in : GoodIn wsX5_restore (va_wsS RX5 111 yX5_in wsX5_in) := goodIn_app (goodIn_of _ (by decide +kernel)) ggX5_restore_X5_in
set_option maxRecDepth 20000 in
theorem ggX5_restore_X5_refused : GoodIn wsX5_restore wsX5_refused := goodIn_r _ [12, 13, 17, 18, 19, 20, 21, 22, 23, 24, 25, 26, 27, 28, 29, 30, 31, 32] (by decide +kernel) (by decide +kernel)
set_option maxRecDepth 20000 in
theorem gX5_restore_X5_refused : GoodIn wsX5_restore (wsV RX5 118 RX5 yX5_refused wsX5_refused) := goodIn_app (goodIn_of _ (by decide +kernel)) ggX5_restore_X5_refused
set_option maxRecDepth 20000 in
theorem ggX5_restore_X5_copy : GoodIn wsX5_restore wsX5_copy := goodIn_r _ [16] (by decide +kernel) (by decide +kernel)
set_option maxRecDepth 20000 in
theorem gX5_restore_X5_copy : GoodIn wsX5_restore (va_wsS RX5 48 yX5_copy wsX5_copy) := goodIn_app (goodIn_of _ (by decide +kernel)) ggX5_restore_X5_copy
theorem dX5_restore_0 : decode cX5_restore 0 = .ok (.aload_n 0, 1) := by decide +kernel
theorem dX5_restore_1 : decode cX5_restore 1 = .ok (.iload_n 1, 1) := by decide +kernel
theorem dX5_restore_2 : decode cX5_restore 2 = .ok (.i2l, 1) := by decide +kernel
theorem dX5_restore_3 : decode cX5_restore 3 = .ok (.lconst 0, 1) := by decide +kernel
theorem dX5_restore_4 : decode cX5_restore 4 = .ok (.lconst 1, 1) := by decide +kernel
theorem dX5_restore_5 : decode cX5_restore 5 = .ok (.invokestatic 111, 3) := by decide +kernel
theorem dX5_restore_8 : decode cX5_restore 8 = .ok (.ifCond .ne 7, 3) := by decide +kernel
theorem dX5_restore_11 : decode cX5_restore 11 = .ok (.iconst 1, 1) := by decide +kernel
theorem dX5_restore_12 : decode cX5_restore 12 = .ok (.goto 17, 3) := by decide +kernel
theorem dX5_restore_15 : decode cX5_restore 15 = .ok (.aload_n 0, 1) := by decide +kernel
theorem dX5_restore_16 : decode cX5_restore 16 = .ok (.getfield 28, 3) := by decide +kernel
theorem dX5_restore_19 : decode cX5_restore 19 = .ok (.iload_n 1, 1) := by decide +kernel
theorem dX5_restore_20 : decode cX5_restore 20 = .ok (.baload, 1) := by decide +kernel
theorem dX5_restore_21 : decode cX5_restore 21 = .ok (.ifCond .eq 7, 3) := by decide +kernel
theorem dX5_restore_24 : decode cX5_restore 24 = .ok (.iconst 0, 1) := by decide +kernel
theorem dX5_restore_25 : decode cX5_restore 25 = .ok (.goto 4, 3) := by decide +kernel
theorem dX5_restore_28 : decode cX5_restore 28 = .ok (.iconst 2, 1) := by decide +kernel
theorem dX5_restore_29 : decode cX5_restore 29 = .ok (.invokevirtual 118, 3) := by decide +kernel
theorem dX5_restore_32 : decode cX5_restore 32 = .ok (.ifCond .eq 5, 3) := by decide +kernel
theorem dX5_restore_35 : decode cX5_restore 35 = .ok (.iconst 0, 1) := by decide +kernel
theorem dX5_restore_36 : decode cX5_restore 36 = .ok (.ireturn, 1) := by decide +kernel
theorem dX5_restore_37 : decode cX5_restore 37 = .ok (.aload_n 0, 1) := by decide +kernel
theorem dX5_restore_38 : decode cX5_restore 38 = .ok (.getfield 25, 3) := by decide +kernel
theorem dX5_restore_41 : decode cX5_restore 41 = .ok (.sipush 235, 3) := by decide +kernel
theorem dX5_restore_44 : decode cX5_restore 44 = .ok (.iload_n 1, 1) := by decide +kernel
theorem dX5_restore_45 : decode cX5_restore 45 = .ok (.imul, 1) := by decide +kernel
theorem dX5_restore_46 : decode cX5_restore 46 = .ok (.aload_n 0, 1) := by decide +kernel
theorem dX5_restore_47 : decode cX5_restore 47 = .ok (.getfield 16, 3) := by decide +kernel
theorem dX5_restore_50 : decode cX5_restore 50 = .ok (.iconst 0, 1) := by decide +kernel
theorem dX5_restore_51 : decode cX5_restore 51 = .ok (.sipush 235, 3) := by decide +kernel
theorem dX5_restore_54 : decode cX5_restore 54 = .ok (.invokestatic 48, 3) := by decide +kernel
theorem dX5_restore_57 : decode cX5_restore 57 = .ok (.aload_n 0, 1) := by decide +kernel
theorem dX5_restore_58 : decode cX5_restore 58 = .ok (.iconst 0, 1) := by decide +kernel
theorem dX5_restore_59 : decode cX5_restore 59 = .ok (.putfield 45, 3) := by decide +kernel
theorem dX5_restore_62 : decode cX5_restore 62 = .ok (.aload_n 0, 1) := by decide +kernel
theorem dX5_restore_63 : decode cX5_restore 63 = .ok (.getfield 16, 3) := by decide +kernel
theorem dX5_restore_66 : decode cX5_restore 66 = .ok (.iconst 5, 1) := by decide +kernel
theorem dX5_restore_67 : decode cX5_restore 67 = .ok (.iaload, 1) := by decide +kernel
theorem dX5_restore_68 : decode cX5_restore 68 = .ok (.ireturn, 1) := by decide +kernel
