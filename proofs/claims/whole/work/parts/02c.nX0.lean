set_option maxRecDepth 20000 in
theorem ggX0_init_X2_init : GoodIn wsX0_init wsX2_init := goodIn_r _ [10, 11, 2, 3, 12, 13, 14, 15, 16, 17, 18, 19, 20, 21, 22, 23, 24, 25, 26, 27, 28, 29, 30, 31, 7, 32, 33, 34, 35, 36, 37, 38, 39, 40, 41, 42, 43, 44, 45, 46, 47, 48, 49, 50, 51, 52, 56, 57, 58, 59, 60, 61, 62, 63, 64, 65, 66] (by decide +kernel) (by decide +kernel)
set_option maxRecDepth 20000 in
theorem gX0_init_X2_init : GoodIn wsX0_init (wsX2_init) := ggX0_init_X2_init
theorem dX0_init_0 : decode cX0_init 0 = .ok (.aload_n 0, 1) := by decide +kernel
theorem dX0_init_1 : decode cX0_init 1 = .ok (.invokespecial 3, 3) := by decide +kernel
theorem dX0_init_4 : decode cX0_init 4 = .ok (.aload_n 0, 1) := by decide +kernel
theorem dX0_init_5 : decode cX0_init 5 = .ok (.bipush 14, 2) := by decide +kernel
theorem dX0_init_7 : decode cX0_init 7 = .ok (.anewarray 9, 3) := by decide +kernel
theorem dX0_init_10 : decode cX0_init 10 = .ok (.putfield 11, 3) := by decide +kernel
theorem dX0_init_13 : decode cX0_init 13 = .ok (.iconst 0, 1) := by decide +kernel
theorem dX0_init_14 : decode cX0_init 14 = .ok (.istore_n 1, 1) := by decide +kernel
theorem dX0_init_15 : decode cX0_init 15 = .ok (.iload_n 1, 1) := by decide +kernel
theorem dX0_init_16 : decode cX0_init 16 = .ok (.bipush 14, 2) := by decide +kernel
theorem dX0_init_18 : decode cX0_init 18 = .ok (.if_icmp .ge 22, 3) := by decide +kernel
theorem dX0_init_21 : decode cX0_init 21 = .ok (.aload_n 0, 1) := by decide +kernel
theorem dX0_init_22 : decode cX0_init 22 = .ok (.getfield 11, 3) := by decide +kernel
theorem dX0_init_25 : decode cX0_init 25 = .ok (.iload_n 1, 1) := by decide +kernel
theorem dX0_init_26 : decode cX0_init 26 = .ok (.new 9, 3) := by decide +kernel
theorem dX0_init_29 : decode cX0_init 29 = .ok (.dup, 1) := by decide +kernel
theorem dX0_init_30 : decode cX0_init 30 = .ok (.invokespecial 17, 3) := by decide +kernel
theorem dX0_init_33 : decode cX0_init 33 = .ok (.aastore, 1) := by decide +kernel
theorem dX0_init_34 : decode cX0_init 34 = .ok (.iinc 1 1, 3) := by decide +kernel
theorem dX0_init_37 : decode cX0_init 37 = .ok (.goto (-22), 3) := by decide +kernel
theorem dX0_init_40 : decode cX0_init 40 = .ok (.return_, 1) := by decide +kernel
theorem dX0_isEmpty_0 : decode cX0_isEmpty 0 = .ok (.aload_n 0, 1) := by decide +kernel
theorem dX0_isEmpty_1 : decode cX0_isEmpty 1 = .ok (.getfield 18, 3) := by decide +kernel
theorem dX0_isEmpty_4 : decode cX0_isEmpty 4 = .ok (.ifCond .ne 7, 3) := by decide +kernel
theorem dX0_isEmpty_7 : decode cX0_isEmpty 7 = .ok (.iconst 1, 1) := by decide +kernel
theorem dX0_isEmpty_8 : decode cX0_isEmpty 8 = .ok (.goto 4, 3) := by decide +kernel
theorem dX0_isEmpty_11 : decode cX0_isEmpty 11 = .ok (.iconst 0, 1) := by decide +kernel
theorem dX0_isEmpty_12 : decode cX0_isEmpty 12 = .ok (.ireturn, 1) := by decide +kernel
theorem dX0_forget_0 : decode cX0_forget 0 = .ok (.aload_n 0, 1) := by decide +kernel
theorem dX0_forget_1 : decode cX0_forget 1 = .ok (.iconst 0, 1) := by decide +kernel
theorem dX0_forget_2 : decode cX0_forget 2 = .ok (.putfield 18, 3) := by decide +kernel
theorem dX0_forget_5 : decode cX0_forget 5 = .ok (.return_, 1) := by decide +kernel
set_option maxRecDepth 20000 in
theorem ggX0_remember_X2_copyFrom : GoodIn wsX0_remember wsX2_copyFrom := goodIn_r _ [12, 13, 14, 15, 16, 17, 18, 19, 20, 21, 22, 23, 24, 25, 5, 6, 7, 26, 27, 28, 29, 30, 31, 32, 33, 34, 35, 36, 40, 41, 42, 43, 44, 45, 46, 47, 48, 49, 50] (by decide +kernel) (by decide +kernel)
set_option maxRecDepth 20000 in
theorem gX0_remember_X2_copyFrom : GoodIn wsX0_remember (wsV RX0 25 RX2 yX2_copyFrom wsX2_copyFrom) := goodIn_app (goodIn_of _ (by decide +kernel)) ggX0_remember_X2_copyFrom
theorem dX0_remember_0 : decode cX0_remember 0 = .ok (.aload_n 0, 1) := by decide +kernel
theorem dX0_remember_1 : decode cX0_remember 1 = .ok (.getfield 11, 3) := by decide +kernel
theorem dX0_remember_4 : decode cX0_remember 4 = .ok (.aload_n 0, 1) := by decide +kernel
theorem dX0_remember_5 : decode cX0_remember 5 = .ok (.getfield 22, 3) := by decide +kernel
theorem dX0_remember_8 : decode cX0_remember 8 = .ok (.aaload, 1) := by decide +kernel
theorem dX0_remember_9 : decode cX0_remember 9 = .ok (.aload_n 1, 1) := by decide +kernel
theorem dX0_remember_10 : decode cX0_remember 10 = .ok (.invokevirtual 25, 3) := by decide +kernel
theorem dX0_remember_13 : decode cX0_remember 13 = .ok (.aload_n 0, 1) := by decide +kernel
theorem dX0_remember_14 : decode cX0_remember 14 = .ok (.aload_n 0, 1) := by decide +kernel
theorem dX0_remember_15 : decode cX0_remember 15 = .ok (.getfield 22, 3) := by decide +kernel
theorem dX0_remember_18 : decode cX0_remember 18 = .ok (.iconst 1, 1) := by decide +kernel
theorem dX0_remember_19 : decode cX0_remember 19 = .ok (.iadd, 1) := by decide +kernel
theorem dX0_remember_20 : decode cX0_remember 20 = .ok (.bipush 14, 2) := by decide +kernel
theorem dX0_remember_22 : decode cX0_remember 22 = .ok (.irem, 1) := by decide +kernel
theorem dX0_remember_23 : decode cX0_remember 23 = .ok (.putfield 22, 3) := by decide +kernel
theorem dX0_remember_26 : decode cX0_remember 26 = .ok (.aload_n 0, 1) := by decide +kernel
theorem dX0_remember_27 : decode cX0_remember 27 = .ok (.aload_n 0, 1) := by decide +kernel
theorem dX0_remember_28 : decode cX0_remember 28 = .ok (.getfield 18, 3) := by decide +kernel
theorem dX0_remember_31 : decode cX0_remember 31 = .ok (.iconst 1, 1) := by decide +kernel
theorem dX0_remember_32 : decode cX0_remember 32 = .ok (.iadd, 1) := by decide +kernel
theorem dX0_remember_33 : decode cX0_remember 33 = .ok (.bipush 14, 2) := by decide +kernel
theorem dX0_remember_35 : decode cX0_remember 35 = .ok (.invokestatic 29, 3) := by decide +kernel
theorem dX0_remember_38 : decode cX0_remember 38 = .ok (.putfield 18, 3) := by decide +kernel
theorem dX0_remember_41 : decode cX0_remember 41 = .ok (.return_, 1) := by decide +kernel
set_option maxRecDepth 20000 in
theorem ggX0_takeBack_X2_copyFrom : GoodIn wsX0_takeBack wsX2_copyFrom := goodIn_r _ [12, 13, 14, 15, 16, 17, 18, 19, 20, 21, 22, 23, 24, 25, 26, 5, 27, 28, 29, 30, 31, 32, 33, 34, 35, 36, 37, 38, 42, 43, 44, 45, 46, 47, 48, 49, 50, 51, 52] (by decide +kernel) (by decide +kernel)
set_option maxRecDepth 20000 in
theorem gX0_takeBack_X2_copyFrom : GoodIn wsX0_takeBack (wsV RX0 25 RX2 yX2_copyFrom wsX2_copyFrom) := goodIn_app (goodIn_of _ (by decide +kernel)) ggX0_takeBack_X2_copyFrom
theorem dX0_takeBack_0 : decode cX0_takeBack 0 = .ok (.aload_n 0, 1) := by decide +kernel
theorem dX0_takeBack_1 : decode cX0_takeBack 1 = .ok (.aload_n 0, 1) := by decide +kernel
theorem dX0_takeBack_2 : decode cX0_takeBack 2 = .ok (.getfield 22, 3) := by decide +kernel
theorem dX0_takeBack_5 : decode cX0_takeBack 5 = .ok (.bipush 14, 2) := by decide +kernel
theorem dX0_takeBack_7 : decode cX0_takeBack 7 = .ok (.iadd, 1) := by decide +kernel
theorem dX0_takeBack_8 : decode cX0_takeBack 8 = .ok (.iconst 1, 1) := by decide +kernel
theorem dX0_takeBack_9 : decode cX0_takeBack 9 = .ok (.isub, 1) := by decide +kernel
theorem dX0_takeBack_10 : decode cX0_takeBack 10 = .ok (.bipush 14, 2) := by decide +kernel
theorem dX0_takeBack_12 : decode cX0_takeBack 12 = .ok (.irem, 1) := by decide +kernel
theorem dX0_takeBack_13 : decode cX0_takeBack 13 = .ok (.putfield 22, 3) := by decide +kernel
theorem dX0_takeBack_16 : decode cX0_takeBack 16 = .ok (.aload_n 0, 1) := by decide +kernel
theorem dX0_takeBack_17 : decode cX0_takeBack 17 = .ok (.aload_n 0, 1) := by decide +kernel
theorem dX0_takeBack_18 : decode cX0_takeBack 18 = .ok (.getfield 18, 3) := by decide +kernel
theorem dX0_takeBack_21 : decode cX0_takeBack 21 = .ok (.iconst 1, 1) := by decide +kernel
theorem dX0_takeBack_22 : decode cX0_takeBack 22 = .ok (.isub, 1) := by decide +kernel
theorem dX0_takeBack_23 : decode cX0_takeBack 23 = .ok (.iconst 0, 1) := by decide +kernel
theorem dX0_takeBack_24 : decode cX0_takeBack 24 = .ok (.invokestatic 35, 3) := by decide +kernel
theorem dX0_takeBack_27 : decode cX0_takeBack 27 = .ok (.putfield 18, 3) := by decide +kernel
theorem dX0_takeBack_30 : decode cX0_takeBack 30 = .ok (.aload_n 1, 1) := by decide +kernel
theorem dX0_takeBack_31 : decode cX0_takeBack 31 = .ok (.aload_n 0, 1) := by decide +kernel
theorem dX0_takeBack_32 : decode cX0_takeBack 32 = .ok (.getfield 11, 3) := by decide +kernel
theorem dX0_takeBack_35 : decode cX0_takeBack 35 = .ok (.aload_n 0, 1) := by decide +kernel
theorem dX0_takeBack_36 : decode cX0_takeBack 36 = .ok (.getfield 22, 3) := by decide +kernel
theorem dX0_takeBack_39 : decode cX0_takeBack 39 = .ok (.aaload, 1) := by decide +kernel
theorem dX0_takeBack_40 : decode cX0_takeBack 40 = .ok (.invokevirtual 25, 3) := by decide +kernel
theorem dX0_takeBack_43 : decode cX0_takeBack 43 = .ok (.aload_n 0, 1) := by decide +kernel
theorem dX0_takeBack_44 : decode cX0_takeBack 44 = .ok (.getfield 18, 3) := by decide +kernel
theorem dX0_takeBack_47 : decode cX0_takeBack 47 = .ok (.ireturn, 1) := by decide +kernel
theorem dX1_init_0 : decode cX1_init 0 = .ok (.aload_n 0, 1) := by decide +kernel
theorem dX1_init_1 : decode cX1_init 1 = .ok (.invokespecial 3, 3) := by decide +kernel
theorem dX1_init_4 : decode cX1_init 4 = .ok (.aload_n 0, 1) := by decide +kernel
theorem dX1_init_5 : decode cX1_init 5 = .ok (.bipush 105, 2) := by decide +kernel
theorem dX1_init_7 : decode cX1_init 7 = .ok (.newarray .int, 2) := by decide +kernel
theorem dX1_init_9 : decode cX1_init 9 = .ok (.putfield 11, 3) := by decide +kernel
theorem dX1_init_12 : decode cX1_init 12 = .ok (.return_, 1) := by decide +kernel
theorem dX1_size_0 : decode cX1_size 0 = .ok (.aload_n 0, 1) := by decide +kernel
theorem dX1_size_1 : decode cX1_size 1 = .ok (.getfield 15, 3) := by decide +kernel
theorem dX1_size_4 : decode cX1_size 4 = .ok (.ireturn, 1) := by decide +kernel
theorem dX1_has_0 : decode cX1_has 0 = .ok (.iload_n 1, 1) := by decide +kernel
theorem dX1_has_1 : decode cX1_has 1 = .ok (.ifCond .lt 15, 3) := by decide +kernel
theorem dX1_has_4 : decode cX1_has 4 = .ok (.iload_n 1, 1) := by decide +kernel
theorem dX1_has_5 : decode cX1_has 5 = .ok (.aload_n 0, 1) := by decide +kernel
theorem dX1_has_6 : decode cX1_has 6 = .ok (.getfield 15, 3) := by decide +kernel
theorem dX1_has_9 : decode cX1_has 9 = .ok (.if_icmp .ge 7, 3) := by decide +kernel
theorem dX1_has_12 : decode cX1_has 12 = .ok (.iconst 1, 1) := by decide +kernel
theorem dX1_has_13 : decode cX1_has 13 = .ok (.goto 4, 3) := by decide +kernel
theorem dX1_has_16 : decode cX1_has 16 = .ok (.iconst 0, 1) := by decide +kernel
theorem dX1_has_17 : decode cX1_has 17 = .ok (.ireturn, 1) := by decide +kernel
theorem dX1_clear_0 : decode cX1_clear 0 = .ok (.aload_n 0, 1) := by decide +kernel
theorem dX1_clear_1 : decode cX1_clear 1 = .ok (.iconst 0, 1) := by decide +kernel
theorem dX1_clear_2 : decode cX1_clear 2 = .ok (.putfield 15, 3) := by decide +kernel
theorem dX1_clear_5 : decode cX1_clear 5 = .ok (.return_, 1) := by decide +kernel
set_option maxRecDepth 20000 in
theorem ggX1_copyFrom_X4_copyAll : GoodIn wsX1_copyFrom wsX4_copyAll := goodIn_r _ [5, 6, 7, 8, 9, 10, 11, 12, 13] (by decide +kernel) (by decide +kernel)
set_option maxRecDepth 20000 in
theorem gX1_copyFrom_X4_copyAll_n19 : GoodIn wsX1_copyFrom (wsX4_copyAll) := ggX1_copyFrom_X4_copyAll
theorem dX1_copyFrom_0 : decode cX1_copyFrom 0 = .ok (.aload_n 1, 1) := by decide +kernel
theorem dX1_copyFrom_1 : decode cX1_copyFrom 1 = .ok (.getfield 11, 3) := by decide +kernel
theorem dX1_copyFrom_4 : decode cX1_copyFrom 4 = .ok (.aload_n 0, 1) := by decide +kernel
theorem dX1_copyFrom_5 : decode cX1_copyFrom 5 = .ok (.getfield 11, 3) := by decide +kernel
theorem dX1_copyFrom_8 : decode cX1_copyFrom 8 = .ok (.invokestatic 19, 3) := by decide +kernel
theorem dX1_copyFrom_11 : decode cX1_copyFrom 11 = .ok (.aload_n 0, 1) := by decide +kernel
theorem dX1_copyFrom_12 : decode cX1_copyFrom 12 = .ok (.aload_n 1, 1) := by decide +kernel
theorem dX1_copyFrom_13 : decode cX1_copyFrom 13 = .ok (.getfield 15, 3) := by decide +kernel
theorem dX1_copyFrom_16 : decode cX1_copyFrom 16 = .ok (.putfield 15, 3) := by decide +kernel
theorem dX1_copyFrom_19 : decode cX1_copyFrom 19 = .ok (.return_, 1) := by decide +kernel
theorem dX1_get_0 : decode cX1_get 0 = .ok (.iload_n 1, 1) := by decide +kernel
theorem dX1_get_1 : decode cX1_get 1 = .ok (.ifCond .lt 24, 3) := by decide +kernel
theorem dX1_get_4 : decode cX1_get 4 = .ok (.iload_n 1, 1) := by decide +kernel
theorem dX1_get_5 : decode cX1_get 5 = .ok (.aload_n 0, 1) := by decide +kernel
theorem dX1_get_6 : decode cX1_get 6 = .ok (.getfield 15, 3) := by decide +kernel
theorem dX1_get_9 : decode cX1_get 9 = .ok (.if_icmp .ge 16, 3) := by decide +kernel
theorem dX1_get_12 : decode cX1_get 12 = .ok (.iload_n 2, 1) := by decide +kernel
theorem dX1_get_13 : decode cX1_get 13 = .ok (.ifCond .lt 12, 3) := by decide +kernel
theorem dX1_get_16 : decode cX1_get 16 = .ok (.iload_n 2, 1) := by decide +kernel
theorem dX1_get_17 : decode cX1_get 17 = .ok (.iconst 5, 1) := by decide +kernel
theorem dX1_get_18 : decode cX1_get 18 = .ok (.if_icmp .ge 7, 3) := by decide +kernel
theorem dX1_get_21 : decode cX1_get 21 = .ok (.iconst 1, 1) := by decide +kernel
theorem dX1_get_22 : decode cX1_get 22 = .ok (.goto 4, 3) := by decide +kernel
theorem dX1_get_25 : decode cX1_get 25 = .ok (.iconst 0, 1) := by decide +kernel
theorem dX1_get_26 : decode cX1_get 26 = .ok (.istore_n 3, 1) := by decide +kernel
theorem dX1_get_27 : decode cX1_get 27 = .ok (.iload_n 3, 1) := by decide +kernel
theorem dX1_get_28 : decode cX1_get 28 = .ok (.ifCond .eq 16, 3) := by decide +kernel
theorem dX1_get_31 : decode cX1_get 31 = .ok (.aload_n 0, 1) := by decide +kernel
theorem dX1_get_32 : decode cX1_get 32 = .ok (.getfield 11, 3) := by decide +kernel
theorem dX1_get_35 : decode cX1_get 35 = .ok (.iload_n 1, 1) := by decide +kernel
theorem dX1_get_36 : decode cX1_get 36 = .ok (.iconst 5, 1) := by decide +kernel
theorem dX1_get_37 : decode cX1_get 37 = .ok (.imul, 1) := by decide +kernel
theorem dX1_get_38 : decode cX1_get 38 = .ok (.iload_n 2, 1) := by decide +kernel
theorem dX1_get_39 : decode cX1_get 39 = .ok (.iadd, 1) := by decide +kernel
theorem dX1_get_40 : decode cX1_get 40 = .ok (.iaload, 1) := by decide +kernel
theorem dX1_get_41 : decode cX1_get 41 = .ok (.goto 4, 3) := by decide +kernel
theorem dX1_get_44 : decode cX1_get 44 = .ok (.iconst (-1), 1) := by decide +kernel
theorem dX1_get_45 : decode cX1_get 45 = .ok (.ireturn, 1) := by decide +kernel
theorem dX1_put_0 : decode cX1_put 0 = .ok (.iload_n 1, 1) := by decide +kernel
theorem dX1_put_1 : decode cX1_put 1 = .ok (.ifCond .lt 31, 3) := by decide +kernel
theorem dX1_put_4 : decode cX1_put 4 = .ok (.iload_n 1, 1) := by decide +kernel
theorem dX1_put_5 : decode cX1_put 5 = .ok (.aload_n 0, 1) := by decide +kernel
theorem dX1_put_6 : decode cX1_put 6 = .ok (.getfield 15, 3) := by decide +kernel
theorem dX1_put_9 : decode cX1_put 9 = .ok (.if_icmp .ge 23, 3) := by decide +kernel
theorem dX1_put_12 : decode cX1_put 12 = .ok (.iload_n 2, 1) := by decide +kernel
theorem dX1_put_13 : decode cX1_put 13 = .ok (.ifCond .lt 19, 3) := by decide +kernel
theorem dX1_put_16 : decode cX1_put 16 = .ok (.iload_n 2, 1) := by decide +kernel
theorem dX1_put_17 : decode cX1_put 17 = .ok (.iconst 5, 1) := by decide +kernel
theorem dX1_put_18 : decode cX1_put 18 = .ok (.if_icmp .ge 14, 3) := by decide +kernel
theorem dX1_put_21 : decode cX1_put 21 = .ok (.aload_n 0, 1) := by decide +kernel
theorem dX1_put_22 : decode cX1_put 22 = .ok (.getfield 11, 3) := by decide +kernel
theorem dX1_put_25 : decode cX1_put 25 = .ok (.iload_n 1, 1) := by decide +kernel
theorem dX1_put_26 : decode cX1_put 26 = .ok (.iconst 5, 1) := by decide +kernel
theorem dX1_put_27 : decode cX1_put 27 = .ok (.imul, 1) := by decide +kernel
theorem dX1_put_28 : decode cX1_put 28 = .ok (.iload_n 2, 1) := by decide +kernel
theorem dX1_put_29 : decode cX1_put 29 = .ok (.iadd, 1) := by decide +kernel
theorem dX1_put_30 : decode cX1_put 30 = .ok (.iload_n 3, 1) := by decide +kernel
theorem dX1_put_31 : decode cX1_put 31 = .ok (.iastore, 1) := by decide +kernel
theorem dX1_put_32 : decode cX1_put 32 = .ok (.return_, 1) := by decide +kernel
theorem dX1_add_0 : decode cX1_add 0 = .ok (.aload_n 0, 1) := by decide +kernel
theorem dX1_add_1 : decode cX1_add 1 = .ok (.getfield 15, 3) := by decide +kernel
theorem dX1_add_4 : decode cX1_add 4 = .ok (.bipush 21, 2) := by decide +kernel
theorem dX1_add_6 : decode cX1_add 6 = .ok (.if_icmp .lt 5, 3) := by decide +kernel
theorem dX1_add_9 : decode cX1_add 9 = .ok (.iconst (-1), 1) := by decide +kernel
theorem dX1_add_10 : decode cX1_add 10 = .ok (.ireturn, 1) := by decide +kernel
theorem dX1_add_11 : decode cX1_add 11 = .ok (.aload_n 0, 1) := by decide +kernel
theorem dX1_add_12 : decode cX1_add 12 = .ok (.getfield 15, 3) := by decide +kernel
theorem dX1_add_15 : decode cX1_add 15 = .ok (.iconst 5, 1) := by decide +kernel
theorem dX1_add_16 : decode cX1_add 16 = .ok (.imul, 1) := by decide +kernel
theorem dX1_add_17 : decode cX1_add 17 = .ok (.istore 6, 2) := by decide +kernel
theorem dX1_add_19 : decode cX1_add 19 = .ok (.aload_n 0, 1) := by decide +kernel
theorem dX1_add_20 : decode cX1_add 20 = .ok (.getfield 11, 3) := by decide +kernel
theorem dX1_add_23 : decode cX1_add 23 = .ok (.iload 6, 2) := by decide +kernel
theorem dX1_add_25 : decode cX1_add 25 = .ok (.iconst 0, 1) := by decide +kernel
theorem dX1_add_26 : decode cX1_add 26 = .ok (.iadd, 1) := by decide +kernel
theorem dX1_add_27 : decode cX1_add 27 = .ok (.iload_n 1, 1) := by decide +kernel
theorem dX1_add_28 : decode cX1_add 28 = .ok (.iastore, 1) := by decide +kernel
theorem dX1_add_29 : decode cX1_add 29 = .ok (.aload_n 0, 1) := by decide +kernel
theorem dX1_add_30 : decode cX1_add 30 = .ok (.getfield 11, 3) := by decide +kernel
theorem dX1_add_33 : decode cX1_add 33 = .ok (.iload 6, 2) := by decide +kernel
theorem dX1_add_35 : decode cX1_add 35 = .ok (.iconst 1, 1) := by decide +kernel
theorem dX1_add_36 : decode cX1_add 36 = .ok (.iadd, 1) := by decide +kernel
theorem dX1_add_37 : decode cX1_add 37 = .ok (.iload_n 2, 1) := by decide +kernel
theorem dX1_add_38 : decode cX1_add 38 = .ok (.iastore, 1) := by decide +kernel
theorem dX1_add_39 : decode cX1_add 39 = .ok (.aload_n 0, 1) := by decide +kernel
theorem dX1_add_40 : decode cX1_add 40 = .ok (.getfield 11, 3) := by decide +kernel
theorem dX1_add_43 : decode cX1_add 43 = .ok (.iload 6, 2) := by decide +kernel
theorem dX1_add_45 : decode cX1_add 45 = .ok (.iconst 2, 1) := by decide +kernel
theorem dX1_add_46 : decode cX1_add 46 = .ok (.iadd, 1) := by decide +kernel
theorem dX1_add_47 : decode cX1_add 47 = .ok (.iload_n 3, 1) := by decide +kernel
theorem dX1_add_48 : decode cX1_add 48 = .ok (.iastore, 1) := by decide +kernel
theorem dX1_add_49 : decode cX1_add 49 = .ok (.aload_n 0, 1) := by decide +kernel
theorem dX1_add_50 : decode cX1_add 50 = .ok (.getfield 11, 3) := by decide +kernel
theorem dX1_add_53 : decode cX1_add 53 = .ok (.iload 6, 2) := by decide +kernel
theorem dX1_add_55 : decode cX1_add 55 = .ok (.iconst 3, 1) := by decide +kernel
theorem dX1_add_56 : decode cX1_add 56 = .ok (.iadd, 1) := by decide +kernel
theorem dX1_add_57 : decode cX1_add 57 = .ok (.iload 4, 2) := by decide +kernel
theorem dX1_add_59 : decode cX1_add 59 = .ok (.iastore, 1) := by decide +kernel
theorem dX1_add_60 : decode cX1_add 60 = .ok (.aload_n 0, 1) := by decide +kernel
theorem dX1_add_61 : decode cX1_add 61 = .ok (.getfield 11, 3) := by decide +kernel
theorem dX1_add_64 : decode cX1_add 64 = .ok (.iload 6, 2) := by decide +kernel
theorem dX1_add_66 : decode cX1_add 66 = .ok (.iconst 4, 1) := by decide +kernel
theorem dX1_add_67 : decode cX1_add 67 = .ok (.iadd, 1) := by decide +kernel
theorem dX1_add_68 : decode cX1_add 68 = .ok (.iload 5, 2) := by decide +kernel
theorem dX1_add_70 : decode cX1_add 70 = .ok (.iastore, 1) := by decide +kernel
theorem dX1_add_71 : decode cX1_add 71 = .ok (.aload_n 0, 1) := by decide +kernel
theorem dX1_add_72 : decode cX1_add 72 = .ok (.dup, 1) := by decide +kernel
theorem dX1_add_73 : decode cX1_add 73 = .ok (.getfield 15, 3) := by decide +kernel
theorem dX1_add_76 : decode cX1_add 76 = .ok (.iconst 1, 1) := by decide +kernel
theorem dX1_add_77 : decode cX1_add 77 = .ok (.iadd, 1) := by decide +kernel
theorem dX1_add_78 : decode cX1_add 78 = .ok (.putfield 15, 3) := by decide +kernel
theorem dX1_add_81 : decode cX1_add 81 = .ok (.aload_n 0, 1) := by decide +kernel
theorem dX1_add_82 : decode cX1_add 82 = .ok (.getfield 15, 3) := by decide +kernel
theorem dX1_add_85 : decode cX1_add 85 = .ok (.iconst 1, 1) := by decide +kernel
theorem dX1_add_86 : decode cX1_add 86 = .ok (.isub, 1) := by decide +kernel
theorem dX1_add_87 : decode cX1_add 87 = .ok (.ireturn, 1) := by decide +kernel
set_option maxRecDepth 20000 in
theorem ggX1_end_X1_put : GoodIn wsX1_end wsX1_put := goodIn_r _ [5, 6, 7, 8, 9] (by decide +kernel) (by decide +kernel)
set_option maxRecDepth 20000 in
theorem gX1_end_X1_put : GoodIn wsX1_end (wsV RX1 23 RX1 yX1_put wsX1_put) := goodIn_app (goodIn_of _ (by decide +kernel)) ggX1_end_X1_put
theorem dX1_end_0 : decode cX1_end 0 = .ok (.aload_n 0, 1) := by decide +kernel
theorem dX1_end_1 : decode cX1_end 1 = .ok (.iload_n 1, 1) := by decide +kernel
theorem dX1_end_2 : decode cX1_end 2 = .ok (.iconst 0, 1) := by decide +kernel
theorem dX1_end_3 : decode cX1_end 3 = .ok (.iconst (-1), 1) := by decide +kernel
theorem dX1_end_4 : decode cX1_end 4 = .ok (.invokevirtual 23, 3) := by decide +kernel
theorem dX1_end_7 : decode cX1_end 7 = .ok (.return_, 1) := by decide +kernel
set_option maxRecDepth 20000 in
theorem ggX1_closeGaps_X1_get : GoodIn wsX1_closeGaps wsX1_get := goodIn_r _ [11, 1, 2, 12, 13] (by decide +kernel) (by decide +kernel)
set_option maxRecDepth 20000 in
theorem gX1_closeGaps_X1_get : GoodIn wsX1_closeGaps (wsV RX1 27 RX1 yX1_get wsX1_get) := goodIn_app (goodIn_of _ (by decide +kernel)) ggX1_closeGaps_X1_get
theorem dX1_closeGaps_0 : decode cX1_closeGaps 0 = .ok (.iconst 0, 1) := by decide +kernel
theorem dX1_closeGaps_1 : decode cX1_closeGaps 1 = .ok (.istore_n 1, 1) := by decide +kernel
theorem dX1_closeGaps_2 : decode cX1_closeGaps 2 = .ok (.iconst 0, 1) := by decide +kernel
theorem dX1_closeGaps_3 : decode cX1_closeGaps 3 = .ok (.istore_n 2, 1) := by decide +kernel
theorem dX1_closeGaps_4 : decode cX1_closeGaps 4 = .ok (.iload_n 2, 1) := by decide +kernel
theorem dX1_closeGaps_5 : decode cX1_closeGaps 5 = .ok (.aload_n 0, 1) := by decide +kernel
theorem dX1_closeGaps_6 : decode cX1_closeGaps 6 = .ok (.getfield 15, 3) := by decide +kernel
theorem dX1_closeGaps_9 : decode cX1_closeGaps 9 = .ok (.if_icmp .ge 40, 3) := by decide +kernel
theorem dX1_closeGaps_12 : decode cX1_closeGaps 12 = .ok (.aload_n 0, 1) := by decide +kernel
theorem dX1_closeGaps_13 : decode cX1_closeGaps 13 = .ok (.iload_n 2, 1) := by decide +kernel
theorem dX1_closeGaps_14 : decode cX1_closeGaps 14 = .ok (.iconst 0, 1) := by decide +kernel
theorem dX1_closeGaps_15 : decode cX1_closeGaps 15 = .ok (.invokevirtual 27, 3) := by decide +kernel
theorem dX1_closeGaps_18 : decode cX1_closeGaps 18 = .ok (.iconst (-1), 1) := by decide +kernel
theorem dX1_closeGaps_19 : decode cX1_closeGaps 19 = .ok (.if_icmp .eq 24, 3) := by decide +kernel
theorem dX1_closeGaps_22 : decode cX1_closeGaps 22 = .ok (.aload_n 0, 1) := by decide +kernel
theorem dX1_closeGaps_23 : decode cX1_closeGaps 23 = .ok (.getfield 11, 3) := by decide +kernel
theorem dX1_closeGaps_26 : decode cX1_closeGaps 26 = .ok (.iload_n 2, 1) := by decide +kernel
theorem dX1_closeGaps_27 : decode cX1_closeGaps 27 = .ok (.iconst 5, 1) := by decide +kernel
theorem dX1_closeGaps_28 : decode cX1_closeGaps 28 = .ok (.imul, 1) := by decide +kernel
theorem dX1_closeGaps_29 : decode cX1_closeGaps 29 = .ok (.aload_n 0, 1) := by decide +kernel
theorem dX1_closeGaps_30 : decode cX1_closeGaps 30 = .ok (.getfield 11, 3) := by decide +kernel
theorem dX1_closeGaps_33 : decode cX1_closeGaps 33 = .ok (.iload_n 1, 1) := by decide +kernel
theorem dX1_closeGaps_34 : decode cX1_closeGaps 34 = .ok (.iconst 5, 1) := by decide +kernel
theorem dX1_closeGaps_35 : decode cX1_closeGaps 35 = .ok (.imul, 1) := by decide +kernel
theorem dX1_closeGaps_36 : decode cX1_closeGaps 36 = .ok (.iconst 5, 1) := by decide +kernel
theorem dX1_closeGaps_37 : decode cX1_closeGaps 37 = .ok (.invokestatic 31, 3) := by decide +kernel
theorem dX1_closeGaps_40 : decode cX1_closeGaps 40 = .ok (.iinc 1 1, 3) := by decide +kernel
theorem dX1_closeGaps_43 : decode cX1_closeGaps 43 = .ok (.iinc 2 1, 3) := by decide +kernel
theorem dX1_closeGaps_46 : decode cX1_closeGaps 46 = .ok (.goto (-42), 3) := by decide +kernel
theorem dX1_closeGaps_49 : decode cX1_closeGaps 49 = .ok (.aload_n 0, 1) := by decide +kernel
theorem dX1_closeGaps_50 : decode cX1_closeGaps 50 = .ok (.iload_n 1, 1) := by decide +kernel
theorem dX1_closeGaps_51 : decode cX1_closeGaps 51 = .ok (.putfield 15, 3) := by decide +kernel
theorem dX1_closeGaps_54 : decode cX1_closeGaps 54 = .ok (.return_, 1) := by decide +kernel
set_option maxRecDepth 20000 in
theorem ggX2_init_X1_init : GoodIn wsX2_init wsX1_init := goodIn_r _ [18, 19, 2, 3, 4, 20, 55, 56] (by decide +kernel) (by decide +kernel)
set_option maxRecDepth 20000 in
theorem gX2_init_X1_init_n32 : GoodIn wsX2_init (wsX1_init) := ggX2_init_X1_init
set_option maxRecDepth 20000 in
theorem ggX2_init_X2_reset : GoodIn wsX2_init wsX2_reset := goodIn_r _ [25, 5, 6, 7, 8, 9, 10, 16, 14, 15, 26, 27, 28, 29, 30, 31, 32, 33, 34, 35, 36, 37, 38, 39, 40, 41, 42, 43, 13, 44, 45, 46, 47, 48, 49, 50, 51, 52, 53, 54, 55, 56] (by decide +kernel) (by decide +kernel)
set_option maxRecDepth 20000 in
theorem gX2_init_X2_reset : GoodIn wsX2_init (wsV RX2 43 RX2 yX2_reset wsX2_reset) := goodIn_app (goodIn_of _ (by decide +kernel)) ggX2_init_X2_reset
theorem dX2_init_0 : decode cX2_init 0 = .ok (.aload_n 0, 1) := by decide +kernel
theorem dX2_init_1 : decode cX2_init 1 = .ok (.invokespecial 3, 3) := by decide +kernel
theorem dX2_init_4 : decode cX2_init 4 = .ok (.aload_n 0, 1) := by decide +kernel
theorem dX2_init_5 : decode cX2_init 5 = .ok (.iconst 5, 1) := by decide +kernel
theorem dX2_init_6 : decode cX2_init 6 = .ok (.newarray .int, 2) := by decide +kernel
theorem dX2_init_8 : decode cX2_init 8 = .ok (.putfield 9, 3) := by decide +kernel
theorem dX2_init_11 : decode cX2_init 11 = .ok (.aload_n 0, 1) := by decide +kernel
theorem dX2_init_12 : decode cX2_init 12 = .ok (.iconst 4, 1) := by decide +kernel
theorem dX2_init_13 : decode cX2_init 13 = .ok (.newarray .int, 2) := by decide +kernel
theorem dX2_init_15 : decode cX2_init 15 = .ok (.putfield 15, 3) := by decide +kernel
theorem dX2_init_18 : decode cX2_init 18 = .ok (.aload_n 0, 1) := by decide +kernel
theorem dX2_init_19 : decode cX2_init 19 = .ok (.iconst 4, 1) := by decide +kernel
theorem dX2_init_20 : decode cX2_init 20 = .ok (.newarray .int, 2) := by decide +kernel
theorem dX2_init_22 : decode cX2_init 22 = .ok (.putfield 18, 3) := by decide +kernel
theorem dX2_init_25 : decode cX2_init 25 = .ok (.aload_n 0, 1) := by decide +kernel
theorem dX2_init_26 : decode cX2_init 26 = .ok (.iconst 4, 1) := by decide +kernel
theorem dX2_init_27 : decode cX2_init 27 = .ok (.newarray .int, 2) := by decide +kernel
theorem dX2_init_29 : decode cX2_init 29 = .ok (.putfield 21, 3) := by decide +kernel
theorem dX2_init_32 : decode cX2_init 32 = .ok (.aload_n 0, 1) := by decide +kernel
theorem dX2_init_33 : decode cX2_init 33 = .ok (.bipush 16, 2) := by decide +kernel
theorem dX2_init_35 : decode cX2_init 35 = .ok (.newarray .int, 2) := by decide +kernel
theorem dX2_init_37 : decode cX2_init 37 = .ok (.putfield 24, 3) := by decide +kernel
theorem dX2_init_40 : decode cX2_init 40 = .ok (.aload_n 0, 1) := by decide +kernel
theorem dX2_init_41 : decode cX2_init 41 = .ok (.bipush 16, 2) := by decide +kernel
theorem dX2_init_43 : decode cX2_init 43 = .ok (.newarray .int, 2) := by decide +kernel
theorem dX2_init_45 : decode cX2_init 45 = .ok (.putfield 27, 3) := by decide +kernel
theorem dX2_init_48 : decode cX2_init 48 = .ok (.aload_n 0, 1) := by decide +kernel
theorem dX2_init_49 : decode cX2_init 49 = .ok (.new 30, 3) := by decide +kernel
theorem dX2_init_52 : decode cX2_init 52 = .ok (.dup, 1) := by decide +kernel
theorem dX2_init_53 : decode cX2_init 53 = .ok (.invokespecial 32, 3) := by decide +kernel
theorem dX2_init_56 : decode cX2_init 56 = .ok (.putfield 33, 3) := by decide +kernel
theorem dX2_init_59 : decode cX2_init 59 = .ok (.aload_n 0, 1) := by decide +kernel
theorem dX2_init_60 : decode cX2_init 60 = .ok (.new 30, 3) := by decide +kernel
theorem dX2_init_63 : decode cX2_init 63 = .ok (.dup, 1) := by decide +kernel
theorem dX2_init_64 : decode cX2_init 64 = .ok (.invokespecial 32, 3) := by decide +kernel
theorem dX2_init_67 : decode cX2_init 67 = .ok (.putfield 37, 3) := by decide +kernel
theorem dX2_init_70 : decode cX2_init 70 = .ok (.aload_n 0, 1) := by decide +kernel
theorem dX2_init_71 : decode cX2_init 71 = .ok (.bipush 11, 2) := by decide +kernel
theorem dX2_init_73 : decode cX2_init 73 = .ok (.newarray .int, 2) := by decide +kernel
theorem dX2_init_75 : decode cX2_init 75 = .ok (.putfield 40, 3) := by decide +kernel
theorem dX2_init_78 : decode cX2_init 78 = .ok (.aload_n 0, 1) := by decide +kernel
theorem dX2_init_79 : decode cX2_init 79 = .ok (.invokevirtual 43, 3) := by decide +kernel
theorem dX2_init_82 : decode cX2_init 82 = .ok (.return_, 1) := by decide +kernel
set_option maxRecDepth 20000 in
theorem ggX2_reset_X4_copyAll : GoodIn wsX2_reset wsX4_copyAll := goodIn_r _ [12, 13, 14, 15, 16, 17, 18, 19, 20] (by decide +kernel) (by decide +kernel)
set_option maxRecDepth 20000 in
theorem gX2_reset_X4_copyAll_n49 : GoodIn wsX2_reset (wsX4_copyAll) := ggX2_reset_X4_copyAll
set_option maxRecDepth 20000 in
theorem ggX2_reset_J7_fill_53178 : GoodIn wsX2_reset wsJ7_fill_53178 := goodIn_r _ [24] (by decide +kernel) (by decide +kernel)
set_option maxRecDepth 20000 in
theorem gX2_reset_J7_fill_53178 : GoodIn wsX2_reset (va_wsS RX2 53 yJ7_fill_53178 wsJ7_fill_53178) := goodIn_app (goodIn_of _ (by decide +kernel)) ggX2_reset_J7_fill_53178
set_option maxRecDepth 20000 in
theorem ggX2_reset_X1_clear : GoodIn wsX2_reset wsX1_clear := goodIn_r _ [29, 30, 40, 41] (by decide +kernel) (by decide +kernel)
set_option maxRecDepth 20000 in
theorem gX2_reset_X1_clear : GoodIn wsX2_reset (wsV RX2 59 RX1 yX1_clear wsX1_clear) := goodIn_app (goodIn_of _ (by decide +kernel)) ggX2_reset_X1_clear
theorem dX2_reset_0 : decode cX2_reset 0 = .ok (.getstatic 46, 3) := by decide +kernel
theorem dX2_reset_3 : decode cX2_reset 3 = .ok (.aload_n 0, 1) := by decide +kernel
theorem dX2_reset_4 : decode cX2_reset 4 = .ok (.getfield 9, 3) := by decide +kernel
theorem dX2_reset_7 : decode cX2_reset 7 = .ok (.invokestatic 49, 3) := by decide +kernel
theorem dX2_reset_10 : decode cX2_reset 10 = .ok (.aload_n 0, 1) := by decide +kernel
theorem dX2_reset_11 : decode cX2_reset 11 = .ok (.getfield 15, 3) := by decide +kernel
theorem dX2_reset_14 : decode cX2_reset 14 = .ok (.bipush 50, 2) := by decide +kernel
theorem dX2_reset_16 : decode cX2_reset 16 = .ok (.invokestatic 53, 3) := by decide +kernel
theorem dX2_reset_19 : decode cX2_reset 19 = .ok (.aload_n 0, 1) := by decide +kernel
theorem dX2_reset_20 : decode cX2_reset 20 = .ok (.getfield 18, 3) := by decide +kernel
theorem dX2_reset_23 : decode cX2_reset 23 = .ok (.iconst 0, 1) := by decide +kernel
theorem dX2_reset_24 : decode cX2_reset 24 = .ok (.invokestatic 53, 3) := by decide +kernel
theorem dX2_reset_27 : decode cX2_reset 27 = .ok (.aload_n 0, 1) := by decide +kernel
theorem dX2_reset_28 : decode cX2_reset 28 = .ok (.getfield 21, 3) := by decide +kernel
theorem dX2_reset_31 : decode cX2_reset 31 = .ok (.iconst 0, 1) := by decide +kernel
theorem dX2_reset_32 : decode cX2_reset 32 = .ok (.invokestatic 53, 3) := by decide +kernel
theorem dX2_reset_35 : decode cX2_reset 35 = .ok (.aload_n 0, 1) := by decide +kernel
theorem dX2_reset_36 : decode cX2_reset 36 = .ok (.getfield 24, 3) := by decide +kernel
theorem dX2_reset_39 : decode cX2_reset 39 = .ok (.iconst (-1), 1) := by decide +kernel
theorem dX2_reset_40 : decode cX2_reset 40 = .ok (.invokestatic 53, 3) := by decide +kernel
theorem dX2_reset_43 : decode cX2_reset 43 = .ok (.aload_n 0, 1) := by decide +kernel
theorem dX2_reset_44 : decode cX2_reset 44 = .ok (.getfield 27, 3) := by decide +kernel
theorem dX2_reset_47 : decode cX2_reset 47 = .ok (.iconst 0, 1) := by decide +kernel
theorem dX2_reset_48 : decode cX2_reset 48 = .ok (.invokestatic 53, 3) := by decide +kernel
theorem dX2_reset_51 : decode cX2_reset 51 = .ok (.aload_n 0, 1) := by decide +kernel
theorem dX2_reset_52 : decode cX2_reset 52 = .ok (.getfield 40, 3) := by decide +kernel
theorem dX2_reset_55 : decode cX2_reset 55 = .ok (.iconst 0, 1) := by decide +kernel
theorem dX2_reset_56 : decode cX2_reset 56 = .ok (.invokestatic 53, 3) := by decide +kernel
theorem dX2_reset_59 : decode cX2_reset 59 = .ok (.aload_n 0, 1) := by decide +kernel
theorem dX2_reset_60 : decode cX2_reset 60 = .ok (.getfield 33, 3) := by decide +kernel
theorem dX2_reset_63 : decode cX2_reset 63 = .ok (.invokevirtual 59, 3) := by decide +kernel
theorem dX2_reset_66 : decode cX2_reset 66 = .ok (.aload_n 0, 1) := by decide +kernel
theorem dX2_reset_67 : decode cX2_reset 67 = .ok (.getfield 37, 3) := by decide +kernel
theorem dX2_reset_70 : decode cX2_reset 70 = .ok (.invokevirtual 59, 3) := by decide +kernel
theorem dX2_reset_73 : decode cX2_reset 73 = .ok (.return_, 1) := by decide +kernel
set_option maxRecDepth 20000 in
theorem ggX2_copyFrom_X4_copyAll : GoodIn wsX2_copyFrom wsX4_copyAll := goodIn_r _ [12, 13, 14, 15, 16, 17, 18, 19, 20] (by decide +kernel) (by decide +kernel)
set_option maxRecDepth 20000 in
theorem gX2_copyFrom_X4_copyAll_n49 : GoodIn wsX2_copyFrom (wsX4_copyAll) := ggX2_copyFrom_X4_copyAll
set_option maxRecDepth 20000 in
theorem ggX2_copyFrom_X1_copyFrom : GoodIn wsX2_copyFrom wsX1_copyFrom := goodIn_r _ [25, 26, 27, 10, 11, 12, 13, 14, 15, 16, 17, 18, 19, 20, 37, 38] (by decide +kernel) (by decide +kernel)
set_option maxRecDepth 20000 in
theorem gX2_copyFrom_X1_copyFrom : GoodIn wsX2_copyFrom (wsV RX2 62 RX1 yX1_copyFrom wsX1_copyFrom) := goodIn_app (goodIn_of _ (by decide +kernel)) ggX2_copyFrom_X1_copyFrom
theorem dX2_copyFrom_0 : decode cX2_copyFrom 0 = .ok (.aload_n 1, 1) := by decide +kernel
theorem dX2_copyFrom_1 : decode cX2_copyFrom 1 = .ok (.getfield 9, 3) := by decide +kernel
theorem dX2_copyFrom_4 : decode cX2_copyFrom 4 = .ok (.aload_n 0, 1) := by decide +kernel
theorem dX2_copyFrom_5 : decode cX2_copyFrom 5 = .ok (.getfield 9, 3) := by decide +kernel
theorem dX2_copyFrom_8 : decode cX2_copyFrom 8 = .ok (.invokestatic 49, 3) := by decide +kernel
theorem dX2_copyFrom_11 : decode cX2_copyFrom 11 = .ok (.aload_n 1, 1) := by decide +kernel
theorem dX2_copyFrom_12 : decode cX2_copyFrom 12 = .ok (.getfield 15, 3) := by decide +kernel
theorem dX2_copyFrom_15 : decode cX2_copyFrom 15 = .ok (.aload_n 0, 1) := by decide +kernel
theorem dX2_copyFrom_16 : decode cX2_copyFrom 16 = .ok (.getfield 15, 3) := by decide +kernel
theorem dX2_copyFrom_19 : decode cX2_copyFrom 19 = .ok (.invokestatic 49, 3) := by decide +kernel
theorem dX2_copyFrom_22 : decode cX2_copyFrom 22 = .ok (.aload_n 1, 1) := by decide +kernel
theorem dX2_copyFrom_23 : decode cX2_copyFrom 23 = .ok (.getfield 18, 3) := by decide +kernel
theorem dX2_copyFrom_26 : decode cX2_copyFrom 26 = .ok (.aload_n 0, 1) := by decide +kernel
theorem dX2_copyFrom_27 : decode cX2_copyFrom 27 = .ok (.getfield 18, 3) := by decide +kernel
theorem dX2_copyFrom_30 : decode cX2_copyFrom 30 = .ok (.invokestatic 49, 3) := by decide +kernel
theorem dX2_copyFrom_33 : decode cX2_copyFrom 33 = .ok (.aload_n 1, 1) := by decide +kernel
theorem dX2_copyFrom_34 : decode cX2_copyFrom 34 = .ok (.getfield 21, 3) := by decide +kernel
theorem dX2_copyFrom_37 : decode cX2_copyFrom 37 = .ok (.aload_n 0, 1) := by decide +kernel
theorem dX2_copyFrom_38 : decode cX2_copyFrom 38 = .ok (.getfield 21, 3) := by decide +kernel
theorem dX2_copyFrom_41 : decode cX2_copyFrom 41 = .ok (.invokestatic 49, 3) := by decide +kernel
theorem dX2_copyFrom_44 : decode cX2_copyFrom 44 = .ok (.aload_n 1, 1) := by decide +kernel
theorem dX2_copyFrom_45 : decode cX2_copyFrom 45 = .ok (.getfield 24, 3) := by decide +kernel
theorem dX2_copyFrom_48 : decode cX2_copyFrom 48 = .ok (.aload_n 0, 1) := by decide +kernel
theorem dX2_copyFrom_49 : decode cX2_copyFrom 49 = .ok (.getfield 24, 3) := by decide +kernel
theorem dX2_copyFrom_52 : decode cX2_copyFrom 52 = .ok (.invokestatic 49, 3) := by decide +kernel
theorem dX2_copyFrom_55 : decode cX2_copyFrom 55 = .ok (.aload_n 1, 1) := by decide +kernel
theorem dX2_copyFrom_56 : decode cX2_copyFrom 56 = .ok (.getfield 27, 3) := by decide +kernel
theorem dX2_copyFrom_59 : decode cX2_copyFrom 59 = .ok (.aload_n 0, 1) := by decide +kernel
theorem dX2_copyFrom_60 : decode cX2_copyFrom 60 = .ok (.getfield 27, 3) := by decide +kernel
theorem dX2_copyFrom_63 : decode cX2_copyFrom 63 = .ok (.invokestatic 49, 3) := by decide +kernel
theorem dX2_copyFrom_66 : decode cX2_copyFrom 66 = .ok (.aload_n 1, 1) := by decide +kernel
theorem dX2_copyFrom_67 : decode cX2_copyFrom 67 = .ok (.getfield 40, 3) := by decide +kernel
theorem dX2_copyFrom_70 : decode cX2_copyFrom 70 = .ok (.aload_n 0, 1) := by decide +kernel
theorem dX2_copyFrom_71 : decode cX2_copyFrom 71 = .ok (.getfield 40, 3) := by decide +kernel
theorem dX2_copyFrom_74 : decode cX2_copyFrom 74 = .ok (.invokestatic 49, 3) := by decide +kernel
theorem dX2_copyFrom_77 : decode cX2_copyFrom 77 = .ok (.aload_n 0, 1) := by decide +kernel
theorem dX2_copyFrom_78 : decode cX2_copyFrom 78 = .ok (.getfield 33, 3) := by decide +kernel
theorem dX2_copyFrom_81 : decode cX2_copyFrom 81 = .ok (.aload_n 1, 1) := by decide +kernel
theorem dX2_copyFrom_82 : decode cX2_copyFrom 82 = .ok (.getfield 33, 3) := by decide +kernel
theorem dX2_copyFrom_85 : decode cX2_copyFrom 85 = .ok (.invokevirtual 62, 3) := by decide +kernel
theorem dX2_copyFrom_88 : decode cX2_copyFrom 88 = .ok (.aload_n 0, 1) := by decide +kernel
theorem dX2_copyFrom_89 : decode cX2_copyFrom 89 = .ok (.getfield 37, 3) := by decide +kernel
theorem dX2_copyFrom_92 : decode cX2_copyFrom 92 = .ok (.aload_n 1, 1) := by decide +kernel
theorem dX2_copyFrom_93 : decode cX2_copyFrom 93 = .ok (.getfield 37, 3) := by decide +kernel
theorem dX2_copyFrom_96 : decode cX2_copyFrom 96 = .ok (.invokevirtual 62, 3) := by decide +kernel
theorem dX2_copyFrom_99 : decode cX2_copyFrom 99 = .ok (.return_, 1) := by decide +kernel
set_option maxRecDepth 20000 in
theorem ggX2_number_X1_size : GoodIn wsX2_number wsX1_size := goodIn_r _ [7, 8, 33, 34] (by decide +kernel) (by decide +kernel)
set_option maxRecDepth 20000 in
theorem gX2_number_X1_size : GoodIn wsX2_number (wsV RX2 66 RX1 yX1_size wsX1_size) := goodIn_app (goodIn_of _ (by decide +kernel)) ggX2_number_X1_size
set_option maxRecDepth 20000 in
theorem ggX2_number_X2_feesHeld : GoodIn wsX2_number wsX2_feesHeld := goodIn_r _ [13, 1, 3, 4, 5, 6, 7, 8, 14, 15, 16, 17, 18, 24, 25, 26, 27, 28, 29, 30, 31, 32, 33, 34] (by decide +kernel) (by decide +kernel)
set_option maxRecDepth 20000 in
theorem gX2_number_X2_feesHeld : GoodIn wsX2_number (wsV RX2 70 RX2 yX2_feesHeld wsX2_feesHeld) := goodIn_app (goodIn_of _ (by decide +kernel)) ggX2_number_X2_feesHeld
set_option maxRecDepth 20000 in
theorem ggX2_number_X2_lotsInFront : GoodIn wsX2_number wsX2_lotsInFront := goodIn_r _ [22, 23, 24, 25, 26, 27, 28, 29, 30, 31, 32] (by decide +kernel) (by decide +kernel)
set_option maxRecDepth 20000 in
theorem gX2_number_X2_lotsInFront : GoodIn wsX2_number (wsV RX2 73 RX2 yX2_lotsInFront wsX2_lotsInFront) := goodIn_app (goodIn_of _ (by decide +kernel)) ggX2_number_X2_lotsInFront
theorem dX2_number_0 : decode cX2_number 0 = .ok (.iload_n 1, 1) := by decide +kernel
theorem dX2_number_1 : decode cX2_number 1 = .ok (.lookupswitch 53 #[(1, 35), (6, 43), (8, 48)], 35) := by decide +kernel
theorem dX2_number_36 : decode cX2_number 36 = .ok (.aload_n 0, 1) := by decide +kernel
theorem dX2_number_37 : decode cX2_number 37 = .ok (.getfield 33, 3) := by decide +kernel
theorem dX2_number_40 : decode cX2_number 40 = .ok (.invokevirtual 66, 3) := by decide +kernel
theorem dX2_number_43 : decode cX2_number 43 = .ok (.ireturn, 1) := by decide +kernel
theorem dX2_number_44 : decode cX2_number 44 = .ok (.aload_n 0, 1) := by decide +kernel
theorem dX2_number_45 : decode cX2_number 45 = .ok (.invokevirtual 70, 3) := by decide +kernel
theorem dX2_number_48 : decode cX2_number 48 = .ok (.ireturn, 1) := by decide +kernel
theorem dX2_number_49 : decode cX2_number 49 = .ok (.aload_n 0, 1) := by decide +kernel
theorem dX2_number_50 : decode cX2_number 50 = .ok (.invokevirtual 73, 3) := by decide +kernel
theorem dX2_number_53 : decode cX2_number 53 = .ok (.ireturn, 1) := by decide +kernel
theorem dX2_number_54 : decode cX2_number 54 = .ok (.iload_n 1, 1) := by decide +kernel
theorem dX2_number_55 : decode cX2_number 55 = .ok (.ifCond .lt 18, 3) := by decide +kernel
theorem dX2_number_58 : decode cX2_number 58 = .ok (.iload_n 1, 1) := by decide +kernel
theorem dX2_number_59 : decode cX2_number 59 = .ok (.bipush 11, 2) := by decide +kernel
theorem dX2_number_61 : decode cX2_number 61 = .ok (.if_icmp .ge 12, 3) := by decide +kernel
theorem dX2_number_64 : decode cX2_number 64 = .ok (.aload_n 0, 1) := by decide +kernel
theorem dX2_number_65 : decode cX2_number 65 = .ok (.getfield 40, 3) := by decide +kernel
theorem dX2_number_68 : decode cX2_number 68 = .ok (.iload_n 1, 1) := by decide +kernel
theorem dX2_number_69 : decode cX2_number 69 = .ok (.iaload, 1) := by decide +kernel
theorem dX2_number_70 : decode cX2_number 70 = .ok (.goto 4, 3) := by decide +kernel
theorem dX2_number_73 : decode cX2_number 73 = .ok (.iconst (-1), 1) := by decide +kernel
theorem dX2_number_74 : decode cX2_number 74 = .ok (.ireturn, 1) := by decide +kernel
set_option maxRecDepth 20000 in
theorem ggX2_feesHeld_X1_size : GoodIn wsX2_feesHeld wsX1_size := goodIn_r _ [6, 7, 22, 23] (by decide +kernel) (by decide +kernel)
set_option maxRecDepth 20000 in
theorem gX2_feesHeld_X1_size : GoodIn wsX2_feesHeld (wsV RX2 66 RX1 yX1_size wsX1_size) := goodIn_app (goodIn_of _ (by decide +kernel)) ggX2_feesHeld_X1_size
set_option maxRecDepth 20000 in
theorem ggX2_feesHeld_X1_get : GoodIn wsX2_feesHeld wsX1_get := goodIn_r _ [11, 7, 12, 22, 23] (by decide +kernel) (by decide +kernel)
set_option maxRecDepth 20000 in
theorem gX2_feesHeld_X1_get : GoodIn wsX2_feesHeld (wsV RX2 76 RX1 yX1_get wsX1_get) := goodIn_app (goodIn_of _ (by decide +kernel)) ggX2_feesHeld_X1_get
theorem dX2_feesHeld_0 : decode cX2_feesHeld 0 = .ok (.iconst 0, 1) := by decide +kernel
theorem dX2_feesHeld_1 : decode cX2_feesHeld 1 = .ok (.istore_n 1, 1) := by decide +kernel
theorem dX2_feesHeld_2 : decode cX2_feesHeld 2 = .ok (.iconst 0, 1) := by decide +kernel
theorem dX2_feesHeld_3 : decode cX2_feesHeld 3 = .ok (.istore_n 2, 1) := by decide +kernel
theorem dX2_feesHeld_4 : decode cX2_feesHeld 4 = .ok (.iload_n 2, 1) := by decide +kernel
theorem dX2_feesHeld_5 : decode cX2_feesHeld 5 = .ok (.aload_n 0, 1) := by decide +kernel
theorem dX2_feesHeld_6 : decode cX2_feesHeld 6 = .ok (.getfield 33, 3) := by decide +kernel
theorem dX2_feesHeld_9 : decode cX2_feesHeld 9 = .ok (.invokevirtual 66, 3) := by decide +kernel
theorem dX2_feesHeld_12 : decode cX2_feesHeld 12 = .ok (.if_icmp .ge 21, 3) := by decide +kernel
theorem dX2_feesHeld_15 : decode cX2_feesHeld 15 = .ok (.iload_n 1, 1) := by decide +kernel
theorem dX2_feesHeld_16 : decode cX2_feesHeld 16 = .ok (.aload_n 0, 1) := by decide +kernel
theorem dX2_feesHeld_17 : decode cX2_feesHeld 17 = .ok (.getfield 33, 3) := by decide +kernel
theorem dX2_feesHeld_20 : decode cX2_feesHeld 20 = .ok (.iload_n 2, 1) := by decide +kernel
theorem dX2_feesHeld_21 : decode cX2_feesHeld 21 = .ok (.iconst 3, 1) := by decide +kernel
theorem dX2_feesHeld_22 : decode cX2_feesHeld 22 = .ok (.invokevirtual 76, 3) := by decide +kernel
theorem dX2_feesHeld_25 : decode cX2_feesHeld 25 = .ok (.iadd, 1) := by decide +kernel
theorem dX2_feesHeld_26 : decode cX2_feesHeld 26 = .ok (.istore_n 1, 1) := by decide +kernel
theorem dX2_feesHeld_27 : decode cX2_feesHeld 27 = .ok (.iinc 2 1, 3) := by decide +kernel
theorem dX2_feesHeld_30 : decode cX2_feesHeld 30 = .ok (.goto (-26), 3) := by decide +kernel
theorem dX2_feesHeld_33 : decode cX2_feesHeld 33 = .ok (.iload_n 1, 1) := by decide +kernel
theorem dX2_feesHeld_34 : decode cX2_feesHeld 34 = .ok (.ireturn, 1) := by decide +kernel
theorem dX2_lotsInFront_0 : decode cX2_lotsInFront 0 = .ok (.iconst 0, 1) := by decide +kernel
theorem dX2_lotsInFront_1 : decode cX2_lotsInFront 1 = .ok (.istore_n 1, 1) := by decide +kernel
theorem dX2_lotsInFront_2 : decode cX2_lotsInFront 2 = .ok (.iconst 0, 1) := by decide +kernel
theorem dX2_lotsInFront_3 : decode cX2_lotsInFront 3 = .ok (.istore_n 2, 1) := by decide +kernel
theorem dX2_lotsInFront_4 : decode cX2_lotsInFront 4 = .ok (.iload_n 2, 1) := by decide +kernel
theorem dX2_lotsInFront_5 : decode cX2_lotsInFront 5 = .ok (.bipush 16, 2) := by decide +kernel
theorem dX2_lotsInFront_7 : decode cX2_lotsInFront 7 = .ok (.if_icmp .ge 22, 3) := by decide +kernel
theorem dX2_lotsInFront_10 : decode cX2_lotsInFront 10 = .ok (.aload_n 0, 1) := by decide +kernel
theorem dX2_lotsInFront_11 : decode cX2_lotsInFront 11 = .ok (.getfield 24, 3) := by decide +kernel
theorem dX2_lotsInFront_14 : decode cX2_lotsInFront 14 = .ok (.iload_n 2, 1) := by decide +kernel
theorem dX2_lotsInFront_15 : decode cX2_lotsInFront 15 = .ok (.iaload, 1) := by decide +kernel
theorem dX2_lotsInFront_16 : decode cX2_lotsInFront 16 = .ok (.iconst (-1), 1) := by decide +kernel
theorem dX2_lotsInFront_17 : decode cX2_lotsInFront 17 = .ok (.if_icmp .eq 6, 3) := by decide +kernel
theorem dX2_lotsInFront_20 : decode cX2_lotsInFront 20 = .ok (.iinc 1 1, 3) := by decide +kernel
theorem dX2_lotsInFront_23 : decode cX2_lotsInFront 23 = .ok (.iinc 2 1, 3) := by decide +kernel
theorem dX2_lotsInFront_26 : decode cX2_lotsInFront 26 = .ok (.goto (-22), 3) := by decide +kernel
theorem dX2_lotsInFront_29 : decode cX2_lotsInFront 29 = .ok (.iload_n 1, 1) := by decide +kernel
theorem dX2_lotsInFront_30 : decode cX2_lotsInFront 30 = .ok (.ireturn, 1) := by decide +kernel
set_option maxRecDepth 20000 in
theorem ggX2_openOf_X1_size : GoodIn wsX2_openOf wsX1_size := goodIn_r _ [6, 7, 22, 23] (by decide +kernel) (by decide +kernel)
set_option maxRecDepth 20000 in
theorem gX2_openOf_X1_size : GoodIn wsX2_openOf (wsV RX2 66 RX1 yX1_size wsX1_size) := goodIn_app (goodIn_of _ (by decide +kernel)) ggX2_openOf_X1_size
set_option maxRecDepth 20000 in
theorem ggX2_openOf_X1_get : GoodIn wsX2_openOf wsX1_get := goodIn_r _ [11, 7, 12, 22, 23] (by decide +kernel) (by decide +kernel)
set_option maxRecDepth 20000 in
theorem gX2_openOf_X1_get : GoodIn wsX2_openOf (wsV RX2 76 RX1 yX1_get wsX1_get) := goodIn_app (goodIn_of _ (by decide +kernel)) ggX2_openOf_X1_get
theorem dX2_openOf_0 : decode cX2_openOf 0 = .ok (.iconst 0, 1) := by decide +kernel
theorem dX2_openOf_1 : decode cX2_openOf 1 = .ok (.istore_n 3, 1) := by decide +kernel
theorem dX2_openOf_2 : decode cX2_openOf 2 = .ok (.iconst 0, 1) := by decide +kernel
theorem dX2_openOf_3 : decode cX2_openOf 3 = .ok (.istore 4, 2) := by decide +kernel
theorem dX2_openOf_5 : decode cX2_openOf 5 = .ok (.iload 4, 2) := by decide +kernel
theorem dX2_openOf_7 : decode cX2_openOf 7 = .ok (.aload_n 0, 1) := by decide +kernel
theorem dX2_openOf_8 : decode cX2_openOf 8 = .ok (.getfield 33, 3) := by decide +kernel
theorem dX2_openOf_11 : decode cX2_openOf 11 = .ok (.invokevirtual 66, 3) := by decide +kernel
theorem dX2_openOf_14 : decode cX2_openOf 14 = .ok (.if_icmp .ge 26, 3) := by decide +kernel
theorem dX2_openOf_17 : decode cX2_openOf 17 = .ok (.aload_n 0, 1) := by decide +kernel
theorem dX2_openOf_18 : decode cX2_openOf 18 = .ok (.getfield 33, 3) := by decide +kernel
theorem dX2_openOf_21 : decode cX2_openOf 21 = .ok (.iload 4, 2) := by decide +kernel
theorem dX2_openOf_23 : decode cX2_openOf 23 = .ok (.iload_n 1, 1) := by decide +kernel
theorem dX2_openOf_24 : decode cX2_openOf 24 = .ok (.invokevirtual 76, 3) := by decide +kernel
theorem dX2_openOf_27 : decode cX2_openOf 27 = .ok (.iload_n 2, 1) := by decide +kernel
theorem dX2_openOf_28 : decode cX2_openOf 28 = .ok (.if_icmp .ne 6, 3) := by decide +kernel
theorem dX2_openOf_31 : decode cX2_openOf 31 = .ok (.iinc 3 1, 3) := by decide +kernel
theorem dX2_openOf_34 : decode cX2_openOf 34 = .ok (.iinc 4 1, 3) := by decide +kernel
theorem dX2_openOf_37 : decode cX2_openOf 37 = .ok (.goto (-32), 3) := by decide +kernel
theorem dX2_openOf_40 : decode cX2_openOf 40 = .ok (.iload_n 3, 1) := by decide +kernel
theorem dX2_openOf_41 : decode cX2_openOf 41 = .ok (.ireturn, 1) := by decide +kernel
set_option maxRecDepth 20000 in
theorem ggX2_feesFor_X1_size : GoodIn wsX2_feesFor wsX1_size := goodIn_r _ [6, 7, 22, 23] (by decide +kernel) (by decide +kernel)
set_option maxRecDepth 20000 in
theorem gX2_feesFor_X1_size : GoodIn wsX2_feesFor (wsV RX2 66 RX1 yX1_size wsX1_size) := goodIn_app (goodIn_of _ (by decide +kernel)) ggX2_feesFor_X1_size
set_option maxRecDepth 20000 in
theorem ggX2_feesFor_X1_get : GoodIn wsX2_feesFor wsX1_get := goodIn_r _ [11, 7, 12, 22, 23] (by decide +kernel) (by decide +kernel)
set_option maxRecDepth 20000 in
theorem gX2_feesFor_X1_get : GoodIn wsX2_feesFor (wsV RX2 76 RX1 yX1_get wsX1_get) := goodIn_app (goodIn_of _ (by decide +kernel)) ggX2_feesFor_X1_get
theorem dX2_feesFor_0 : decode cX2_feesFor 0 = .ok (.iconst 0, 1) := by decide +kernel
theorem dX2_feesFor_1 : decode cX2_feesFor 1 = .ok (.istore_n 2, 1) := by decide +kernel
theorem dX2_feesFor_2 : decode cX2_feesFor 2 = .ok (.iconst 0, 1) := by decide +kernel
theorem dX2_feesFor_3 : decode cX2_feesFor 3 = .ok (.istore_n 3, 1) := by decide +kernel
theorem dX2_feesFor_4 : decode cX2_feesFor 4 = .ok (.iload_n 3, 1) := by decide +kernel
theorem dX2_feesFor_5 : decode cX2_feesFor 5 = .ok (.aload_n 0, 1) := by decide +kernel
theorem dX2_feesFor_6 : decode cX2_feesFor 6 = .ok (.getfield 33, 3) := by decide +kernel
theorem dX2_feesFor_9 : decode cX2_feesFor 9 = .ok (.invokevirtual 66, 3) := by decide +kernel
theorem dX2_feesFor_12 : decode cX2_feesFor 12 = .ok (.if_icmp .ge 34, 3) := by decide +kernel
theorem dX2_feesFor_15 : decode cX2_feesFor 15 = .ok (.aload_n 0, 1) := by decide +kernel
theorem dX2_feesFor_16 : decode cX2_feesFor 16 = .ok (.getfield 33, 3) := by decide +kernel
theorem dX2_feesFor_19 : decode cX2_feesFor 19 = .ok (.iload_n 3, 1) := by decide +kernel
theorem dX2_feesFor_20 : decode cX2_feesFor 20 = .ok (.iconst 1, 1) := by decide +kernel
theorem dX2_feesFor_21 : decode cX2_feesFor 21 = .ok (.invokevirtual 76, 3) := by decide +kernel
theorem dX2_feesFor_24 : decode cX2_feesFor 24 = .ok (.iload_n 1, 1) := by decide +kernel
theorem dX2_feesFor_25 : decode cX2_feesFor 25 = .ok (.if_icmp .ne 15, 3) := by decide +kernel
theorem dX2_feesFor_28 : decode cX2_feesFor 28 = .ok (.iload_n 2, 1) := by decide +kernel
theorem dX2_feesFor_29 : decode cX2_feesFor 29 = .ok (.aload_n 0, 1) := by decide +kernel
theorem dX2_feesFor_30 : decode cX2_feesFor 30 = .ok (.getfield 33, 3) := by decide +kernel
theorem dX2_feesFor_33 : decode cX2_feesFor 33 = .ok (.iload_n 3, 1) := by decide +kernel
theorem dX2_feesFor_34 : decode cX2_feesFor 34 = .ok (.iconst 3, 1) := by decide +kernel
theorem dX2_feesFor_35 : decode cX2_feesFor 35 = .ok (.invokevirtual 76, 3) := by decide +kernel
theorem dX2_feesFor_38 : decode cX2_feesFor 38 = .ok (.iadd, 1) := by decide +kernel
theorem dX2_feesFor_39 : decode cX2_feesFor 39 = .ok (.istore_n 2, 1) := by decide +kernel
theorem dX2_feesFor_40 : decode cX2_feesFor 40 = .ok (.iinc 3 1, 3) := by decide +kernel
theorem dX2_feesFor_43 : decode cX2_feesFor 43 = .ok (.goto (-39), 3) := by decide +kernel
theorem dX2_feesFor_46 : decode cX2_feesFor 46 = .ok (.iload_n 2, 1) := by decide +kernel
theorem dX2_feesFor_47 : decode cX2_feesFor 47 = .ok (.ireturn, 1) := by decide +kernel
set_option maxRecDepth 20000 in
theorem ggX2_isInFront_X4_isLot : GoodIn wsX2_isInFront wsX4_isLot := goodIn_r _ [4] (by decide +kernel) (by decide +kernel)
set_option maxRecDepth 20000 in
theorem gX2_isInFront_X4_isLot_n80 : GoodIn wsX2_isInFront (wsX4_isLot) := ggX2_isInFront_X4_isLot
theorem dX2_isInFront_0 : decode cX2_isInFront 0 = .ok (.iload_n 1, 1) := by decide +kernel
theorem dX2_isInFront_1 : decode cX2_isInFront 1 = .ok (.invokestatic 80, 3) := by decide +kernel
theorem dX2_isInFront_4 : decode cX2_isInFront 4 = .ok (.ifCond .eq 17, 3) := by decide +kernel
theorem dX2_isInFront_7 : decode cX2_isInFront 7 = .ok (.aload_n 0, 1) := by decide +kernel
theorem dX2_isInFront_8 : decode cX2_isInFront 8 = .ok (.getfield 24, 3) := by decide +kernel
theorem dX2_isInFront_11 : decode cX2_isInFront 11 = .ok (.iload_n 1, 1) := by decide +kernel
theorem dX2_isInFront_12 : decode cX2_isInFront 12 = .ok (.iaload, 1) := by decide +kernel
theorem dX2_isInFront_13 : decode cX2_isInFront 13 = .ok (.iconst (-1), 1) := by decide +kernel
theorem dX2_isInFront_14 : decode cX2_isInFront 14 = .ok (.if_icmp .eq 7, 3) := by decide +kernel
theorem dX2_isInFront_17 : decode cX2_isInFront 17 = .ok (.iconst 1, 1) := by decide +kernel
theorem dX2_isInFront_18 : decode cX2_isInFront 18 = .ok (.goto 4, 3) := by decide +kernel
theorem dX2_isInFront_21 : decode cX2_isInFront 21 = .ok (.iconst 0, 1) := by decide +kernel
theorem dX2_isInFront_22 : decode cX2_isInFront 22 = .ok (.ireturn, 1) := by decide +kernel
set_option maxRecDepth 20000 in
theorem ggX2_takenMoreThan_X4_isLot : GoodIn wsX2_takenMoreThan wsX4_isLot := goodIn_r _ [4] (by decide +kernel) (by decide +kernel)
set_option maxRecDepth 20000 in
theorem gX2_takenMoreThan_X4_isLot_n80 : GoodIn wsX2_takenMoreThan (wsX4_isLot) := ggX2_takenMoreThan_X4_isLot
theorem dX2_takenMoreThan_0 : decode cX2_takenMoreThan 0 = .ok (.iload_n 2, 1) := by decide +kernel
theorem dX2_takenMoreThan_1 : decode cX2_takenMoreThan 1 = .ok (.invokestatic 80, 3) := by decide +kernel
theorem dX2_takenMoreThan_4 : decode cX2_takenMoreThan 4 = .ok (.ifCond .eq 22, 3) := by decide +kernel
theorem dX2_takenMoreThan_7 : decode cX2_takenMoreThan 7 = .ok (.aload_n 0, 1) := by decide +kernel
theorem dX2_takenMoreThan_8 : decode cX2_takenMoreThan 8 = .ok (.getfield 27, 3) := by decide +kernel
theorem dX2_takenMoreThan_11 : decode cX2_takenMoreThan 11 = .ok (.iload_n 2, 1) := by decide +kernel
theorem dX2_takenMoreThan_12 : decode cX2_takenMoreThan 12 = .ok (.iaload, 1) := by decide +kernel
theorem dX2_takenMoreThan_13 : decode cX2_takenMoreThan 13 = .ok (.aload_n 1, 1) := by decide +kernel
theorem dX2_takenMoreThan_14 : decode cX2_takenMoreThan 14 = .ok (.getfield 27, 3) := by decide +kernel
theorem dX2_takenMoreThan_17 : decode cX2_takenMoreThan 17 = .ok (.iload_n 2, 1) := by decide +kernel
theorem dX2_takenMoreThan_18 : decode cX2_takenMoreThan 18 = .ok (.iaload, 1) := by decide +kernel
theorem dX2_takenMoreThan_19 : decode cX2_takenMoreThan 19 = .ok (.if_icmp .le 7, 3) := by decide +kernel
theorem dX2_takenMoreThan_22 : decode cX2_takenMoreThan 22 = .ok (.iconst 1, 1) := by decide +kernel
theorem dX2_takenMoreThan_23 : decode cX2_takenMoreThan 23 = .ok (.goto 4, 3) := by decide +kernel
theorem dX2_takenMoreThan_26 : decode cX2_takenMoreThan 26 = .ok (.iconst 0, 1) := by decide +kernel
theorem dX2_takenMoreThan_27 : decode cX2_takenMoreThan 27 = .ok (.ireturn, 1) := by decide +kernel
set_option maxRecDepth 20000 in
theorem ggX2_takesOrder_X2_isInFront : GoodIn wsX2_takesOrder wsX2_isInFront := goodIn_r _ [7, 8, 9, 10, 11, 20, 21, 22, 23, 24, 25, 26, 27, 28] (by decide +kernel) (by decide +kernel)
set_option maxRecDepth 20000 in
theorem gX2_takesOrder_X2_isInFront : GoodIn wsX2_takesOrder (wsV RX2 84 RX2 yX2_isInFront wsX2_isInFront) := goodIn_app (goodIn_of _ (by decide +kernel)) ggX2_takesOrder_X2_isInFront
set_option maxRecDepth 20000 in
theorem ggX2_takesOrder_X1_size : GoodIn wsX2_takesOrder wsX1_size := goodIn_r _ [16, 17, 29, 30] (by decide +kernel) (by decide +kernel)
set_option maxRecDepth 20000 in
theorem gX2_takesOrder_X1_size : GoodIn wsX2_takesOrder (wsV RX2 66 RX1 yX1_size wsX1_size) := goodIn_app (goodIn_of _ (by decide +kernel)) ggX2_takesOrder_X1_size
set_option maxRecDepth 20000 in
theorem ggX2_takesOrder_X4_isReader : GoodIn wsX2_takesOrder wsX4_isReader := goodIn_r _ [19] (by decide +kernel) (by decide +kernel)
set_option maxRecDepth 20000 in
theorem gX2_takesOrder_X4_isReader_n87 : GoodIn wsX2_takesOrder (wsX4_isReader) := ggX2_takesOrder_X4_isReader
theorem dX2_takesOrder_0 : decode cX2_takesOrder 0 = .ok (.aload_n 0, 1) := by decide +kernel
theorem dX2_takesOrder_1 : decode cX2_takesOrder 1 = .ok (.iload_n 2, 1) := by decide +kernel
theorem dX2_takesOrder_2 : decode cX2_takesOrder 2 = .ok (.invokevirtual 84, 3) := by decide +kernel
theorem dX2_takesOrder_5 : decode cX2_takesOrder 5 = .ok (.ifCond .ne 32, 3) := by decide +kernel
theorem dX2_takesOrder_8 : decode cX2_takesOrder 8 = .ok (.aload_n 0, 1) := by decide +kernel
theorem dX2_takesOrder_9 : decode cX2_takesOrder 9 = .ok (.getfield 33, 3) := by decide +kernel
theorem dX2_takesOrder_12 : decode cX2_takesOrder 12 = .ok (.invokevirtual 66, 3) := by decide +kernel
theorem dX2_takesOrder_15 : decode cX2_takesOrder 15 = .ok (.bipush 20, 2) := by decide +kernel
theorem dX2_takesOrder_17 : decode cX2_takesOrder 17 = .ok (.if_icmp .ge 24, 3) := by decide +kernel
theorem dX2_takesOrder_20 : decode cX2_takesOrder 20 = .ok (.iload_n 1, 1) := by decide +kernel
theorem dX2_takesOrder_21 : decode cX2_takesOrder 21 = .ok (.invokestatic 87, 3) := by decide +kernel
theorem dX2_takesOrder_24 : decode cX2_takesOrder 24 = .ok (.ifCond .eq 17, 3) := by decide +kernel
theorem dX2_takesOrder_27 : decode cX2_takesOrder 27 = .ok (.aload_n 0, 1) := by decide +kernel
theorem dX2_takesOrder_28 : decode cX2_takesOrder 28 = .ok (.getfield 15, 3) := by decide +kernel
theorem dX2_takesOrder_31 : decode cX2_takesOrder 31 = .ok (.iload_n 1, 1) := by decide +kernel
theorem dX2_takesOrder_32 : decode cX2_takesOrder 32 = .ok (.iaload, 1) := by decide +kernel
theorem dX2_takesOrder_33 : decode cX2_takesOrder 33 = .ok (.iload_n 3, 1) := by decide +kernel
theorem dX2_takesOrder_34 : decode cX2_takesOrder 34 = .ok (.if_icmp .lt 7, 3) := by decide +kernel
theorem dX2_takesOrder_37 : decode cX2_takesOrder 37 = .ok (.iconst 1, 1) := by decide +kernel
theorem dX2_takesOrder_38 : decode cX2_takesOrder 38 = .ok (.goto 4, 3) := by decide +kernel
theorem dX2_takesOrder_41 : decode cX2_takesOrder 41 = .ok (.iconst 0, 1) := by decide +kernel
theorem dX2_takesOrder_42 : decode cX2_takesOrder 42 = .ok (.ireturn, 1) := by decide +kernel
set_option maxRecDepth 20000 in
theorem ggX2_place_X2_isInFront : GoodIn wsX2_place wsX2_isInFront := goodIn_r _ [8, 1, 9, 10, 11, 52, 53, 54, 55, 56, 57, 58, 59, 60] (by decide +kernel) (by decide +kernel)
set_option maxRecDepth 20000 in
theorem gX2_place_X2_isInFront : GoodIn wsX2_place (wsV RX2 84 RX2 yX2_isInFront wsX2_isInFront) := goodIn_app (goodIn_of _ (by decide +kernel)) ggX2_place_X2_isInFront
set_option maxRecDepth 20000 in
theorem ggX2_place_X2_noteDelivered : GoodIn wsX2_place wsX2_noteDelivered := goodIn_r _ [15, 16, 17, 18, 19, 10, 20, 21, 22, 23, 24, 25, 26, 27, 28, 29, 30, 31, 32, 33, 34, 35, 36, 37, 38, 39, 40, 41, 42, 43, 44, 45, 46, 47, 48, 49, 50, 51, 52, 53, 54, 55, 56, 57, 58, 59, 60, 61, 62] (by decide +kernel) (by decide +kernel)
set_option maxRecDepth 20000 in
theorem gX2_place_X2_noteDelivered : GoodIn wsX2_place (wsV RX2 90 RX2 yX2_noteDelivered wsX2_noteDelivered) := goodIn_app (goodIn_of _ (by decide +kernel)) ggX2_place_X2_noteDelivered
set_option maxRecDepth 20000 in
theorem ggX2_place_X4_isReader : GoodIn wsX2_place wsX4_isReader := goodIn_r _ [20] (by decide +kernel) (by decide +kernel)
set_option maxRecDepth 20000 in
theorem gX2_place_X4_isReader_n87 : GoodIn wsX2_place (wsX4_isReader) := ggX2_place_X4_isReader
set_option maxRecDepth 20000 in
theorem ggX2_place_X1_add : GoodIn wsX2_place wsX1_add := goodIn_r _ [51, 26, 35, 61, 62] (by decide +kernel) (by decide +kernel)
set_option maxRecDepth 20000 in
theorem gX2_place_X1_add : GoodIn wsX2_place (wsV RX2 94 RX1 yX1_add wsX1_add) := goodIn_app (goodIn_of _ (by decide +kernel)) ggX2_place_X1_add
theorem dX2_place_0 : decode cX2_place 0 = .ok (.aload_n 0, 1) := by decide +kernel
theorem dX2_place_1 : decode cX2_place 1 = .ok (.iload_n 2, 1) := by decide +kernel
theorem dX2_place_2 : decode cX2_place 2 = .ok (.invokevirtual 84, 3) := by decide +kernel
theorem dX2_place_5 : decode cX2_place 5 = .ok (.ifCond .eq 21, 3) := by decide +kernel
theorem dX2_place_8 : decode cX2_place 8 = .ok (.aload_n 0, 1) := by decide +kernel
theorem dX2_place_9 : decode cX2_place 9 = .ok (.getfield 24, 3) := by decide +kernel
theorem dX2_place_12 : decode cX2_place 12 = .ok (.iload_n 2, 1) := by decide +kernel
theorem dX2_place_13 : decode cX2_place 13 = .ok (.iconst 0, 1) := by decide +kernel
theorem dX2_place_14 : decode cX2_place 14 = .ok (.iastore, 1) := by decide +kernel
theorem dX2_place_15 : decode cX2_place 15 = .ok (.aload_n 0, 1) := by decide +kernel
theorem dX2_place_16 : decode cX2_place 16 = .ok (.iload_n 1, 1) := by decide +kernel
theorem dX2_place_17 : decode cX2_place 17 = .ok (.iload_n 2, 1) := by decide +kernel
theorem dX2_place_18 : decode cX2_place 18 = .ok (.iload_n 3, 1) := by decide +kernel
theorem dX2_place_19 : decode cX2_place 19 = .ok (.iconst 0, 1) := by decide +kernel
theorem dX2_place_20 : decode cX2_place 20 = .ok (.iconst 0, 1) := by decide +kernel
theorem dX2_place_21 : decode cX2_place 21 = .ok (.invokevirtual 90, 3) := by decide +kernel
theorem dX2_place_24 : decode cX2_place 24 = .ok (.iconst (-1), 1) := by decide +kernel
theorem dX2_place_25 : decode cX2_place 25 = .ok (.ireturn, 1) := by decide +kernel
theorem dX2_place_26 : decode cX2_place 26 = .ok (.iload_n 1, 1) := by decide +kernel
theorem dX2_place_27 : decode cX2_place 27 = .ok (.invokestatic 87, 3) := by decide +kernel
theorem dX2_place_30 : decode cX2_place 30 = .ok (.ifCond .eq 14, 3) := by decide +kernel
theorem dX2_place_33 : decode cX2_place 33 = .ok (.aload_n 0, 1) := by decide +kernel
theorem dX2_place_34 : decode cX2_place 34 = .ok (.getfield 15, 3) := by decide +kernel
theorem dX2_place_37 : decode cX2_place 37 = .ok (.iload_n 1, 1) := by decide +kernel
theorem dX2_place_38 : decode cX2_place 38 = .ok (.dup2, 1) := by decide +kernel
theorem dX2_place_39 : decode cX2_place 39 = .ok (.iaload, 1) := by decide +kernel
theorem dX2_place_40 : decode cX2_place 40 = .ok (.iload 4, 2) := by decide +kernel
theorem dX2_place_42 : decode cX2_place 42 = .ok (.isub, 1) := by decide +kernel
theorem dX2_place_43 : decode cX2_place 43 = .ok (.iastore, 1) := by decide +kernel
theorem dX2_place_44 : decode cX2_place 44 = .ok (.aload_n 0, 1) := by decide +kernel
theorem dX2_place_45 : decode cX2_place 45 = .ok (.getfield 33, 3) := by decide +kernel
theorem dX2_place_48 : decode cX2_place 48 = .ok (.iload_n 1, 1) := by decide +kernel
theorem dX2_place_49 : decode cX2_place 49 = .ok (.iload_n 2, 1) := by decide +kernel
theorem dX2_place_50 : decode cX2_place 50 = .ok (.iload_n 3, 1) := by decide +kernel
theorem dX2_place_51 : decode cX2_place 51 = .ok (.iload 4, 2) := by decide +kernel
theorem dX2_place_53 : decode cX2_place 53 = .ok (.iconst 0, 1) := by decide +kernel
theorem dX2_place_54 : decode cX2_place 54 = .ok (.invokevirtual 94, 3) := by decide +kernel
theorem dX2_place_57 : decode cX2_place 57 = .ok (.ireturn, 1) := by decide +kernel
set_option maxRecDepth 20000 in
theorem ggX2_placeIfAllowed_X4_isReader : GoodIn wsX2_placeIfAllowed wsX4_isReader := goodIn_r _ [3] (by decide +kernel) (by decide +kernel)
set_option maxRecDepth 20000 in
theorem gX2_placeIfAllowed_X4_isReader_n87 : GoodIn wsX2_placeIfAllowed (wsX4_isReader) := ggX2_placeIfAllowed_X4_isReader
set_option maxRecDepth 20000 in
theorem ggX2_placeIfAllowed_X4_isLot : GoodIn wsX2_placeIfAllowed wsX4_isLot := goodIn_r _ [5] (by decide +kernel) (by decide +kernel)
set_option maxRecDepth 20000 in
theorem gX2_placeIfAllowed_X4_isLot_n80 : GoodIn wsX2_placeIfAllowed (wsX4_isLot) := ggX2_placeIfAllowed_X4_isLot
set_option maxRecDepth 20000 in
theorem ggX2_placeIfAllowed_X4_isItem : GoodIn wsX2_placeIfAllowed wsX4_isItem := goodIn_r _ [7] (by decide +kernel) (by decide +kernel)
set_option maxRecDepth 20000 in
theorem gX2_placeIfAllowed_X4_isItem_n98 : GoodIn wsX2_placeIfAllowed (wsX4_isItem) := ggX2_placeIfAllowed_X4_isItem
set_option maxRecDepth 20000 in
theorem ggX2_placeIfAllowed_X4_isFee : GoodIn wsX2_placeIfAllowed wsX4_isFee := goodIn_r _ [9] (by decide +kernel) (by decide +kernel)
set_option maxRecDepth 20000 in
theorem gX2_placeIfAllowed_X4_isFee_n101 : GoodIn wsX2_placeIfAllowed (wsX4_isFee) := ggX2_placeIfAllowed_X4_isFee
set_option maxRecDepth 20000 in
theorem ggX2_placeIfAllowed_X2_takesOrder : GoodIn wsX2_placeIfAllowed wsX2_takesOrder := goodIn_r _ [14, 15, 16, 17, 18, 19, 13, 20, 21, 4, 2, 5, 22, 23, 24, 25, 26, 27, 1, 3, 64, 65, 66, 67, 68, 69, 70, 71, 72, 73, 74] (by decide +kernel) (by decide +kernel)
set_option maxRecDepth 20000 in
theorem gX2_placeIfAllowed_X2_takesOrder : GoodIn wsX2_placeIfAllowed (wsV RX2 104 RX2 yX2_takesOrder wsX2_takesOrder) := goodIn_app (goodIn_of _ (by decide +kernel)) ggX2_placeIfAllowed_X2_takesOrder
set_option maxRecDepth 20000 in
theorem ggX2_placeIfAllowed_X2_place : GoodIn wsX2_placeIfAllowed wsX2_place := goodIn_r _ [31, 21, 16, 15, 17, 18, 19, 13, 20, 4, 2, 5, 32, 33, 34, 35, 36, 37, 38, 1, 3, 22, 23, 24, 25, 26, 27, 39, 40, 41, 42, 43, 44, 45, 46, 47, 48, 49, 50, 51, 52, 53, 54, 55, 56, 57, 58, 59, 60, 61, 62, 63, 64, 65, 66, 67, 68, 69, 70, 71, 72, 73, 74] (by decide +kernel) (by decide +kernel)
set_option maxRecDepth 20000 in
theorem gX2_placeIfAllowed_X2_place : GoodIn wsX2_placeIfAllowed (wsV RX2 108 RX2 yX2_place wsX2_place) := goodIn_app (goodIn_of _ (by decide +kernel)) ggX2_placeIfAllowed_X2_place
theorem dX2_placeIfAllowed_0 : decode cX2_placeIfAllowed 0 = .ok (.iload_n 1, 1) := by decide +kernel
theorem dX2_placeIfAllowed_1 : decode cX2_placeIfAllowed 1 = .ok (.invokestatic 87, 3) := by decide +kernel
theorem dX2_placeIfAllowed_4 : decode cX2_placeIfAllowed 4 = .ok (.ifCond .eq 40, 3) := by decide +kernel
theorem dX2_placeIfAllowed_7 : decode cX2_placeIfAllowed 7 = .ok (.iload_n 2, 1) := by decide +kernel
theorem dX2_placeIfAllowed_8 : decode cX2_placeIfAllowed 8 = .ok (.invokestatic 80, 3) := by decide +kernel
theorem dX2_placeIfAllowed_11 : decode cX2_placeIfAllowed 11 = .ok (.ifCond .eq 33, 3) := by decide +kernel
theorem dX2_placeIfAllowed_14 : decode cX2_placeIfAllowed 14 = .ok (.iload_n 3, 1) := by decide +kernel
theorem dX2_placeIfAllowed_15 : decode cX2_placeIfAllowed 15 = .ok (.invokestatic 98, 3) := by decide +kernel
theorem dX2_placeIfAllowed_18 : decode cX2_placeIfAllowed 18 = .ok (.ifCond .eq 26, 3) := by decide +kernel
theorem dX2_placeIfAllowed_21 : decode cX2_placeIfAllowed 21 = .ok (.iload 4, 2) := by decide +kernel
theorem dX2_placeIfAllowed_23 : decode cX2_placeIfAllowed 23 = .ok (.invokestatic 101, 3) := by decide +kernel
theorem dX2_placeIfAllowed_26 : decode cX2_placeIfAllowed 26 = .ok (.ifCond .eq 18, 3) := by decide +kernel
theorem dX2_placeIfAllowed_29 : decode cX2_placeIfAllowed 29 = .ok (.aload_n 0, 1) := by decide +kernel
theorem dX2_placeIfAllowed_30 : decode cX2_placeIfAllowed 30 = .ok (.iload_n 1, 1) := by decide +kernel
theorem dX2_placeIfAllowed_31 : decode cX2_placeIfAllowed 31 = .ok (.iload_n 2, 1) := by decide +kernel
theorem dX2_placeIfAllowed_32 : decode cX2_placeIfAllowed 32 = .ok (.iload 4, 2) := by decide +kernel
theorem dX2_placeIfAllowed_34 : decode cX2_placeIfAllowed 34 = .ok (.invokevirtual 104, 3) := by decide +kernel
theorem dX2_placeIfAllowed_37 : decode cX2_placeIfAllowed 37 = .ok (.ifCond .eq 7, 3) := by decide +kernel
theorem dX2_placeIfAllowed_40 : decode cX2_placeIfAllowed 40 = .ok (.iconst 1, 1) := by decide +kernel
theorem dX2_placeIfAllowed_41 : decode cX2_placeIfAllowed 41 = .ok (.goto 4, 3) := by decide +kernel
theorem dX2_placeIfAllowed_44 : decode cX2_placeIfAllowed 44 = .ok (.iconst 0, 1) := by decide +kernel
theorem dX2_placeIfAllowed_45 : decode cX2_placeIfAllowed 45 = .ok (.istore 5, 2) := by decide +kernel
theorem dX2_placeIfAllowed_47 : decode cX2_placeIfAllowed 47 = .ok (.iload 5, 2) := by decide +kernel
theorem dX2_placeIfAllowed_49 : decode cX2_placeIfAllowed 49 = .ok (.ifCond .eq 13, 3) := by decide +kernel
theorem dX2_placeIfAllowed_52 : decode cX2_placeIfAllowed 52 = .ok (.aload_n 0, 1) := by decide +kernel
theorem dX2_placeIfAllowed_53 : decode cX2_placeIfAllowed 53 = .ok (.iload_n 1, 1) := by decide +kernel
theorem dX2_placeIfAllowed_54 : decode cX2_placeIfAllowed 54 = .ok (.iload_n 2, 1) := by decide +kernel
theorem dX2_placeIfAllowed_55 : decode cX2_placeIfAllowed 55 = .ok (.iload_n 3, 1) := by decide +kernel
theorem dX2_placeIfAllowed_56 : decode cX2_placeIfAllowed 56 = .ok (.iload 4, 2) := by decide +kernel
theorem dX2_placeIfAllowed_58 : decode cX2_placeIfAllowed 58 = .ok (.invokevirtual 108, 3) := by decide +kernel
theorem dX2_placeIfAllowed_61 : decode cX2_placeIfAllowed 61 = .ok (.pop, 1) := by decide +kernel
theorem dX2_placeIfAllowed_62 : decode cX2_placeIfAllowed 62 = .ok (.iload 5, 2) := by decide +kernel
theorem dX2_placeIfAllowed_64 : decode cX2_placeIfAllowed 64 = .ok (.ireturn, 1) := by decide +kernel
set_option maxRecDepth 20000 in
theorem ggX2_drop_X2_payBack : GoodIn wsX2_drop wsX2_payBack := goodIn_r _ [7, 2, 8, 1, 9, 10, 11, 12, 13, 14, 15, 16, 17, 18, 36, 37, 38, 39, 40, 41, 42, 43, 44, 45, 46] (by decide +kernel) (by decide +kernel)
set_option maxRecDepth 20000 in
theorem gX2_drop_X2_payBack : GoodIn wsX2_drop (wsV RX2 112 RX2 yX2_payBack wsX2_payBack) := goodIn_app (goodIn_of _ (by decide +kernel)) ggX2_drop_X2_payBack
set_option maxRecDepth 20000 in
theorem ggX2_drop_X1_end : GoodIn wsX2_drop wsX1_end := goodIn_r _ [22, 23, 24, 25, 12, 26, 14, 15, 45, 46] (by decide +kernel) (by decide +kernel)
set_option maxRecDepth 20000 in
theorem gX2_drop_X1_end : GoodIn wsX2_drop (wsV RX2 116 RX1 yX1_end wsX1_end) := goodIn_app (goodIn_of _ (by decide +kernel)) ggX2_drop_X1_end
set_option maxRecDepth 20000 in
theorem ggX2_drop_X1_closeGaps : GoodIn wsX2_drop wsX1_closeGaps := goodIn_r _ [30, 14, 15, 31, 32, 33, 34, 35, 10, 11, 12, 13, 45, 46] (by decide +kernel) (by decide +kernel)
set_option maxRecDepth 20000 in
theorem gX2_drop_X1_closeGaps : GoodIn wsX2_drop (wsV RX2 120 RX1 yX1_closeGaps wsX1_closeGaps) := goodIn_app (goodIn_of _ (by decide +kernel)) ggX2_drop_X1_closeGaps
theorem dX2_drop_0 : decode cX2_drop 0 = .ok (.aload_n 0, 1) := by decide +kernel
theorem dX2_drop_1 : decode cX2_drop 1 = .ok (.iload_n 1, 1) := by decide +kernel
theorem dX2_drop_2 : decode cX2_drop 2 = .ok (.invokevirtual 112, 3) := by decide +kernel
theorem dX2_drop_5 : decode cX2_drop 5 = .ok (.istore_n 2, 1) := by decide +kernel
theorem dX2_drop_6 : decode cX2_drop 6 = .ok (.aload_n 0, 1) := by decide +kernel
theorem dX2_drop_7 : decode cX2_drop 7 = .ok (.getfield 40, 3) := by decide +kernel
theorem dX2_drop_10 : decode cX2_drop 10 = .ok (.iconst 4, 1) := by decide +kernel
theorem dX2_drop_11 : decode cX2_drop 11 = .ok (.dup2, 1) := by decide +kernel
theorem dX2_drop_12 : decode cX2_drop 12 = .ok (.iaload, 1) := by decide +kernel
theorem dX2_drop_13 : decode cX2_drop 13 = .ok (.iconst 1, 1) := by decide +kernel
theorem dX2_drop_14 : decode cX2_drop 14 = .ok (.iadd, 1) := by decide +kernel
theorem dX2_drop_15 : decode cX2_drop 15 = .ok (.iastore, 1) := by decide +kernel
theorem dX2_drop_16 : decode cX2_drop 16 = .ok (.aload_n 0, 1) := by decide +kernel
theorem dX2_drop_17 : decode cX2_drop 17 = .ok (.getfield 33, 3) := by decide +kernel
theorem dX2_drop_20 : decode cX2_drop 20 = .ok (.iload_n 1, 1) := by decide +kernel
theorem dX2_drop_21 : decode cX2_drop 21 = .ok (.invokevirtual 116, 3) := by decide +kernel
theorem dX2_drop_24 : decode cX2_drop 24 = .ok (.aload_n 0, 1) := by decide +kernel
theorem dX2_drop_25 : decode cX2_drop 25 = .ok (.getfield 33, 3) := by decide +kernel
theorem dX2_drop_28 : decode cX2_drop 28 = .ok (.invokevirtual 120, 3) := by decide +kernel
theorem dX2_drop_31 : decode cX2_drop 31 = .ok (.iload_n 2, 1) := by decide +kernel
theorem dX2_drop_32 : decode cX2_drop 32 = .ok (.ireturn, 1) := by decide +kernel
set_option maxRecDepth 20000 in
theorem ggX2_dropIfAllowed_X1_has : GoodIn wsX2_dropIfAllowed wsX1_has := goodIn_r _ [6, 7, 53, 54] (by decide +kernel) (by decide +kernel)
set_option maxRecDepth 20000 in
theorem gX2_dropIfAllowed_X1_has : GoodIn wsX2_dropIfAllowed (wsV RX2 123 RX1 yX1_has wsX1_has) := goodIn_app (goodIn_of _ (by decide +kernel)) ggX2_dropIfAllowed_X1_has
set_option maxRecDepth 20000 in
theorem ggX2_dropIfAllowed_X2_drop : GoodIn wsX2_dropIfAllowed wsX2_drop := goodIn_r _ [12, 13, 1, 14, 15, 16, 11, 17, 18, 19, 20, 21, 5, 22, 7, 23, 24, 25, 26, 27, 28, 29, 30, 31, 32, 33, 34, 35, 36, 37, 38, 39, 40, 41, 42, 43, 44, 45, 46, 47, 48, 49, 50, 51, 52, 53, 54] (by decide +kernel) (by decide +kernel)
set_option maxRecDepth 20000 in
theorem gX2_dropIfAllowed_X2_drop : GoodIn wsX2_dropIfAllowed (wsV RX2 126 RX2 yX2_drop wsX2_drop) := goodIn_app (goodIn_of _ (by decide +kernel)) ggX2_dropIfAllowed_X2_drop
theorem dX2_dropIfAllowed_0 : decode cX2_dropIfAllowed 0 = .ok (.aload_n 0, 1) := by decide +kernel
theorem dX2_dropIfAllowed_1 : decode cX2_dropIfAllowed 1 = .ok (.getfield 33, 3) := by decide +kernel
theorem dX2_dropIfAllowed_4 : decode cX2_dropIfAllowed 4 = .ok (.iload_n 1, 1) := by decide +kernel
theorem dX2_dropIfAllowed_5 : decode cX2_dropIfAllowed 5 = .ok (.invokevirtual 123, 3) := by decide +kernel
theorem dX2_dropIfAllowed_8 : decode cX2_dropIfAllowed 8 = .ok (.istore_n 2, 1) := by decide +kernel
theorem dX2_dropIfAllowed_9 : decode cX2_dropIfAllowed 9 = .ok (.iload_n 2, 1) := by decide +kernel
theorem dX2_dropIfAllowed_10 : decode cX2_dropIfAllowed 10 = .ok (.ifCond .eq 9, 3) := by decide +kernel
theorem dX2_dropIfAllowed_13 : decode cX2_dropIfAllowed 13 = .ok (.aload_n 0, 1) := by decide +kernel
theorem dX2_dropIfAllowed_14 : decode cX2_dropIfAllowed 14 = .ok (.iload_n 1, 1) := by decide +kernel
theorem dX2_dropIfAllowed_15 : decode cX2_dropIfAllowed 15 = .ok (.invokevirtual 126, 3) := by decide +kernel
theorem dX2_dropIfAllowed_18 : decode cX2_dropIfAllowed 18 = .ok (.pop, 1) := by decide +kernel
theorem dX2_dropIfAllowed_19 : decode cX2_dropIfAllowed 19 = .ok (.iload_n 2, 1) := by decide +kernel
theorem dX2_dropIfAllowed_20 : decode cX2_dropIfAllowed 20 = .ok (.ireturn, 1) := by decide +kernel
set_option maxRecDepth 20000 in
theorem ggX2_takesRaise_X1_get : GoodIn wsX2_takesRaise wsX1_get := goodIn_r _ [7, 8, 9, 24, 25] (by decide +kernel) (by decide +kernel)
set_option maxRecDepth 20000 in
theorem gX2_takesRaise_X1_get : GoodIn wsX2_takesRaise (wsV RX2 76 RX1 yX1_get wsX1_get) := goodIn_app (goodIn_of _ (by decide +kernel)) ggX2_takesRaise_X1_get
set_option maxRecDepth 20000 in
theorem ggX2_takesRaise_X4_isFee : GoodIn wsX2_takesRaise wsX4_isFee := goodIn_r _ [12] (by decide +kernel) (by decide +kernel)
set_option maxRecDepth 20000 in
theorem gX2_takesRaise_X4_isFee_n101 : GoodIn wsX2_takesRaise (wsX4_isFee) := ggX2_takesRaise_X4_isFee
set_option maxRecDepth 20000 in
theorem ggX2_takesRaise_X4_isReader : GoodIn wsX2_takesRaise wsX4_isReader := goodIn_r _ [14] (by decide +kernel) (by decide +kernel)
set_option maxRecDepth 20000 in
theorem gX2_takesRaise_X4_isReader_n87 : GoodIn wsX2_takesRaise (wsX4_isReader) := ggX2_takesRaise_X4_isReader
theorem dX2_takesRaise_0 : decode cX2_takesRaise 0 = .ok (.aload_n 0, 1) := by decide +kernel
theorem dX2_takesRaise_1 : decode cX2_takesRaise 1 = .ok (.getfield 33, 3) := by decide +kernel
theorem dX2_takesRaise_4 : decode cX2_takesRaise 4 = .ok (.iload_n 1, 1) := by decide +kernel
theorem dX2_takesRaise_5 : decode cX2_takesRaise 5 = .ok (.iconst 0, 1) := by decide +kernel
theorem dX2_takesRaise_6 : decode cX2_takesRaise 6 = .ok (.invokevirtual 76, 3) := by decide +kernel
theorem dX2_takesRaise_9 : decode cX2_takesRaise 9 = .ok (.istore_n 3, 1) := by decide +kernel
theorem dX2_takesRaise_10 : decode cX2_takesRaise 10 = .ok (.aload_n 0, 1) := by decide +kernel
theorem dX2_takesRaise_11 : decode cX2_takesRaise 11 = .ok (.getfield 33, 3) := by decide +kernel
theorem dX2_takesRaise_14 : decode cX2_takesRaise 14 = .ok (.iload_n 1, 1) := by decide +kernel
theorem dX2_takesRaise_15 : decode cX2_takesRaise 15 = .ok (.iconst 3, 1) := by decide +kernel
theorem dX2_takesRaise_16 : decode cX2_takesRaise 16 = .ok (.invokevirtual 76, 3) := by decide +kernel
theorem dX2_takesRaise_19 : decode cX2_takesRaise 19 = .ok (.iload_n 2, 1) := by decide +kernel
theorem dX2_takesRaise_20 : decode cX2_takesRaise 20 = .ok (.iadd, 1) := by decide +kernel
theorem dX2_takesRaise_21 : decode cX2_takesRaise 21 = .ok (.invokestatic 101, 3) := by decide +kernel
theorem dX2_takesRaise_24 : decode cX2_takesRaise 24 = .ok (.ifCond .eq 24, 3) := by decide +kernel
theorem dX2_takesRaise_27 : decode cX2_takesRaise 27 = .ok (.iload_n 3, 1) := by decide +kernel
theorem dX2_takesRaise_28 : decode cX2_takesRaise 28 = .ok (.invokestatic 87, 3) := by decide +kernel
theorem dX2_takesRaise_31 : decode cX2_takesRaise 31 = .ok (.ifCond .eq 17, 3) := by decide +kernel
theorem dX2_takesRaise_34 : decode cX2_takesRaise 34 = .ok (.aload_n 0, 1) := by decide +kernel
theorem dX2_takesRaise_35 : decode cX2_takesRaise 35 = .ok (.getfield 15, 3) := by decide +kernel
theorem dX2_takesRaise_38 : decode cX2_takesRaise 38 = .ok (.iload_n 3, 1) := by decide +kernel
theorem dX2_takesRaise_39 : decode cX2_takesRaise 39 = .ok (.iaload, 1) := by decide +kernel
theorem dX2_takesRaise_40 : decode cX2_takesRaise 40 = .ok (.iload_n 2, 1) := by decide +kernel
theorem dX2_takesRaise_41 : decode cX2_takesRaise 41 = .ok (.if_icmp .lt 7, 3) := by decide +kernel
theorem dX2_takesRaise_44 : decode cX2_takesRaise 44 = .ok (.iconst 1, 1) := by decide +kernel
theorem dX2_takesRaise_45 : decode cX2_takesRaise 45 = .ok (.goto 4, 3) := by decide +kernel
theorem dX2_takesRaise_48 : decode cX2_takesRaise 48 = .ok (.iconst 0, 1) := by decide +kernel
theorem dX2_takesRaise_49 : decode cX2_takesRaise 49 = .ok (.ireturn, 1) := by decide +kernel
set_option maxRecDepth 20000 in
theorem ggX2_lift_X1_get : GoodIn wsX2_lift wsX1_get := goodIn_r _ [7, 8, 9, 26, 27] (by decide +kernel) (by decide +kernel)
set_option maxRecDepth 20000 in
theorem gX2_lift_X1_get : GoodIn wsX2_lift (wsV RX2 76 RX1 yX1_get wsX1_get) := goodIn_app (goodIn_of _ (by decide +kernel)) ggX2_lift_X1_get
set_option maxRecDepth 20000 in
theorem ggX2_lift_X4_isReader : GoodIn wsX2_lift wsX4_isReader := goodIn_r _ [12] (by decide +kernel) (by decide +kernel)
set_option maxRecDepth 20000 in
theorem gX2_lift_X4_isReader_n87 : GoodIn wsX2_lift (wsX4_isReader) := ggX2_lift_X4_isReader
set_option maxRecDepth 20000 in
theorem ggX2_lift_X1_put : GoodIn wsX2_lift wsX1_put := goodIn_r _ [16, 8, 9, 26, 27] (by decide +kernel) (by decide +kernel)
set_option maxRecDepth 20000 in
theorem gX2_lift_X1_put : GoodIn wsX2_lift (wsV RX2 129 RX1 yX1_put wsX1_put) := goodIn_app (goodIn_of _ (by decide +kernel)) ggX2_lift_X1_put
theorem dX2_lift_0 : decode cX2_lift 0 = .ok (.aload_n 0, 1) := by decide +kernel
theorem dX2_lift_1 : decode cX2_lift 1 = .ok (.getfield 33, 3) := by decide +kernel
theorem dX2_lift_4 : decode cX2_lift 4 = .ok (.iload_n 1, 1) := by decide +kernel
theorem dX2_lift_5 : decode cX2_lift 5 = .ok (.iconst 0, 1) := by decide +kernel
theorem dX2_lift_6 : decode cX2_lift 6 = .ok (.invokevirtual 76, 3) := by decide +kernel
theorem dX2_lift_9 : decode cX2_lift 9 = .ok (.istore_n 3, 1) := by decide +kernel
theorem dX2_lift_10 : decode cX2_lift 10 = .ok (.iload_n 3, 1) := by decide +kernel
theorem dX2_lift_11 : decode cX2_lift 11 = .ok (.invokestatic 87, 3) := by decide +kernel
theorem dX2_lift_14 : decode cX2_lift 14 = .ok (.ifCond .eq 13, 3) := by decide +kernel
theorem dX2_lift_17 : decode cX2_lift 17 = .ok (.aload_n 0, 1) := by decide +kernel
theorem dX2_lift_18 : decode cX2_lift 18 = .ok (.getfield 15, 3) := by decide +kernel
theorem dX2_lift_21 : decode cX2_lift 21 = .ok (.iload_n 3, 1) := by decide +kernel
theorem dX2_lift_22 : decode cX2_lift 22 = .ok (.dup2, 1) := by decide +kernel
theorem dX2_lift_23 : decode cX2_lift 23 = .ok (.iaload, 1) := by decide +kernel
theorem dX2_lift_24 : decode cX2_lift 24 = .ok (.iload_n 2, 1) := by decide +kernel
theorem dX2_lift_25 : decode cX2_lift 25 = .ok (.isub, 1) := by decide +kernel
theorem dX2_lift_26 : decode cX2_lift 26 = .ok (.iastore, 1) := by decide +kernel
theorem dX2_lift_27 : decode cX2_lift 27 = .ok (.aload_n 0, 1) := by decide +kernel
theorem dX2_lift_28 : decode cX2_lift 28 = .ok (.getfield 33, 3) := by decide +kernel
theorem dX2_lift_31 : decode cX2_lift 31 = .ok (.iload_n 1, 1) := by decide +kernel
theorem dX2_lift_32 : decode cX2_lift 32 = .ok (.iconst 3, 1) := by decide +kernel
theorem dX2_lift_33 : decode cX2_lift 33 = .ok (.aload_n 0, 1) := by decide +kernel
theorem dX2_lift_34 : decode cX2_lift 34 = .ok (.getfield 33, 3) := by decide +kernel
theorem dX2_lift_37 : decode cX2_lift 37 = .ok (.iload_n 1, 1) := by decide +kernel
theorem dX2_lift_38 : decode cX2_lift 38 = .ok (.iconst 3, 1) := by decide +kernel
theorem dX2_lift_39 : decode cX2_lift 39 = .ok (.invokevirtual 76, 3) := by decide +kernel
theorem dX2_lift_42 : decode cX2_lift 42 = .ok (.iload_n 2, 1) := by decide +kernel
theorem dX2_lift_43 : decode cX2_lift 43 = .ok (.iadd, 1) := by decide +kernel
theorem dX2_lift_44 : decode cX2_lift 44 = .ok (.invokevirtual 129, 3) := by decide +kernel
theorem dX2_lift_47 : decode cX2_lift 47 = .ok (.aload_n 0, 1) := by decide +kernel
theorem dX2_lift_48 : decode cX2_lift 48 = .ok (.getfield 33, 3) := by decide +kernel
theorem dX2_lift_51 : decode cX2_lift 51 = .ok (.iload_n 1, 1) := by decide +kernel
theorem dX2_lift_52 : decode cX2_lift 52 = .ok (.iconst 3, 1) := by decide +kernel
theorem dX2_lift_53 : decode cX2_lift 53 = .ok (.invokevirtual 76, 3) := by decide +kernel
theorem dX2_lift_56 : decode cX2_lift 56 = .ok (.ireturn, 1) := by decide +kernel
set_option maxRecDepth 20000 in
theorem ggX2_liftIfAllowed_X1_has : GoodIn wsX2_liftIfAllowed wsX1_has := goodIn_r _ [6, 7, 43, 44] (by decide +kernel) (by decide +kernel)
set_option maxRecDepth 20000 in
theorem gX2_liftIfAllowed_X1_has : GoodIn wsX2_liftIfAllowed (wsV RX2 123 RX1 yX1_has wsX1_has) := goodIn_app (goodIn_of _ (by decide +kernel)) ggX2_liftIfAllowed_X1_has
set_option maxRecDepth 20000 in
theorem ggX2_liftIfAllowed_X4_isRaise : GoodIn wsX2_liftIfAllowed wsX4_isRaise := goodIn_r _ [10] (by decide +kernel) (by decide +kernel)
set_option maxRecDepth 20000 in
theorem gX2_liftIfAllowed_X4_isRaise_n133 : GoodIn wsX2_liftIfAllowed (wsX4_isRaise) := ggX2_liftIfAllowed_X4_isRaise
set_option maxRecDepth 20000 in
theorem ggX2_liftIfAllowed_X2_takesRaise : GoodIn wsX2_liftIfAllowed wsX2_takesRaise := goodIn_r _ [15, 1, 16, 17, 18, 19, 5, 20, 7, 21, 22, 9, 23, 24, 25, 34, 35, 36, 37, 38, 39, 40, 41, 42, 43, 44] (by decide +kernel) (by decide +kernel)
set_option maxRecDepth 20000 in
theorem gX2_liftIfAllowed_X2_takesRaise : GoodIn wsX2_liftIfAllowed (wsV RX2 136 RX2 yX2_takesRaise wsX2_takesRaise) := goodIn_app (goodIn_of _ (by decide +kernel)) ggX2_liftIfAllowed_X2_takesRaise
set_option maxRecDepth 20000 in
theorem ggX2_liftIfAllowed_X2_lift : GoodIn wsX2_liftIfAllowed wsX2_lift := goodIn_r _ [29, 1, 16, 17, 18, 19, 5, 20, 7, 21, 24, 9, 25, 30, 31, 32, 33, 34, 35, 36, 37, 38, 39, 40, 41, 42, 43, 44] (by decide +kernel) (by decide +kernel)
set_option maxRecDepth 20000 in
theorem gX2_liftIfAllowed_X2_lift : GoodIn wsX2_liftIfAllowed (wsV RX2 140 RX2 yX2_lift wsX2_lift) := goodIn_app (goodIn_of _ (by decide +kernel)) ggX2_liftIfAllowed_X2_lift
theorem dX2_liftIfAllowed_0 : decode cX2_liftIfAllowed 0 = .ok (.aload_n 0, 1) := by decide +kernel
theorem dX2_liftIfAllowed_1 : decode cX2_liftIfAllowed 1 = .ok (.getfield 33, 3) := by decide +kernel
theorem dX2_liftIfAllowed_4 : decode cX2_liftIfAllowed 4 = .ok (.iload_n 1, 1) := by decide +kernel
theorem dX2_liftIfAllowed_5 : decode cX2_liftIfAllowed 5 = .ok (.invokevirtual 123, 3) := by decide +kernel
theorem dX2_liftIfAllowed_8 : decode cX2_liftIfAllowed 8 = .ok (.ifCond .eq 23, 3) := by decide +kernel
theorem dX2_liftIfAllowed_11 : decode cX2_liftIfAllowed 11 = .ok (.iload_n 2, 1) := by decide +kernel
theorem dX2_liftIfAllowed_12 : decode cX2_liftIfAllowed 12 = .ok (.invokestatic 133, 3) := by decide +kernel
theorem dX2_liftIfAllowed_15 : decode cX2_liftIfAllowed 15 = .ok (.ifCond .eq 16, 3) := by decide +kernel
theorem dX2_liftIfAllowed_18 : decode cX2_liftIfAllowed 18 = .ok (.aload_n 0, 1) := by decide +kernel
theorem dX2_liftIfAllowed_19 : decode cX2_liftIfAllowed 19 = .ok (.iload_n 1, 1) := by decide +kernel
theorem dX2_liftIfAllowed_20 : decode cX2_liftIfAllowed 20 = .ok (.iload_n 2, 1) := by decide +kernel
theorem dX2_liftIfAllowed_21 : decode cX2_liftIfAllowed 21 = .ok (.invokevirtual 136, 3) := by decide +kernel
theorem dX2_liftIfAllowed_24 : decode cX2_liftIfAllowed 24 = .ok (.ifCond .eq 7, 3) := by decide +kernel
theorem dX2_liftIfAllowed_27 : decode cX2_liftIfAllowed 27 = .ok (.iconst 1, 1) := by decide +kernel
theorem dX2_liftIfAllowed_28 : decode cX2_liftIfAllowed 28 = .ok (.goto 4, 3) := by decide +kernel
theorem dX2_liftIfAllowed_31 : decode cX2_liftIfAllowed 31 = .ok (.iconst 0, 1) := by decide +kernel
theorem dX2_liftIfAllowed_32 : decode cX2_liftIfAllowed 32 = .ok (.istore_n 3, 1) := by decide +kernel
theorem dX2_liftIfAllowed_33 : decode cX2_liftIfAllowed 33 = .ok (.iload_n 3, 1) := by decide +kernel
theorem dX2_liftIfAllowed_34 : decode cX2_liftIfAllowed 34 = .ok (.ifCond .eq 10, 3) := by decide +kernel
theorem dX2_liftIfAllowed_37 : decode cX2_liftIfAllowed 37 = .ok (.aload_n 0, 1) := by decide +kernel
theorem dX2_liftIfAllowed_38 : decode cX2_liftIfAllowed 38 = .ok (.iload_n 1, 1) := by decide +kernel
theorem dX2_liftIfAllowed_39 : decode cX2_liftIfAllowed 39 = .ok (.iload_n 2, 1) := by decide +kernel
theorem dX2_liftIfAllowed_40 : decode cX2_liftIfAllowed 40 = .ok (.invokevirtual 140, 3) := by decide +kernel
theorem dX2_liftIfAllowed_43 : decode cX2_liftIfAllowed 43 = .ok (.pop, 1) := by decide +kernel
theorem dX2_liftIfAllowed_44 : decode cX2_liftIfAllowed 44 = .ok (.iload_n 3, 1) := by decide +kernel
theorem dX2_liftIfAllowed_45 : decode cX2_liftIfAllowed 45 = .ok (.ireturn, 1) := by decide +kernel
set_option maxRecDepth 20000 in
theorem ggX2_payBack_X1_get : GoodIn wsX2_payBack wsX1_get := goodIn_r _ [8, 9, 10, 23, 24] (by decide +kernel) (by decide +kernel)
set_option maxRecDepth 20000 in
theorem gX2_payBack_X1_get : GoodIn wsX2_payBack (wsV RX2 76 RX1 yX1_get wsX1_get) := goodIn_app (goodIn_of _ (by decide +kernel)) ggX2_payBack_X1_get
set_option maxRecDepth 20000 in
theorem ggX2_payBack_X4_isReader : GoodIn wsX2_payBack wsX4_isReader := goodIn_r _ [13] (by decide +kernel) (by decide +kernel)
set_option maxRecDepth 20000 in
theorem gX2_payBack_X4_isReader_n87 : GoodIn wsX2_payBack (wsX4_isReader) := ggX2_payBack_X4_isReader
theorem dX2_payBack_0 : decode cX2_payBack 0 = .ok (.aload_n 0, 1) := by decide +kernel
theorem dX2_payBack_1 : decode cX2_payBack 1 = .ok (.getfield 33, 3) := by decide +kernel
theorem dX2_payBack_4 : decode cX2_payBack 4 = .ok (.iload_n 1, 1) := by decide +kernel
theorem dX2_payBack_5 : decode cX2_payBack 5 = .ok (.iconst 0, 1) := by decide +kernel
theorem dX2_payBack_6 : decode cX2_payBack 6 = .ok (.invokevirtual 76, 3) := by decide +kernel
theorem dX2_payBack_9 : decode cX2_payBack 9 = .ok (.istore_n 2, 1) := by decide +kernel
theorem dX2_payBack_10 : decode cX2_payBack 10 = .ok (.aload_n 0, 1) := by decide +kernel
theorem dX2_payBack_11 : decode cX2_payBack 11 = .ok (.getfield 33, 3) := by decide +kernel
theorem dX2_payBack_14 : decode cX2_payBack 14 = .ok (.iload_n 1, 1) := by decide +kernel
theorem dX2_payBack_15 : decode cX2_payBack 15 = .ok (.iconst 3, 1) := by decide +kernel
theorem dX2_payBack_16 : decode cX2_payBack 16 = .ok (.invokevirtual 76, 3) := by decide +kernel
theorem dX2_payBack_19 : decode cX2_payBack 19 = .ok (.istore_n 3, 1) := by decide +kernel
theorem dX2_payBack_20 : decode cX2_payBack 20 = .ok (.iload_n 2, 1) := by decide +kernel
theorem dX2_payBack_21 : decode cX2_payBack 21 = .ok (.invokestatic 87, 3) := by decide +kernel
theorem dX2_payBack_24 : decode cX2_payBack 24 = .ok (.ifCond .eq 13, 3) := by decide +kernel
theorem dX2_payBack_27 : decode cX2_payBack 27 = .ok (.aload_n 0, 1) := by decide +kernel
theorem dX2_payBack_28 : decode cX2_payBack 28 = .ok (.getfield 15, 3) := by decide +kernel
theorem dX2_payBack_31 : decode cX2_payBack 31 = .ok (.iload_n 2, 1) := by decide +kernel
theorem dX2_payBack_32 : decode cX2_payBack 32 = .ok (.dup2, 1) := by decide +kernel
theorem dX2_payBack_33 : decode cX2_payBack 33 = .ok (.iaload, 1) := by decide +kernel
theorem dX2_payBack_34 : decode cX2_payBack 34 = .ok (.iload_n 3, 1) := by decide +kernel
theorem dX2_payBack_35 : decode cX2_payBack 35 = .ok (.iadd, 1) := by decide +kernel
theorem dX2_payBack_36 : decode cX2_payBack 36 = .ok (.iastore, 1) := by decide +kernel
theorem dX2_payBack_37 : decode cX2_payBack 37 = .ok (.aload_n 0, 1) := by decide +kernel
theorem dX2_payBack_38 : decode cX2_payBack 38 = .ok (.getfield 40, 3) := by decide +kernel
theorem dX2_payBack_41 : decode cX2_payBack 41 = .ok (.bipush 7, 2) := by decide +kernel
theorem dX2_payBack_43 : decode cX2_payBack 43 = .ok (.dup2, 1) := by decide +kernel
theorem dX2_payBack_44 : decode cX2_payBack 44 = .ok (.iaload, 1) := by decide +kernel
theorem dX2_payBack_45 : decode cX2_payBack 45 = .ok (.iload_n 3, 1) := by decide +kernel
theorem dX2_payBack_46 : decode cX2_payBack 46 = .ok (.iadd, 1) := by decide +kernel
theorem dX2_payBack_47 : decode cX2_payBack 47 = .ok (.iastore, 1) := by decide +kernel
theorem dX2_payBack_48 : decode cX2_payBack 48 = .ok (.iload_n 3, 1) := by decide +kernel
theorem dX2_payBack_49 : decode cX2_payBack 49 = .ok (.ireturn, 1) := by decide +kernel
set_option maxRecDepth 20000 in
theorem ggX2_noteDelivered_X4_isReader : GoodIn wsX2_noteDelivered wsX4_isReader := goodIn_r _ [6] (by decide +kernel) (by decide +kernel)
set_option maxRecDepth 20000 in
theorem gX2_noteDelivered_X4_isReader_n87 : GoodIn wsX2_noteDelivered (wsX4_isReader) := ggX2_noteDelivered_X4_isReader
set_option maxRecDepth 20000 in
theorem ggX2_noteDelivered_X1_size : GoodIn wsX2_noteDelivered wsX1_size := goodIn_r _ [11, 12, 47, 48] (by decide +kernel) (by decide +kernel)
set_option maxRecDepth 20000 in
theorem gX2_noteDelivered_X1_size : GoodIn wsX2_noteDelivered (wsV RX2 66 RX1 yX1_size wsX1_size) := goodIn_app (goodIn_of _ (by decide +kernel)) ggX2_noteDelivered_X1_size
set_option maxRecDepth 20000 in
theorem ggX2_noteDelivered_X1_end : GoodIn wsX2_noteDelivered wsX1_end := goodIn_r _ [16, 17, 18, 19, 10, 20, 12, 21, 47, 48] (by decide +kernel) (by decide +kernel)
set_option maxRecDepth 20000 in
theorem gX2_noteDelivered_X1_end : GoodIn wsX2_noteDelivered (wsV RX2 116 RX1 yX1_end wsX1_end) := goodIn_app (goodIn_of _ (by decide +kernel)) ggX2_noteDelivered_X1_end
set_option maxRecDepth 20000 in
theorem ggX2_noteDelivered_X1_closeGaps : GoodIn wsX2_noteDelivered wsX1_closeGaps := goodIn_r _ [25, 12, 21, 26, 27, 28, 29, 30, 31, 32, 10, 33, 47, 48] (by decide +kernel) (by decide +kernel)
set_option maxRecDepth 20000 in
theorem gX2_noteDelivered_X1_closeGaps : GoodIn wsX2_noteDelivered (wsV RX2 120 RX1 yX1_closeGaps wsX1_closeGaps) := goodIn_app (goodIn_of _ (by decide +kernel)) ggX2_noteDelivered_X1_closeGaps
set_option maxRecDepth 20000 in
theorem ggX2_noteDelivered_X1_add : GoodIn wsX2_noteDelivered wsX1_add := goodIn_r _ [37, 12, 21, 47, 48] (by decide +kernel) (by decide +kernel)
set_option maxRecDepth 20000 in
theorem gX2_noteDelivered_X1_add : GoodIn wsX2_noteDelivered (wsV RX2 94 RX1 yX1_add wsX1_add) := goodIn_app (goodIn_of _ (by decide +kernel)) ggX2_noteDelivered_X1_add
theorem dX2_noteDelivered_0 : decode cX2_noteDelivered 0 = .ok (.aload_n 0, 1) := by decide +kernel
theorem dX2_noteDelivered_1 : decode cX2_noteDelivered 1 = .ok (.getfield 40, 3) := by decide +kernel
theorem dX2_noteDelivered_4 : decode cX2_noteDelivered 4 = .ok (.iconst 2, 1) := by decide +kernel
theorem dX2_noteDelivered_5 : decode cX2_noteDelivered 5 = .ok (.dup2, 1) := by decide +kernel
theorem dX2_noteDelivered_6 : decode cX2_noteDelivered 6 = .ok (.iaload, 1) := by decide +kernel
theorem dX2_noteDelivered_7 : decode cX2_noteDelivered 7 = .ok (.iconst 1, 1) := by decide +kernel
theorem dX2_noteDelivered_8 : decode cX2_noteDelivered 8 = .ok (.iadd, 1) := by decide +kernel
theorem dX2_noteDelivered_9 : decode cX2_noteDelivered 9 = .ok (.iastore, 1) := by decide +kernel
theorem dX2_noteDelivered_10 : decode cX2_noteDelivered 10 = .ok (.aload_n 0, 1) := by decide +kernel
theorem dX2_noteDelivered_11 : decode cX2_noteDelivered 11 = .ok (.getfield 40, 3) := by decide +kernel
theorem dX2_noteDelivered_14 : decode cX2_noteDelivered 14 = .ok (.iconst 5, 1) := by decide +kernel
theorem dX2_noteDelivered_15 : decode cX2_noteDelivered 15 = .ok (.dup2, 1) := by decide +kernel
theorem dX2_noteDelivered_16 : decode cX2_noteDelivered 16 = .ok (.iaload, 1) := by decide +kernel
theorem dX2_noteDelivered_17 : decode cX2_noteDelivered 17 = .ok (.iload 4, 2) := by decide +kernel
theorem dX2_noteDelivered_19 : decode cX2_noteDelivered 19 = .ok (.iadd, 1) := by decide +kernel
theorem dX2_noteDelivered_20 : decode cX2_noteDelivered 20 = .ok (.iastore, 1) := by decide +kernel
theorem dX2_noteDelivered_21 : decode cX2_noteDelivered 21 = .ok (.iload_n 1, 1) := by decide +kernel
theorem dX2_noteDelivered_22 : decode cX2_noteDelivered 22 = .ok (.invokestatic 87, 3) := by decide +kernel
theorem dX2_noteDelivered_25 : decode cX2_noteDelivered 25 = .ok (.ifCond .eq 13, 3) := by decide +kernel
theorem dX2_noteDelivered_28 : decode cX2_noteDelivered 28 = .ok (.aload_n 0, 1) := by decide +kernel
theorem dX2_noteDelivered_29 : decode cX2_noteDelivered 29 = .ok (.getfield 18, 3) := by decide +kernel
theorem dX2_noteDelivered_32 : decode cX2_noteDelivered 32 = .ok (.iload_n 1, 1) := by decide +kernel
theorem dX2_noteDelivered_33 : decode cX2_noteDelivered 33 = .ok (.dup2, 1) := by decide +kernel
theorem dX2_noteDelivered_34 : decode cX2_noteDelivered 34 = .ok (.iaload, 1) := by decide +kernel
theorem dX2_noteDelivered_35 : decode cX2_noteDelivered 35 = .ok (.iconst 1, 1) := by decide +kernel
theorem dX2_noteDelivered_36 : decode cX2_noteDelivered 36 = .ok (.iadd, 1) := by decide +kernel
theorem dX2_noteDelivered_37 : decode cX2_noteDelivered 37 = .ok (.iastore, 1) := by decide +kernel
theorem dX2_noteDelivered_38 : decode cX2_noteDelivered 38 = .ok (.aload_n 0, 1) := by decide +kernel
theorem dX2_noteDelivered_39 : decode cX2_noteDelivered 39 = .ok (.getfield 37, 3) := by decide +kernel
theorem dX2_noteDelivered_42 : decode cX2_noteDelivered 42 = .ok (.invokevirtual 66, 3) := by decide +kernel
theorem dX2_noteDelivered_45 : decode cX2_noteDelivered 45 = .ok (.bipush 10, 2) := by decide +kernel
theorem dX2_noteDelivered_47 : decode cX2_noteDelivered 47 = .ok (.if_icmp .lt 18, 3) := by decide +kernel
theorem dX2_noteDelivered_50 : decode cX2_noteDelivered 50 = .ok (.aload_n 0, 1) := by decide +kernel
theorem dX2_noteDelivered_51 : decode cX2_noteDelivered 51 = .ok (.getfield 37, 3) := by decide +kernel
theorem dX2_noteDelivered_54 : decode cX2_noteDelivered 54 = .ok (.iconst 0, 1) := by decide +kernel
theorem dX2_noteDelivered_55 : decode cX2_noteDelivered 55 = .ok (.invokevirtual 116, 3) := by decide +kernel
theorem dX2_noteDelivered_58 : decode cX2_noteDelivered 58 = .ok (.aload_n 0, 1) := by decide +kernel
theorem dX2_noteDelivered_59 : decode cX2_noteDelivered 59 = .ok (.getfield 37, 3) := by decide +kernel
theorem dX2_noteDelivered_62 : decode cX2_noteDelivered 62 = .ok (.invokevirtual 120, 3) := by decide +kernel
theorem dX2_noteDelivered_65 : decode cX2_noteDelivered 65 = .ok (.aload_n 0, 1) := by decide +kernel
theorem dX2_noteDelivered_66 : decode cX2_noteDelivered 66 = .ok (.getfield 37, 3) := by decide +kernel
theorem dX2_noteDelivered_69 : decode cX2_noteDelivered 69 = .ok (.iload_n 1, 1) := by decide +kernel
theorem dX2_noteDelivered_70 : decode cX2_noteDelivered 70 = .ok (.iload_n 2, 1) := by decide +kernel
theorem dX2_noteDelivered_71 : decode cX2_noteDelivered 71 = .ok (.iload_n 3, 1) := by decide +kernel
theorem dX2_noteDelivered_72 : decode cX2_noteDelivered 72 = .ok (.iload 4, 2) := by decide +kernel
theorem dX2_noteDelivered_74 : decode cX2_noteDelivered 74 = .ok (.iload 5, 2) := by decide +kernel
theorem dX2_noteDelivered_76 : decode cX2_noteDelivered 76 = .ok (.invokevirtual 94, 3) := by decide +kernel
theorem dX2_noteDelivered_79 : decode cX2_noteDelivered 79 = .ok (.pop, 1) := by decide +kernel
theorem dX2_noteDelivered_80 : decode cX2_noteDelivered 80 = .ok (.return_, 1) := by decide +kernel
set_option maxRecDepth 20000 in
theorem ggX2_change_X4_isSetting : GoodIn wsX2_change wsX4_isSetting := goodIn_r _ [4] (by decide +kernel) (by decide +kernel)
set_option maxRecDepth 20000 in
theorem gX2_change_X4_isSetting_n143 : GoodIn wsX2_change (wsX4_isSetting) := ggX2_change_X4_isSetting
theorem dX2_change_0 : decode cX2_change 0 = .ok (.iload_n 1, 1) := by decide +kernel
theorem dX2_change_1 : decode cX2_change 1 = .ok (.invokestatic 143, 3) := by decide +kernel
theorem dX2_change_4 : decode cX2_change 4 = .ok (.ifCond .eq 10, 3) := by decide +kernel
theorem dX2_change_7 : decode cX2_change 7 = .ok (.aload_n 0, 1) := by decide +kernel
theorem dX2_change_8 : decode cX2_change 8 = .ok (.getfield 9, 3) := by decide +kernel
theorem dX2_change_11 : decode cX2_change 11 = .ok (.iload_n 1, 1) := by decide +kernel
theorem dX2_change_12 : decode cX2_change 12 = .ok (.iload_n 2, 1) := by decide +kernel
theorem dX2_change_13 : decode cX2_change 13 = .ok (.iastore, 1) := by decide +kernel
theorem dX2_change_14 : decode cX2_change 14 = .ok (.return_, 1) := by decide +kernel
set_option maxRecDepth 20000 in
theorem ggX2_changeIfAllowed_X4_isSettingValue : GoodIn wsX2_changeIfAllowed wsX4_isSettingValue := goodIn_r _ [3, 4, 5, 6, 7, 2, 8] (by decide +kernel) (by decide +kernel)
set_option maxRecDepth 20000 in
theorem gX2_changeIfAllowed_X4_isSettingValue_n146 : GoodIn wsX2_changeIfAllowed (wsX4_isSettingValue) := ggX2_changeIfAllowed_X4_isSettingValue
set_option maxRecDepth 20000 in
theorem ggX2_changeIfAllowed_X2_change : GoodIn wsX2_changeIfAllowed wsX2_change := goodIn_r _ [13, 14, 7, 2, 8, 15, 16, 17, 18, 19, 20, 21, 22, 23] (by decide +kernel) (by decide +kernel)
set_option maxRecDepth 20000 in
theorem gX2_changeIfAllowed_X2_change : GoodIn wsX2_changeIfAllowed (wsV RX2 149 RX2 yX2_change wsX2_change) := goodIn_app (goodIn_of _ (by decide +kernel)) ggX2_changeIfAllowed_X2_change
theorem dX2_changeIfAllowed_0 : decode cX2_changeIfAllowed 0 = .ok (.iload_n 1, 1) := by decide +kernel
theorem dX2_changeIfAllowed_1 : decode cX2_changeIfAllowed 1 = .ok (.iload_n 2, 1) := by decide +kernel
theorem dX2_changeIfAllowed_2 : decode cX2_changeIfAllowed 2 = .ok (.invokestatic 146, 3) := by decide +kernel
theorem dX2_changeIfAllowed_5 : decode cX2_changeIfAllowed 5 = .ok (.istore_n 3, 1) := by decide +kernel
theorem dX2_changeIfAllowed_6 : decode cX2_changeIfAllowed 6 = .ok (.iload_n 3, 1) := by decide +kernel
theorem dX2_changeIfAllowed_7 : decode cX2_changeIfAllowed 7 = .ok (.ifCond .eq 9, 3) := by decide +kernel
theorem dX2_changeIfAllowed_10 : decode cX2_changeIfAllowed 10 = .ok (.aload_n 0, 1) := by decide +kernel
theorem dX2_changeIfAllowed_11 : decode cX2_changeIfAllowed 11 = .ok (.iload_n 1, 1) := by decide +kernel
theorem dX2_changeIfAllowed_12 : decode cX2_changeIfAllowed 12 = .ok (.iload_n 2, 1) := by decide +kernel
theorem dX2_changeIfAllowed_13 : decode cX2_changeIfAllowed 13 = .ok (.invokevirtual 149, 3) := by decide +kernel
theorem dX2_changeIfAllowed_16 : decode cX2_changeIfAllowed 16 = .ok (.iload_n 3, 1) := by decide +kernel
theorem dX2_changeIfAllowed_17 : decode cX2_changeIfAllowed 17 = .ok (.ireturn, 1) := by decide +kernel
set_option maxRecDepth 20000 in
theorem ggX2_passNights_X2_runTrain : GoodIn wsX2_passNights wsX2_runTrain := goodIn_r _ [6, 1, 7, 8, 9, 10, 5, 11, 12, 13, 14, 15, 16, 17, 18, 19, 20, 21, 22, 23, 24, 25, 26, 27, 28, 29, 30, 31, 32, 33, 34, 35, 36, 37, 38, 39, 40, 41, 42, 43, 44, 45, 46, 47, 48, 49, 50, 51, 52, 53, 54, 55, 56, 57, 58, 59, 60, 61, 62, 63, 64, 65, 66, 67, 68, 69, 70, 71, 72, 73, 74, 75, 76, 77, 97, 98, 99, 100, 101, 102, 103, 104, 105, 106, 107] (by decide +kernel) (by decide +kernel)
set_option maxRecDepth 20000 in
theorem gX2_passNights_X2_runTrain : GoodIn wsX2_passNights (wsV RX2 153 RX2 yX2_runTrain wsX2_runTrain) := goodIn_app (goodIn_of _ (by decide +kernel)) ggX2_passNights_X2_runTrain
set_option maxRecDepth 20000 in
theorem ggX2_passNights_X2_letOrdersWait : GoodIn wsX2_passNights wsX2_letOrdersWait := goodIn_r _ [81, 12, 7, 24, 25, 26, 16, 27, 18, 13, 14, 15, 17, 19, 82, 62, 63, 64, 83, 84, 85, 5, 86, 1, 87, 88, 89, 90, 91, 92, 55, 33, 56, 57, 58, 59, 60, 61, 65, 66, 67, 68, 69, 70, 71, 72, 73, 97, 98, 99, 100, 101, 102, 103, 104, 105, 106, 107] (by decide +kernel) (by decide +kernel)
set_option maxRecDepth 20000 in
theorem gX2_passNights_X2_letOrdersWait : GoodIn wsX2_passNights (wsV RX2 156 RX2 yX2_letOrdersWait wsX2_letOrdersWait) := goodIn_app (goodIn_of _ (by decide +kernel)) ggX2_passNights_X2_letOrdersWait
set_option maxRecDepth 20000 in
theorem ggX2_passNights_X2_letLotsStay : GoodIn wsX2_passNights wsX2_letLotsStay := goodIn_r _ [96, 39, 7, 97, 98, 99, 100, 101, 102, 103, 104, 105] (by decide +kernel) (by decide +kernel)
set_option maxRecDepth 20000 in
theorem gX2_passNights_X2_letLotsStay : GoodIn wsX2_passNights (wsV RX2 159 RX2 yX2_letLotsStay wsX2_letLotsStay) := goodIn_app (goodIn_of _ (by decide +kernel)) ggX2_passNights_X2_letLotsStay
theorem dX2_passNights_0 : decode cX2_passNights 0 = .ok (.iconst 0, 1) := by decide +kernel
theorem dX2_passNights_1 : decode cX2_passNights 1 = .ok (.istore_n 2, 1) := by decide +kernel
theorem dX2_passNights_2 : decode cX2_passNights 2 = .ok (.iload_n 2, 1) := by decide +kernel
theorem dX2_passNights_3 : decode cX2_passNights 3 = .ok (.iload_n 1, 1) := by decide +kernel
theorem dX2_passNights_4 : decode cX2_passNights 4 = .ok (.if_icmp .ge 31, 3) := by decide +kernel
theorem dX2_passNights_7 : decode cX2_passNights 7 = .ok (.aload_n 0, 1) := by decide +kernel
theorem dX2_passNights_8 : decode cX2_passNights 8 = .ok (.invokevirtual 153, 3) := by decide +kernel
theorem dX2_passNights_11 : decode cX2_passNights 11 = .ok (.aload_n 0, 1) := by decide +kernel
theorem dX2_passNights_12 : decode cX2_passNights 12 = .ok (.invokevirtual 156, 3) := by decide +kernel
theorem dX2_passNights_15 : decode cX2_passNights 15 = .ok (.aload_n 0, 1) := by decide +kernel
theorem dX2_passNights_16 : decode cX2_passNights 16 = .ok (.invokevirtual 159, 3) := by decide +kernel
theorem dX2_passNights_19 : decode cX2_passNights 19 = .ok (.aload_n 0, 1) := by decide +kernel
theorem dX2_passNights_20 : decode cX2_passNights 20 = .ok (.getfield 40, 3) := by decide +kernel
theorem dX2_passNights_23 : decode cX2_passNights 23 = .ok (.iconst 0, 1) := by decide +kernel
theorem dX2_passNights_24 : decode cX2_passNights 24 = .ok (.dup2, 1) := by decide +kernel
theorem dX2_passNights_25 : decode cX2_passNights 25 = .ok (.iaload, 1) := by decide +kernel
theorem dX2_passNights_26 : decode cX2_passNights 26 = .ok (.iconst 1, 1) := by decide +kernel
theorem dX2_passNights_27 : decode cX2_passNights 27 = .ok (.iadd, 1) := by decide +kernel
theorem dX2_passNights_28 : decode cX2_passNights 28 = .ok (.iastore, 1) := by decide +kernel
theorem dX2_passNights_29 : decode cX2_passNights 29 = .ok (.iinc 2 1, 3) := by decide +kernel
theorem dX2_passNights_32 : decode cX2_passNights 32 = .ok (.goto (-30), 3) := by decide +kernel
theorem dX2_passNights_35 : decode cX2_passNights 35 = .ok (.return_, 1) := by decide +kernel
set_option maxRecDepth 20000 in
theorem ggX2_runTrain_X2_wantedLot : GoodIn wsX2_runTrain wsX2_wantedLot := goodIn_r _ [7, 2, 8, 9, 10, 11, 12, 13, 14, 15, 16, 17, 18, 6, 19, 20, 21, 22, 23, 24, 25, 26, 27, 74, 75, 76, 77, 78, 79, 80, 81, 82, 83, 84] (by decide +kernel) (by decide +kernel)
set_option maxRecDepth 20000 in
theorem gX2_runTrain_X2_wantedLot : GoodIn wsX2_runTrain (wsV RX2 162 RX2 yX2_wantedLot wsX2_wantedLot) := goodIn_app (goodIn_of _ (by decide +kernel)) ggX2_runTrain_X2_wantedLot
set_option maxRecDepth 20000 in
theorem ggX2_runTrain_X4_isLot : GoodIn wsX2_runTrain wsX4_isLot := goodIn_r _ [30] (by decide +kernel) (by decide +kernel)
set_option maxRecDepth 20000 in
theorem gX2_runTrain_X4_isLot_n80 : GoodIn wsX2_runTrain (wsX4_isLot) := ggX2_runTrain_X4_isLot
set_option maxRecDepth 20000 in
theorem ggX2_runTrain_X2_bring : GoodIn wsX2_runTrain wsX2_bring := goodIn_r _ [34, 2, 35, 36, 1, 8, 37, 38, 39, 6, 40, 41, 42, 43, 44, 28, 29, 30, 20, 21, 22, 12, 23, 14, 9, 10, 11, 13, 15, 45, 46, 47, 48, 49, 50, 51, 52, 53, 54, 55, 56, 57, 58, 59, 60, 61, 62, 63, 64, 65, 66, 67, 68, 69, 70, 71, 72, 73, 74, 75, 76, 77, 78, 79, 80, 81, 82, 83, 84] (by decide +kernel) (by decide +kernel)
set_option maxRecDepth 20000 in
theorem gX2_runTrain_X2_bring : GoodIn wsX2_runTrain (wsV RX2 165 RX2 yX2_bring wsX2_bring) := goodIn_app (goodIn_of _ (by decide +kernel)) ggX2_runTrain_X2_bring
theorem dX2_runTrain_0 : decode cX2_runTrain 0 = .ok (.aload_n 0, 1) := by decide +kernel
theorem dX2_runTrain_1 : decode cX2_runTrain 1 = .ok (.getfield 40, 3) := by decide +kernel
theorem dX2_runTrain_4 : decode cX2_runTrain 4 = .ok (.bipush 9, 2) := by decide +kernel
theorem dX2_runTrain_6 : decode cX2_runTrain 6 = .ok (.iaload, 1) := by decide +kernel
theorem dX2_runTrain_7 : decode cX2_runTrain 7 = .ok (.istore_n 1, 1) := by decide +kernel
theorem dX2_runTrain_8 : decode cX2_runTrain 8 = .ok (.iconst 0, 1) := by decide +kernel
theorem dX2_runTrain_9 : decode cX2_runTrain 9 = .ok (.istore_n 2, 1) := by decide +kernel
theorem dX2_runTrain_10 : decode cX2_runTrain 10 = .ok (.iload_n 2, 1) := by decide +kernel
theorem dX2_runTrain_11 : decode cX2_runTrain 11 = .ok (.aload_n 0, 1) := by decide +kernel
theorem dX2_runTrain_12 : decode cX2_runTrain 12 = .ok (.getfield 9, 3) := by decide +kernel
theorem dX2_runTrain_15 : decode cX2_runTrain 15 = .ok (.iconst 0, 1) := by decide +kernel
theorem dX2_runTrain_16 : decode cX2_runTrain 16 = .ok (.iaload, 1) := by decide +kernel
theorem dX2_runTrain_17 : decode cX2_runTrain 17 = .ok (.if_icmp .ge 29, 3) := by decide +kernel
theorem dX2_runTrain_20 : decode cX2_runTrain 20 = .ok (.aload_n 0, 1) := by decide +kernel
theorem dX2_runTrain_21 : decode cX2_runTrain 21 = .ok (.invokevirtual 162, 3) := by decide +kernel
theorem dX2_runTrain_24 : decode cX2_runTrain 24 = .ok (.istore_n 3, 1) := by decide +kernel
theorem dX2_runTrain_25 : decode cX2_runTrain 25 = .ok (.iload_n 3, 1) := by decide +kernel
theorem dX2_runTrain_26 : decode cX2_runTrain 26 = .ok (.invokestatic 80, 3) := by decide +kernel
theorem dX2_runTrain_29 : decode cX2_runTrain 29 = .ok (.ifCond .ne 6, 3) := by decide +kernel
theorem dX2_runTrain_32 : decode cX2_runTrain 32 = .ok (.goto 14, 3) := by decide +kernel
theorem dX2_runTrain_35 : decode cX2_runTrain 35 = .ok (.aload_n 0, 1) := by decide +kernel
theorem dX2_runTrain_36 : decode cX2_runTrain 36 = .ok (.iload_n 3, 1) := by decide +kernel
theorem dX2_runTrain_37 : decode cX2_runTrain 37 = .ok (.invokevirtual 165, 3) := by decide +kernel
theorem dX2_runTrain_40 : decode cX2_runTrain 40 = .ok (.iinc 2 1, 3) := by decide +kernel
theorem dX2_runTrain_43 : decode cX2_runTrain 43 = .ok (.goto (-33), 3) := by decide +kernel
theorem dX2_runTrain_46 : decode cX2_runTrain 46 = .ok (.aload_n 0, 1) := by decide +kernel
theorem dX2_runTrain_47 : decode cX2_runTrain 47 = .ok (.getfield 40, 3) := by decide +kernel
theorem dX2_runTrain_50 : decode cX2_runTrain 50 = .ok (.bipush 9, 2) := by decide +kernel
theorem dX2_runTrain_52 : decode cX2_runTrain 52 = .ok (.iaload, 1) := by decide +kernel
theorem dX2_runTrain_53 : decode cX2_runTrain 53 = .ok (.iload_n 1, 1) := by decide +kernel
theorem dX2_runTrain_54 : decode cX2_runTrain 54 = .ok (.if_icmp .le 14, 3) := by decide +kernel
theorem dX2_runTrain_57 : decode cX2_runTrain 57 = .ok (.aload_n 0, 1) := by decide +kernel
theorem dX2_runTrain_58 : decode cX2_runTrain 58 = .ok (.getfield 40, 3) := by decide +kernel
theorem dX2_runTrain_61 : decode cX2_runTrain 61 = .ok (.bipush 10, 2) := by decide +kernel
theorem dX2_runTrain_63 : decode cX2_runTrain 63 = .ok (.dup2, 1) := by decide +kernel
theorem dX2_runTrain_64 : decode cX2_runTrain 64 = .ok (.iaload, 1) := by decide +kernel
theorem dX2_runTrain_65 : decode cX2_runTrain 65 = .ok (.iconst 1, 1) := by decide +kernel
theorem dX2_runTrain_66 : decode cX2_runTrain 66 = .ok (.iadd, 1) := by decide +kernel
theorem dX2_runTrain_67 : decode cX2_runTrain 67 = .ok (.iastore, 1) := by decide +kernel
theorem dX2_runTrain_68 : decode cX2_runTrain 68 = .ok (.return_, 1) := by decide +kernel
set_option maxRecDepth 20000 in
theorem ggX2_wantedLot_X1_get : GoodIn wsX2_wantedLot wsX1_get := goodIn_r _ [7, 8, 9, 32, 33] (by decide +kernel) (by decide +kernel)
set_option maxRecDepth 20000 in
theorem gX2_wantedLot_X1_get : GoodIn wsX2_wantedLot (wsV RX2 76 RX1 yX1_get wsX1_get) := goodIn_app (goodIn_of _ (by decide +kernel)) ggX2_wantedLot_X1_get
set_option maxRecDepth 20000 in
theorem ggX2_wantedLot_X2_openOf : GoodIn wsX2_wantedLot wsX2_openOf := goodIn_r _ [14, 2, 15, 16, 17, 6, 18, 8, 3, 4, 5, 7, 9, 23, 24, 25, 26, 27, 28, 29, 30, 31, 32, 33] (by decide +kernel) (by decide +kernel)
set_option maxRecDepth 20000 in
theorem gX2_wantedLot_X2_openOf : GoodIn wsX2_wantedLot (wsV RX2 168 RX2 yX2_openOf wsX2_openOf) := goodIn_app (goodIn_of _ (by decide +kernel)) ggX2_wantedLot_X2_openOf
set_option maxRecDepth 20000 in
theorem ggX2_wantedLot_X2_feesFor : GoodIn wsX2_wantedLot wsX2_feesFor := goodIn_r _ [22, 2, 15, 16, 17, 6, 18, 8, 3, 4, 5, 7, 9, 23, 24, 25, 26, 27, 28, 29, 30, 31, 32, 33] (by decide +kernel) (by decide +kernel)
set_option maxRecDepth 20000 in
theorem gX2_wantedLot_X2_feesFor : GoodIn wsX2_wantedLot (wsV RX2 171 RX2 yX2_feesFor wsX2_feesFor) := goodIn_app (goodIn_of _ (by decide +kernel)) ggX2_wantedLot_X2_feesFor
theorem dX2_wantedLot_0 : decode cX2_wantedLot 0 = .ok (.aload_n 0, 1) := by decide +kernel
theorem dX2_wantedLot_1 : decode cX2_wantedLot 1 = .ok (.getfield 9, 3) := by decide +kernel
theorem dX2_wantedLot_4 : decode cX2_wantedLot 4 = .ok (.iconst 4, 1) := by decide +kernel
theorem dX2_wantedLot_5 : decode cX2_wantedLot 5 = .ok (.iaload, 1) := by decide +kernel
theorem dX2_wantedLot_6 : decode cX2_wantedLot 6 = .ok (.iconst 1, 1) := by decide +kernel
theorem dX2_wantedLot_7 : decode cX2_wantedLot 7 = .ok (.if_icmp .ne 13, 3) := by decide +kernel
theorem dX2_wantedLot_10 : decode cX2_wantedLot 10 = .ok (.aload_n 0, 1) := by decide +kernel
theorem dX2_wantedLot_11 : decode cX2_wantedLot 11 = .ok (.getfield 33, 3) := by decide +kernel
theorem dX2_wantedLot_14 : decode cX2_wantedLot 14 = .ok (.iconst 0, 1) := by decide +kernel
theorem dX2_wantedLot_15 : decode cX2_wantedLot 15 = .ok (.iconst 1, 1) := by decide +kernel
theorem dX2_wantedLot_16 : decode cX2_wantedLot 16 = .ok (.invokevirtual 76, 3) := by decide +kernel
theorem dX2_wantedLot_19 : decode cX2_wantedLot 19 = .ok (.ireturn, 1) := by decide +kernel
theorem dX2_wantedLot_20 : decode cX2_wantedLot 20 = .ok (.iconst (-1), 1) := by decide +kernel
theorem dX2_wantedLot_21 : decode cX2_wantedLot 21 = .ok (.istore_n 1, 1) := by decide +kernel
theorem dX2_wantedLot_22 : decode cX2_wantedLot 22 = .ok (.iconst (-1), 1) := by decide +kernel
theorem dX2_wantedLot_23 : decode cX2_wantedLot 23 = .ok (.istore_n 2, 1) := by decide +kernel
theorem dX2_wantedLot_24 : decode cX2_wantedLot 24 = .ok (.iconst 0, 1) := by decide +kernel
theorem dX2_wantedLot_25 : decode cX2_wantedLot 25 = .ok (.istore_n 3, 1) := by decide +kernel
theorem dX2_wantedLot_26 : decode cX2_wantedLot 26 = .ok (.iload_n 3, 1) := by decide +kernel
theorem dX2_wantedLot_27 : decode cX2_wantedLot 27 = .ok (.bipush 16, 2) := by decide +kernel
theorem dX2_wantedLot_29 : decode cX2_wantedLot 29 = .ok (.if_icmp .ge 54, 3) := by decide +kernel
theorem dX2_wantedLot_32 : decode cX2_wantedLot 32 = .ok (.aload_n 0, 1) := by decide +kernel
theorem dX2_wantedLot_33 : decode cX2_wantedLot 33 = .ok (.iconst 1, 1) := by decide +kernel
theorem dX2_wantedLot_34 : decode cX2_wantedLot 34 = .ok (.iload_n 3, 1) := by decide +kernel
theorem dX2_wantedLot_35 : decode cX2_wantedLot 35 = .ok (.invokevirtual 168, 3) := by decide +kernel
theorem dX2_wantedLot_38 : decode cX2_wantedLot 38 = .ok (.istore 4, 2) := by decide +kernel
theorem dX2_wantedLot_40 : decode cX2_wantedLot 40 = .ok (.aload_n 0, 1) := by decide +kernel
theorem dX2_wantedLot_41 : decode cX2_wantedLot 41 = .ok (.getfield 9, 3) := by decide +kernel
theorem dX2_wantedLot_44 : decode cX2_wantedLot 44 = .ok (.iconst 4, 1) := by decide +kernel
theorem dX2_wantedLot_45 : decode cX2_wantedLot 45 = .ok (.iaload, 1) := by decide +kernel
theorem dX2_wantedLot_46 : decode cX2_wantedLot 46 = .ok (.ifCond .ne 11, 3) := by decide +kernel
theorem dX2_wantedLot_49 : decode cX2_wantedLot 49 = .ok (.aload_n 0, 1) := by decide +kernel
theorem dX2_wantedLot_50 : decode cX2_wantedLot 50 = .ok (.iload_n 3, 1) := by decide +kernel
theorem dX2_wantedLot_51 : decode cX2_wantedLot 51 = .ok (.invokevirtual 171, 3) := by decide +kernel
theorem dX2_wantedLot_54 : decode cX2_wantedLot 54 = .ok (.goto 5, 3) := by decide +kernel
theorem dX2_wantedLot_57 : decode cX2_wantedLot 57 = .ok (.iload 4, 2) := by decide +kernel
theorem dX2_wantedLot_59 : decode cX2_wantedLot 59 = .ok (.istore 5, 2) := by decide +kernel
theorem dX2_wantedLot_61 : decode cX2_wantedLot 61 = .ok (.iload 4, 2) := by decide +kernel
theorem dX2_wantedLot_63 : decode cX2_wantedLot 63 = .ok (.ifCond .le 14, 3) := by decide +kernel
theorem dX2_wantedLot_66 : decode cX2_wantedLot 66 = .ok (.iload 5, 2) := by decide +kernel
theorem dX2_wantedLot_68 : decode cX2_wantedLot 68 = .ok (.iload_n 2, 1) := by decide +kernel
theorem dX2_wantedLot_69 : decode cX2_wantedLot 69 = .ok (.if_icmp .le 8, 3) := by decide +kernel
theorem dX2_wantedLot_72 : decode cX2_wantedLot 72 = .ok (.iload_n 3, 1) := by decide +kernel
theorem dX2_wantedLot_73 : decode cX2_wantedLot 73 = .ok (.istore_n 1, 1) := by decide +kernel
theorem dX2_wantedLot_74 : decode cX2_wantedLot 74 = .ok (.iload 5, 2) := by decide +kernel
theorem dX2_wantedLot_76 : decode cX2_wantedLot 76 = .ok (.istore_n 2, 1) := by decide +kernel
theorem dX2_wantedLot_77 : decode cX2_wantedLot 77 = .ok (.iinc 3 1, 3) := by decide +kernel
theorem dX2_wantedLot_80 : decode cX2_wantedLot 80 = .ok (.goto (-54), 3) := by decide +kernel
theorem dX2_wantedLot_83 : decode cX2_wantedLot 83 = .ok (.iload_n 1, 1) := by decide +kernel
theorem dX2_wantedLot_84 : decode cX2_wantedLot 84 = .ok (.ireturn, 1) := by decide +kernel
set_option maxRecDepth 20000 in
theorem ggX2_bring_X2_lotsInFront : GoodIn wsX2_bring wsX2_lotsInFront := goodIn_r _ [10, 2, 58, 59, 60, 61, 62, 63, 64, 65, 66] (by decide +kernel) (by decide +kernel)
set_option maxRecDepth 20000 in
theorem gX2_bring_X2_lotsInFront : GoodIn wsX2_bring (wsV RX2 73 RX2 yX2_lotsInFront wsX2_lotsInFront) := goodIn_app (goodIn_of _ (by decide +kernel)) ggX2_bring_X2_lotsInFront
set_option maxRecDepth 20000 in
theorem ggX2_bring_X2_sendBackLongest : GoodIn wsX2_bring wsX2_sendBackLongest := goodIn_r _ [14, 2, 58, 59, 60, 61, 62, 63, 64, 65, 66] (by decide +kernel) (by decide +kernel)
set_option maxRecDepth 20000 in
theorem gX2_bring_X2_sendBackLongest : GoodIn wsX2_bring (wsV RX2 174 RX2 yX2_sendBackLongest wsX2_sendBackLongest) := goodIn_app (goodIn_of _ (by decide +kernel)) ggX2_bring_X2_sendBackLongest
set_option maxRecDepth 20000 in
theorem ggX2_bring_X4_isLot : GoodIn wsX2_bring wsX4_isLot := goodIn_r _ [17] (by decide +kernel) (by decide +kernel)
set_option maxRecDepth 20000 in
theorem gX2_bring_X4_isLot_n80 : GoodIn wsX2_bring (wsX4_isLot) := ggX2_bring_X4_isLot
set_option maxRecDepth 20000 in
theorem ggX2_bring_X1_size : GoodIn wsX2_bring wsX1_size := goodIn_r _ [22, 23, 67, 68] (by decide +kernel) (by decide +kernel)
set_option maxRecDepth 20000 in
theorem gX2_bring_X1_size : GoodIn wsX2_bring (wsV RX2 66 RX1 yX1_size wsX1_size) := goodIn_app (goodIn_of _ (by decide +kernel)) ggX2_bring_X1_size
set_option maxRecDepth 20000 in
theorem ggX2_bring_X1_get : GoodIn wsX2_bring wsX1_get := goodIn_r _ [27, 23, 28, 67, 68] (by decide +kernel) (by decide +kernel)
set_option maxRecDepth 20000 in
theorem gX2_bring_X1_get : GoodIn wsX2_bring (wsV RX2 76 RX1 yX1_get wsX1_get) := goodIn_app (goodIn_of _ (by decide +kernel)) ggX2_bring_X1_get
set_option maxRecDepth 20000 in
theorem ggX2_bring_X2_noteDelivered : GoodIn wsX2_bring wsX2_noteDelivered := goodIn_r _ [32, 4, 33, 34, 35, 16, 36, 18, 19, 20, 21, 22, 23, 37, 38, 39, 40, 41, 42, 43, 44, 28, 45, 46, 47, 48, 49, 50, 51, 52, 53, 25, 26, 27, 54, 55, 56, 57, 58, 59, 60, 61, 62, 63, 64, 65, 66, 67, 68] (by decide +kernel) (by decide +kernel)
set_option maxRecDepth 20000 in
theorem gX2_bring_X2_noteDelivered : GoodIn wsX2_bring (wsV RX2 90 RX2 yX2_noteDelivered wsX2_noteDelivered) := goodIn_app (goodIn_of _ (by decide +kernel)) ggX2_bring_X2_noteDelivered
set_option maxRecDepth 20000 in
theorem ggX2_bring_X1_end : GoodIn wsX2_bring wsX1_end := goodIn_r _ [40, 41, 42, 43, 21, 44, 23, 28, 67, 68] (by decide +kernel) (by decide +kernel)
set_option maxRecDepth 20000 in
theorem gX2_bring_X1_end : GoodIn wsX2_bring (wsV RX2 116 RX1 yX1_end wsX1_end) := goodIn_app (goodIn_of _ (by decide +kernel)) ggX2_bring_X1_end
set_option maxRecDepth 20000 in
theorem ggX2_bring_X1_closeGaps : GoodIn wsX2_bring wsX1_closeGaps := goodIn_r _ [48, 23, 28, 49, 50, 51, 52, 53, 25, 26, 21, 27, 67, 68] (by decide +kernel) (by decide +kernel)
set_option maxRecDepth 20000 in
theorem gX2_bring_X1_closeGaps : GoodIn wsX2_bring (wsV RX2 120 RX1 yX1_closeGaps wsX1_closeGaps) := goodIn_app (goodIn_of _ (by decide +kernel)) ggX2_bring_X1_closeGaps
theorem dX2_bring_0 : decode cX2_bring 0 = .ok (.iconst 0, 1) := by decide +kernel
theorem dX2_bring_1 : decode cX2_bring 1 = .ok (.istore_n 2, 1) := by decide +kernel
theorem dX2_bring_2 : decode cX2_bring 2 = .ok (.iload_n 2, 1) := by decide +kernel
theorem dX2_bring_3 : decode cX2_bring 3 = .ok (.bipush 16, 2) := by decide +kernel
theorem dX2_bring_5 : decode cX2_bring 5 = .ok (.if_icmp .ge 26, 3) := by decide +kernel
theorem dX2_bring_8 : decode cX2_bring 8 = .ok (.aload_n 0, 1) := by decide +kernel
theorem dX2_bring_9 : decode cX2_bring 9 = .ok (.invokevirtual 73, 3) := by decide +kernel
theorem dX2_bring_12 : decode cX2_bring 12 = .ok (.aload_n 0, 1) := by decide +kernel
theorem dX2_bring_13 : decode cX2_bring 13 = .ok (.getfield 9, 3) := by decide +kernel
theorem dX2_bring_16 : decode cX2_bring 16 = .ok (.iconst 1, 1) := by decide +kernel
theorem dX2_bring_17 : decode cX2_bring 17 = .ok (.iaload, 1) := by decide +kernel
theorem dX2_bring_18 : decode cX2_bring 18 = .ok (.if_icmp .lt 13, 3) := by decide +kernel
theorem dX2_bring_21 : decode cX2_bring 21 = .ok (.aload_n 0, 1) := by decide +kernel
theorem dX2_bring_22 : decode cX2_bring 22 = .ok (.invokevirtual 174, 3) := by decide +kernel
theorem dX2_bring_25 : decode cX2_bring 25 = .ok (.iinc 2 1, 3) := by decide +kernel
theorem dX2_bring_28 : decode cX2_bring 28 = .ok (.goto (-26), 3) := by decide +kernel
theorem dX2_bring_31 : decode cX2_bring 31 = .ok (.iload_n 1, 1) := by decide +kernel
theorem dX2_bring_32 : decode cX2_bring 32 = .ok (.invokestatic 80, 3) := by decide +kernel
theorem dX2_bring_35 : decode cX2_bring 35 = .ok (.ifCond .eq 20, 3) := by decide +kernel
theorem dX2_bring_38 : decode cX2_bring 38 = .ok (.aload_n 0, 1) := by decide +kernel
theorem dX2_bring_39 : decode cX2_bring 39 = .ok (.getfield 24, 3) := by decide +kernel
theorem dX2_bring_42 : decode cX2_bring 42 = .ok (.iload_n 1, 1) := by decide +kernel
theorem dX2_bring_43 : decode cX2_bring 43 = .ok (.iconst 0, 1) := by decide +kernel
theorem dX2_bring_44 : decode cX2_bring 44 = .ok (.iastore, 1) := by decide +kernel
theorem dX2_bring_45 : decode cX2_bring 45 = .ok (.aload_n 0, 1) := by decide +kernel
theorem dX2_bring_46 : decode cX2_bring 46 = .ok (.getfield 27, 3) := by decide +kernel
theorem dX2_bring_49 : decode cX2_bring 49 = .ok (.iload_n 1, 1) := by decide +kernel
theorem dX2_bring_50 : decode cX2_bring 50 = .ok (.dup2, 1) := by decide +kernel
theorem dX2_bring_51 : decode cX2_bring 51 = .ok (.iaload, 1) := by decide +kernel
theorem dX2_bring_52 : decode cX2_bring 52 = .ok (.iconst 1, 1) := by decide +kernel
theorem dX2_bring_53 : decode cX2_bring 53 = .ok (.iadd, 1) := by decide +kernel
theorem dX2_bring_54 : decode cX2_bring 54 = .ok (.iastore, 1) := by decide +kernel
theorem dX2_bring_55 : decode cX2_bring 55 = .ok (.aload_n 0, 1) := by decide +kernel
theorem dX2_bring_56 : decode cX2_bring 56 = .ok (.getfield 40, 3) := by decide +kernel
theorem dX2_bring_59 : decode cX2_bring 59 = .ok (.bipush 9, 2) := by decide +kernel
theorem dX2_bring_61 : decode cX2_bring 61 = .ok (.dup2, 1) := by decide +kernel
theorem dX2_bring_62 : decode cX2_bring 62 = .ok (.iaload, 1) := by decide +kernel
theorem dX2_bring_63 : decode cX2_bring 63 = .ok (.iconst 1, 1) := by decide +kernel
theorem dX2_bring_64 : decode cX2_bring 64 = .ok (.iadd, 1) := by decide +kernel
theorem dX2_bring_65 : decode cX2_bring 65 = .ok (.iastore, 1) := by decide +kernel
theorem dX2_bring_66 : decode cX2_bring 66 = .ok (.iconst 0, 1) := by decide +kernel
theorem dX2_bring_67 : decode cX2_bring 67 = .ok (.istore_n 2, 1) := by decide +kernel
theorem dX2_bring_68 : decode cX2_bring 68 = .ok (.iload_n 2, 1) := by decide +kernel
theorem dX2_bring_69 : decode cX2_bring 69 = .ok (.aload_n 0, 1) := by decide +kernel
theorem dX2_bring_70 : decode cX2_bring 70 = .ok (.getfield 33, 3) := by decide +kernel
theorem dX2_bring_73 : decode cX2_bring 73 = .ok (.invokevirtual 66, 3) := by decide +kernel
theorem dX2_bring_76 : decode cX2_bring 76 = .ok (.if_icmp .ge 71, 3) := by decide +kernel
theorem dX2_bring_79 : decode cX2_bring 79 = .ok (.aload_n 0, 1) := by decide +kernel
theorem dX2_bring_80 : decode cX2_bring 80 = .ok (.getfield 33, 3) := by decide +kernel
theorem dX2_bring_83 : decode cX2_bring 83 = .ok (.iload_n 2, 1) := by decide +kernel
theorem dX2_bring_84 : decode cX2_bring 84 = .ok (.iconst 1, 1) := by decide +kernel
theorem dX2_bring_85 : decode cX2_bring 85 = .ok (.invokevirtual 76, 3) := by decide +kernel
theorem dX2_bring_88 : decode cX2_bring 88 = .ok (.iload_n 1, 1) := by decide +kernel
theorem dX2_bring_89 : decode cX2_bring 89 = .ok (.if_icmp .ne 52, 3) := by decide +kernel
theorem dX2_bring_92 : decode cX2_bring 92 = .ok (.aload_n 0, 1) := by decide +kernel
theorem dX2_bring_93 : decode cX2_bring 93 = .ok (.aload_n 0, 1) := by decide +kernel
theorem dX2_bring_94 : decode cX2_bring 94 = .ok (.getfield 33, 3) := by decide +kernel
theorem dX2_bring_97 : decode cX2_bring 97 = .ok (.iload_n 2, 1) := by decide +kernel
theorem dX2_bring_98 : decode cX2_bring 98 = .ok (.iconst 0, 1) := by decide +kernel
theorem dX2_bring_99 : decode cX2_bring 99 = .ok (.invokevirtual 76, 3) := by decide +kernel
theorem dX2_bring_102 : decode cX2_bring 102 = .ok (.iload_n 1, 1) := by decide +kernel
theorem dX2_bring_103 : decode cX2_bring 103 = .ok (.aload_n 0, 1) := by decide +kernel
theorem dX2_bring_104 : decode cX2_bring 104 = .ok (.getfield 33, 3) := by decide +kernel
theorem dX2_bring_107 : decode cX2_bring 107 = .ok (.iload_n 2, 1) := by decide +kernel
theorem dX2_bring_108 : decode cX2_bring 108 = .ok (.iconst 2, 1) := by decide +kernel
theorem dX2_bring_109 : decode cX2_bring 109 = .ok (.invokevirtual 76, 3) := by decide +kernel
theorem dX2_bring_112 : decode cX2_bring 112 = .ok (.aload_n 0, 1) := by decide +kernel
theorem dX2_bring_113 : decode cX2_bring 113 = .ok (.getfield 33, 3) := by decide +kernel
theorem dX2_bring_116 : decode cX2_bring 116 = .ok (.iload_n 2, 1) := by decide +kernel
theorem dX2_bring_117 : decode cX2_bring 117 = .ok (.iconst 3, 1) := by decide +kernel
theorem dX2_bring_118 : decode cX2_bring 118 = .ok (.invokevirtual 76, 3) := by decide +kernel
theorem dX2_bring_121 : decode cX2_bring 121 = .ok (.aload_n 0, 1) := by decide +kernel
theorem dX2_bring_122 : decode cX2_bring 122 = .ok (.getfield 33, 3) := by decide +kernel
theorem dX2_bring_125 : decode cX2_bring 125 = .ok (.iload_n 2, 1) := by decide +kernel
theorem dX2_bring_126 : decode cX2_bring 126 = .ok (.iconst 4, 1) := by decide +kernel
theorem dX2_bring_127 : decode cX2_bring 127 = .ok (.invokevirtual 76, 3) := by decide +kernel
theorem dX2_bring_130 : decode cX2_bring 130 = .ok (.invokevirtual 90, 3) := by decide +kernel
theorem dX2_bring_133 : decode cX2_bring 133 = .ok (.aload_n 0, 1) := by decide +kernel
theorem dX2_bring_134 : decode cX2_bring 134 = .ok (.getfield 33, 3) := by decide +kernel
theorem dX2_bring_137 : decode cX2_bring 137 = .ok (.iload_n 2, 1) := by decide +kernel
theorem dX2_bring_138 : decode cX2_bring 138 = .ok (.invokevirtual 116, 3) := by decide +kernel
theorem dX2_bring_141 : decode cX2_bring 141 = .ok (.iinc 2 1, 3) := by decide +kernel
theorem dX2_bring_144 : decode cX2_bring 144 = .ok (.goto (-76), 3) := by decide +kernel
theorem dX2_bring_147 : decode cX2_bring 147 = .ok (.aload_n 0, 1) := by decide +kernel
theorem dX2_bring_148 : decode cX2_bring 148 = .ok (.getfield 33, 3) := by decide +kernel
theorem dX2_bring_151 : decode cX2_bring 151 = .ok (.invokevirtual 120, 3) := by decide +kernel
theorem dX2_bring_154 : decode cX2_bring 154 = .ok (.return_, 1) := by decide +kernel
theorem dX2_sendBackLongest_0 : decode cX2_sendBackLongest 0 = .ok (.iconst 0, 1) := by decide +kernel
theorem dX2_sendBackLongest_1 : decode cX2_sendBackLongest 1 = .ok (.istore_n 1, 1) := by decide +kernel
theorem dX2_sendBackLongest_2 : decode cX2_sendBackLongest 2 = .ok (.iconst 1, 1) := by decide +kernel
theorem dX2_sendBackLongest_3 : decode cX2_sendBackLongest 3 = .ok (.istore_n 2, 1) := by decide +kernel
theorem dX2_sendBackLongest_4 : decode cX2_sendBackLongest 4 = .ok (.iload_n 2, 1) := by decide +kernel
theorem dX2_sendBackLongest_5 : decode cX2_sendBackLongest 5 = .ok (.bipush 16, 2) := by decide +kernel
theorem dX2_sendBackLongest_7 : decode cX2_sendBackLongest 7 = .ok (.if_icmp .ge 26, 3) := by decide +kernel
theorem dX2_sendBackLongest_10 : decode cX2_sendBackLongest 10 = .ok (.aload_n 0, 1) := by decide +kernel
theorem dX2_sendBackLongest_11 : decode cX2_sendBackLongest 11 = .ok (.getfield 24, 3) := by decide +kernel
theorem dX2_sendBackLongest_14 : decode cX2_sendBackLongest 14 = .ok (.iload_n 2, 1) := by decide +kernel
theorem dX2_sendBackLongest_15 : decode cX2_sendBackLongest 15 = .ok (.iaload, 1) := by decide +kernel
theorem dX2_sendBackLongest_16 : decode cX2_sendBackLongest 16 = .ok (.aload_n 0, 1) := by decide +kernel
theorem dX2_sendBackLongest_17 : decode cX2_sendBackLongest 17 = .ok (.getfield 24, 3) := by decide +kernel
theorem dX2_sendBackLongest_20 : decode cX2_sendBackLongest 20 = .ok (.iload_n 1, 1) := by decide +kernel
theorem dX2_sendBackLongest_21 : decode cX2_sendBackLongest 21 = .ok (.iaload, 1) := by decide +kernel
theorem dX2_sendBackLongest_22 : decode cX2_sendBackLongest 22 = .ok (.if_icmp .le 5, 3) := by decide +kernel
theorem dX2_sendBackLongest_25 : decode cX2_sendBackLongest 25 = .ok (.iload_n 2, 1) := by decide +kernel
theorem dX2_sendBackLongest_26 : decode cX2_sendBackLongest 26 = .ok (.istore_n 1, 1) := by decide +kernel
theorem dX2_sendBackLongest_27 : decode cX2_sendBackLongest 27 = .ok (.iinc 2 1, 3) := by decide +kernel
theorem dX2_sendBackLongest_30 : decode cX2_sendBackLongest 30 = .ok (.goto (-26), 3) := by decide +kernel
theorem dX2_sendBackLongest_33 : decode cX2_sendBackLongest 33 = .ok (.aload_n 0, 1) := by decide +kernel
theorem dX2_sendBackLongest_34 : decode cX2_sendBackLongest 34 = .ok (.getfield 24, 3) := by decide +kernel
theorem dX2_sendBackLongest_37 : decode cX2_sendBackLongest 37 = .ok (.iload_n 1, 1) := by decide +kernel
theorem dX2_sendBackLongest_38 : decode cX2_sendBackLongest 38 = .ok (.iconst (-1), 1) := by decide +kernel
theorem dX2_sendBackLongest_39 : decode cX2_sendBackLongest 39 = .ok (.iastore, 1) := by decide +kernel
theorem dX2_sendBackLongest_40 : decode cX2_sendBackLongest 40 = .ok (.return_, 1) := by decide +kernel
set_option maxRecDepth 20000 in
theorem ggX2_letOrdersWait_X1_size : GoodIn wsX2_letOrdersWait wsX1_size := goodIn_r _ [7, 8, 56, 57] (by decide +kernel) (by decide +kernel)
set_option maxRecDepth 20000 in
theorem gX2_letOrdersWait_X1_size : GoodIn wsX2_letOrdersWait (wsV RX2 66 RX1 yX1_size wsX1_size) := goodIn_app (goodIn_of _ (by decide +kernel)) ggX2_letOrdersWait_X1_size
set_option maxRecDepth 20000 in
theorem ggX2_letOrdersWait_X1_get : GoodIn wsX2_letOrdersWait wsX1_get := goodIn_r _ [12, 8, 13, 56, 57] (by decide +kernel) (by decide +kernel)
set_option maxRecDepth 20000 in
theorem gX2_letOrdersWait_X1_get : GoodIn wsX2_letOrdersWait (wsV RX2 76 RX1 yX1_get wsX1_get) := goodIn_app (goodIn_of _ (by decide +kernel)) ggX2_letOrdersWait_X1_get
set_option maxRecDepth 20000 in
theorem ggX2_letOrdersWait_X1_put : GoodIn wsX2_letOrdersWait wsX1_put := goodIn_r _ [17, 8, 13, 56, 57] (by decide +kernel) (by decide +kernel)
set_option maxRecDepth 20000 in
theorem gX2_letOrdersWait_X1_put : GoodIn wsX2_letOrdersWait (wsV RX2 129 RX1 yX1_put wsX1_put) := goodIn_app (goodIn_of _ (by decide +kernel)) ggX2_letOrdersWait_X1_put
set_option maxRecDepth 20000 in
theorem ggX2_letOrdersWait_X2_lapse : GoodIn wsX2_letOrdersWait wsX2_lapse := goodIn_r _ [22, 1, 23, 24, 9, 10, 11, 6, 12, 8, 13, 25, 26, 27, 21, 28, 29, 30, 31, 32, 33, 34, 35, 36, 37, 15, 16, 17, 47, 48, 49, 50, 51, 52, 53, 54, 55, 56, 57] (by decide +kernel) (by decide +kernel)
set_option maxRecDepth 20000 in
theorem gX2_letOrdersWait_X2_lapse : GoodIn wsX2_letOrdersWait (wsV RX2 177 RX2 yX2_lapse wsX2_lapse) := goodIn_app (goodIn_of _ (by decide +kernel)) ggX2_letOrdersWait_X2_lapse
set_option maxRecDepth 20000 in
theorem ggX2_letOrdersWait_X1_closeGaps : GoodIn wsX2_letOrdersWait wsX1_closeGaps := goodIn_r _ [41, 8, 13, 42, 43, 44, 45, 46, 10, 11, 6, 12, 56, 57] (by decide +kernel) (by decide +kernel)
set_option maxRecDepth 20000 in
theorem gX2_letOrdersWait_X1_closeGaps : GoodIn wsX2_letOrdersWait (wsV RX2 120 RX1 yX1_closeGaps wsX1_closeGaps) := goodIn_app (goodIn_of _ (by decide +kernel)) ggX2_letOrdersWait_X1_closeGaps
theorem dX2_letOrdersWait_0 : decode cX2_letOrdersWait 0 = .ok (.iconst 0, 1) := by decide +kernel
theorem dX2_letOrdersWait_1 : decode cX2_letOrdersWait 1 = .ok (.istore_n 1, 1) := by decide +kernel
theorem dX2_letOrdersWait_2 : decode cX2_letOrdersWait 2 = .ok (.iload_n 1, 1) := by decide +kernel
theorem dX2_letOrdersWait_3 : decode cX2_letOrdersWait 3 = .ok (.aload_n 0, 1) := by decide +kernel
theorem dX2_letOrdersWait_4 : decode cX2_letOrdersWait 4 = .ok (.getfield 33, 3) := by decide +kernel
theorem dX2_letOrdersWait_7 : decode cX2_letOrdersWait 7 = .ok (.invokevirtual 66, 3) := by decide +kernel
theorem dX2_letOrdersWait_10 : decode cX2_letOrdersWait 10 = .ok (.if_icmp .ge 46, 3) := by decide +kernel
theorem dX2_letOrdersWait_13 : decode cX2_letOrdersWait 13 = .ok (.aload_n 0, 1) := by decide +kernel
theorem dX2_letOrdersWait_14 : decode cX2_letOrdersWait 14 = .ok (.getfield 33, 3) := by decide +kernel
theorem dX2_letOrdersWait_17 : decode cX2_letOrdersWait 17 = .ok (.iload_n 1, 1) := by decide +kernel
theorem dX2_letOrdersWait_18 : decode cX2_letOrdersWait 18 = .ok (.iconst 4, 1) := by decide +kernel
theorem dX2_letOrdersWait_19 : decode cX2_letOrdersWait 19 = .ok (.invokevirtual 76, 3) := by decide +kernel
theorem dX2_letOrdersWait_22 : decode cX2_letOrdersWait 22 = .ok (.iconst 1, 1) := by decide +kernel
theorem dX2_letOrdersWait_23 : decode cX2_letOrdersWait 23 = .ok (.iadd, 1) := by decide +kernel
theorem dX2_letOrdersWait_24 : decode cX2_letOrdersWait 24 = .ok (.istore_n 2, 1) := by decide +kernel
theorem dX2_letOrdersWait_25 : decode cX2_letOrdersWait 25 = .ok (.aload_n 0, 1) := by decide +kernel
theorem dX2_letOrdersWait_26 : decode cX2_letOrdersWait 26 = .ok (.getfield 33, 3) := by decide +kernel
theorem dX2_letOrdersWait_29 : decode cX2_letOrdersWait 29 = .ok (.iload_n 1, 1) := by decide +kernel
theorem dX2_letOrdersWait_30 : decode cX2_letOrdersWait 30 = .ok (.iconst 4, 1) := by decide +kernel
theorem dX2_letOrdersWait_31 : decode cX2_letOrdersWait 31 = .ok (.iload_n 2, 1) := by decide +kernel
theorem dX2_letOrdersWait_32 : decode cX2_letOrdersWait 32 = .ok (.invokevirtual 129, 3) := by decide +kernel
theorem dX2_letOrdersWait_35 : decode cX2_letOrdersWait 35 = .ok (.iload_n 2, 1) := by decide +kernel
theorem dX2_letOrdersWait_36 : decode cX2_letOrdersWait 36 = .ok (.aload_n 0, 1) := by decide +kernel
theorem dX2_letOrdersWait_37 : decode cX2_letOrdersWait 37 = .ok (.getfield 9, 3) := by decide +kernel
theorem dX2_letOrdersWait_40 : decode cX2_letOrdersWait 40 = .ok (.iconst 3, 1) := by decide +kernel
theorem dX2_letOrdersWait_41 : decode cX2_letOrdersWait 41 = .ok (.iaload, 1) := by decide +kernel
theorem dX2_letOrdersWait_42 : decode cX2_letOrdersWait 42 = .ok (.if_icmp .lt 8, 3) := by decide +kernel
theorem dX2_letOrdersWait_45 : decode cX2_letOrdersWait 45 = .ok (.aload_n 0, 1) := by decide +kernel
theorem dX2_letOrdersWait_46 : decode cX2_letOrdersWait 46 = .ok (.iload_n 1, 1) := by decide +kernel
theorem dX2_letOrdersWait_47 : decode cX2_letOrdersWait 47 = .ok (.invokevirtual 177, 3) := by decide +kernel
theorem dX2_letOrdersWait_50 : decode cX2_letOrdersWait 50 = .ok (.iinc 1 1, 3) := by decide +kernel
theorem dX2_letOrdersWait_53 : decode cX2_letOrdersWait 53 = .ok (.goto (-51), 3) := by decide +kernel
theorem dX2_letOrdersWait_56 : decode cX2_letOrdersWait 56 = .ok (.aload_n 0, 1) := by decide +kernel
theorem dX2_letOrdersWait_57 : decode cX2_letOrdersWait 57 = .ok (.getfield 33, 3) := by decide +kernel
theorem dX2_letOrdersWait_60 : decode cX2_letOrdersWait 60 = .ok (.invokevirtual 120, 3) := by decide +kernel
theorem dX2_letOrdersWait_63 : decode cX2_letOrdersWait 63 = .ok (.return_, 1) := by decide +kernel
set_option maxRecDepth 20000 in
theorem ggX2_lapse_X1_get : GoodIn wsX2_lapse wsX1_get := goodIn_r _ [8, 9, 10, 37, 38] (by decide +kernel) (by decide +kernel)
set_option maxRecDepth 20000 in
theorem gX2_lapse_X1_get : GoodIn wsX2_lapse (wsV RX2 76 RX1 yX1_get wsX1_get) := goodIn_app (goodIn_of _ (by decide +kernel)) ggX2_lapse_X1_get
set_option maxRecDepth 20000 in
theorem ggX2_lapse_X2_payBack : GoodIn wsX2_lapse wsX2_payBack := goodIn_r _ [15, 1, 16, 2, 4, 5, 6, 7, 8, 9, 10, 17, 18, 19, 28, 29, 30, 31, 32, 33, 34, 35, 36, 37, 38] (by decide +kernel) (by decide +kernel)
set_option maxRecDepth 20000 in
theorem gX2_lapse_X2_payBack : GoodIn wsX2_lapse (wsV RX2 112 RX2 yX2_payBack wsX2_payBack) := goodIn_app (goodIn_of _ (by decide +kernel)) ggX2_lapse_X2_payBack
set_option maxRecDepth 20000 in
theorem ggX2_lapse_X4_isReader : GoodIn wsX2_lapse wsX4_isReader := goodIn_r _ [19] (by decide +kernel) (by decide +kernel)
set_option maxRecDepth 20000 in
theorem gX2_lapse_X4_isReader_n87 : GoodIn wsX2_lapse (wsX4_isReader) := ggX2_lapse_X4_isReader
set_option maxRecDepth 20000 in
theorem ggX2_lapse_X1_end : GoodIn wsX2_lapse wsX1_end := goodIn_r _ [23, 24, 25, 26, 7, 27, 9, 10, 37, 38] (by decide +kernel) (by decide +kernel)
set_option maxRecDepth 20000 in
theorem gX2_lapse_X1_end : GoodIn wsX2_lapse (wsV RX2 116 RX1 yX1_end wsX1_end) := goodIn_app (goodIn_of _ (by decide +kernel)) ggX2_lapse_X1_end
theorem dX2_lapse_0 : decode cX2_lapse 0 = .ok (.aload_n 0, 1) := by decide +kernel
theorem dX2_lapse_1 : decode cX2_lapse 1 = .ok (.getfield 33, 3) := by decide +kernel
theorem dX2_lapse_4 : decode cX2_lapse 4 = .ok (.iload_n 1, 1) := by decide +kernel
theorem dX2_lapse_5 : decode cX2_lapse 5 = .ok (.iconst 0, 1) := by decide +kernel
theorem dX2_lapse_6 : decode cX2_lapse 6 = .ok (.invokevirtual 76, 3) := by decide +kernel
theorem dX2_lapse_9 : decode cX2_lapse 9 = .ok (.istore_n 2, 1) := by decide +kernel
theorem dX2_lapse_10 : decode cX2_lapse 10 = .ok (.aload_n 0, 1) := by decide +kernel
theorem dX2_lapse_11 : decode cX2_lapse 11 = .ok (.iload_n 1, 1) := by decide +kernel
theorem dX2_lapse_12 : decode cX2_lapse 12 = .ok (.invokevirtual 112, 3) := by decide +kernel
theorem dX2_lapse_15 : decode cX2_lapse 15 = .ok (.pop, 1) := by decide +kernel
theorem dX2_lapse_16 : decode cX2_lapse 16 = .ok (.aload_n 0, 1) := by decide +kernel
theorem dX2_lapse_17 : decode cX2_lapse 17 = .ok (.getfield 40, 3) := by decide +kernel
theorem dX2_lapse_20 : decode cX2_lapse 20 = .ok (.iconst 3, 1) := by decide +kernel
theorem dX2_lapse_21 : decode cX2_lapse 21 = .ok (.dup2, 1) := by decide +kernel
theorem dX2_lapse_22 : decode cX2_lapse 22 = .ok (.iaload, 1) := by decide +kernel
theorem dX2_lapse_23 : decode cX2_lapse 23 = .ok (.iconst 1, 1) := by decide +kernel
theorem dX2_lapse_24 : decode cX2_lapse 24 = .ok (.iadd, 1) := by decide +kernel
theorem dX2_lapse_25 : decode cX2_lapse 25 = .ok (.iastore, 1) := by decide +kernel
theorem dX2_lapse_26 : decode cX2_lapse 26 = .ok (.iload_n 2, 1) := by decide +kernel
theorem dX2_lapse_27 : decode cX2_lapse 27 = .ok (.invokestatic 87, 3) := by decide +kernel
theorem dX2_lapse_30 : decode cX2_lapse 30 = .ok (.ifCond .eq 13, 3) := by decide +kernel
theorem dX2_lapse_33 : decode cX2_lapse 33 = .ok (.aload_n 0, 1) := by decide +kernel
theorem dX2_lapse_34 : decode cX2_lapse 34 = .ok (.getfield 21, 3) := by decide +kernel
theorem dX2_lapse_37 : decode cX2_lapse 37 = .ok (.iload_n 2, 1) := by decide +kernel
theorem dX2_lapse_38 : decode cX2_lapse 38 = .ok (.dup2, 1) := by decide +kernel
theorem dX2_lapse_39 : decode cX2_lapse 39 = .ok (.iaload, 1) := by decide +kernel
theorem dX2_lapse_40 : decode cX2_lapse 40 = .ok (.iconst 1, 1) := by decide +kernel
theorem dX2_lapse_41 : decode cX2_lapse 41 = .ok (.iadd, 1) := by decide +kernel
theorem dX2_lapse_42 : decode cX2_lapse 42 = .ok (.iastore, 1) := by decide +kernel
theorem dX2_lapse_43 : decode cX2_lapse 43 = .ok (.aload_n 0, 1) := by decide +kernel
theorem dX2_lapse_44 : decode cX2_lapse 44 = .ok (.getfield 33, 3) := by decide +kernel
theorem dX2_lapse_47 : decode cX2_lapse 47 = .ok (.iload_n 1, 1) := by decide +kernel
theorem dX2_lapse_48 : decode cX2_lapse 48 = .ok (.invokevirtual 116, 3) := by decide +kernel
theorem dX2_lapse_51 : decode cX2_lapse 51 = .ok (.return_, 1) := by decide +kernel
theorem dX2_letLotsStay_0 : decode cX2_letLotsStay 0 = .ok (.iconst 0, 1) := by decide +kernel
theorem dX2_letLotsStay_1 : decode cX2_letLotsStay 1 = .ok (.istore_n 1, 1) := by decide +kernel
theorem dX2_letLotsStay_2 : decode cX2_letLotsStay 2 = .ok (.iload_n 1, 1) := by decide +kernel
theorem dX2_letLotsStay_3 : decode cX2_letLotsStay 3 = .ok (.bipush 16, 2) := by decide +kernel
theorem dX2_letLotsStay_5 : decode cX2_letLotsStay 5 = .ok (.if_icmp .ge 51, 3) := by decide +kernel
theorem dX2_letLotsStay_8 : decode cX2_letLotsStay 8 = .ok (.aload_n 0, 1) := by decide +kernel
theorem dX2_letLotsStay_9 : decode cX2_letLotsStay 9 = .ok (.getfield 24, 3) := by decide +kernel
theorem dX2_letLotsStay_12 : decode cX2_letLotsStay 12 = .ok (.iload_n 1, 1) := by decide +kernel
theorem dX2_letLotsStay_13 : decode cX2_letLotsStay 13 = .ok (.iaload, 1) := by decide +kernel
theorem dX2_letLotsStay_14 : decode cX2_letLotsStay 14 = .ok (.iconst (-1), 1) := by decide +kernel
theorem dX2_letLotsStay_15 : decode cX2_letLotsStay 15 = .ok (.if_icmp .eq 35, 3) := by decide +kernel
theorem dX2_letLotsStay_18 : decode cX2_letLotsStay 18 = .ok (.aload_n 0, 1) := by decide +kernel
theorem dX2_letLotsStay_19 : decode cX2_letLotsStay 19 = .ok (.getfield 24, 3) := by decide +kernel
theorem dX2_letLotsStay_22 : decode cX2_letLotsStay 22 = .ok (.iload_n 1, 1) := by decide +kernel
theorem dX2_letLotsStay_23 : decode cX2_letLotsStay 23 = .ok (.dup2, 1) := by decide +kernel
theorem dX2_letLotsStay_24 : decode cX2_letLotsStay 24 = .ok (.iaload, 1) := by decide +kernel
theorem dX2_letLotsStay_25 : decode cX2_letLotsStay 25 = .ok (.iconst 1, 1) := by decide +kernel
theorem dX2_letLotsStay_26 : decode cX2_letLotsStay 26 = .ok (.iadd, 1) := by decide +kernel
theorem dX2_letLotsStay_27 : decode cX2_letLotsStay 27 = .ok (.iastore, 1) := by decide +kernel
theorem dX2_letLotsStay_28 : decode cX2_letLotsStay 28 = .ok (.aload_n 0, 1) := by decide +kernel
theorem dX2_letLotsStay_29 : decode cX2_letLotsStay 29 = .ok (.getfield 24, 3) := by decide +kernel
theorem dX2_letLotsStay_32 : decode cX2_letLotsStay 32 = .ok (.iload_n 1, 1) := by decide +kernel
theorem dX2_letLotsStay_33 : decode cX2_letLotsStay 33 = .ok (.iaload, 1) := by decide +kernel
theorem dX2_letLotsStay_34 : decode cX2_letLotsStay 34 = .ok (.aload_n 0, 1) := by decide +kernel
theorem dX2_letLotsStay_35 : decode cX2_letLotsStay 35 = .ok (.getfield 9, 3) := by decide +kernel
theorem dX2_letLotsStay_38 : decode cX2_letLotsStay 38 = .ok (.iconst 2, 1) := by decide +kernel
theorem dX2_letLotsStay_39 : decode cX2_letLotsStay 39 = .ok (.iaload, 1) := by decide +kernel
theorem dX2_letLotsStay_40 : decode cX2_letLotsStay 40 = .ok (.if_icmp .le 10, 3) := by decide +kernel
theorem dX2_letLotsStay_43 : decode cX2_letLotsStay 43 = .ok (.aload_n 0, 1) := by decide +kernel
theorem dX2_letLotsStay_44 : decode cX2_letLotsStay 44 = .ok (.getfield 24, 3) := by decide +kernel
theorem dX2_letLotsStay_47 : decode cX2_letLotsStay 47 = .ok (.iload_n 1, 1) := by decide +kernel
theorem dX2_letLotsStay_48 : decode cX2_letLotsStay 48 = .ok (.iconst (-1), 1) := by decide +kernel
theorem dX2_letLotsStay_49 : decode cX2_letLotsStay 49 = .ok (.iastore, 1) := by decide +kernel
theorem dX2_letLotsStay_50 : decode cX2_letLotsStay 50 = .ok (.iinc 1 1, 3) := by decide +kernel
theorem dX2_letLotsStay_53 : decode cX2_letLotsStay 53 = .ok (.goto (-51), 3) := by decide +kernel
theorem dX2_letLotsStay_56 : decode cX2_letLotsStay 56 = .ok (.return_, 1) := by decide +kernel
theorem dX3_init_0 : decode cX3_init 0 = .ok (.aload_n 0, 1) := by decide +kernel
theorem dX3_init_1 : decode cX3_init 1 = .ok (.invokespecial 3, 3) := by decide +kernel
theorem dX3_init_4 : decode cX3_init 4 = .ok (.aload_n 0, 1) := by decide +kernel
theorem dX3_init_5 : decode cX3_init 5 = .ok (.bipush 120, 2) := by decide +kernel
theorem dX3_init_7 : decode cX3_init 7 = .ok (.newarray .char, 2) := by decide +kernel
theorem dX3_init_9 : decode cX3_init 9 = .ok (.putfield 11, 3) := by decide +kernel
theorem dX3_init_12 : decode cX3_init 12 = .ok (.return_, 1) := by decide +kernel
theorem dX3_length_0 : decode cX3_length 0 = .ok (.aload_n 0, 1) := by decide +kernel
theorem dX3_length_1 : decode cX3_length 1 = .ok (.getfield 15, 3) := by decide +kernel
theorem dX3_length_4 : decode cX3_length 4 = .ok (.ireturn, 1) := by decide +kernel
theorem dX3_isFull_0 : decode cX3_isFull 0 = .ok (.aload_n 0, 1) := by decide +kernel
theorem dX3_isFull_1 : decode cX3_isFull 1 = .ok (.getfield 15, 3) := by decide +kernel
theorem dX3_isFull_4 : decode cX3_isFull 4 = .ok (.bipush 120, 2) := by decide +kernel
theorem dX3_isFull_6 : decode cX3_isFull 6 = .ok (.if_icmp .lt 7, 3) := by decide +kernel
theorem dX3_isFull_9 : decode cX3_isFull 9 = .ok (.iconst 1, 1) := by decide +kernel
theorem dX3_isFull_10 : decode cX3_isFull 10 = .ok (.goto 4, 3) := by decide +kernel
theorem dX3_isFull_13 : decode cX3_isFull 13 = .ok (.iconst 0, 1) := by decide +kernel
theorem dX3_isFull_14 : decode cX3_isFull 14 = .ok (.ireturn, 1) := by decide +kernel
set_option maxRecDepth 20000 in
theorem ggX3_add_X3_isFull : GoodIn wsX3_add wsX3_isFull := goodIn_r _ [7, 2, 8, 9] (by decide +kernel) (by decide +kernel)
set_option maxRecDepth 20000 in
theorem gX3_add_X3_isFull : GoodIn wsX3_add (wsV RX3 19 RX3 yX3_isFull wsX3_isFull) := goodIn_app (goodIn_of _ (by decide +kernel)) ggX3_add_X3_isFull
theorem dX3_add_0 : decode cX3_add 0 = .ok (.aload_n 0, 1) := by decide +kernel
theorem dX3_add_1 : decode cX3_add 1 = .ok (.invokevirtual 19, 3) := by decide +kernel
theorem dX3_add_4 : decode cX3_add 4 = .ok (.ifCond .ne 23, 3) := by decide +kernel
theorem dX3_add_7 : decode cX3_add 7 = .ok (.aload_n 0, 1) := by decide +kernel
theorem dX3_add_8 : decode cX3_add 8 = .ok (.getfield 11, 3) := by decide +kernel
theorem dX3_add_11 : decode cX3_add 11 = .ok (.aload_n 0, 1) := by decide +kernel
theorem dX3_add_12 : decode cX3_add 12 = .ok (.getfield 15, 3) := by decide +kernel
theorem dX3_add_15 : decode cX3_add 15 = .ok (.iload_n 1, 1) := by decide +kernel
theorem dX3_add_16 : decode cX3_add 16 = .ok (.castore, 1) := by decide +kernel
theorem dX3_add_17 : decode cX3_add 17 = .ok (.aload_n 0, 1) := by decide +kernel
theorem dX3_add_18 : decode cX3_add 18 = .ok (.dup, 1) := by decide +kernel
theorem dX3_add_19 : decode cX3_add 19 = .ok (.getfield 15, 3) := by decide +kernel
theorem dX3_add_22 : decode cX3_add 22 = .ok (.iconst 1, 1) := by decide +kernel
theorem dX3_add_23 : decode cX3_add 23 = .ok (.iadd, 1) := by decide +kernel
theorem dX3_add_24 : decode cX3_add 24 = .ok (.putfield 15, 3) := by decide +kernel
theorem dX3_add_27 : decode cX3_add 27 = .ok (.aload_n 0, 1) := by decide +kernel
theorem dX3_add_28 : decode cX3_add 28 = .ok (.getfield 15, 3) := by decide +kernel
theorem dX3_add_31 : decode cX3_add 31 = .ok (.ireturn, 1) := by decide +kernel
theorem dX3_empty_0 : decode cX3_empty 0 = .ok (.aload_n 0, 1) := by decide +kernel
theorem dX3_empty_1 : decode cX3_empty 1 = .ok (.getfield 15, 3) := by decide +kernel
theorem dX3_empty_4 : decode cX3_empty 4 = .ok (.istore_n 1, 1) := by decide +kernel
theorem dX3_empty_5 : decode cX3_empty 5 = .ok (.aload_n 0, 1) := by decide +kernel
theorem dX3_empty_6 : decode cX3_empty 6 = .ok (.iconst 0, 1) := by decide +kernel
theorem dX3_empty_7 : decode cX3_empty 7 = .ok (.putfield 15, 3) := by decide +kernel
theorem dX3_empty_10 : decode cX3_empty 10 = .ok (.iload_n 1, 1) := by decide +kernel
theorem dX3_empty_11 : decode cX3_empty 11 = .ok (.ireturn, 1) := by decide +kernel
theorem dX3_signAt_0 : decode cX3_signAt 0 = .ok (.iload_n 1, 1) := by decide +kernel
theorem dX3_signAt_1 : decode cX3_signAt 1 = .ok (.ifCond .lt 20, 3) := by decide +kernel
theorem dX3_signAt_4 : decode cX3_signAt 4 = .ok (.iload_n 1, 1) := by decide +kernel
theorem dX3_signAt_5 : decode cX3_signAt 5 = .ok (.aload_n 0, 1) := by decide +kernel
theorem dX3_signAt_6 : decode cX3_signAt 6 = .ok (.getfield 15, 3) := by decide +kernel
theorem dX3_signAt_9 : decode cX3_signAt 9 = .ok (.if_icmp .ge 12, 3) := by decide +kernel
theorem dX3_signAt_12 : decode cX3_signAt 12 = .ok (.aload_n 0, 1) := by decide +kernel
theorem dX3_signAt_13 : decode cX3_signAt 13 = .ok (.getfield 11, 3) := by decide +kernel
theorem dX3_signAt_16 : decode cX3_signAt 16 = .ok (.iload_n 1, 1) := by decide +kernel
theorem dX3_signAt_17 : decode cX3_signAt 17 = .ok (.caload, 1) := by decide +kernel
theorem dX3_signAt_18 : decode cX3_signAt 18 = .ok (.goto 4, 3) := by decide +kernel
theorem dX3_signAt_21 : decode cX3_signAt 21 = .ok (.iconst (-1), 1) := by decide +kernel
theorem dX3_signAt_22 : decode cX3_signAt 22 = .ok (.ireturn, 1) := by decide +kernel
set_option maxRecDepth 20000 in
theorem ggX3_digitAt_X3_signAt : GoodIn wsX3_digitAt wsX3_signAt := goodIn_r _ [5, 6, 7, 8, 9] (by decide +kernel) (by decide +kernel)
set_option maxRecDepth 20000 in
theorem gX3_digitAt_X3_signAt : GoodIn wsX3_digitAt (wsV RX3 23 RX3 yX3_signAt wsX3_signAt) := goodIn_app (goodIn_of _ (by decide +kernel)) ggX3_digitAt_X3_signAt
theorem dX3_digitAt_0 : decode cX3_digitAt 0 = .ok (.aload_n 0, 1) := by decide +kernel
theorem dX3_digitAt_1 : decode cX3_digitAt 1 = .ok (.iload_n 1, 1) := by decide +kernel
theorem dX3_digitAt_2 : decode cX3_digitAt 2 = .ok (.invokevirtual 23, 3) := by decide +kernel
theorem dX3_digitAt_5 : decode cX3_digitAt 5 = .ok (.bipush 48, 2) := by decide +kernel
theorem dX3_digitAt_7 : decode cX3_digitAt 7 = .ok (.isub, 1) := by decide +kernel
theorem dX3_digitAt_8 : decode cX3_digitAt 8 = .ok (.ireturn, 1) := by decide +kernel
set_option maxRecDepth 20000 in
theorem ggX3_pairAt_X3_digitAt : GoodIn wsX3_pairAt wsX3_digitAt := goodIn_r _ [5, 6, 7, 8, 4, 9, 10, 11, 12, 13] (by decide +kernel) (by decide +kernel)
set_option maxRecDepth 20000 in
theorem gX3_pairAt_X3_digitAt : GoodIn wsX3_pairAt (wsV RX3 27 RX3 yX3_digitAt wsX3_digitAt) := goodIn_app (goodIn_of _ (by decide +kernel)) ggX3_pairAt_X3_digitAt
theorem dX3_pairAt_0 : decode cX3_pairAt 0 = .ok (.bipush 10, 2) := by decide +kernel
theorem dX3_pairAt_2 : decode cX3_pairAt 2 = .ok (.aload_n 0, 1) := by decide +kernel
theorem dX3_pairAt_3 : decode cX3_pairAt 3 = .ok (.iload_n 1, 1) := by decide +kernel
theorem dX3_pairAt_4 : decode cX3_pairAt 4 = .ok (.invokevirtual 27, 3) := by decide +kernel
theorem dX3_pairAt_7 : decode cX3_pairAt 7 = .ok (.imul, 1) := by decide +kernel
theorem dX3_pairAt_8 : decode cX3_pairAt 8 = .ok (.aload_n 0, 1) := by decide +kernel
theorem dX3_pairAt_9 : decode cX3_pairAt 9 = .ok (.iload_n 1, 1) := by decide +kernel
theorem dX3_pairAt_10 : decode cX3_pairAt 10 = .ok (.iconst 1, 1) := by decide +kernel
theorem dX3_pairAt_11 : decode cX3_pairAt 11 = .ok (.iadd, 1) := by decide +kernel
theorem dX3_pairAt_12 : decode cX3_pairAt 12 = .ok (.invokevirtual 27, 3) := by decide +kernel
theorem dX3_pairAt_15 : decode cX3_pairAt 15 = .ok (.iadd, 1) := by decide +kernel
theorem dX3_pairAt_16 : decode cX3_pairAt 16 = .ok (.ireturn, 1) := by decide +kernel
set_option maxRecDepth 20000 in
theorem ggX3_digitsOfCommand_X3_signAt : GoodIn wsX3_digitsOfCommand wsX3_signAt := goodIn_r _ [5, 6, 7, 8, 9] (by decide +kernel) (by decide +kernel)
set_option maxRecDepth 20000 in
theorem gX3_digitsOfCommand_X3_signAt : GoodIn wsX3_digitsOfCommand (wsV RX3 23 RX3 yX3_signAt wsX3_signAt) := goodIn_app (goodIn_of _ (by decide +kernel)) ggX3_digitsOfCommand_X3_signAt
theorem dX3_digitsOfCommand_0 : decode cX3_digitsOfCommand 0 = .ok (.aload_n 0, 1) := by decide +kernel
theorem dX3_digitsOfCommand_1 : decode cX3_digitsOfCommand 1 = .ok (.iload_n 1, 1) := by decide +kernel
theorem dX3_digitsOfCommand_2 : decode cX3_digitsOfCommand 2 = .ok (.invokevirtual 23, 3) := by decide +kernel
theorem dX3_digitsOfCommand_5 : decode cX3_digitsOfCommand 5 = .ok (.lookupswitch 41 #[(99, 37), (110, 39), (111, 35)], 35) := by decide +kernel
theorem dX3_digitsOfCommand_40 : decode cX3_digitsOfCommand 40 = .ok (.iconst 5, 1) := by decide +kernel
theorem dX3_digitsOfCommand_41 : decode cX3_digitsOfCommand 41 = .ok (.ireturn, 1) := by decide +kernel
theorem dX3_digitsOfCommand_42 : decode cX3_digitsOfCommand 42 = .ok (.iconst 2, 1) := by decide +kernel
theorem dX3_digitsOfCommand_43 : decode cX3_digitsOfCommand 43 = .ok (.ireturn, 1) := by decide +kernel
theorem dX3_digitsOfCommand_44 : decode cX3_digitsOfCommand 44 = .ok (.iconst 1, 1) := by decide +kernel
theorem dX3_digitsOfCommand_45 : decode cX3_digitsOfCommand 45 = .ok (.ireturn, 1) := by decide +kernel
theorem dX3_digitsOfCommand_46 : decode cX3_digitsOfCommand 46 = .ok (.iconst 0, 1) := by decide +kernel
theorem dX3_digitsOfCommand_47 : decode cX3_digitsOfCommand 47 = .ok (.ireturn, 1) := by decide +kernel
set_option maxRecDepth 20000 in
theorem ggX3_firstWrong_X3_wrongInHead : GoodIn wsX3_firstWrong wsX3_wrongInHead := goodIn_r _ [6, 7, 8, 9, 5, 10, 1, 11, 12, 13, 14, 15, 16, 17, 18, 19, 20, 21, 22, 23, 44, 45] (by decide +kernel) (by decide +kernel)
set_option maxRecDepth 20000 in
theorem gX3_firstWrong_X3_wrongInHead : GoodIn wsX3_firstWrong (wsV RX3 30 RX3 yX3_wrongInHead wsX3_wrongInHead) := goodIn_app (goodIn_of _ (by decide +kernel)) ggX3_firstWrong_X3_wrongInHead
set_option maxRecDepth 20000 in
theorem ggX3_firstWrong_X3_wrongInCommand : GoodIn wsX3_firstWrong wsX3_wrongInCommand := goodIn_r _ [27, 28, 29, 30, 5, 31, 7, 8, 9, 10, 1, 11, 12, 13, 14, 15, 32, 33, 34, 35, 36, 37, 38, 39, 40, 41, 42, 43, 44, 45] (by decide +kernel) (by decide +kernel)
set_option maxRecDepth 20000 in
theorem gX3_firstWrong_X3_wrongInCommand : GoodIn wsX3_firstWrong (wsV RX3 34 RX3 yX3_wrongInCommand wsX3_wrongInCommand) := goodIn_app (goodIn_of _ (by decide +kernel)) ggX3_firstWrong_X3_wrongInCommand
set_option maxRecDepth 20000 in
theorem ggX3_firstWrong_X3_digitsOfCommand : GoodIn wsX3_firstWrong wsX3_digitsOfCommand := goodIn_r _ [31, 7, 8, 9, 5, 10, 1, 11, 44, 45] (by decide +kernel) (by decide +kernel)
set_option maxRecDepth 20000 in
theorem gX3_firstWrong_X3_digitsOfCommand : GoodIn wsX3_firstWrong (wsV RX3 37 RX3 yX3_digitsOfCommand wsX3_digitsOfCommand) := goodIn_app (goodIn_of _ (by decide +kernel)) ggX3_firstWrong_X3_digitsOfCommand
theorem dX3_firstWrong_0 : decode cX3_firstWrong 0 = .ok (.aload_n 0, 1) := by decide +kernel
theorem dX3_firstWrong_1 : decode cX3_firstWrong 1 = .ok (.invokevirtual 30, 3) := by decide +kernel
theorem dX3_firstWrong_4 : decode cX3_firstWrong 4 = .ok (.istore_n 1, 1) := by decide +kernel
theorem dX3_firstWrong_5 : decode cX3_firstWrong 5 = .ok (.bipush 6, 2) := by decide +kernel
theorem dX3_firstWrong_7 : decode cX3_firstWrong 7 = .ok (.istore_n 2, 1) := by decide +kernel
theorem dX3_firstWrong_8 : decode cX3_firstWrong 8 = .ok (.iload_n 2, 1) := by decide +kernel
theorem dX3_firstWrong_9 : decode cX3_firstWrong 9 = .ok (.aload_n 0, 1) := by decide +kernel
theorem dX3_firstWrong_10 : decode cX3_firstWrong 10 = .ok (.getfield 15, 3) := by decide +kernel
theorem dX3_firstWrong_13 : decode cX3_firstWrong 13 = .ok (.if_icmp .ge 27, 3) := by decide +kernel
theorem dX3_firstWrong_16 : decode cX3_firstWrong 16 = .ok (.iload_n 1, 1) := by decide +kernel
theorem dX3_firstWrong_17 : decode cX3_firstWrong 17 = .ok (.iconst (-1), 1) := by decide +kernel
theorem dX3_firstWrong_18 : decode cX3_firstWrong 18 = .ok (.if_icmp .ne 22, 3) := by decide +kernel
theorem dX3_firstWrong_21 : decode cX3_firstWrong 21 = .ok (.aload_n 0, 1) := by decide +kernel
theorem dX3_firstWrong_22 : decode cX3_firstWrong 22 = .ok (.iload_n 2, 1) := by decide +kernel
theorem dX3_firstWrong_23 : decode cX3_firstWrong 23 = .ok (.invokevirtual 34, 3) := by decide +kernel
theorem dX3_firstWrong_26 : decode cX3_firstWrong 26 = .ok (.istore_n 1, 1) := by decide +kernel
theorem dX3_firstWrong_27 : decode cX3_firstWrong 27 = .ok (.iload_n 2, 1) := by decide +kernel
theorem dX3_firstWrong_28 : decode cX3_firstWrong 28 = .ok (.iconst 1, 1) := by decide +kernel
theorem dX3_firstWrong_29 : decode cX3_firstWrong 29 = .ok (.aload_n 0, 1) := by decide +kernel
theorem dX3_firstWrong_30 : decode cX3_firstWrong 30 = .ok (.iload_n 2, 1) := by decide +kernel
theorem dX3_firstWrong_31 : decode cX3_firstWrong 31 = .ok (.invokevirtual 37, 3) := by decide +kernel
theorem dX3_firstWrong_34 : decode cX3_firstWrong 34 = .ok (.iadd, 1) := by decide +kernel
theorem dX3_firstWrong_35 : decode cX3_firstWrong 35 = .ok (.iadd, 1) := by decide +kernel
theorem dX3_firstWrong_36 : decode cX3_firstWrong 36 = .ok (.istore_n 2, 1) := by decide +kernel
theorem dX3_firstWrong_37 : decode cX3_firstWrong 37 = .ok (.goto (-29), 3) := by decide +kernel
theorem dX3_firstWrong_40 : decode cX3_firstWrong 40 = .ok (.iload_n 1, 1) := by decide +kernel
theorem dX3_firstWrong_41 : decode cX3_firstWrong 41 = .ok (.ireturn, 1) := by decide +kernel
set_option maxRecDepth 20000 in
theorem ggX3_wrongInHead_X3_signAt : GoodIn wsX3_wrongInHead wsX3_signAt := goodIn_r _ [5, 6, 7, 20, 21] (by decide +kernel) (by decide +kernel)
set_option maxRecDepth 20000 in
theorem gX3_wrongInHead_X3_signAt : GoodIn wsX3_wrongInHead (wsV RX3 23 RX3 yX3_signAt wsX3_signAt) := goodIn_app (goodIn_of _ (by decide +kernel)) ggX3_wrongInHead_X3_signAt
set_option maxRecDepth 20000 in
theorem ggX3_wrongInHead_X3_digitAt : GoodIn wsX3_wrongInHead wsX3_digitAt := goodIn_r _ [11, 1, 2, 3, 4, 5, 6, 7, 20, 21] (by decide +kernel) (by decide +kernel)
set_option maxRecDepth 20000 in
theorem gX3_wrongInHead_X3_digitAt : GoodIn wsX3_wrongInHead (wsV RX3 27 RX3 yX3_digitAt wsX3_digitAt) := goodIn_app (goodIn_of _ (by decide +kernel)) ggX3_wrongInHead_X3_digitAt
set_option maxRecDepth 20000 in
theorem ggX3_wrongInHead_X4_isSettingValue : GoodIn wsX3_wrongInHead wsX4_isSettingValue := goodIn_r _ [14, 15, 16, 17, 18, 13, 19] (by decide +kernel) (by decide +kernel)
set_option maxRecDepth 20000 in
theorem gX3_wrongInHead_X4_isSettingValue_n40 : GoodIn wsX3_wrongInHead (wsX4_isSettingValue) := ggX3_wrongInHead_X4_isSettingValue
theorem dX3_wrongInHead_0 : decode cX3_wrongInHead 0 = .ok (.aload_n 0, 1) := by decide +kernel
theorem dX3_wrongInHead_1 : decode cX3_wrongInHead 1 = .ok (.iconst 0, 1) := by decide +kernel
theorem dX3_wrongInHead_2 : decode cX3_wrongInHead 2 = .ok (.invokevirtual 23, 3) := by decide +kernel
theorem dX3_wrongInHead_5 : decode cX3_wrongInHead 5 = .ok (.bipush 68, 2) := by decide +kernel
theorem dX3_wrongInHead_7 : decode cX3_wrongInHead 7 = .ok (.if_icmp .eq 5, 3) := by decide +kernel
theorem dX3_wrongInHead_10 : decode cX3_wrongInHead 10 = .ok (.iconst 0, 1) := by decide +kernel
theorem dX3_wrongInHead_11 : decode cX3_wrongInHead 11 = .ok (.ireturn, 1) := by decide +kernel
theorem dX3_wrongInHead_12 : decode cX3_wrongInHead 12 = .ok (.iconst 0, 1) := by decide +kernel
theorem dX3_wrongInHead_13 : decode cX3_wrongInHead 13 = .ok (.istore_n 1, 1) := by decide +kernel
theorem dX3_wrongInHead_14 : decode cX3_wrongInHead 14 = .ok (.iload_n 1, 1) := by decide +kernel
theorem dX3_wrongInHead_15 : decode cX3_wrongInHead 15 = .ok (.iconst 5, 1) := by decide +kernel
theorem dX3_wrongInHead_16 : decode cX3_wrongInHead 16 = .ok (.if_icmp .ge 27, 3) := by decide +kernel
theorem dX3_wrongInHead_19 : decode cX3_wrongInHead 19 = .ok (.iload_n 1, 1) := by decide +kernel
theorem dX3_wrongInHead_20 : decode cX3_wrongInHead 20 = .ok (.aload_n 0, 1) := by decide +kernel
theorem dX3_wrongInHead_21 : decode cX3_wrongInHead 21 = .ok (.iconst 1, 1) := by decide +kernel
theorem dX3_wrongInHead_22 : decode cX3_wrongInHead 22 = .ok (.iload_n 1, 1) := by decide +kernel
theorem dX3_wrongInHead_23 : decode cX3_wrongInHead 23 = .ok (.iadd, 1) := by decide +kernel
theorem dX3_wrongInHead_24 : decode cX3_wrongInHead 24 = .ok (.invokevirtual 27, 3) := by decide +kernel
theorem dX3_wrongInHead_27 : decode cX3_wrongInHead 27 = .ok (.invokestatic 40, 3) := by decide +kernel
theorem dX3_wrongInHead_30 : decode cX3_wrongInHead 30 = .ok (.ifCond .ne 7, 3) := by decide +kernel
theorem dX3_wrongInHead_33 : decode cX3_wrongInHead 33 = .ok (.iconst 1, 1) := by decide +kernel
theorem dX3_wrongInHead_34 : decode cX3_wrongInHead 34 = .ok (.iload_n 1, 1) := by decide +kernel
theorem dX3_wrongInHead_35 : decode cX3_wrongInHead 35 = .ok (.iadd, 1) := by decide +kernel
theorem dX3_wrongInHead_36 : decode cX3_wrongInHead 36 = .ok (.ireturn, 1) := by decide +kernel
theorem dX3_wrongInHead_37 : decode cX3_wrongInHead 37 = .ok (.iinc 1 1, 3) := by decide +kernel
theorem dX3_wrongInHead_40 : decode cX3_wrongInHead 40 = .ok (.goto (-26), 3) := by decide +kernel
theorem dX3_wrongInHead_43 : decode cX3_wrongInHead 43 = .ok (.iconst (-1), 1) := by decide +kernel
theorem dX3_wrongInHead_44 : decode cX3_wrongInHead 44 = .ok (.ireturn, 1) := by decide +kernel
set_option maxRecDepth 20000 in
theorem ggX3_wrongInCommand_X3_digitsOfCommand : GoodIn wsX3_wrongInCommand wsX3_digitsOfCommand := goodIn_r _ [5, 6, 7, 8, 4, 9, 10, 11, 28, 29] (by decide +kernel) (by decide +kernel)
set_option maxRecDepth 20000 in
theorem gX3_wrongInCommand_X3_digitsOfCommand : GoodIn wsX3_wrongInCommand (wsV RX3 37 RX3 yX3_digitsOfCommand wsX3_digitsOfCommand) := goodIn_app (goodIn_of _ (by decide +kernel)) ggX3_wrongInCommand_X3_digitsOfCommand
set_option maxRecDepth 20000 in
theorem ggX3_wrongInCommand_X3_digitAt : GoodIn wsX3_wrongInCommand wsX3_digitAt := goodIn_r _ [15, 6, 7, 8, 4, 9, 10, 11, 28, 29] (by decide +kernel) (by decide +kernel)
set_option maxRecDepth 20000 in
theorem gX3_wrongInCommand_X3_digitAt : GoodIn wsX3_wrongInCommand (wsV RX3 27 RX3 yX3_digitAt wsX3_digitAt) := goodIn_app (goodIn_of _ (by decide +kernel)) ggX3_wrongInCommand_X3_digitAt
set_option maxRecDepth 20000 in
theorem ggX3_wrongInCommand_X3_lowestDigit : GoodIn wsX3_wrongInCommand wsX3_lowestDigit := goodIn_r _ [19, 6, 7, 8, 4, 9, 10, 11, 28, 29] (by decide +kernel) (by decide +kernel)
set_option maxRecDepth 20000 in
theorem gX3_wrongInCommand_X3_lowestDigit : GoodIn wsX3_wrongInCommand (wsV RX3 44 RX3 yX3_lowestDigit wsX3_lowestDigit) := goodIn_app (goodIn_of _ (by decide +kernel)) ggX3_wrongInCommand_X3_lowestDigit
set_option maxRecDepth 20000 in
theorem ggX3_wrongInCommand_X3_highestDigit : GoodIn wsX3_wrongInCommand wsX3_highestDigit := goodIn_r _ [23, 6, 7, 8, 4, 9, 10, 11, 24, 25, 26, 27, 12, 13, 14, 15, 28, 29] (by decide +kernel) (by decide +kernel)
set_option maxRecDepth 20000 in
theorem gX3_wrongInCommand_X3_highestDigit : GoodIn wsX3_wrongInCommand (wsV RX3 47 RX3 yX3_highestDigit wsX3_highestDigit) := goodIn_app (goodIn_of _ (by decide +kernel)) ggX3_wrongInCommand_X3_highestDigit
theorem dX3_wrongInCommand_0 : decode cX3_wrongInCommand 0 = .ok (.aload_n 0, 1) := by decide +kernel
theorem dX3_wrongInCommand_1 : decode cX3_wrongInCommand 1 = .ok (.iload_n 1, 1) := by decide +kernel
theorem dX3_wrongInCommand_2 : decode cX3_wrongInCommand 2 = .ok (.invokevirtual 37, 3) := by decide +kernel
theorem dX3_wrongInCommand_5 : decode cX3_wrongInCommand 5 = .ok (.istore_n 2, 1) := by decide +kernel
theorem dX3_wrongInCommand_6 : decode cX3_wrongInCommand 6 = .ok (.iload_n 2, 1) := by decide +kernel
theorem dX3_wrongInCommand_7 : decode cX3_wrongInCommand 7 = .ok (.ifCond .ne 5, 3) := by decide +kernel
theorem dX3_wrongInCommand_10 : decode cX3_wrongInCommand 10 = .ok (.iload_n 1, 1) := by decide +kernel
theorem dX3_wrongInCommand_11 : decode cX3_wrongInCommand 11 = .ok (.ireturn, 1) := by decide +kernel
theorem dX3_wrongInCommand_12 : decode cX3_wrongInCommand 12 = .ok (.iconst 1, 1) := by decide +kernel
theorem dX3_wrongInCommand_13 : decode cX3_wrongInCommand 13 = .ok (.istore_n 3, 1) := by decide +kernel
theorem dX3_wrongInCommand_14 : decode cX3_wrongInCommand 14 = .ok (.iload_n 3, 1) := by decide +kernel
theorem dX3_wrongInCommand_15 : decode cX3_wrongInCommand 15 = .ok (.iload_n 2, 1) := by decide +kernel
theorem dX3_wrongInCommand_16 : decode cX3_wrongInCommand 16 = .ok (.if_icmp .gt 43, 3) := by decide +kernel
theorem dX3_wrongInCommand_19 : decode cX3_wrongInCommand 19 = .ok (.aload_n 0, 1) := by decide +kernel
theorem dX3_wrongInCommand_20 : decode cX3_wrongInCommand 20 = .ok (.iload_n 1, 1) := by decide +kernel
theorem dX3_wrongInCommand_21 : decode cX3_wrongInCommand 21 = .ok (.iload_n 3, 1) := by decide +kernel
theorem dX3_wrongInCommand_22 : decode cX3_wrongInCommand 22 = .ok (.iadd, 1) := by decide +kernel
theorem dX3_wrongInCommand_23 : decode cX3_wrongInCommand 23 = .ok (.invokevirtual 27, 3) := by decide +kernel
theorem dX3_wrongInCommand_26 : decode cX3_wrongInCommand 26 = .ok (.istore 4, 2) := by decide +kernel
theorem dX3_wrongInCommand_28 : decode cX3_wrongInCommand 28 = .ok (.iload 4, 2) := by decide +kernel
theorem dX3_wrongInCommand_30 : decode cX3_wrongInCommand 30 = .ok (.aload_n 0, 1) := by decide +kernel
theorem dX3_wrongInCommand_31 : decode cX3_wrongInCommand 31 = .ok (.iload_n 1, 1) := by decide +kernel
theorem dX3_wrongInCommand_32 : decode cX3_wrongInCommand 32 = .ok (.invokevirtual 44, 3) := by decide +kernel
theorem dX3_wrongInCommand_35 : decode cX3_wrongInCommand 35 = .ok (.if_icmp .lt 14, 3) := by decide +kernel
theorem dX3_wrongInCommand_38 : decode cX3_wrongInCommand 38 = .ok (.iload 4, 2) := by decide +kernel
theorem dX3_wrongInCommand_40 : decode cX3_wrongInCommand 40 = .ok (.aload_n 0, 1) := by decide +kernel
theorem dX3_wrongInCommand_41 : decode cX3_wrongInCommand 41 = .ok (.iload_n 1, 1) := by decide +kernel
theorem dX3_wrongInCommand_42 : decode cX3_wrongInCommand 42 = .ok (.iload_n 3, 1) := by decide +kernel
theorem dX3_wrongInCommand_43 : decode cX3_wrongInCommand 43 = .ok (.invokevirtual 47, 3) := by decide +kernel
theorem dX3_wrongInCommand_46 : decode cX3_wrongInCommand 46 = .ok (.if_icmp .le 7, 3) := by decide +kernel
theorem dX3_wrongInCommand_49 : decode cX3_wrongInCommand 49 = .ok (.iload_n 1, 1) := by decide +kernel
theorem dX3_wrongInCommand_50 : decode cX3_wrongInCommand 50 = .ok (.iload_n 3, 1) := by decide +kernel
theorem dX3_wrongInCommand_51 : decode cX3_wrongInCommand 51 = .ok (.iadd, 1) := by decide +kernel
theorem dX3_wrongInCommand_52 : decode cX3_wrongInCommand 52 = .ok (.ireturn, 1) := by decide +kernel
theorem dX3_wrongInCommand_53 : decode cX3_wrongInCommand 53 = .ok (.iinc 3 1, 3) := by decide +kernel
theorem dX3_wrongInCommand_56 : decode cX3_wrongInCommand 56 = .ok (.goto (-42), 3) := by decide +kernel
theorem dX3_wrongInCommand_59 : decode cX3_wrongInCommand 59 = .ok (.iconst (-1), 1) := by decide +kernel
theorem dX3_wrongInCommand_60 : decode cX3_wrongInCommand 60 = .ok (.ireturn, 1) := by decide +kernel
set_option maxRecDepth 20000 in
theorem ggX3_lowestDigit_X3_signAt : GoodIn wsX3_lowestDigit wsX3_signAt := goodIn_r _ [5, 6, 7, 8, 9] (by decide +kernel) (by decide +kernel)
set_option maxRecDepth 20000 in
theorem gX3_lowestDigit_X3_signAt : GoodIn wsX3_lowestDigit (wsV RX3 23 RX3 yX3_signAt wsX3_signAt) := goodIn_app (goodIn_of _ (by decide +kernel)) ggX3_lowestDigit_X3_signAt
theorem dX3_lowestDigit_0 : decode cX3_lowestDigit 0 = .ok (.aload_n 0, 1) := by decide +kernel
theorem dX3_lowestDigit_1 : decode cX3_lowestDigit 1 = .ok (.iload_n 1, 1) := by decide +kernel
theorem dX3_lowestDigit_2 : decode cX3_lowestDigit 2 = .ok (.invokevirtual 23, 3) := by decide +kernel
theorem dX3_lowestDigit_5 : decode cX3_lowestDigit 5 = .ok (.bipush 110, 2) := by decide +kernel
theorem dX3_lowestDigit_7 : decode cX3_lowestDigit 7 = .ok (.if_icmp .ne 7, 3) := by decide +kernel
theorem dX3_lowestDigit_10 : decode cX3_lowestDigit 10 = .ok (.iconst 1, 1) := by decide +kernel
theorem dX3_lowestDigit_11 : decode cX3_lowestDigit 11 = .ok (.goto 4, 3) := by decide +kernel
theorem dX3_lowestDigit_14 : decode cX3_lowestDigit 14 = .ok (.iconst 0, 1) := by decide +kernel
theorem dX3_lowestDigit_15 : decode cX3_lowestDigit 15 = .ok (.ireturn, 1) := by decide +kernel
set_option maxRecDepth 20000 in
theorem ggX3_highestDigit_X3_signAt : GoodIn wsX3_highestDigit wsX3_signAt := goodIn_r _ [5, 6, 7, 16, 17] (by decide +kernel) (by decide +kernel)
set_option maxRecDepth 20000 in
theorem gX3_highestDigit_X3_signAt : GoodIn wsX3_highestDigit (wsV RX3 23 RX3 yX3_signAt wsX3_signAt) := goodIn_app (goodIn_of _ (by decide +kernel)) ggX3_highestDigit_X3_signAt
set_option maxRecDepth 20000 in
theorem ggX3_highestDigit_X3_highestOfPair : GoodIn wsX3_highestDigit wsX3_highestOfPair := goodIn_r _ [11, 12, 13, 14, 4, 15, 1, 2, 3, 5, 6, 7, 16, 17] (by decide +kernel) (by decide +kernel)
set_option maxRecDepth 20000 in
theorem gX3_highestDigit_X3_highestOfPair : GoodIn wsX3_highestDigit (wsV RX3 51 RX3 yX3_highestOfPair wsX3_highestOfPair) := goodIn_app (goodIn_of _ (by decide +kernel)) ggX3_highestDigit_X3_highestOfPair
theorem dX3_highestDigit_0 : decode cX3_highestDigit 0 = .ok (.aload_n 0, 1) := by decide +kernel
theorem dX3_highestDigit_1 : decode cX3_highestDigit 1 = .ok (.iload_n 1, 1) := by decide +kernel
theorem dX3_highestDigit_2 : decode cX3_highestDigit 2 = .ok (.invokevirtual 23, 3) := by decide +kernel
theorem dX3_highestDigit_5 : decode cX3_highestDigit 5 = .ok (.bipush 99, 2) := by decide +kernel
theorem dX3_highestDigit_7 : decode cX3_highestDigit 7 = .ok (.if_icmp .ne 14, 3) := by decide +kernel
theorem dX3_highestDigit_10 : decode cX3_highestDigit 10 = .ok (.aload_n 0, 1) := by decide +kernel
theorem dX3_highestDigit_11 : decode cX3_highestDigit 11 = .ok (.iload_n 1, 1) := by decide +kernel
theorem dX3_highestDigit_12 : decode cX3_highestDigit 12 = .ok (.iconst 1, 1) := by decide +kernel
theorem dX3_highestDigit_13 : decode cX3_highestDigit 13 = .ok (.iadd, 1) := by decide +kernel
theorem dX3_highestDigit_14 : decode cX3_highestDigit 14 = .ok (.iload_n 2, 1) := by decide +kernel
theorem dX3_highestDigit_15 : decode cX3_highestDigit 15 = .ok (.bipush 19, 2) := by decide +kernel
theorem dX3_highestDigit_17 : decode cX3_highestDigit 17 = .ok (.invokevirtual 51, 3) := by decide +kernel
theorem dX3_highestDigit_20 : decode cX3_highestDigit 20 = .ok (.ireturn, 1) := by decide +kernel
theorem dX3_highestDigit_21 : decode cX3_highestDigit 21 = .ok (.aload_n 0, 1) := by decide +kernel
theorem dX3_highestDigit_22 : decode cX3_highestDigit 22 = .ok (.iload_n 1, 1) := by decide +kernel
theorem dX3_highestDigit_23 : decode cX3_highestDigit 23 = .ok (.invokevirtual 23, 3) := by decide +kernel
theorem dX3_highestDigit_26 : decode cX3_highestDigit 26 = .ok (.bipush 110, 2) := by decide +kernel
theorem dX3_highestDigit_28 : decode cX3_highestDigit 28 = .ok (.if_icmp .ne 6, 3) := by decide +kernel
theorem dX3_highestDigit_31 : decode cX3_highestDigit 31 = .ok (.bipush 9, 2) := by decide +kernel
theorem dX3_highestDigit_33 : decode cX3_highestDigit 33 = .ok (.ireturn, 1) := by decide +kernel
theorem dX3_highestDigit_34 : decode cX3_highestDigit 34 = .ok (.iload_n 2, 1) := by decide +kernel
theorem dX3_highestDigit_35 : decode cX3_highestDigit 35 = .ok (.tableswitch 47 1 4 #[29, 31, 31, 44], 29) := by decide +kernel
theorem dX3_highestDigit_64 : decode cX3_highestDigit 64 = .ok (.iconst 3, 1) := by decide +kernel
theorem dX3_highestDigit_65 : decode cX3_highestDigit 65 = .ok (.ireturn, 1) := by decide +kernel
theorem dX3_highestDigit_66 : decode cX3_highestDigit 66 = .ok (.aload_n 0, 1) := by decide +kernel
theorem dX3_highestDigit_67 : decode cX3_highestDigit 67 = .ok (.iload_n 1, 1) := by decide +kernel
theorem dX3_highestDigit_68 : decode cX3_highestDigit 68 = .ok (.iconst 2, 1) := by decide +kernel
theorem dX3_highestDigit_69 : decode cX3_highestDigit 69 = .ok (.iadd, 1) := by decide +kernel
theorem dX3_highestDigit_70 : decode cX3_highestDigit 70 = .ok (.iload_n 2, 1) := by decide +kernel
theorem dX3_highestDigit_71 : decode cX3_highestDigit 71 = .ok (.iconst 1, 1) := by decide +kernel
theorem dX3_highestDigit_72 : decode cX3_highestDigit 72 = .ok (.isub, 1) := by decide +kernel
theorem dX3_highestDigit_73 : decode cX3_highestDigit 73 = .ok (.bipush 15, 2) := by decide +kernel
theorem dX3_highestDigit_75 : decode cX3_highestDigit 75 = .ok (.invokevirtual 51, 3) := by decide +kernel
theorem dX3_highestDigit_78 : decode cX3_highestDigit 78 = .ok (.ireturn, 1) := by decide +kernel
theorem dX3_highestDigit_79 : decode cX3_highestDigit 79 = .ok (.bipush 7, 2) := by decide +kernel
theorem dX3_highestDigit_81 : decode cX3_highestDigit 81 = .ok (.ireturn, 1) := by decide +kernel
theorem dX3_highestDigit_82 : decode cX3_highestDigit 82 = .ok (.bipush 9, 2) := by decide +kernel
theorem dX3_highestDigit_84 : decode cX3_highestDigit 84 = .ok (.ireturn, 1) := by decide +kernel
set_option maxRecDepth 20000 in
theorem ggX3_highestOfPair_X3_digitAt : GoodIn wsX3_highestOfPair wsX3_digitAt := goodIn_r _ [5, 6, 7, 8, 4, 9, 10, 11, 12, 13] (by decide +kernel) (by decide +kernel)
set_option maxRecDepth 20000 in
theorem gX3_highestOfPair_X3_digitAt : GoodIn wsX3_highestOfPair (wsV RX3 27 RX3 yX3_digitAt wsX3_digitAt) := goodIn_app (goodIn_of _ (by decide +kernel)) ggX3_highestOfPair_X3_digitAt
theorem dX3_highestOfPair_0 : decode cX3_highestOfPair 0 = .ok (.iload_n 2, 1) := by decide +kernel
theorem dX3_highestOfPair_1 : decode cX3_highestOfPair 1 = .ok (.iconst 2, 1) := by decide +kernel
theorem dX3_highestOfPair_2 : decode cX3_highestOfPair 2 = .ok (.if_icmp .ne 19, 3) := by decide +kernel
theorem dX3_highestOfPair_5 : decode cX3_highestOfPair 5 = .ok (.aload_n 0, 1) := by decide +kernel
theorem dX3_highestOfPair_6 : decode cX3_highestOfPair 6 = .ok (.iload_n 1, 1) := by decide +kernel
theorem dX3_highestOfPair_7 : decode cX3_highestOfPair 7 = .ok (.invokevirtual 27, 3) := by decide +kernel
theorem dX3_highestOfPair_10 : decode cX3_highestOfPair 10 = .ok (.iload_n 3, 1) := by decide +kernel
theorem dX3_highestOfPair_11 : decode cX3_highestOfPair 11 = .ok (.bipush 10, 2) := by decide +kernel
theorem dX3_highestOfPair_13 : decode cX3_highestOfPair 13 = .ok (.idiv, 1) := by decide +kernel
theorem dX3_highestOfPair_14 : decode cX3_highestOfPair 14 = .ok (.if_icmp .ge 7, 3) := by decide +kernel
theorem dX3_highestOfPair_17 : decode cX3_highestOfPair 17 = .ok (.iconst 1, 1) := by decide +kernel
theorem dX3_highestOfPair_18 : decode cX3_highestOfPair 18 = .ok (.goto 4, 3) := by decide +kernel
theorem dX3_highestOfPair_21 : decode cX3_highestOfPair 21 = .ok (.iconst 0, 1) := by decide +kernel
theorem dX3_highestOfPair_22 : decode cX3_highestOfPair 22 = .ok (.istore 4, 2) := by decide +kernel
theorem dX3_highestOfPair_24 : decode cX3_highestOfPair 24 = .ok (.iload 4, 2) := by decide +kernel
theorem dX3_highestOfPair_26 : decode cX3_highestOfPair 26 = .ok (.ifCond .eq 6, 3) := by decide +kernel
theorem dX3_highestOfPair_29 : decode cX3_highestOfPair 29 = .ok (.bipush 9, 2) := by decide +kernel
theorem dX3_highestOfPair_31 : decode cX3_highestOfPair 31 = .ok (.ireturn, 1) := by decide +kernel
theorem dX3_highestOfPair_32 : decode cX3_highestOfPair 32 = .ok (.iload_n 2, 1) := by decide +kernel
theorem dX3_highestOfPair_33 : decode cX3_highestOfPair 33 = .ok (.iconst 1, 1) := by decide +kernel
theorem dX3_highestOfPair_34 : decode cX3_highestOfPair 34 = .ok (.if_icmp .ne 10, 3) := by decide +kernel
theorem dX3_highestOfPair_37 : decode cX3_highestOfPair 37 = .ok (.iload_n 3, 1) := by decide +kernel
theorem dX3_highestOfPair_38 : decode cX3_highestOfPair 38 = .ok (.bipush 10, 2) := by decide +kernel
theorem dX3_highestOfPair_40 : decode cX3_highestOfPair 40 = .ok (.idiv, 1) := by decide +kernel
theorem dX3_highestOfPair_41 : decode cX3_highestOfPair 41 = .ok (.goto 7, 3) := by decide +kernel
theorem dX3_highestOfPair_44 : decode cX3_highestOfPair 44 = .ok (.iload_n 3, 1) := by decide +kernel
theorem dX3_highestOfPair_45 : decode cX3_highestOfPair 45 = .ok (.bipush 10, 2) := by decide +kernel
theorem dX3_highestOfPair_47 : decode cX3_highestOfPair 47 = .ok (.irem, 1) := by decide +kernel
theorem dX3_highestOfPair_48 : decode cX3_highestOfPair 48 = .ok (.ireturn, 1) := by decide +kernel
