set_option maxRecDepth 20000 in
theorem ggX0_init_X4_init : GoodIn wsX0_init wsX4_init := goodIn_ids iaX0_init iaX4_init haX0_init haX4_init imX0_init hmX0_init (by decide +kernel) (by decide +kernel)
set_option maxRecDepth 20000 in
theorem gX0_init_X4_init_n15 : GoodIn wsX0_init (wsX4_init) := ggX0_init_X4_init
theorem dX0_init_0 : decode cX0_init 0 = .ok (.aload_n 0, 1) := by decide +kernel
theorem dX0_init_1 : decode cX0_init 1 = .ok (.invokespecial 1, 3) := by decide +kernel
theorem dX0_init_4 : decode cX0_init 4 = .ok (.aload_n 0, 1) := by decide +kernel
theorem dX0_init_5 : decode cX0_init 5 = .ok (.bipush 24, 2) := by decide +kernel
theorem dX0_init_7 : decode cX0_init 7 = .ok (.anewarray 9, 3) := by decide +kernel
theorem dX0_init_10 : decode cX0_init 10 = .ok (.putfield 11, 3) := by decide +kernel
theorem dX0_init_13 : decode cX0_init 13 = .ok (.iconst 0, 1) := by decide +kernel
theorem dX0_init_14 : decode cX0_init 14 = .ok (.istore_n 1, 1) := by decide +kernel
theorem dX0_init_15 : decode cX0_init 15 = .ok (.iload_n 1, 1) := by decide +kernel
theorem dX0_init_16 : decode cX0_init 16 = .ok (.bipush 24, 2) := by decide +kernel
theorem dX0_init_18 : decode cX0_init 18 = .ok (.if_icmp .ge 22, 3) := by decide +kernel
theorem dX0_init_21 : decode cX0_init 21 = .ok (.aload_n 0, 1) := by decide +kernel
theorem dX0_init_22 : decode cX0_init 22 = .ok (.getfield 11, 3) := by decide +kernel
theorem dX0_init_25 : decode cX0_init 25 = .ok (.iload_n 1, 1) := by decide +kernel
theorem dX0_init_26 : decode cX0_init 26 = .ok (.new 9, 3) := by decide +kernel
theorem dX0_init_29 : decode cX0_init 29 = .ok (.dup, 1) := by decide +kernel
theorem dX0_init_30 : decode cX0_init 30 = .ok (.invokespecial 15, 3) := by decide +kernel
theorem dX0_init_33 : decode cX0_init 33 = .ok (.aastore, 1) := by decide +kernel
theorem dX0_init_34 : decode cX0_init 34 = .ok (.iinc 1 1, 3) := by decide +kernel
theorem dX0_init_37 : decode cX0_init 37 = .ok (.goto (-22), 3) := by decide +kernel
theorem dX0_init_40 : decode cX0_init 40 = .ok (.return_, 1) := by decide +kernel
set_option maxRecDepth 20000 in
theorem ggX0_keep_X4_become : GoodIn wsX0_keep wsX4_become := goodIn_ids iaX0_keep iaX4_become haX0_keep haX4_become imX0_keep hmX0_keep (by decide +kernel) (by decide +kernel)
set_option maxRecDepth 20000 in
theorem gX0_keep_X4_become : GoodIn wsX0_keep (wsV RX0 20 RX4 yX4_become wsX4_become) := goodIn_app (goodIn_ids iaX0_keep [456, 432, 433, 73] haX0_keep rfl imX0_keep hmX0_keep (by decide +kernel) (by decide +kernel)) ggX0_keep_X4_become
theorem dX0_keep_0 : decode cX0_keep 0 = .ok (.aload_n 0, 1) := by decide +kernel
theorem dX0_keep_1 : decode cX0_keep 1 = .ok (.getfield 11, 3) := by decide +kernel
theorem dX0_keep_4 : decode cX0_keep 4 = .ok (.aload_n 0, 1) := by decide +kernel
theorem dX0_keep_5 : decode cX0_keep 5 = .ok (.getfield 16, 3) := by decide +kernel
theorem dX0_keep_8 : decode cX0_keep 8 = .ok (.aaload, 1) := by decide +kernel
theorem dX0_keep_9 : decode cX0_keep 9 = .ok (.aload_n 1, 1) := by decide +kernel
theorem dX0_keep_10 : decode cX0_keep 10 = .ok (.invokevirtual 20, 3) := by decide +kernel
theorem dX0_keep_13 : decode cX0_keep 13 = .ok (.aload_n 0, 1) := by decide +kernel
theorem dX0_keep_14 : decode cX0_keep 14 = .ok (.aload_n 0, 1) := by decide +kernel
theorem dX0_keep_15 : decode cX0_keep 15 = .ok (.getfield 16, 3) := by decide +kernel
theorem dX0_keep_18 : decode cX0_keep 18 = .ok (.iconst 1, 1) := by decide +kernel
theorem dX0_keep_19 : decode cX0_keep 19 = .ok (.iadd, 1) := by decide +kernel
theorem dX0_keep_20 : decode cX0_keep 20 = .ok (.bipush 24, 2) := by decide +kernel
theorem dX0_keep_22 : decode cX0_keep 22 = .ok (.irem, 1) := by decide +kernel
theorem dX0_keep_23 : decode cX0_keep 23 = .ok (.putfield 16, 3) := by decide +kernel
theorem dX0_keep_26 : decode cX0_keep 26 = .ok (.aload_n 0, 1) := by decide +kernel
theorem dX0_keep_27 : decode cX0_keep 27 = .ok (.aload_n 0, 1) := by decide +kernel
theorem dX0_keep_28 : decode cX0_keep 28 = .ok (.getfield 24, 3) := by decide +kernel
theorem dX0_keep_31 : decode cX0_keep 31 = .ok (.iconst 1, 1) := by decide +kernel
theorem dX0_keep_32 : decode cX0_keep 32 = .ok (.iadd, 1) := by decide +kernel
theorem dX0_keep_33 : decode cX0_keep 33 = .ok (.bipush 24, 2) := by decide +kernel
theorem dX0_keep_35 : decode cX0_keep 35 = .ok (.invokestatic 27, 3) := by decide +kernel
theorem dX0_keep_38 : decode cX0_keep 38 = .ok (.putfield 24, 3) := by decide +kernel
theorem dX0_keep_41 : decode cX0_keep 41 = .ok (.return_, 1) := by decide +kernel
set_option maxRecDepth 20000 in
theorem ggX0_takeBack_X4_become : GoodIn wsX0_takeBack wsX4_become := goodIn_ids iaX0_takeBack iaX4_become haX0_takeBack haX4_become imX0_takeBack hmX0_takeBack (by decide +kernel) (by decide +kernel)
set_option maxRecDepth 20000 in
theorem gX0_takeBack_X4_become : GoodIn wsX0_takeBack (wsV RX0 20 RX4 yX4_become wsX4_become) := goodIn_app (goodIn_ids iaX0_takeBack [456, 432, 433, 73] haX0_takeBack rfl imX0_takeBack hmX0_takeBack (by decide +kernel) (by decide +kernel)) ggX0_takeBack_X4_become
theorem dX0_takeBack_0 : decode cX0_takeBack 0 = .ok (.aload_n 0, 1) := by decide +kernel
theorem dX0_takeBack_1 : decode cX0_takeBack 1 = .ok (.getfield 24, 3) := by decide +kernel
theorem dX0_takeBack_4 : decode cX0_takeBack 4 = .ok (.ifCond .le 42, 3) := by decide +kernel
theorem dX0_takeBack_7 : decode cX0_takeBack 7 = .ok (.aload_n 0, 1) := by decide +kernel
theorem dX0_takeBack_8 : decode cX0_takeBack 8 = .ok (.aload_n 0, 1) := by decide +kernel
theorem dX0_takeBack_9 : decode cX0_takeBack 9 = .ok (.getfield 16, 3) := by decide +kernel
theorem dX0_takeBack_12 : decode cX0_takeBack 12 = .ok (.bipush 24, 2) := by decide +kernel
theorem dX0_takeBack_14 : decode cX0_takeBack 14 = .ok (.iadd, 1) := by decide +kernel
theorem dX0_takeBack_15 : decode cX0_takeBack 15 = .ok (.iconst 1, 1) := by decide +kernel
theorem dX0_takeBack_16 : decode cX0_takeBack 16 = .ok (.isub, 1) := by decide +kernel
theorem dX0_takeBack_17 : decode cX0_takeBack 17 = .ok (.bipush 24, 2) := by decide +kernel
theorem dX0_takeBack_19 : decode cX0_takeBack 19 = .ok (.irem, 1) := by decide +kernel
theorem dX0_takeBack_20 : decode cX0_takeBack 20 = .ok (.putfield 16, 3) := by decide +kernel
theorem dX0_takeBack_23 : decode cX0_takeBack 23 = .ok (.aload_n 0, 1) := by decide +kernel
theorem dX0_takeBack_24 : decode cX0_takeBack 24 = .ok (.dup, 1) := by decide +kernel
theorem dX0_takeBack_25 : decode cX0_takeBack 25 = .ok (.getfield 24, 3) := by decide +kernel
theorem dX0_takeBack_28 : decode cX0_takeBack 28 = .ok (.iconst 1, 1) := by decide +kernel
theorem dX0_takeBack_29 : decode cX0_takeBack 29 = .ok (.isub, 1) := by decide +kernel
theorem dX0_takeBack_30 : decode cX0_takeBack 30 = .ok (.putfield 24, 3) := by decide +kernel
theorem dX0_takeBack_33 : decode cX0_takeBack 33 = .ok (.aload_n 1, 1) := by decide +kernel
theorem dX0_takeBack_34 : decode cX0_takeBack 34 = .ok (.aload_n 0, 1) := by decide +kernel
theorem dX0_takeBack_35 : decode cX0_takeBack 35 = .ok (.getfield 11, 3) := by decide +kernel
theorem dX0_takeBack_38 : decode cX0_takeBack 38 = .ok (.aload_n 0, 1) := by decide +kernel
theorem dX0_takeBack_39 : decode cX0_takeBack 39 = .ok (.getfield 16, 3) := by decide +kernel
theorem dX0_takeBack_42 : decode cX0_takeBack 42 = .ok (.aaload, 1) := by decide +kernel
theorem dX0_takeBack_43 : decode cX0_takeBack 43 = .ok (.invokevirtual 20, 3) := by decide +kernel
theorem dX0_takeBack_46 : decode cX0_takeBack 46 = .ok (.aload_n 0, 1) := by decide +kernel
theorem dX0_takeBack_47 : decode cX0_takeBack 47 = .ok (.getfield 24, 3) := by decide +kernel
theorem dX0_takeBack_50 : decode cX0_takeBack 50 = .ok (.ireturn, 1) := by decide +kernel
theorem dX0_forget_0 : decode cX0_forget 0 = .ok (.aload_n 0, 1) := by decide +kernel
theorem dX0_forget_1 : decode cX0_forget 1 = .ok (.iconst 0, 1) := by decide +kernel
theorem dX0_forget_2 : decode cX0_forget 2 = .ok (.putfield 24, 3) := by decide +kernel
theorem dX0_forget_5 : decode cX0_forget 5 = .ok (.return_, 1) := by decide +kernel
theorem dX1_init_0 : decode cX1_init 0 = .ok (.aload_n 0, 1) := by decide +kernel
theorem dX1_init_1 : decode cX1_init 1 = .ok (.invokespecial 3, 3) := by decide +kernel
theorem dX1_init_4 : decode cX1_init 4 = .ok (.aload_n 0, 1) := by decide +kernel
theorem dX1_init_5 : decode cX1_init 5 = .ok (.bipush 16, 2) := by decide +kernel
theorem dX1_init_7 : decode cX1_init 7 = .ok (.newarray .int, 2) := by decide +kernel
theorem dX1_init_9 : decode cX1_init 9 = .ok (.putfield 11, 3) := by decide +kernel
theorem dX1_init_12 : decode cX1_init 12 = .ok (.aload_n 0, 1) := by decide +kernel
theorem dX1_init_13 : decode cX1_init 13 = .ok (.aload_n 1, 1) := by decide +kernel
theorem dX1_init_14 : decode cX1_init 14 = .ok (.putfield 15, 3) := by decide +kernel
theorem dX1_init_17 : decode cX1_init 17 = .ok (.return_, 1) := by decide +kernel
set_option maxRecDepth 20000 in
theorem ggX1_answer_X1_sizeBody : GoodIn wsX1_answer wsX1_sizeBody := goodIn_ids iaX1_answer iaX1_sizeBody haX1_answer haX1_sizeBody imX1_answer hmX1_answer (by decide +kernel) (by decide +kernel)
set_option maxRecDepth 20000 in
theorem gX1_answer_X1_sizeBody : GoodIn wsX1_answer (wsV RX1 23 RX1 yX1_sizeBody wsX1_sizeBody) := goodIn_app (goodIn_ids iaX1_answer [789, 791, 32, 76] haX1_answer rfl imX1_answer hmX1_answer (by decide +kernel) (by decide +kernel)) ggX1_answer_X1_sizeBody
set_option maxRecDepth 20000 in
theorem ggX1_answer_X1_markBody : GoodIn wsX1_answer wsX1_markBody := goodIn_ids iaX1_answer iaX1_markBody haX1_answer haX1_markBody imX1_answer hmX1_answer (by decide +kernel) (by decide +kernel)
set_option maxRecDepth 20000 in
theorem gX1_answer_X1_markBody : GoodIn wsX1_answer (wsV RX1 27 RX1 yX1_markBody wsX1_markBody) := goodIn_app (goodIn_ids iaX1_answer [795, 797, 33, 76] haX1_answer rfl imX1_answer hmX1_answer (by decide +kernel) (by decide +kernel)) ggX1_answer_X1_markBody
set_option maxRecDepth 20000 in
theorem ggX1_answer_X1_gives : GoodIn wsX1_answer wsX1_gives := goodIn_ids iaX1_answer iaX1_gives haX1_answer haX1_gives imX1_answer hmX1_answer (by decide +kernel) (by decide +kernel)
set_option maxRecDepth 20000 in
theorem gX1_answer_X1_gives : GoodIn wsX1_answer (wsV RX1 30 RX1 yX1_gives wsX1_gives) := goodIn_app (goodIn_ids iaX1_answer [801, 803, 34, 76] haX1_answer rfl imX1_answer hmX1_answer (by decide +kernel) (by decide +kernel)) ggX1_answer_X1_gives
theorem dX1_answer_0 : decode cX1_answer 0 = .ok (.aload_n 0, 1) := by decide +kernel
theorem dX1_answer_1 : decode cX1_answer 1 = .ok (.iconst 0, 1) := by decide +kernel
theorem dX1_answer_2 : decode cX1_answer 2 = .ok (.putfield 19, 3) := by decide +kernel
theorem dX1_answer_5 : decode cX1_answer 5 = .ok (.aload_n 0, 1) := by decide +kernel
theorem dX1_answer_6 : decode cX1_answer 6 = .ok (.iload_n 2, 1) := by decide +kernel
theorem dX1_answer_7 : decode cX1_answer 7 = .ok (.ifCond .ne 11, 3) := by decide +kernel
theorem dX1_answer_10 : decode cX1_answer 10 = .ok (.aload_n 0, 1) := by decide +kernel
theorem dX1_answer_11 : decode cX1_answer 11 = .ok (.iload_n 1, 1) := by decide +kernel
theorem dX1_answer_12 : decode cX1_answer 12 = .ok (.invokevirtual 23, 3) := by decide +kernel
theorem dX1_answer_15 : decode cX1_answer 15 = .ok (.goto 8, 3) := by decide +kernel
theorem dX1_answer_18 : decode cX1_answer 18 = .ok (.aload_n 0, 1) := by decide +kernel
theorem dX1_answer_19 : decode cX1_answer 19 = .ok (.iload_n 1, 1) := by decide +kernel
theorem dX1_answer_20 : decode cX1_answer 20 = .ok (.invokevirtual 27, 3) := by decide +kernel
theorem dX1_answer_23 : decode cX1_answer 23 = .ok (.iload_n 1, 1) := by decide +kernel
theorem dX1_answer_24 : decode cX1_answer 24 = .ok (.iconst 1, 1) := by decide +kernel
theorem dX1_answer_25 : decode cX1_answer 25 = .ok (.invokevirtual 30, 3) := by decide +kernel
theorem dX1_answer_28 : decode cX1_answer 28 = .ok (.ireturn, 1) := by decide +kernel
theorem dX1_begun_0 : decode cX1_begun 0 = .ok (.iload_n 1, 1) := by decide +kernel
theorem dX1_begun_1 : decode cX1_begun 1 = .ok (.ifCond .lt 20, 3) := by decide +kernel
theorem dX1_begun_4 : decode cX1_begun 4 = .ok (.iload_n 1, 1) := by decide +kernel
theorem dX1_begun_5 : decode cX1_begun 5 = .ok (.aload_n 0, 1) := by decide +kernel
theorem dX1_begun_6 : decode cX1_begun 6 = .ok (.getfield 19, 3) := by decide +kernel
theorem dX1_begun_9 : decode cX1_begun 9 = .ok (.if_icmp .ge 12, 3) := by decide +kernel
theorem dX1_begun_12 : decode cX1_begun 12 = .ok (.aload_n 0, 1) := by decide +kernel
theorem dX1_begun_13 : decode cX1_begun 13 = .ok (.getfield 11, 3) := by decide +kernel
theorem dX1_begun_16 : decode cX1_begun 16 = .ok (.iload_n 1, 1) := by decide +kernel
theorem dX1_begun_17 : decode cX1_begun 17 = .ok (.iaload, 1) := by decide +kernel
theorem dX1_begun_18 : decode cX1_begun 18 = .ok (.goto 5, 3) := by decide +kernel
theorem dX1_begun_21 : decode cX1_begun 21 = .ok (.ldc 34, 2) := by decide +kernel
theorem dX1_begun_23 : decode cX1_begun 23 = .ok (.ireturn, 1) := by decide +kernel
theorem dX1_sizeBody_0 : decode cX1_sizeBody 0 = .ok (.aload_n 0, 1) := by decide +kernel
theorem dX1_sizeBody_1 : decode cX1_sizeBody 1 = .ok (.getfield 15, 3) := by decide +kernel
theorem dX1_sizeBody_4 : decode cX1_sizeBody 4 = .ok (.getfield 35, 3) := by decide +kernel
theorem dX1_sizeBody_7 : decode cX1_sizeBody 7 = .ok (.iload_n 1, 1) := by decide +kernel
theorem dX1_sizeBody_8 : decode cX1_sizeBody 8 = .ok (.iaload, 1) := by decide +kernel
theorem dX1_sizeBody_9 : decode cX1_sizeBody 9 = .ok (.istore_n 2, 1) := by decide +kernel
theorem dX1_sizeBody_10 : decode cX1_sizeBody 10 = .ok (.iload_n 2, 1) := by decide +kernel
theorem dX1_sizeBody_11 : decode cX1_sizeBody 11 = .ok (.ifCond .lt 19, 3) := by decide +kernel
theorem dX1_sizeBody_14 : decode cX1_sizeBody 14 = .ok (.iload_n 2, 1) := by decide +kernel
theorem dX1_sizeBody_15 : decode cX1_sizeBody 15 = .ok (.getstatic 40, 3) := by decide +kernel
theorem dX1_sizeBody_18 : decode cX1_sizeBody 18 = .ok (.arraylength, 1) := by decide +kernel
theorem dX1_sizeBody_19 : decode cX1_sizeBody 19 = .ok (.if_icmp .ge 11, 3) := by decide +kernel
theorem dX1_sizeBody_22 : decode cX1_sizeBody 22 = .ok (.getstatic 40, 3) := by decide +kernel
theorem dX1_sizeBody_25 : decode cX1_sizeBody 25 = .ok (.iload_n 2, 1) := by decide +kernel
theorem dX1_sizeBody_26 : decode cX1_sizeBody 26 = .ok (.iaload, 1) := by decide +kernel
theorem dX1_sizeBody_27 : decode cX1_sizeBody 27 = .ok (.goto 8, 3) := by decide +kernel
theorem dX1_sizeBody_30 : decode cX1_sizeBody 30 = .ok (.getstatic 40, 3) := by decide +kernel
theorem dX1_sizeBody_33 : decode cX1_sizeBody 33 = .ok (.iconst 0, 1) := by decide +kernel
theorem dX1_sizeBody_34 : decode cX1_sizeBody 34 = .ok (.iaload, 1) := by decide +kernel
theorem dX1_sizeBody_35 : decode cX1_sizeBody 35 = .ok (.ireturn, 1) := by decide +kernel
theorem dX1_markBody_0 : decode cX1_markBody 0 = .ok (.aload_n 0, 1) := by decide +kernel
theorem dX1_markBody_1 : decode cX1_markBody 1 = .ok (.getfield 15, 3) := by decide +kernel
theorem dX1_markBody_4 : decode cX1_markBody 4 = .ok (.getfield 35, 3) := by decide +kernel
theorem dX1_markBody_7 : decode cX1_markBody 7 = .ok (.iload_n 1, 1) := by decide +kernel
theorem dX1_markBody_8 : decode cX1_markBody 8 = .ok (.iaload, 1) := by decide +kernel
theorem dX1_markBody_9 : decode cX1_markBody 9 = .ok (.istore_n 2, 1) := by decide +kernel
theorem dX1_markBody_10 : decode cX1_markBody 10 = .ok (.iload_n 2, 1) := by decide +kernel
theorem dX1_markBody_11 : decode cX1_markBody 11 = .ok (.ifCond .lt 19, 3) := by decide +kernel
theorem dX1_markBody_14 : decode cX1_markBody 14 = .ok (.iload_n 2, 1) := by decide +kernel
theorem dX1_markBody_15 : decode cX1_markBody 15 = .ok (.getstatic 43, 3) := by decide +kernel
theorem dX1_markBody_18 : decode cX1_markBody 18 = .ok (.arraylength, 1) := by decide +kernel
theorem dX1_markBody_19 : decode cX1_markBody 19 = .ok (.if_icmp .ge 11, 3) := by decide +kernel
theorem dX1_markBody_22 : decode cX1_markBody 22 = .ok (.getstatic 43, 3) := by decide +kernel
theorem dX1_markBody_25 : decode cX1_markBody 25 = .ok (.iload_n 2, 1) := by decide +kernel
theorem dX1_markBody_26 : decode cX1_markBody 26 = .ok (.iaload, 1) := by decide +kernel
theorem dX1_markBody_27 : decode cX1_markBody 27 = .ok (.goto 8, 3) := by decide +kernel
theorem dX1_markBody_30 : decode cX1_markBody 30 = .ok (.getstatic 43, 3) := by decide +kernel
theorem dX1_markBody_33 : decode cX1_markBody 33 = .ok (.iconst 0, 1) := by decide +kernel
theorem dX1_markBody_34 : decode cX1_markBody 34 = .ok (.iaload, 1) := by decide +kernel
theorem dX1_markBody_35 : decode cX1_markBody 35 = .ok (.ireturn, 1) := by decide +kernel
set_option maxRecDepth 20000 in
theorem ggX1_gives_X1_begins : GoodIn wsX1_gives wsX1_begins := goodIn_ids iaX1_gives iaX1_begins haX1_gives haX1_begins imX1_gives hmX1_gives (by decide +kernel) (by decide +kernel)
set_option maxRecDepth 20000 in
theorem gX1_gives_X1_begins : GoodIn wsX1_gives (wsV RX1 47 RX1 yX1_begins wsX1_begins) := goodIn_app (goodIn_ids iaX1_gives [806, 808, 35, 76] haX1_gives rfl imX1_gives hmX1_gives (by decide +kernel) (by decide +kernel)) ggX1_gives_X1_begins
set_option maxRecDepth 20000 in
theorem ggX1_gives_X1_gives : GoodIn wsX1_gives wsX1_gives := goodIn_ids iaX1_gives iaX1_gives haX1_gives haX1_gives imX1_gives hmX1_gives (by decide +kernel) (by decide +kernel)
set_option maxRecDepth 20000 in
theorem gX1_gives_X1_gives : GoodIn wsX1_gives (wsV RX1 30 RX1 yX1_gives wsX1_gives) := goodIn_app (goodIn_ids iaX1_gives [801, 803, 34, 76] haX1_gives rfl imX1_gives hmX1_gives (by decide +kernel) (by decide +kernel)) ggX1_gives_X1_gives
set_option maxRecDepth 20000 in
theorem ggX1_gives_X1_markBody : GoodIn wsX1_gives wsX1_markBody := goodIn_ids iaX1_gives iaX1_markBody haX1_gives haX1_markBody imX1_gives hmX1_gives (by decide +kernel) (by decide +kernel)
set_option maxRecDepth 20000 in
theorem gX1_gives_X1_markBody : GoodIn wsX1_gives (wsV RX1 27 RX1 yX1_markBody wsX1_markBody) := goodIn_app (goodIn_ids iaX1_gives [795, 797, 33, 76] haX1_gives rfl imX1_gives hmX1_gives (by decide +kernel) (by decide +kernel)) ggX1_gives_X1_markBody
set_option maxRecDepth 20000 in
theorem ggX1_gives_X1_sizeBody : GoodIn wsX1_gives wsX1_sizeBody := goodIn_ids iaX1_gives iaX1_sizeBody haX1_gives haX1_sizeBody imX1_gives hmX1_gives (by decide +kernel) (by decide +kernel)
set_option maxRecDepth 20000 in
theorem gX1_gives_X1_sizeBody : GoodIn wsX1_gives (wsV RX1 23 RX1 yX1_sizeBody wsX1_sizeBody) := goodIn_app (goodIn_ids iaX1_gives [789, 791, 32, 76] haX1_gives rfl imX1_gives hmX1_gives (by decide +kernel) (by decide +kernel)) ggX1_gives_X1_sizeBody
theorem dX1_gives_0 : decode cX1_gives 0 = .ok (.iload_n 3, 1) := by decide +kernel
theorem dX1_gives_1 : decode cX1_gives 1 = .ok (.iconst 5, 1) := by decide +kernel
theorem dX1_gives_2 : decode cX1_gives 2 = .ok (.if_icmp .le 6, 3) := by decide +kernel
theorem dX1_gives_5 : decode cX1_gives 5 = .ok (.ldc 46, 2) := by decide +kernel
theorem dX1_gives_7 : decode cX1_gives 7 = .ok (.ireturn, 1) := by decide +kernel
theorem dX1_gives_8 : decode cX1_gives 8 = .ok (.aload_n 0, 1) := by decide +kernel
theorem dX1_gives_9 : decode cX1_gives 9 = .ok (.iload_n 1, 1) := by decide +kernel
theorem dX1_gives_10 : decode cX1_gives 10 = .ok (.invokevirtual 47, 3) := by decide +kernel
theorem dX1_gives_13 : decode cX1_gives 13 = .ok (.iload_n 3, 1) := by decide +kernel
theorem dX1_gives_14 : decode cX1_gives 14 = .ok (.iconst 1, 1) := by decide +kernel
theorem dX1_gives_15 : decode cX1_gives 15 = .ok (.iadd, 1) := by decide +kernel
theorem dX1_gives_16 : decode cX1_gives 16 = .ok (.istore 4, 2) := by decide +kernel
theorem dX1_gives_18 : decode cX1_gives 18 = .ok (.iload_n 1, 1) := by decide +kernel
theorem dX1_gives_19 : decode cX1_gives 19 = .ok (.tableswitch 213 10 24 #[73, 83, 106, 117, 130, 213, 213, 213, 213, 213, 142, 144, 164, 178, 201], 73) := by decide +kernel
theorem dX1_gives_92 : decode cX1_gives 92 = .ok (.aload_n 0, 1) := by decide +kernel
theorem dX1_gives_93 : decode cX1_gives 93 = .ok (.getfield 15, 3) := by decide +kernel
theorem dX1_gives_96 : decode cX1_gives 96 = .ok (.getfield 51, 3) := by decide +kernel
theorem dX1_gives_99 : decode cX1_gives 99 = .ok (.iload_n 2, 1) := by decide +kernel
theorem dX1_gives_100 : decode cX1_gives 100 = .ok (.iaload, 1) := by decide +kernel
theorem dX1_gives_101 : decode cX1_gives 101 = .ok (.ireturn, 1) := by decide +kernel
theorem dX1_gives_102 : decode cX1_gives 102 = .ok (.aload_n 0, 1) := by decide +kernel
theorem dX1_gives_103 : decode cX1_gives 103 = .ok (.bipush 10, 2) := by decide +kernel
theorem dX1_gives_105 : decode cX1_gives 105 = .ok (.iload_n 2, 1) := by decide +kernel
theorem dX1_gives_106 : decode cX1_gives 106 = .ok (.iload 4, 2) := by decide +kernel
theorem dX1_gives_108 : decode cX1_gives 108 = .ok (.invokevirtual 30, 3) := by decide +kernel
theorem dX1_gives_111 : decode cX1_gives 111 = .ok (.aload_n 0, 1) := by decide +kernel
theorem dX1_gives_112 : decode cX1_gives 112 = .ok (.aload_n 0, 1) := by decide +kernel
theorem dX1_gives_113 : decode cX1_gives 113 = .ok (.iload_n 2, 1) := by decide +kernel
theorem dX1_gives_114 : decode cX1_gives 114 = .ok (.invokevirtual 27, 3) := by decide +kernel
theorem dX1_gives_117 : decode cX1_gives 117 = .ok (.iload_n 2, 1) := by decide +kernel
theorem dX1_gives_118 : decode cX1_gives 118 = .ok (.iload 4, 2) := by decide +kernel
theorem dX1_gives_120 : decode cX1_gives 120 = .ok (.invokevirtual 30, 3) := by decide +kernel
theorem dX1_gives_123 : decode cX1_gives 123 = .ok (.iadd, 1) := by decide +kernel
theorem dX1_gives_124 : decode cX1_gives 124 = .ok (.ireturn, 1) := by decide +kernel
theorem dX1_gives_125 : decode cX1_gives 125 = .ok (.aload_n 0, 1) := by decide +kernel
theorem dX1_gives_126 : decode cX1_gives 126 = .ok (.bipush 11, 2) := by decide +kernel
theorem dX1_gives_128 : decode cX1_gives 128 = .ok (.iload_n 2, 1) := by decide +kernel
theorem dX1_gives_129 : decode cX1_gives 129 = .ok (.iload 4, 2) := by decide +kernel
theorem dX1_gives_131 : decode cX1_gives 131 = .ok (.invokevirtual 30, 3) := by decide +kernel
theorem dX1_gives_134 : decode cX1_gives 134 = .ok (.ineg, 1) := by decide +kernel
theorem dX1_gives_135 : decode cX1_gives 135 = .ok (.ireturn, 1) := by decide +kernel
theorem dX1_gives_136 : decode cX1_gives 136 = .ok (.aload_n 0, 1) := by decide +kernel
theorem dX1_gives_137 : decode cX1_gives 137 = .ok (.bipush 10, 2) := by decide +kernel
theorem dX1_gives_139 : decode cX1_gives 139 = .ok (.iload_n 2, 1) := by decide +kernel
theorem dX1_gives_140 : decode cX1_gives 140 = .ok (.iload 4, 2) := by decide +kernel
theorem dX1_gives_142 : decode cX1_gives 142 = .ok (.invokevirtual 30, 3) := by decide +kernel
theorem dX1_gives_145 : decode cX1_gives 145 = .ok (.bipush 100, 2) := by decide +kernel
theorem dX1_gives_147 : decode cX1_gives 147 = .ok (.isub, 1) := by decide +kernel
theorem dX1_gives_148 : decode cX1_gives 148 = .ok (.ireturn, 1) := by decide +kernel
theorem dX1_gives_149 : decode cX1_gives 149 = .ok (.iconst 2, 1) := by decide +kernel
theorem dX1_gives_150 : decode cX1_gives 150 = .ok (.aload_n 0, 1) := by decide +kernel
theorem dX1_gives_151 : decode cX1_gives 151 = .ok (.bipush 13, 2) := by decide +kernel
theorem dX1_gives_153 : decode cX1_gives 153 = .ok (.iload_n 2, 1) := by decide +kernel
theorem dX1_gives_154 : decode cX1_gives 154 = .ok (.iload 4, 2) := by decide +kernel
theorem dX1_gives_156 : decode cX1_gives 156 = .ok (.invokevirtual 30, 3) := by decide +kernel
theorem dX1_gives_159 : decode cX1_gives 159 = .ok (.imul, 1) := by decide +kernel
theorem dX1_gives_160 : decode cX1_gives 160 = .ok (.ireturn, 1) := by decide +kernel
theorem dX1_gives_161 : decode cX1_gives 161 = .ok (.iload_n 2, 1) := by decide +kernel
theorem dX1_gives_162 : decode cX1_gives 162 = .ok (.ireturn, 1) := by decide +kernel
theorem dX1_gives_163 : decode cX1_gives 163 = .ok (.aload_n 0, 1) := by decide +kernel
theorem dX1_gives_164 : decode cX1_gives 164 = .ok (.bipush 20, 2) := by decide +kernel
theorem dX1_gives_166 : decode cX1_gives 166 = .ok (.iload_n 2, 1) := by decide +kernel
theorem dX1_gives_167 : decode cX1_gives 167 = .ok (.iload 4, 2) := by decide +kernel
theorem dX1_gives_169 : decode cX1_gives 169 = .ok (.invokevirtual 30, 3) := by decide +kernel
theorem dX1_gives_172 : decode cX1_gives 172 = .ok (.aload_n 0, 1) := by decide +kernel
theorem dX1_gives_173 : decode cX1_gives 173 = .ok (.getfield 15, 3) := by decide +kernel
theorem dX1_gives_176 : decode cX1_gives 176 = .ok (.getfield 54, 3) := by decide +kernel
theorem dX1_gives_179 : decode cX1_gives 179 = .ok (.iload_n 2, 1) := by decide +kernel
theorem dX1_gives_180 : decode cX1_gives 180 = .ok (.iaload, 1) := by decide +kernel
theorem dX1_gives_181 : decode cX1_gives 181 = .ok (.iadd, 1) := by decide +kernel
theorem dX1_gives_182 : decode cX1_gives 182 = .ok (.ireturn, 1) := by decide +kernel
theorem dX1_gives_183 : decode cX1_gives 183 = .ok (.aload_n 0, 1) := by decide +kernel
theorem dX1_gives_184 : decode cX1_gives 184 = .ok (.bipush 21, 2) := by decide +kernel
theorem dX1_gives_186 : decode cX1_gives 186 = .ok (.iload_n 2, 1) := by decide +kernel
theorem dX1_gives_187 : decode cX1_gives 187 = .ok (.iload 4, 2) := by decide +kernel
theorem dX1_gives_189 : decode cX1_gives 189 = .ok (.invokevirtual 30, 3) := by decide +kernel
theorem dX1_gives_192 : decode cX1_gives 192 = .ok (.sipush 1000, 3) := by decide +kernel
theorem dX1_gives_195 : decode cX1_gives 195 = .ok (.isub, 1) := by decide +kernel
theorem dX1_gives_196 : decode cX1_gives 196 = .ok (.ireturn, 1) := by decide +kernel
theorem dX1_gives_197 : decode cX1_gives 197 = .ok (.aload_n 0, 1) := by decide +kernel
theorem dX1_gives_198 : decode cX1_gives 198 = .ok (.bipush 20, 2) := by decide +kernel
theorem dX1_gives_200 : decode cX1_gives 200 = .ok (.iload_n 2, 1) := by decide +kernel
theorem dX1_gives_201 : decode cX1_gives 201 = .ok (.iload 4, 2) := by decide +kernel
theorem dX1_gives_203 : decode cX1_gives 203 = .ok (.invokevirtual 30, 3) := by decide +kernel
theorem dX1_gives_206 : decode cX1_gives 206 = .ok (.aload_n 0, 1) := by decide +kernel
theorem dX1_gives_207 : decode cX1_gives 207 = .ok (.aload_n 0, 1) := by decide +kernel
theorem dX1_gives_208 : decode cX1_gives 208 = .ok (.iload_n 2, 1) := by decide +kernel
theorem dX1_gives_209 : decode cX1_gives 209 = .ok (.invokevirtual 23, 3) := by decide +kernel
theorem dX1_gives_212 : decode cX1_gives 212 = .ok (.iload_n 2, 1) := by decide +kernel
theorem dX1_gives_213 : decode cX1_gives 213 = .ok (.iload 4, 2) := by decide +kernel
theorem dX1_gives_215 : decode cX1_gives 215 = .ok (.invokevirtual 30, 3) := by decide +kernel
theorem dX1_gives_218 : decode cX1_gives 218 = .ok (.isub, 1) := by decide +kernel
theorem dX1_gives_219 : decode cX1_gives 219 = .ok (.ireturn, 1) := by decide +kernel
theorem dX1_gives_220 : decode cX1_gives 220 = .ok (.iconst 2, 1) := by decide +kernel
theorem dX1_gives_221 : decode cX1_gives 221 = .ok (.aload_n 0, 1) := by decide +kernel
theorem dX1_gives_222 : decode cX1_gives 222 = .ok (.bipush 21, 2) := by decide +kernel
theorem dX1_gives_224 : decode cX1_gives 224 = .ok (.iload_n 2, 1) := by decide +kernel
theorem dX1_gives_225 : decode cX1_gives 225 = .ok (.iload 4, 2) := by decide +kernel
theorem dX1_gives_227 : decode cX1_gives 227 = .ok (.invokevirtual 30, 3) := by decide +kernel
theorem dX1_gives_230 : decode cX1_gives 230 = .ok (.imul, 1) := by decide +kernel
theorem dX1_gives_231 : decode cX1_gives 231 = .ok (.ireturn, 1) := by decide +kernel
theorem dX1_gives_232 : decode cX1_gives 232 = .ok (.ldc 46, 2) := by decide +kernel
theorem dX1_gives_234 : decode cX1_gives 234 = .ok (.ireturn, 1) := by decide +kernel
theorem dX1_begins_0 : decode cX1_begins 0 = .ok (.aload_n 0, 1) := by decide +kernel
theorem dX1_begins_1 : decode cX1_begins 1 = .ok (.getfield 19, 3) := by decide +kernel
theorem dX1_begins_4 : decode cX1_begins 4 = .ok (.bipush 16, 2) := by decide +kernel
theorem dX1_begins_6 : decode cX1_begins 6 = .ok (.if_icmp .ge 23, 3) := by decide +kernel
theorem dX1_begins_9 : decode cX1_begins 9 = .ok (.aload_n 0, 1) := by decide +kernel
theorem dX1_begins_10 : decode cX1_begins 10 = .ok (.getfield 11, 3) := by decide +kernel
theorem dX1_begins_13 : decode cX1_begins 13 = .ok (.aload_n 0, 1) := by decide +kernel
theorem dX1_begins_14 : decode cX1_begins 14 = .ok (.getfield 19, 3) := by decide +kernel
theorem dX1_begins_17 : decode cX1_begins 17 = .ok (.iload_n 1, 1) := by decide +kernel
theorem dX1_begins_18 : decode cX1_begins 18 = .ok (.iastore, 1) := by decide +kernel
theorem dX1_begins_19 : decode cX1_begins 19 = .ok (.aload_n 0, 1) := by decide +kernel
theorem dX1_begins_20 : decode cX1_begins 20 = .ok (.dup, 1) := by decide +kernel
theorem dX1_begins_21 : decode cX1_begins 21 = .ok (.getfield 19, 3) := by decide +kernel
theorem dX1_begins_24 : decode cX1_begins 24 = .ok (.iconst 1, 1) := by decide +kernel
theorem dX1_begins_25 : decode cX1_begins 25 = .ok (.iadd, 1) := by decide +kernel
theorem dX1_begins_26 : decode cX1_begins 26 = .ok (.putfield 19, 3) := by decide +kernel
theorem dX1_begins_29 : decode cX1_begins 29 = .ok (.return_, 1) := by decide +kernel
set_option maxRecDepth 20000 in
theorem ggX2_init_X4_init : GoodIn wsX2_init wsX4_init := goodIn_ids iaX2_init iaX4_init haX2_init haX4_init imX2_init hmX2_init (by decide +kernel) (by decide +kernel)
set_option maxRecDepth 20000 in
theorem gX2_init_X4_init_n17 : GoodIn wsX2_init (wsX4_init) := ggX2_init_X4_init
theorem dX2_init_0 : decode cX2_init 0 = .ok (.aload_n 0, 1) := by decide +kernel
theorem dX2_init_1 : decode cX2_init 1 = .ok (.invokespecial 3, 3) := by decide +kernel
theorem dX2_init_4 : decode cX2_init 4 = .ok (.aload_n 0, 1) := by decide +kernel
theorem dX2_init_5 : decode cX2_init 5 = .ok (.bipush 90, 2) := by decide +kernel
theorem dX2_init_7 : decode cX2_init 7 = .ok (.newarray .int, 2) := by decide +kernel
theorem dX2_init_9 : decode cX2_init 9 = .ok (.putfield 11, 3) := by decide +kernel
theorem dX2_init_12 : decode cX2_init 12 = .ok (.aload_n 0, 1) := by decide +kernel
theorem dX2_init_13 : decode cX2_init 13 = .ok (.new 15, 3) := by decide +kernel
theorem dX2_init_16 : decode cX2_init 16 = .ok (.dup, 1) := by decide +kernel
theorem dX2_init_17 : decode cX2_init 17 = .ok (.invokespecial 17, 3) := by decide +kernel
theorem dX2_init_20 : decode cX2_init 20 = .ok (.putfield 18, 3) := by decide +kernel
theorem dX2_init_23 : decode cX2_init 23 = .ok (.return_, 1) := by decide +kernel
theorem dX2_isFull_0 : decode cX2_isFull 0 = .ok (.aload_n 0, 1) := by decide +kernel
theorem dX2_isFull_1 : decode cX2_isFull 1 = .ok (.getfield 22, 3) := by decide +kernel
theorem dX2_isFull_4 : decode cX2_isFull 4 = .ok (.bipush 90, 2) := by decide +kernel
theorem dX2_isFull_6 : decode cX2_isFull 6 = .ok (.if_icmp .lt 7, 3) := by decide +kernel
theorem dX2_isFull_9 : decode cX2_isFull 9 = .ok (.iconst 1, 1) := by decide +kernel
theorem dX2_isFull_10 : decode cX2_isFull 10 = .ok (.goto 4, 3) := by decide +kernel
theorem dX2_isFull_13 : decode cX2_isFull 13 = .ok (.iconst 0, 1) := by decide +kernel
theorem dX2_isFull_14 : decode cX2_isFull 14 = .ok (.ireturn, 1) := by decide +kernel
set_option maxRecDepth 20000 in
theorem ggX2_append_X2_isFull : GoodIn wsX2_append wsX2_isFull := goodIn_ids iaX2_append iaX2_isFull haX2_append haX2_isFull imX2_append hmX2_append (by decide +kernel) (by decide +kernel)
set_option maxRecDepth 20000 in
theorem gX2_append_X2_isFull : GoodIn wsX2_append (wsV RX2 26 RX2 yX2_isFull wsX2_isFull) := goodIn_app (goodIn_ids iaX2_append [367, 359, 360, 72] haX2_append rfl imX2_append hmX2_append (by decide +kernel) (by decide +kernel)) ggX2_append_X2_isFull
theorem dX2_append_0 : decode cX2_append 0 = .ok (.aload_n 0, 1) := by decide +kernel
theorem dX2_append_1 : decode cX2_append 1 = .ok (.invokevirtual 26, 3) := by decide +kernel
theorem dX2_append_4 : decode cX2_append 4 = .ok (.ifCond .ne 23, 3) := by decide +kernel
theorem dX2_append_7 : decode cX2_append 7 = .ok (.aload_n 0, 1) := by decide +kernel
theorem dX2_append_8 : decode cX2_append 8 = .ok (.getfield 11, 3) := by decide +kernel
theorem dX2_append_11 : decode cX2_append 11 = .ok (.aload_n 0, 1) := by decide +kernel
theorem dX2_append_12 : decode cX2_append 12 = .ok (.getfield 22, 3) := by decide +kernel
theorem dX2_append_15 : decode cX2_append 15 = .ok (.iload_n 1, 1) := by decide +kernel
theorem dX2_append_16 : decode cX2_append 16 = .ok (.iastore, 1) := by decide +kernel
theorem dX2_append_17 : decode cX2_append 17 = .ok (.aload_n 0, 1) := by decide +kernel
theorem dX2_append_18 : decode cX2_append 18 = .ok (.dup, 1) := by decide +kernel
theorem dX2_append_19 : decode cX2_append 19 = .ok (.getfield 22, 3) := by decide +kernel
theorem dX2_append_22 : decode cX2_append 22 = .ok (.iconst 1, 1) := by decide +kernel
theorem dX2_append_23 : decode cX2_append 23 = .ok (.iadd, 1) := by decide +kernel
theorem dX2_append_24 : decode cX2_append 24 = .ok (.putfield 22, 3) := by decide +kernel
theorem dX2_append_27 : decode cX2_append 27 = .ok (.aload_n 0, 1) := by decide +kernel
theorem dX2_append_28 : decode cX2_append 28 = .ok (.getfield 22, 3) := by decide +kernel
theorem dX2_append_31 : decode cX2_append 31 = .ok (.ireturn, 1) := by decide +kernel
set_option maxRecDepth 20000 in
theorem ggX2_reads_X2_readsLaw : GoodIn wsX2_reads wsX2_readsLaw := goodIn_ids iaX2_reads iaX2_readsLaw haX2_reads haX2_readsLaw imX2_reads hmX2_reads (by decide +kernel) (by decide +kernel)
set_option maxRecDepth 20000 in
theorem gX2_reads_X2_readsLaw : GoodIn wsX2_reads (wsV RX2 33 RX2 yX2_readsLaw wsX2_readsLaw) := goodIn_app (goodIn_ids iaX2_reads [376, 378, 4, 72] haX2_reads rfl imX2_reads hmX2_reads (by decide +kernel) (by decide +kernel)) ggX2_reads_X2_readsLaw
set_option maxRecDepth 20000 in
theorem ggX2_reads_X2_readsPeople : GoodIn wsX2_reads wsX2_readsPeople := goodIn_ids iaX2_reads iaX2_readsPeople haX2_reads haX2_readsPeople imX2_reads hmX2_reads (by decide +kernel) (by decide +kernel)
set_option maxRecDepth 20000 in
theorem gX2_reads_X2_readsPeople : GoodIn wsX2_reads (wsV RX2 36 RX2 yX2_readsPeople wsX2_readsPeople) := goodIn_app (goodIn_ids iaX2_reads [404, 406, 9, 72] haX2_reads rfl imX2_reads hmX2_reads (by decide +kernel) (by decide +kernel)) ggX2_reads_X2_readsPeople
set_option maxRecDepth 20000 in
theorem ggX2_reads_X2_readsDogs : GoodIn wsX2_reads wsX2_readsDogs := goodIn_ids iaX2_reads iaX2_readsDogs haX2_reads haX2_readsDogs imX2_reads hmX2_reads (by decide +kernel) (by decide +kernel)
set_option maxRecDepth 20000 in
theorem gX2_reads_X2_readsDogs : GoodIn wsX2_reads (wsV RX2 39 RX2 yX2_readsDogs wsX2_readsDogs) := goodIn_app (goodIn_ids iaX2_reads [416, 418, 11, 72] haX2_reads rfl imX2_reads hmX2_reads (by decide +kernel) (by decide +kernel)) ggX2_reads_X2_readsDogs
theorem dX2_reads_0 : decode cX2_reads 0 = .ok (.aload_n 0, 1) := by decide +kernel
theorem dX2_reads_1 : decode cX2_reads 1 = .ok (.iconst 0, 1) := by decide +kernel
theorem dX2_reads_2 : decode cX2_reads 2 = .ok (.putfield 30, 3) := by decide +kernel
theorem dX2_reads_5 : decode cX2_reads 5 = .ok (.aload_n 0, 1) := by decide +kernel
theorem dX2_reads_6 : decode cX2_reads 6 = .ok (.invokevirtual 33, 3) := by decide +kernel
theorem dX2_reads_9 : decode cX2_reads 9 = .ok (.ifCond .eq 21, 3) := by decide +kernel
theorem dX2_reads_12 : decode cX2_reads 12 = .ok (.aload_n 0, 1) := by decide +kernel
theorem dX2_reads_13 : decode cX2_reads 13 = .ok (.invokevirtual 36, 3) := by decide +kernel
theorem dX2_reads_16 : decode cX2_reads 16 = .ok (.ifCond .eq 14, 3) := by decide +kernel
theorem dX2_reads_19 : decode cX2_reads 19 = .ok (.aload_n 0, 1) := by decide +kernel
theorem dX2_reads_20 : decode cX2_reads 20 = .ok (.invokevirtual 39, 3) := by decide +kernel
theorem dX2_reads_23 : decode cX2_reads 23 = .ok (.ifCond .eq 7, 3) := by decide +kernel
theorem dX2_reads_26 : decode cX2_reads 26 = .ok (.iconst 1, 1) := by decide +kernel
theorem dX2_reads_27 : decode cX2_reads 27 = .ok (.goto 4, 3) := by decide +kernel
theorem dX2_reads_30 : decode cX2_reads 30 = .ok (.iconst 0, 1) := by decide +kernel
theorem dX2_reads_31 : decode cX2_reads 31 = .ok (.istore_n 1, 1) := by decide +kernel
theorem dX2_reads_32 : decode cX2_reads 32 = .ok (.aload_n 0, 1) := by decide +kernel
theorem dX2_reads_33 : decode cX2_reads 33 = .ok (.iconst 0, 1) := by decide +kernel
theorem dX2_reads_34 : decode cX2_reads 34 = .ok (.putfield 22, 3) := by decide +kernel
theorem dX2_reads_37 : decode cX2_reads 37 = .ok (.iload_n 1, 1) := by decide +kernel
theorem dX2_reads_38 : decode cX2_reads 38 = .ok (.ireturn, 1) := by decide +kernel
set_option maxRecDepth 20000 in
theorem ggX2_readsLaw_X2_takes : GoodIn wsX2_readsLaw wsX2_takes := goodIn_ids iaX2_readsLaw iaX2_takes haX2_readsLaw haX2_takes imX2_readsLaw hmX2_readsLaw (by decide +kernel) (by decide +kernel)
set_option maxRecDepth 20000 in
theorem gX2_readsLaw_X2_takes : GoodIn wsX2_readsLaw (wsV RX2 42 RX2 yX2_takes wsX2_takes) := goodIn_app (goodIn_ids iaX2_readsLaw [380, 382, 5, 72] haX2_readsLaw rfl imX2_readsLaw hmX2_readsLaw (by decide +kernel) (by decide +kernel)) ggX2_readsLaw_X2_takes
set_option maxRecDepth 20000 in
theorem ggX2_readsLaw_X2_number : GoodIn wsX2_readsLaw wsX2_number := goodIn_ids iaX2_readsLaw iaX2_number haX2_readsLaw haX2_number imX2_readsLaw hmX2_readsLaw (by decide +kernel) (by decide +kernel)
set_option maxRecDepth 20000 in
theorem gX2_readsLaw_X2_number : GoodIn wsX2_readsLaw (wsV RX2 46 RX2 yX2_number wsX2_number) := goodIn_app (goodIn_ids iaX2_readsLaw [393, 395, 8, 72] haX2_readsLaw rfl imX2_readsLaw hmX2_readsLaw (by decide +kernel) (by decide +kernel)) ggX2_readsLaw_X2_number
set_option maxRecDepth 20000 in
theorem ggX2_readsLaw_X4_begin : GoodIn wsX2_readsLaw wsX4_begin := goodIn_ids iaX2_readsLaw iaX4_begin haX2_readsLaw haX4_begin imX2_readsLaw hmX2_readsLaw (by decide +kernel) (by decide +kernel)
set_option maxRecDepth 20000 in
theorem gX2_readsLaw_X4_begin : GoodIn wsX2_readsLaw (wsV RX2 51 RX4 yX4_begin wsX4_begin) := goodIn_app (goodIn_ids iaX2_readsLaw [400, 401, 402, 73] haX2_readsLaw rfl imX2_readsLaw hmX2_readsLaw (by decide +kernel) (by decide +kernel)) ggX2_readsLaw_X4_begin
theorem dX2_readsLaw_0 : decode cX2_readsLaw 0 = .ok (.aload_n 0, 1) := by decide +kernel
theorem dX2_readsLaw_1 : decode cX2_readsLaw 1 = .ok (.bipush 116, 2) := by decide +kernel
theorem dX2_readsLaw_3 : decode cX2_readsLaw 3 = .ok (.invokevirtual 42, 3) := by decide +kernel
theorem dX2_readsLaw_6 : decode cX2_readsLaw 6 = .ok (.ifCond .ne 5, 3) := by decide +kernel
theorem dX2_readsLaw_9 : decode cX2_readsLaw 9 = .ok (.iconst 0, 1) := by decide +kernel
theorem dX2_readsLaw_10 : decode cX2_readsLaw 10 = .ok (.ireturn, 1) := by decide +kernel
theorem dX2_readsLaw_11 : decode cX2_readsLaw 11 = .ok (.aload_n 0, 1) := by decide +kernel
theorem dX2_readsLaw_12 : decode cX2_readsLaw 12 = .ok (.iconst 3, 1) := by decide +kernel
theorem dX2_readsLaw_13 : decode cX2_readsLaw 13 = .ok (.bipush 9, 2) := by decide +kernel
theorem dX2_readsLaw_15 : decode cX2_readsLaw 15 = .ok (.invokevirtual 46, 3) := by decide +kernel
theorem dX2_readsLaw_18 : decode cX2_readsLaw 18 = .ok (.istore_n 1, 1) := by decide +kernel
theorem dX2_readsLaw_19 : decode cX2_readsLaw 19 = .ok (.iload_n 1, 1) := by decide +kernel
theorem dX2_readsLaw_20 : decode cX2_readsLaw 20 = .ok (.ldc 50, 2) := by decide +kernel
theorem dX2_readsLaw_22 : decode cX2_readsLaw 22 = .ok (.if_icmp .eq 12, 3) := by decide +kernel
theorem dX2_readsLaw_25 : decode cX2_readsLaw 25 = .ok (.aload_n 0, 1) := by decide +kernel
theorem dX2_readsLaw_26 : decode cX2_readsLaw 26 = .ok (.bipush 44, 2) := by decide +kernel
theorem dX2_readsLaw_28 : decode cX2_readsLaw 28 = .ok (.invokevirtual 42, 3) := by decide +kernel
theorem dX2_readsLaw_31 : decode cX2_readsLaw 31 = .ok (.ifCond .ne 5, 3) := by decide +kernel
theorem dX2_readsLaw_34 : decode cX2_readsLaw 34 = .ok (.iconst 0, 1) := by decide +kernel
theorem dX2_readsLaw_35 : decode cX2_readsLaw 35 = .ok (.ireturn, 1) := by decide +kernel
theorem dX2_readsLaw_36 : decode cX2_readsLaw 36 = .ok (.aload_n 0, 1) := by decide +kernel
theorem dX2_readsLaw_37 : decode cX2_readsLaw 37 = .ok (.iconst 1, 1) := by decide +kernel
theorem dX2_readsLaw_38 : decode cX2_readsLaw 38 = .ok (.bipush 30, 2) := by decide +kernel
theorem dX2_readsLaw_40 : decode cX2_readsLaw 40 = .ok (.invokevirtual 46, 3) := by decide +kernel
theorem dX2_readsLaw_43 : decode cX2_readsLaw 43 = .ok (.istore_n 2, 1) := by decide +kernel
theorem dX2_readsLaw_44 : decode cX2_readsLaw 44 = .ok (.iload_n 2, 1) := by decide +kernel
theorem dX2_readsLaw_45 : decode cX2_readsLaw 45 = .ok (.ldc 50, 2) := by decide +kernel
theorem dX2_readsLaw_47 : decode cX2_readsLaw 47 = .ok (.if_icmp .eq 12, 3) := by decide +kernel
theorem dX2_readsLaw_50 : decode cX2_readsLaw 50 = .ok (.aload_n 0, 1) := by decide +kernel
theorem dX2_readsLaw_51 : decode cX2_readsLaw 51 = .ok (.bipush 59, 2) := by decide +kernel
theorem dX2_readsLaw_53 : decode cX2_readsLaw 53 = .ok (.invokevirtual 42, 3) := by decide +kernel
theorem dX2_readsLaw_56 : decode cX2_readsLaw 56 = .ok (.ifCond .ne 5, 3) := by decide +kernel
theorem dX2_readsLaw_59 : decode cX2_readsLaw 59 = .ok (.iconst 0, 1) := by decide +kernel
theorem dX2_readsLaw_60 : decode cX2_readsLaw 60 = .ok (.ireturn, 1) := by decide +kernel
theorem dX2_readsLaw_61 : decode cX2_readsLaw 61 = .ok (.aload_n 0, 1) := by decide +kernel
theorem dX2_readsLaw_62 : decode cX2_readsLaw 62 = .ok (.getfield 18, 3) := by decide +kernel
theorem dX2_readsLaw_65 : decode cX2_readsLaw 65 = .ok (.iload_n 1, 1) := by decide +kernel
theorem dX2_readsLaw_66 : decode cX2_readsLaw 66 = .ok (.iload_n 2, 1) := by decide +kernel
theorem dX2_readsLaw_67 : decode cX2_readsLaw 67 = .ok (.invokevirtual 51, 3) := by decide +kernel
theorem dX2_readsLaw_70 : decode cX2_readsLaw 70 = .ok (.iconst 1, 1) := by decide +kernel
theorem dX2_readsLaw_71 : decode cX2_readsLaw 71 = .ok (.ireturn, 1) := by decide +kernel
set_option maxRecDepth 20000 in
theorem ggX2_readsPeople_X2_readsPerson : GoodIn wsX2_readsPeople wsX2_readsPerson := goodIn_ids iaX2_readsPeople iaX2_readsPerson haX2_readsPeople haX2_readsPerson imX2_readsPeople hmX2_readsPeople (by decide +kernel) (by decide +kernel)
set_option maxRecDepth 20000 in
theorem gX2_readsPeople_X2_readsPerson : GoodIn wsX2_readsPeople (wsV RX2 55 RX2 yX2_readsPerson wsX2_readsPerson) := goodIn_app (goodIn_ids iaX2_readsPeople [408, 410, 10, 72] haX2_readsPeople rfl imX2_readsPeople hmX2_readsPeople (by decide +kernel) (by decide +kernel)) ggX2_readsPeople_X2_readsPerson
set_option maxRecDepth 20000 in
theorem ggX2_readsPeople_X2_coming : GoodIn wsX2_readsPeople wsX2_coming := goodIn_ids iaX2_readsPeople iaX2_coming haX2_readsPeople haX2_coming imX2_readsPeople hmX2_readsPeople (by decide +kernel) (by decide +kernel)
set_option maxRecDepth 20000 in
theorem gX2_readsPeople_X2_coming : GoodIn wsX2_readsPeople (wsV RX2 58 RX2 yX2_coming wsX2_coming) := goodIn_app (goodIn_ids iaX2_readsPeople [384, 386, 6, 72] haX2_readsPeople rfl imX2_readsPeople hmX2_readsPeople (by decide +kernel) (by decide +kernel)) ggX2_readsPeople_X2_coming
set_option maxRecDepth 20000 in
theorem ggX2_readsPeople_X2_meets : GoodIn wsX2_readsPeople wsX2_meets := goodIn_ids iaX2_readsPeople iaX2_meets haX2_readsPeople haX2_meets imX2_readsPeople hmX2_readsPeople (by decide +kernel) (by decide +kernel)
set_option maxRecDepth 20000 in
theorem gX2_readsPeople_X2_meets : GoodIn wsX2_readsPeople (wsV RX2 65 RX2 yX2_meets wsX2_meets) := goodIn_app (goodIn_ids iaX2_readsPeople [389, 391, 7, 72] haX2_readsPeople rfl imX2_readsPeople hmX2_readsPeople (by decide +kernel) (by decide +kernel)) ggX2_readsPeople_X2_meets
theorem dX2_readsPeople_0 : decode cX2_readsPeople 0 = .ok (.aload_n 0, 1) := by decide +kernel
theorem dX2_readsPeople_1 : decode cX2_readsPeople 1 = .ok (.invokevirtual 55, 3) := by decide +kernel
theorem dX2_readsPeople_4 : decode cX2_readsPeople 4 = .ok (.ifCond .ne 5, 3) := by decide +kernel
theorem dX2_readsPeople_7 : decode cX2_readsPeople 7 = .ok (.iconst 0, 1) := by decide +kernel
theorem dX2_readsPeople_8 : decode cX2_readsPeople 8 = .ok (.ireturn, 1) := by decide +kernel
theorem dX2_readsPeople_9 : decode cX2_readsPeople 9 = .ok (.iconst 0, 1) := by decide +kernel
theorem dX2_readsPeople_10 : decode cX2_readsPeople 10 = .ok (.istore_n 1, 1) := by decide +kernel
theorem dX2_readsPeople_11 : decode cX2_readsPeople 11 = .ok (.iload_n 1, 1) := by decide +kernel
theorem dX2_readsPeople_12 : decode cX2_readsPeople 12 = .ok (.bipush 90, 2) := by decide +kernel
theorem dX2_readsPeople_14 : decode cX2_readsPeople 14 = .ok (.if_icmp .ge 44, 3) := by decide +kernel
theorem dX2_readsPeople_17 : decode cX2_readsPeople 17 = .ok (.aload_n 0, 1) := by decide +kernel
theorem dX2_readsPeople_18 : decode cX2_readsPeople 18 = .ok (.invokevirtual 58, 3) := by decide +kernel
theorem dX2_readsPeople_21 : decode cX2_readsPeople 21 = .ok (.bipush 109, 2) := by decide +kernel
theorem dX2_readsPeople_23 : decode cX2_readsPeople 23 = .ok (.if_icmp .ne 35, 3) := by decide +kernel
theorem dX2_readsPeople_26 : decode cX2_readsPeople 26 = .ok (.aload_n 0, 1) := by decide +kernel
theorem dX2_readsPeople_27 : decode cX2_readsPeople 27 = .ok (.getfield 18, 3) := by decide +kernel
theorem dX2_readsPeople_30 : decode cX2_readsPeople 30 = .ok (.getfield 62, 3) := by decide +kernel
theorem dX2_readsPeople_33 : decode cX2_readsPeople 33 = .ok (.iconst 5, 1) := by decide +kernel
theorem dX2_readsPeople_34 : decode cX2_readsPeople 34 = .ok (.if_icmp .lt 9, 3) := by decide +kernel
theorem dX2_readsPeople_37 : decode cX2_readsPeople 37 = .ok (.aload_n 0, 1) := by decide +kernel
theorem dX2_readsPeople_38 : decode cX2_readsPeople 38 = .ok (.iconst 3, 1) := by decide +kernel
theorem dX2_readsPeople_39 : decode cX2_readsPeople 39 = .ok (.invokevirtual 65, 3) := by decide +kernel
theorem dX2_readsPeople_42 : decode cX2_readsPeople 42 = .ok (.ireturn, 1) := by decide +kernel
theorem dX2_readsPeople_43 : decode cX2_readsPeople 43 = .ok (.aload_n 0, 1) := by decide +kernel
theorem dX2_readsPeople_44 : decode cX2_readsPeople 44 = .ok (.invokevirtual 55, 3) := by decide +kernel
theorem dX2_readsPeople_47 : decode cX2_readsPeople 47 = .ok (.ifCond .ne 5, 3) := by decide +kernel
theorem dX2_readsPeople_50 : decode cX2_readsPeople 50 = .ok (.iconst 0, 1) := by decide +kernel
theorem dX2_readsPeople_51 : decode cX2_readsPeople 51 = .ok (.ireturn, 1) := by decide +kernel
theorem dX2_readsPeople_52 : decode cX2_readsPeople 52 = .ok (.iinc 1 1, 3) := by decide +kernel
theorem dX2_readsPeople_55 : decode cX2_readsPeople 55 = .ok (.goto (-44), 3) := by decide +kernel
theorem dX2_readsPeople_58 : decode cX2_readsPeople 58 = .ok (.iconst 1, 1) := by decide +kernel
theorem dX2_readsPeople_59 : decode cX2_readsPeople 59 = .ok (.ireturn, 1) := by decide +kernel
set_option maxRecDepth 20000 in
theorem ggX2_readsPerson_X2_takes : GoodIn wsX2_readsPerson wsX2_takes := goodIn_ids iaX2_readsPerson iaX2_takes haX2_readsPerson haX2_takes imX2_readsPerson hmX2_readsPerson (by decide +kernel) (by decide +kernel)
set_option maxRecDepth 20000 in
theorem gX2_readsPerson_X2_takes : GoodIn wsX2_readsPerson (wsV RX2 42 RX2 yX2_takes wsX2_takes) := goodIn_app (goodIn_ids iaX2_readsPerson [380, 382, 5, 72] haX2_readsPerson rfl imX2_readsPerson hmX2_readsPerson (by decide +kernel) (by decide +kernel)) ggX2_readsPerson_X2_takes
set_option maxRecDepth 20000 in
theorem ggX2_readsPerson_X2_number : GoodIn wsX2_readsPerson wsX2_number := goodIn_ids iaX2_readsPerson iaX2_number haX2_readsPerson haX2_number imX2_readsPerson hmX2_readsPerson (by decide +kernel) (by decide +kernel)
set_option maxRecDepth 20000 in
theorem gX2_readsPerson_X2_number : GoodIn wsX2_readsPerson (wsV RX2 46 RX2 yX2_number wsX2_number) := goodIn_app (goodIn_ids iaX2_readsPerson [393, 395, 8, 72] haX2_readsPerson rfl imX2_readsPerson hmX2_readsPerson (by decide +kernel) (by decide +kernel)) ggX2_readsPerson_X2_number
set_option maxRecDepth 20000 in
theorem ggX2_readsPerson_X4_settle : GoodIn wsX2_readsPerson wsX4_settle := goodIn_ids iaX2_readsPerson iaX4_settle haX2_readsPerson haX4_settle imX2_readsPerson hmX2_readsPerson (by decide +kernel) (by decide +kernel)
set_option maxRecDepth 20000 in
theorem gX2_readsPerson_X4_settle : GoodIn wsX2_readsPerson (wsV RX2 71 RX4 yX4_settle wsX4_settle) := goodIn_app (goodIn_ids iaX2_readsPerson [412, 413, 414, 73] haX2_readsPerson rfl imX2_readsPerson hmX2_readsPerson (by decide +kernel) (by decide +kernel)) ggX2_readsPerson_X4_settle
theorem dX2_readsPerson_0 : decode cX2_readsPerson 0 = .ok (.aload_n 0, 1) := by decide +kernel
theorem dX2_readsPerson_1 : decode cX2_readsPerson 1 = .ok (.bipush 109, 2) := by decide +kernel
theorem dX2_readsPerson_3 : decode cX2_readsPerson 3 = .ok (.invokevirtual 42, 3) := by decide +kernel
theorem dX2_readsPerson_6 : decode cX2_readsPerson 6 = .ok (.ifCond .ne 5, 3) := by decide +kernel
theorem dX2_readsPerson_9 : decode cX2_readsPerson 9 = .ok (.iconst 0, 1) := by decide +kernel
theorem dX2_readsPerson_10 : decode cX2_readsPerson 10 = .ok (.ireturn, 1) := by decide +kernel
theorem dX2_readsPerson_11 : decode cX2_readsPerson 11 = .ok (.aload_n 0, 1) := by decide +kernel
theorem dX2_readsPerson_12 : decode cX2_readsPerson 12 = .ok (.iconst 0, 1) := by decide +kernel
theorem dX2_readsPerson_13 : decode cX2_readsPerson 13 = .ok (.aload_n 0, 1) := by decide +kernel
theorem dX2_readsPerson_14 : decode cX2_readsPerson 14 = .ok (.getfield 18, 3) := by decide +kernel
theorem dX2_readsPerson_17 : decode cX2_readsPerson 17 = .ok (.getfield 68, 3) := by decide +kernel
theorem dX2_readsPerson_20 : decode cX2_readsPerson 20 = .ok (.iconst 1, 1) := by decide +kernel
theorem dX2_readsPerson_21 : decode cX2_readsPerson 21 = .ok (.isub, 1) := by decide +kernel
theorem dX2_readsPerson_22 : decode cX2_readsPerson 22 = .ok (.invokevirtual 46, 3) := by decide +kernel
theorem dX2_readsPerson_25 : decode cX2_readsPerson 25 = .ok (.istore_n 1, 1) := by decide +kernel
theorem dX2_readsPerson_26 : decode cX2_readsPerson 26 = .ok (.iload_n 1, 1) := by decide +kernel
theorem dX2_readsPerson_27 : decode cX2_readsPerson 27 = .ok (.ldc 50, 2) := by decide +kernel
theorem dX2_readsPerson_29 : decode cX2_readsPerson 29 = .ok (.if_icmp .eq 12, 3) := by decide +kernel
theorem dX2_readsPerson_32 : decode cX2_readsPerson 32 = .ok (.aload_n 0, 1) := by decide +kernel
theorem dX2_readsPerson_33 : decode cX2_readsPerson 33 = .ok (.bipush 44, 2) := by decide +kernel
theorem dX2_readsPerson_35 : decode cX2_readsPerson 35 = .ok (.invokevirtual 42, 3) := by decide +kernel
theorem dX2_readsPerson_38 : decode cX2_readsPerson 38 = .ok (.ifCond .ne 5, 3) := by decide +kernel
theorem dX2_readsPerson_41 : decode cX2_readsPerson 41 = .ok (.iconst 0, 1) := by decide +kernel
theorem dX2_readsPerson_42 : decode cX2_readsPerson 42 = .ok (.ireturn, 1) := by decide +kernel
theorem dX2_readsPerson_43 : decode cX2_readsPerson 43 = .ok (.aload_n 0, 1) := by decide +kernel
theorem dX2_readsPerson_44 : decode cX2_readsPerson 44 = .ok (.iconst 0, 1) := by decide +kernel
theorem dX2_readsPerson_45 : decode cX2_readsPerson 45 = .ok (.bipush 9, 2) := by decide +kernel
theorem dX2_readsPerson_47 : decode cX2_readsPerson 47 = .ok (.invokevirtual 46, 3) := by decide +kernel
theorem dX2_readsPerson_50 : decode cX2_readsPerson 50 = .ok (.istore_n 2, 1) := by decide +kernel
theorem dX2_readsPerson_51 : decode cX2_readsPerson 51 = .ok (.iload_n 2, 1) := by decide +kernel
theorem dX2_readsPerson_52 : decode cX2_readsPerson 52 = .ok (.ldc 50, 2) := by decide +kernel
theorem dX2_readsPerson_54 : decode cX2_readsPerson 54 = .ok (.if_icmp .eq 12, 3) := by decide +kernel
theorem dX2_readsPerson_57 : decode cX2_readsPerson 57 = .ok (.aload_n 0, 1) := by decide +kernel
theorem dX2_readsPerson_58 : decode cX2_readsPerson 58 = .ok (.bipush 44, 2) := by decide +kernel
theorem dX2_readsPerson_60 : decode cX2_readsPerson 60 = .ok (.invokevirtual 42, 3) := by decide +kernel
theorem dX2_readsPerson_63 : decode cX2_readsPerson 63 = .ok (.ifCond .ne 5, 3) := by decide +kernel
theorem dX2_readsPerson_66 : decode cX2_readsPerson 66 = .ok (.iconst 0, 1) := by decide +kernel
theorem dX2_readsPerson_67 : decode cX2_readsPerson 67 = .ok (.ireturn, 1) := by decide +kernel
theorem dX2_readsPerson_68 : decode cX2_readsPerson 68 = .ok (.aload_n 0, 1) := by decide +kernel
theorem dX2_readsPerson_69 : decode cX2_readsPerson 69 = .ok (.iconst 0, 1) := by decide +kernel
theorem dX2_readsPerson_70 : decode cX2_readsPerson 70 = .ok (.iconst 2, 1) := by decide +kernel
theorem dX2_readsPerson_71 : decode cX2_readsPerson 71 = .ok (.invokevirtual 46, 3) := by decide +kernel
theorem dX2_readsPerson_74 : decode cX2_readsPerson 74 = .ok (.istore_n 3, 1) := by decide +kernel
theorem dX2_readsPerson_75 : decode cX2_readsPerson 75 = .ok (.iload_n 3, 1) := by decide +kernel
theorem dX2_readsPerson_76 : decode cX2_readsPerson 76 = .ok (.ldc 50, 2) := by decide +kernel
theorem dX2_readsPerson_78 : decode cX2_readsPerson 78 = .ok (.if_icmp .eq 12, 3) := by decide +kernel
theorem dX2_readsPerson_81 : decode cX2_readsPerson 81 = .ok (.aload_n 0, 1) := by decide +kernel
theorem dX2_readsPerson_82 : decode cX2_readsPerson 82 = .ok (.bipush 59, 2) := by decide +kernel
theorem dX2_readsPerson_84 : decode cX2_readsPerson 84 = .ok (.invokevirtual 42, 3) := by decide +kernel
theorem dX2_readsPerson_87 : decode cX2_readsPerson 87 = .ok (.ifCond .ne 5, 3) := by decide +kernel
theorem dX2_readsPerson_90 : decode cX2_readsPerson 90 = .ok (.iconst 0, 1) := by decide +kernel
theorem dX2_readsPerson_91 : decode cX2_readsPerson 91 = .ok (.ireturn, 1) := by decide +kernel
theorem dX2_readsPerson_92 : decode cX2_readsPerson 92 = .ok (.aload_n 0, 1) := by decide +kernel
theorem dX2_readsPerson_93 : decode cX2_readsPerson 93 = .ok (.getfield 18, 3) := by decide +kernel
theorem dX2_readsPerson_96 : decode cX2_readsPerson 96 = .ok (.iload_n 1, 1) := by decide +kernel
theorem dX2_readsPerson_97 : decode cX2_readsPerson 97 = .ok (.iload_n 2, 1) := by decide +kernel
theorem dX2_readsPerson_98 : decode cX2_readsPerson 98 = .ok (.iload_n 3, 1) := by decide +kernel
theorem dX2_readsPerson_99 : decode cX2_readsPerson 99 = .ok (.invokevirtual 71, 3) := by decide +kernel
theorem dX2_readsPerson_102 : decode cX2_readsPerson 102 = .ok (.iconst 1, 1) := by decide +kernel
theorem dX2_readsPerson_103 : decode cX2_readsPerson 103 = .ok (.ireturn, 1) := by decide +kernel
set_option maxRecDepth 20000 in
theorem ggX2_readsDogs_X2_coming : GoodIn wsX2_readsDogs wsX2_coming := goodIn_ids iaX2_readsDogs iaX2_coming haX2_readsDogs haX2_coming imX2_readsDogs hmX2_readsDogs (by decide +kernel) (by decide +kernel)
set_option maxRecDepth 20000 in
theorem gX2_readsDogs_X2_coming : GoodIn wsX2_readsDogs (wsV RX2 58 RX2 yX2_coming wsX2_coming) := goodIn_app (goodIn_ids iaX2_readsDogs [384, 386, 6, 72] haX2_readsDogs rfl imX2_readsDogs hmX2_readsDogs (by decide +kernel) (by decide +kernel)) ggX2_readsDogs_X2_coming
set_option maxRecDepth 20000 in
theorem ggX2_readsDogs_X2_sortOf : GoodIn wsX2_readsDogs wsX2_sortOf := goodIn_ids iaX2_readsDogs iaX2_sortOf haX2_readsDogs haX2_sortOf imX2_readsDogs hmX2_readsDogs (by decide +kernel) (by decide +kernel)
set_option maxRecDepth 20000 in
theorem gX2_readsDogs_X2_sortOf : GoodIn wsX2_readsDogs (va_wsS RX2 75 yX2_sortOf wsX2_sortOf) := goodIn_app (goodIn_ids iaX2_readsDogs [420, 421, 72] haX2_readsDogs rfl imX2_readsDogs hmX2_readsDogs (by decide +kernel) (by decide +kernel)) ggX2_readsDogs_X2_sortOf
set_option maxRecDepth 20000 in
theorem ggX2_readsDogs_X2_meets : GoodIn wsX2_readsDogs wsX2_meets := goodIn_ids iaX2_readsDogs iaX2_meets haX2_readsDogs haX2_meets imX2_readsDogs hmX2_readsDogs (by decide +kernel) (by decide +kernel)
set_option maxRecDepth 20000 in
theorem gX2_readsDogs_X2_meets : GoodIn wsX2_readsDogs (wsV RX2 65 RX2 yX2_meets wsX2_meets) := goodIn_app (goodIn_ids iaX2_readsDogs [389, 391, 7, 72] haX2_readsDogs rfl imX2_readsDogs hmX2_readsDogs (by decide +kernel) (by decide +kernel)) ggX2_readsDogs_X2_meets
set_option maxRecDepth 20000 in
theorem ggX2_readsDogs_X2_number : GoodIn wsX2_readsDogs wsX2_number := goodIn_ids iaX2_readsDogs iaX2_number haX2_readsDogs haX2_number imX2_readsDogs hmX2_readsDogs (by decide +kernel) (by decide +kernel)
set_option maxRecDepth 20000 in
theorem gX2_readsDogs_X2_number : GoodIn wsX2_readsDogs (wsV RX2 46 RX2 yX2_number wsX2_number) := goodIn_app (goodIn_ids iaX2_readsDogs [393, 395, 8, 72] haX2_readsDogs rfl imX2_readsDogs hmX2_readsDogs (by decide +kernel) (by decide +kernel)) ggX2_readsDogs_X2_number
set_option maxRecDepth 20000 in
theorem ggX2_readsDogs_X2_takes : GoodIn wsX2_readsDogs wsX2_takes := goodIn_ids iaX2_readsDogs iaX2_takes haX2_readsDogs haX2_takes imX2_readsDogs hmX2_readsDogs (by decide +kernel) (by decide +kernel)
set_option maxRecDepth 20000 in
theorem gX2_readsDogs_X2_takes : GoodIn wsX2_readsDogs (wsV RX2 42 RX2 yX2_takes wsX2_takes) := goodIn_app (goodIn_ids iaX2_readsDogs [380, 382, 5, 72] haX2_readsDogs rfl imX2_readsDogs hmX2_readsDogs (by decide +kernel) (by decide +kernel)) ggX2_readsDogs_X2_takes
set_option maxRecDepth 20000 in
theorem ggX2_readsDogs_X4_kennel : GoodIn wsX2_readsDogs wsX4_kennel := goodIn_ids iaX2_readsDogs iaX4_kennel haX2_readsDogs haX4_kennel imX2_readsDogs hmX2_readsDogs (by decide +kernel) (by decide +kernel)
set_option maxRecDepth 20000 in
theorem gX2_readsDogs_X4_kennel : GoodIn wsX2_readsDogs (wsV RX2 82 RX4 yX4_kennel wsX4_kennel) := goodIn_app (goodIn_ids iaX2_readsDogs [423, 424, 425, 73] haX2_readsDogs rfl imX2_readsDogs hmX2_readsDogs (by decide +kernel) (by decide +kernel)) ggX2_readsDogs_X4_kennel
theorem dX2_readsDogs_0 : decode cX2_readsDogs 0 = .ok (.iconst 0, 1) := by decide +kernel
theorem dX2_readsDogs_1 : decode cX2_readsDogs 1 = .ok (.istore_n 1, 1) := by decide +kernel
theorem dX2_readsDogs_2 : decode cX2_readsDogs 2 = .ok (.iload_n 1, 1) := by decide +kernel
theorem dX2_readsDogs_3 : decode cX2_readsDogs 3 = .ok (.bipush 90, 2) := by decide +kernel
theorem dX2_readsDogs_5 : decode cX2_readsDogs 5 = .ok (.if_icmp .ge 109, 3) := by decide +kernel
theorem dX2_readsDogs_8 : decode cX2_readsDogs 8 = .ok (.aload_n 0, 1) := by decide +kernel
theorem dX2_readsDogs_9 : decode cX2_readsDogs 9 = .ok (.getfield 30, 3) := by decide +kernel
theorem dX2_readsDogs_12 : decode cX2_readsDogs 12 = .ok (.aload_n 0, 1) := by decide +kernel
theorem dX2_readsDogs_13 : decode cX2_readsDogs 13 = .ok (.getfield 22, 3) := by decide +kernel
theorem dX2_readsDogs_16 : decode cX2_readsDogs 16 = .ok (.if_icmp .ge 98, 3) := by decide +kernel
theorem dX2_readsDogs_19 : decode cX2_readsDogs 19 = .ok (.aload_n 0, 1) := by decide +kernel
theorem dX2_readsDogs_20 : decode cX2_readsDogs 20 = .ok (.invokevirtual 58, 3) := by decide +kernel
theorem dX2_readsDogs_23 : decode cX2_readsDogs 23 = .ok (.invokestatic 75, 3) := by decide +kernel
theorem dX2_readsDogs_26 : decode cX2_readsDogs 26 = .ok (.istore_n 2, 1) := by decide +kernel
theorem dX2_readsDogs_27 : decode cX2_readsDogs 27 = .ok (.iload_n 2, 1) := by decide +kernel
theorem dX2_readsDogs_28 : decode cX2_readsDogs 28 = .ok (.ldc 50, 2) := by decide +kernel
theorem dX2_readsDogs_30 : decode cX2_readsDogs 30 = .ok (.if_icmp .ne 9, 3) := by decide +kernel
theorem dX2_readsDogs_33 : decode cX2_readsDogs 33 = .ok (.aload_n 0, 1) := by decide +kernel
theorem dX2_readsDogs_34 : decode cX2_readsDogs 34 = .ok (.iconst 1, 1) := by decide +kernel
theorem dX2_readsDogs_35 : decode cX2_readsDogs 35 = .ok (.invokevirtual 65, 3) := by decide +kernel
theorem dX2_readsDogs_38 : decode cX2_readsDogs 38 = .ok (.ireturn, 1) := by decide +kernel
theorem dX2_readsDogs_39 : decode cX2_readsDogs 39 = .ok (.aload_n 0, 1) := by decide +kernel
theorem dX2_readsDogs_40 : decode cX2_readsDogs 40 = .ok (.getfield 18, 3) := by decide +kernel
theorem dX2_readsDogs_43 : decode cX2_readsDogs 43 = .ok (.getfield 79, 3) := by decide +kernel
theorem dX2_readsDogs_46 : decode cX2_readsDogs 46 = .ok (.bipush 6, 2) := by decide +kernel
theorem dX2_readsDogs_48 : decode cX2_readsDogs 48 = .ok (.if_icmp .lt 9, 3) := by decide +kernel
theorem dX2_readsDogs_51 : decode cX2_readsDogs 51 = .ok (.aload_n 0, 1) := by decide +kernel
theorem dX2_readsDogs_52 : decode cX2_readsDogs 52 = .ok (.iconst 3, 1) := by decide +kernel
theorem dX2_readsDogs_53 : decode cX2_readsDogs 53 = .ok (.invokevirtual 65, 3) := by decide +kernel
theorem dX2_readsDogs_56 : decode cX2_readsDogs 56 = .ok (.ireturn, 1) := by decide +kernel
theorem dX2_readsDogs_57 : decode cX2_readsDogs 57 = .ok (.aload_n 0, 1) := by decide +kernel
theorem dX2_readsDogs_58 : decode cX2_readsDogs 58 = .ok (.dup, 1) := by decide +kernel
theorem dX2_readsDogs_59 : decode cX2_readsDogs 59 = .ok (.getfield 30, 3) := by decide +kernel
theorem dX2_readsDogs_62 : decode cX2_readsDogs 62 = .ok (.iconst 1, 1) := by decide +kernel
theorem dX2_readsDogs_63 : decode cX2_readsDogs 63 = .ok (.iadd, 1) := by decide +kernel
theorem dX2_readsDogs_64 : decode cX2_readsDogs 64 = .ok (.putfield 30, 3) := by decide +kernel
theorem dX2_readsDogs_67 : decode cX2_readsDogs 67 = .ok (.aload_n 0, 1) := by decide +kernel
theorem dX2_readsDogs_68 : decode cX2_readsDogs 68 = .ok (.iconst 0, 1) := by decide +kernel
theorem dX2_readsDogs_69 : decode cX2_readsDogs 69 = .ok (.aload_n 0, 1) := by decide +kernel
theorem dX2_readsDogs_70 : decode cX2_readsDogs 70 = .ok (.getfield 18, 3) := by decide +kernel
theorem dX2_readsDogs_73 : decode cX2_readsDogs 73 = .ok (.getfield 68, 3) := by decide +kernel
theorem dX2_readsDogs_76 : decode cX2_readsDogs 76 = .ok (.iconst 1, 1) := by decide +kernel
theorem dX2_readsDogs_77 : decode cX2_readsDogs 77 = .ok (.isub, 1) := by decide +kernel
theorem dX2_readsDogs_78 : decode cX2_readsDogs 78 = .ok (.invokevirtual 46, 3) := by decide +kernel
theorem dX2_readsDogs_81 : decode cX2_readsDogs 81 = .ok (.istore_n 3, 1) := by decide +kernel
theorem dX2_readsDogs_82 : decode cX2_readsDogs 82 = .ok (.iload_n 3, 1) := by decide +kernel
theorem dX2_readsDogs_83 : decode cX2_readsDogs 83 = .ok (.ldc 50, 2) := by decide +kernel
theorem dX2_readsDogs_85 : decode cX2_readsDogs 85 = .ok (.if_icmp .eq 12, 3) := by decide +kernel
theorem dX2_readsDogs_88 : decode cX2_readsDogs 88 = .ok (.aload_n 0, 1) := by decide +kernel
theorem dX2_readsDogs_89 : decode cX2_readsDogs 89 = .ok (.bipush 59, 2) := by decide +kernel
theorem dX2_readsDogs_91 : decode cX2_readsDogs 91 = .ok (.invokevirtual 42, 3) := by decide +kernel
theorem dX2_readsDogs_94 : decode cX2_readsDogs 94 = .ok (.ifCond .ne 5, 3) := by decide +kernel
theorem dX2_readsDogs_97 : decode cX2_readsDogs 97 = .ok (.iconst 0, 1) := by decide +kernel
theorem dX2_readsDogs_98 : decode cX2_readsDogs 98 = .ok (.ireturn, 1) := by decide +kernel
theorem dX2_readsDogs_99 : decode cX2_readsDogs 99 = .ok (.aload_n 0, 1) := by decide +kernel
theorem dX2_readsDogs_100 : decode cX2_readsDogs 100 = .ok (.getfield 18, 3) := by decide +kernel
theorem dX2_readsDogs_103 : decode cX2_readsDogs 103 = .ok (.iload_n 2, 1) := by decide +kernel
theorem dX2_readsDogs_104 : decode cX2_readsDogs 104 = .ok (.iload_n 3, 1) := by decide +kernel
theorem dX2_readsDogs_105 : decode cX2_readsDogs 105 = .ok (.invokevirtual 82, 3) := by decide +kernel
theorem dX2_readsDogs_108 : decode cX2_readsDogs 108 = .ok (.iinc 1 1, 3) := by decide +kernel
theorem dX2_readsDogs_111 : decode cX2_readsDogs 111 = .ok (.goto (-109), 3) := by decide +kernel
theorem dX2_readsDogs_114 : decode cX2_readsDogs 114 = .ok (.iconst 1, 1) := by decide +kernel
theorem dX2_readsDogs_115 : decode cX2_readsDogs 115 = .ok (.ireturn, 1) := by decide +kernel
theorem dX2_sortOf_0 : decode cX2_sortOf 0 = .ok (.iload_n 0, 1) := by decide +kernel
theorem dX2_sortOf_1 : decode cX2_sortOf 1 = .ok (.tableswitch 77 104 116 #[67, 77, 77, 73, 77, 77, 77, 77, 71, 77, 77, 75, 69], 67) := by decide +kernel
theorem dX2_sortOf_68 : decode cX2_sortOf 68 = .ok (.iconst 1, 1) := by decide +kernel
theorem dX2_sortOf_69 : decode cX2_sortOf 69 = .ok (.ireturn, 1) := by decide +kernel
theorem dX2_sortOf_70 : decode cX2_sortOf 70 = .ok (.iconst 2, 1) := by decide +kernel
theorem dX2_sortOf_71 : decode cX2_sortOf 71 = .ok (.ireturn, 1) := by decide +kernel
theorem dX2_sortOf_72 : decode cX2_sortOf 72 = .ok (.iconst 3, 1) := by decide +kernel
theorem dX2_sortOf_73 : decode cX2_sortOf 73 = .ok (.ireturn, 1) := by decide +kernel
theorem dX2_sortOf_74 : decode cX2_sortOf 74 = .ok (.iconst 4, 1) := by decide +kernel
theorem dX2_sortOf_75 : decode cX2_sortOf 75 = .ok (.ireturn, 1) := by decide +kernel
theorem dX2_sortOf_76 : decode cX2_sortOf 76 = .ok (.iconst 5, 1) := by decide +kernel
theorem dX2_sortOf_77 : decode cX2_sortOf 77 = .ok (.ireturn, 1) := by decide +kernel
theorem dX2_sortOf_78 : decode cX2_sortOf 78 = .ok (.ldc 50, 2) := by decide +kernel
theorem dX2_sortOf_80 : decode cX2_sortOf 80 = .ok (.ireturn, 1) := by decide +kernel
theorem dX2_coming_0 : decode cX2_coming 0 = .ok (.aload_n 0, 1) := by decide +kernel
theorem dX2_coming_1 : decode cX2_coming 1 = .ok (.getfield 30, 3) := by decide +kernel
theorem dX2_coming_4 : decode cX2_coming 4 = .ok (.aload_n 0, 1) := by decide +kernel
theorem dX2_coming_5 : decode cX2_coming 5 = .ok (.getfield 22, 3) := by decide +kernel
theorem dX2_coming_8 : decode cX2_coming 8 = .ok (.if_icmp .ge 15, 3) := by decide +kernel
theorem dX2_coming_11 : decode cX2_coming 11 = .ok (.aload_n 0, 1) := by decide +kernel
theorem dX2_coming_12 : decode cX2_coming 12 = .ok (.getfield 11, 3) := by decide +kernel
theorem dX2_coming_15 : decode cX2_coming 15 = .ok (.aload_n 0, 1) := by decide +kernel
theorem dX2_coming_16 : decode cX2_coming 16 = .ok (.getfield 30, 3) := by decide +kernel
theorem dX2_coming_19 : decode cX2_coming 19 = .ok (.iaload, 1) := by decide +kernel
theorem dX2_coming_20 : decode cX2_coming 20 = .ok (.goto 5, 3) := by decide +kernel
theorem dX2_coming_23 : decode cX2_coming 23 = .ok (.ldc 50, 2) := by decide +kernel
theorem dX2_coming_25 : decode cX2_coming 25 = .ok (.ireturn, 1) := by decide +kernel
set_option maxRecDepth 20000 in
theorem ggX2_takes_X2_coming : GoodIn wsX2_takes wsX2_coming := goodIn_ids iaX2_takes iaX2_coming haX2_takes haX2_coming imX2_takes hmX2_takes (by decide +kernel) (by decide +kernel)
set_option maxRecDepth 20000 in
theorem gX2_takes_X2_coming : GoodIn wsX2_takes (wsV RX2 58 RX2 yX2_coming wsX2_coming) := goodIn_app (goodIn_ids iaX2_takes [384, 386, 6, 72] haX2_takes rfl imX2_takes hmX2_takes (by decide +kernel) (by decide +kernel)) ggX2_takes_X2_coming
set_option maxRecDepth 20000 in
theorem ggX2_takes_X2_meets : GoodIn wsX2_takes wsX2_meets := goodIn_ids iaX2_takes iaX2_meets haX2_takes haX2_meets imX2_takes hmX2_takes (by decide +kernel) (by decide +kernel)
set_option maxRecDepth 20000 in
theorem gX2_takes_X2_meets : GoodIn wsX2_takes (wsV RX2 65 RX2 yX2_meets wsX2_meets) := goodIn_app (goodIn_ids iaX2_takes [389, 391, 7, 72] haX2_takes rfl imX2_takes hmX2_takes (by decide +kernel) (by decide +kernel)) ggX2_takes_X2_meets
theorem dX2_takes_0 : decode cX2_takes 0 = .ok (.aload_n 0, 1) := by decide +kernel
theorem dX2_takes_1 : decode cX2_takes 1 = .ok (.invokevirtual 58, 3) := by decide +kernel
theorem dX2_takes_4 : decode cX2_takes 4 = .ok (.iload_n 1, 1) := by decide +kernel
theorem dX2_takes_5 : decode cX2_takes 5 = .ok (.if_icmp .eq 9, 3) := by decide +kernel
theorem dX2_takes_8 : decode cX2_takes 8 = .ok (.aload_n 0, 1) := by decide +kernel
theorem dX2_takes_9 : decode cX2_takes 9 = .ok (.iconst 1, 1) := by decide +kernel
theorem dX2_takes_10 : decode cX2_takes 10 = .ok (.invokevirtual 65, 3) := by decide +kernel
theorem dX2_takes_13 : decode cX2_takes 13 = .ok (.ireturn, 1) := by decide +kernel
theorem dX2_takes_14 : decode cX2_takes 14 = .ok (.aload_n 0, 1) := by decide +kernel
theorem dX2_takes_15 : decode cX2_takes 15 = .ok (.dup, 1) := by decide +kernel
theorem dX2_takes_16 : decode cX2_takes 16 = .ok (.getfield 30, 3) := by decide +kernel
theorem dX2_takes_19 : decode cX2_takes 19 = .ok (.iconst 1, 1) := by decide +kernel
theorem dX2_takes_20 : decode cX2_takes 20 = .ok (.iadd, 1) := by decide +kernel
theorem dX2_takes_21 : decode cX2_takes 21 = .ok (.putfield 30, 3) := by decide +kernel
theorem dX2_takes_24 : decode cX2_takes 24 = .ok (.iconst 1, 1) := by decide +kernel
theorem dX2_takes_25 : decode cX2_takes 25 = .ok (.ireturn, 1) := by decide +kernel
set_option maxRecDepth 20000 in
theorem ggX2_number_X2_isFigure : GoodIn wsX2_number wsX2_isFigure := goodIn_ids iaX2_number iaX2_isFigure haX2_number haX2_isFigure imX2_number hmX2_number (by decide +kernel) (by decide +kernel)
set_option maxRecDepth 20000 in
theorem gX2_number_X2_isFigure : GoodIn wsX2_number (va_wsS RX2 85 yX2_isFigure wsX2_isFigure) := goodIn_app (goodIn_ids iaX2_number [397, 398, 72] haX2_number rfl imX2_number hmX2_number (by decide +kernel) (by decide +kernel)) ggX2_number_X2_isFigure
set_option maxRecDepth 20000 in
theorem ggX2_number_X2_meets : GoodIn wsX2_number wsX2_meets := goodIn_ids iaX2_number iaX2_meets haX2_number haX2_meets imX2_number hmX2_number (by decide +kernel) (by decide +kernel)
set_option maxRecDepth 20000 in
theorem gX2_number_X2_meets : GoodIn wsX2_number (wsV RX2 65 RX2 yX2_meets wsX2_meets) := goodIn_app (goodIn_ids iaX2_number [389, 391, 7, 72] haX2_number rfl imX2_number hmX2_number (by decide +kernel) (by decide +kernel)) ggX2_number_X2_meets
theorem dX2_number_0 : decode cX2_number 0 = .ok (.iconst 0, 1) := by decide +kernel
theorem dX2_number_1 : decode cX2_number 1 = .ok (.istore_n 3, 1) := by decide +kernel
theorem dX2_number_2 : decode cX2_number 2 = .ok (.aload_n 0, 1) := by decide +kernel
theorem dX2_number_3 : decode cX2_number 3 = .ok (.getfield 30, 3) := by decide +kernel
theorem dX2_number_6 : decode cX2_number 6 = .ok (.istore 4, 2) := by decide +kernel
theorem dX2_number_8 : decode cX2_number 8 = .ok (.iload 4, 2) := by decide +kernel
theorem dX2_number_10 : decode cX2_number 10 = .ok (.aload_n 0, 1) := by decide +kernel
theorem dX2_number_11 : decode cX2_number 11 = .ok (.getfield 22, 3) := by decide +kernel
theorem dX2_number_14 : decode cX2_number 14 = .ok (.if_icmp .ge 49, 3) := by decide +kernel
theorem dX2_number_17 : decode cX2_number 17 = .ok (.aload_n 0, 1) := by decide +kernel
theorem dX2_number_18 : decode cX2_number 18 = .ok (.getfield 11, 3) := by decide +kernel
theorem dX2_number_21 : decode cX2_number 21 = .ok (.iload 4, 2) := by decide +kernel
theorem dX2_number_23 : decode cX2_number 23 = .ok (.iaload, 1) := by decide +kernel
theorem dX2_number_24 : decode cX2_number 24 = .ok (.invokestatic 85, 3) := by decide +kernel
theorem dX2_number_27 : decode cX2_number 27 = .ok (.ifCond .eq 36, 3) := by decide +kernel
theorem dX2_number_30 : decode cX2_number 30 = .ok (.iload 4, 2) := by decide +kernel
theorem dX2_number_32 : decode cX2_number 32 = .ok (.aload_n 0, 1) := by decide +kernel
theorem dX2_number_33 : decode cX2_number 33 = .ok (.getfield 30, 3) := by decide +kernel
theorem dX2_number_36 : decode cX2_number 36 = .ok (.isub, 1) := by decide +kernel
theorem dX2_number_37 : decode cX2_number 37 = .ok (.iconst 3, 1) := by decide +kernel
theorem dX2_number_38 : decode cX2_number 38 = .ok (.if_icmp .ge 25, 3) := by decide +kernel
theorem dX2_number_41 : decode cX2_number 41 = .ok (.bipush 10, 2) := by decide +kernel
theorem dX2_number_43 : decode cX2_number 43 = .ok (.iload_n 3, 1) := by decide +kernel
theorem dX2_number_44 : decode cX2_number 44 = .ok (.imul, 1) := by decide +kernel
theorem dX2_number_45 : decode cX2_number 45 = .ok (.aload_n 0, 1) := by decide +kernel
theorem dX2_number_46 : decode cX2_number 46 = .ok (.getfield 11, 3) := by decide +kernel
theorem dX2_number_49 : decode cX2_number 49 = .ok (.iload 4, 2) := by decide +kernel
theorem dX2_number_51 : decode cX2_number 51 = .ok (.iaload, 1) := by decide +kernel
theorem dX2_number_52 : decode cX2_number 52 = .ok (.iadd, 1) := by decide +kernel
theorem dX2_number_53 : decode cX2_number 53 = .ok (.bipush 48, 2) := by decide +kernel
theorem dX2_number_55 : decode cX2_number 55 = .ok (.isub, 1) := by decide +kernel
theorem dX2_number_56 : decode cX2_number 56 = .ok (.istore_n 3, 1) := by decide +kernel
theorem dX2_number_57 : decode cX2_number 57 = .ok (.iinc 4 1, 3) := by decide +kernel
theorem dX2_number_60 : decode cX2_number 60 = .ok (.goto (-52), 3) := by decide +kernel
theorem dX2_number_63 : decode cX2_number 63 = .ok (.iload 4, 2) := by decide +kernel
theorem dX2_number_65 : decode cX2_number 65 = .ok (.aload_n 0, 1) := by decide +kernel
theorem dX2_number_66 : decode cX2_number 66 = .ok (.getfield 30, 3) := by decide +kernel
theorem dX2_number_69 : decode cX2_number 69 = .ok (.if_icmp .eq 14, 3) := by decide +kernel
theorem dX2_number_72 : decode cX2_number 72 = .ok (.iload 4, 2) := by decide +kernel
theorem dX2_number_74 : decode cX2_number 74 = .ok (.aload_n 0, 1) := by decide +kernel
theorem dX2_number_75 : decode cX2_number 75 = .ok (.getfield 30, 3) := by decide +kernel
theorem dX2_number_78 : decode cX2_number 78 = .ok (.isub, 1) := by decide +kernel
theorem dX2_number_79 : decode cX2_number 79 = .ok (.iconst 2, 1) := by decide +kernel
theorem dX2_number_80 : decode cX2_number 80 = .ok (.if_icmp .le 12, 3) := by decide +kernel
theorem dX2_number_83 : decode cX2_number 83 = .ok (.aload_n 0, 1) := by decide +kernel
theorem dX2_number_84 : decode cX2_number 84 = .ok (.iconst 1, 1) := by decide +kernel
theorem dX2_number_85 : decode cX2_number 85 = .ok (.invokevirtual 65, 3) := by decide +kernel
theorem dX2_number_88 : decode cX2_number 88 = .ok (.pop, 1) := by decide +kernel
theorem dX2_number_89 : decode cX2_number 89 = .ok (.ldc 50, 2) := by decide +kernel
theorem dX2_number_91 : decode cX2_number 91 = .ok (.ireturn, 1) := by decide +kernel
theorem dX2_number_92 : decode cX2_number 92 = .ok (.iload_n 3, 1) := by decide +kernel
theorem dX2_number_93 : decode cX2_number 93 = .ok (.iload_n 1, 1) := by decide +kernel
theorem dX2_number_94 : decode cX2_number 94 = .ok (.if_icmp .lt 8, 3) := by decide +kernel
theorem dX2_number_97 : decode cX2_number 97 = .ok (.iload_n 3, 1) := by decide +kernel
theorem dX2_number_98 : decode cX2_number 98 = .ok (.iload_n 2, 1) := by decide +kernel
theorem dX2_number_99 : decode cX2_number 99 = .ok (.if_icmp .le 12, 3) := by decide +kernel
theorem dX2_number_102 : decode cX2_number 102 = .ok (.aload_n 0, 1) := by decide +kernel
theorem dX2_number_103 : decode cX2_number 103 = .ok (.iconst 2, 1) := by decide +kernel
theorem dX2_number_104 : decode cX2_number 104 = .ok (.invokevirtual 65, 3) := by decide +kernel
theorem dX2_number_107 : decode cX2_number 107 = .ok (.pop, 1) := by decide +kernel
theorem dX2_number_108 : decode cX2_number 108 = .ok (.ldc 50, 2) := by decide +kernel
theorem dX2_number_110 : decode cX2_number 110 = .ok (.ireturn, 1) := by decide +kernel
theorem dX2_number_111 : decode cX2_number 111 = .ok (.aload_n 0, 1) := by decide +kernel
theorem dX2_number_112 : decode cX2_number 112 = .ok (.iload 4, 2) := by decide +kernel
theorem dX2_number_114 : decode cX2_number 114 = .ok (.putfield 30, 3) := by decide +kernel
theorem dX2_number_117 : decode cX2_number 117 = .ok (.iload_n 3, 1) := by decide +kernel
theorem dX2_number_118 : decode cX2_number 118 = .ok (.ireturn, 1) := by decide +kernel
theorem dX2_isFigure_0 : decode cX2_isFigure 0 = .ok (.iload_n 0, 1) := by decide +kernel
theorem dX2_isFigure_1 : decode cX2_isFigure 1 = .ok (.bipush 48, 2) := by decide +kernel
theorem dX2_isFigure_3 : decode cX2_isFigure 3 = .ok (.if_icmp .lt 13, 3) := by decide +kernel
theorem dX2_isFigure_6 : decode cX2_isFigure 6 = .ok (.iload_n 0, 1) := by decide +kernel
theorem dX2_isFigure_7 : decode cX2_isFigure 7 = .ok (.bipush 57, 2) := by decide +kernel
theorem dX2_isFigure_9 : decode cX2_isFigure 9 = .ok (.if_icmp .gt 7, 3) := by decide +kernel
theorem dX2_isFigure_12 : decode cX2_isFigure 12 = .ok (.iconst 1, 1) := by decide +kernel
theorem dX2_isFigure_13 : decode cX2_isFigure 13 = .ok (.goto 4, 3) := by decide +kernel
theorem dX2_isFigure_16 : decode cX2_isFigure 16 = .ok (.iconst 0, 1) := by decide +kernel
theorem dX2_isFigure_17 : decode cX2_isFigure 17 = .ok (.ireturn, 1) := by decide +kernel
theorem dX2_meets_0 : decode cX2_meets 0 = .ok (.aload_n 0, 1) := by decide +kernel
theorem dX2_meets_1 : decode cX2_meets 1 = .ok (.aload_n 0, 1) := by decide +kernel
theorem dX2_meets_2 : decode cX2_meets 2 = .ok (.getfield 30, 3) := by decide +kernel
theorem dX2_meets_5 : decode cX2_meets 5 = .ok (.putfield 88, 3) := by decide +kernel
theorem dX2_meets_8 : decode cX2_meets 8 = .ok (.aload_n 0, 1) := by decide +kernel
theorem dX2_meets_9 : decode cX2_meets 9 = .ok (.iload_n 1, 1) := by decide +kernel
theorem dX2_meets_10 : decode cX2_meets 10 = .ok (.putfield 91, 3) := by decide +kernel
theorem dX2_meets_13 : decode cX2_meets 13 = .ok (.iconst 0, 1) := by decide +kernel
theorem dX2_meets_14 : decode cX2_meets 14 = .ok (.ireturn, 1) := by decide +kernel
set_option maxRecDepth 20000 in
theorem ggX3_init_X4_init : GoodIn wsX3_init wsX4_init := goodIn_ids iaX3_init iaX4_init haX3_init haX4_init imX3_init hmX3_init (by decide +kernel) (by decide +kernel)
set_option maxRecDepth 20000 in
theorem gX3_init_X4_init_n11 : GoodIn wsX3_init (wsX4_init) := ggX3_init_X4_init
theorem dX3_init_0 : decode cX3_init 0 = .ok (.aload_n 0, 1) := by decide +kernel
theorem dX3_init_1 : decode cX3_init 1 = .ok (.invokespecial 3, 3) := by decide +kernel
theorem dX3_init_4 : decode cX3_init 4 = .ok (.aload_n 0, 1) := by decide +kernel
theorem dX3_init_5 : decode cX3_init 5 = .ok (.new 9, 3) := by decide +kernel
theorem dX3_init_8 : decode cX3_init 8 = .ok (.dup, 1) := by decide +kernel
theorem dX3_init_9 : decode cX3_init 9 = .ok (.invokespecial 11, 3) := by decide +kernel
theorem dX3_init_12 : decode cX3_init 12 = .ok (.putfield 12, 3) := by decide +kernel
theorem dX3_init_15 : decode cX3_init 15 = .ok (.aload_n 0, 1) := by decide +kernel
theorem dX3_init_16 : decode cX3_init 16 = .ok (.iconst 5, 1) := by decide +kernel
theorem dX3_init_17 : decode cX3_init 17 = .ok (.newarray .int, 2) := by decide +kernel
theorem dX3_init_19 : decode cX3_init 19 = .ok (.putfield 18, 3) := by decide +kernel
theorem dX3_init_22 : decode cX3_init 22 = .ok (.aload_n 0, 1) := by decide +kernel
theorem dX3_init_23 : decode cX3_init 23 = .ok (.aload_n 1, 1) := by decide +kernel
theorem dX3_init_24 : decode cX3_init 24 = .ok (.putfield 22, 3) := by decide +kernel
theorem dX3_init_27 : decode cX3_init 27 = .ok (.return_, 1) := by decide +kernel
set_option maxRecDepth 20000 in
theorem ggX3_dogLater_X3_passMinutes : GoodIn wsX3_dogLater wsX3_passMinutes := goodIn_ids iaX3_dogLater iaX3_passMinutes haX3_dogLater haX3_passMinutes imX3_dogLater hmX3_dogLater (by decide +kernel) (by decide +kernel)
set_option maxRecDepth 20000 in
theorem gX3_dogLater_X3_passMinutes : GoodIn wsX3_dogLater (wsV RX3 25 RX3 yX3_passMinutes wsX3_passMinutes) := goodIn_app (goodIn_ids iaX3_dogLater [580, 582, 21, 75] haX3_dogLater rfl imX3_dogLater hmX3_dogLater (by decide +kernel) (by decide +kernel)) ggX3_dogLater_X3_passMinutes
theorem dX3_dogLater_0 : decode cX3_dogLater 0 = .ok (.aload_n 0, 1) := by decide +kernel
theorem dX3_dogLater_1 : decode cX3_dogLater 1 = .ok (.iload_n 2, 1) := by decide +kernel
theorem dX3_dogLater_2 : decode cX3_dogLater 2 = .ok (.invokevirtual 25, 3) := by decide +kernel
theorem dX3_dogLater_5 : decode cX3_dogLater 5 = .ok (.aload_n 0, 1) := by decide +kernel
theorem dX3_dogLater_6 : decode cX3_dogLater 6 = .ok (.getfield 12, 3) := by decide +kernel
theorem dX3_dogLater_9 : decode cX3_dogLater 9 = .ok (.getfield 29, 3) := by decide +kernel
theorem dX3_dogLater_12 : decode cX3_dogLater 12 = .ok (.iload_n 1, 1) := by decide +kernel
theorem dX3_dogLater_13 : decode cX3_dogLater 13 = .ok (.iaload, 1) := by decide +kernel
theorem dX3_dogLater_14 : decode cX3_dogLater 14 = .ok (.ireturn, 1) := by decide +kernel
set_option maxRecDepth 20000 in
theorem ggX3_personLater_X3_passMinutes : GoodIn wsX3_personLater wsX3_passMinutes := goodIn_ids iaX3_personLater iaX3_passMinutes haX3_personLater haX3_passMinutes imX3_personLater hmX3_personLater (by decide +kernel) (by decide +kernel)
set_option maxRecDepth 20000 in
theorem gX3_personLater_X3_passMinutes : GoodIn wsX3_personLater (wsV RX3 25 RX3 yX3_passMinutes wsX3_passMinutes) := goodIn_app (goodIn_ids iaX3_personLater [580, 582, 21, 75] haX3_personLater rfl imX3_personLater hmX3_personLater (by decide +kernel) (by decide +kernel)) ggX3_personLater_X3_passMinutes
theorem dX3_personLater_0 : decode cX3_personLater 0 = .ok (.aload_n 0, 1) := by decide +kernel
theorem dX3_personLater_1 : decode cX3_personLater 1 = .ok (.iload_n 2, 1) := by decide +kernel
theorem dX3_personLater_2 : decode cX3_personLater 2 = .ok (.invokevirtual 25, 3) := by decide +kernel
theorem dX3_personLater_5 : decode cX3_personLater 5 = .ok (.aload_n 0, 1) := by decide +kernel
theorem dX3_personLater_6 : decode cX3_personLater 6 = .ok (.getfield 12, 3) := by decide +kernel
theorem dX3_personLater_9 : decode cX3_personLater 9 = .ok (.getfield 32, 3) := by decide +kernel
theorem dX3_personLater_12 : decode cX3_personLater 12 = .ok (.iload_n 1, 1) := by decide +kernel
theorem dX3_personLater_13 : decode cX3_personLater 13 = .ok (.iaload, 1) := by decide +kernel
theorem dX3_personLater_14 : decode cX3_personLater 14 = .ok (.ireturn, 1) := by decide +kernel
set_option maxRecDepth 20000 in
theorem ggX3_passMinutes_X4_become : GoodIn wsX3_passMinutes wsX4_become := goodIn_ids iaX3_passMinutes iaX4_become haX3_passMinutes haX4_become imX3_passMinutes hmX3_passMinutes (by decide +kernel) (by decide +kernel)
set_option maxRecDepth 20000 in
theorem gX3_passMinutes_X4_become : GoodIn wsX3_passMinutes (wsV RX3 35 RX4 yX4_become wsX4_become) := goodIn_app (goodIn_ids iaX3_passMinutes [584, 432, 433, 73] haX3_passMinutes rfl imX3_passMinutes hmX3_passMinutes (by decide +kernel) (by decide +kernel)) ggX3_passMinutes_X4_become
set_option maxRecDepth 20000 in
theorem ggX3_passMinutes_X4_pass : GoodIn wsX3_passMinutes wsX4_pass := goodIn_ids iaX3_passMinutes iaX4_pass haX3_passMinutes haX4_pass imX3_passMinutes hmX3_passMinutes (by decide +kernel) (by decide +kernel)
set_option maxRecDepth 20000 in
theorem gX3_passMinutes_X4_pass : GoodIn wsX3_passMinutes (wsV RX3 39 RX4 yX4_pass wsX4_pass) := goodIn_app (goodIn_ids iaX3_passMinutes [585, 461, 462, 73] haX3_passMinutes rfl imX3_passMinutes hmX3_passMinutes (by decide +kernel) (by decide +kernel)) ggX3_passMinutes_X4_pass
theorem dX3_passMinutes_0 : decode cX3_passMinutes 0 = .ok (.aload_n 0, 1) := by decide +kernel
theorem dX3_passMinutes_1 : decode cX3_passMinutes 1 = .ok (.getfield 12, 3) := by decide +kernel
theorem dX3_passMinutes_4 : decode cX3_passMinutes 4 = .ok (.aload_n 0, 1) := by decide +kernel
theorem dX3_passMinutes_5 : decode cX3_passMinutes 5 = .ok (.getfield 22, 3) := by decide +kernel
theorem dX3_passMinutes_8 : decode cX3_passMinutes 8 = .ok (.invokevirtual 35, 3) := by decide +kernel
theorem dX3_passMinutes_11 : decode cX3_passMinutes 11 = .ok (.iconst 0, 1) := by decide +kernel
theorem dX3_passMinutes_12 : decode cX3_passMinutes 12 = .ok (.istore_n 2, 1) := by decide +kernel
theorem dX3_passMinutes_13 : decode cX3_passMinutes 13 = .ok (.iload_n 2, 1) := by decide +kernel
theorem dX3_passMinutes_14 : decode cX3_passMinutes 14 = .ok (.iload_n 1, 1) := by decide +kernel
theorem dX3_passMinutes_15 : decode cX3_passMinutes 15 = .ok (.if_icmp .ge 17, 3) := by decide +kernel
theorem dX3_passMinutes_18 : decode cX3_passMinutes 18 = .ok (.aload_n 0, 1) := by decide +kernel
theorem dX3_passMinutes_19 : decode cX3_passMinutes 19 = .ok (.getfield 12, 3) := by decide +kernel
theorem dX3_passMinutes_22 : decode cX3_passMinutes 22 = .ok (.invokevirtual 39, 3) := by decide +kernel
theorem dX3_passMinutes_25 : decode cX3_passMinutes 25 = .ok (.pop, 1) := by decide +kernel
theorem dX3_passMinutes_26 : decode cX3_passMinutes 26 = .ok (.iinc 2 1, 3) := by decide +kernel
theorem dX3_passMinutes_29 : decode cX3_passMinutes 29 = .ok (.goto (-16), 3) := by decide +kernel
theorem dX3_passMinutes_32 : decode cX3_passMinutes 32 = .ok (.return_, 1) := by decide +kernel
set_option maxRecDepth 20000 in
theorem ggX3_kingOfBell_X4_become : GoodIn wsX3_kingOfBell wsX4_become := goodIn_ids iaX3_kingOfBell iaX4_become haX3_kingOfBell haX4_become imX3_kingOfBell hmX3_kingOfBell (by decide +kernel) (by decide +kernel)
set_option maxRecDepth 20000 in
theorem gX3_kingOfBell_X4_become : GoodIn wsX3_kingOfBell (wsV RX3 35 RX4 yX4_become wsX4_become) := goodIn_app (goodIn_ids iaX3_kingOfBell [584, 432, 433, 73] haX3_kingOfBell rfl imX3_kingOfBell hmX3_kingOfBell (by decide +kernel) (by decide +kernel)) ggX3_kingOfBell_X4_become
set_option maxRecDepth 20000 in
theorem ggX3_kingOfBell_X4_runToBell : GoodIn wsX3_kingOfBell wsX4_runToBell := goodIn_ids iaX3_kingOfBell iaX4_runToBell haX3_kingOfBell haX4_runToBell imX3_kingOfBell hmX3_kingOfBell (by decide +kernel) (by decide +kernel)
set_option maxRecDepth 20000 in
theorem gX3_kingOfBell_X4_runToBell : GoodIn wsX3_kingOfBell (wsV RX3 44 RX4 yX4_runToBell wsX4_runToBell) := goodIn_app (goodIn_ids iaX3_kingOfBell [603, 604, 605, 73] haX3_kingOfBell rfl imX3_kingOfBell hmX3_kingOfBell (by decide +kernel) (by decide +kernel)) ggX3_kingOfBell_X4_runToBell
set_option maxRecDepth 20000 in
theorem ggX3_kingOfBell_X4_ring : GoodIn wsX3_kingOfBell wsX4_ring := goodIn_ids iaX3_kingOfBell iaX4_ring haX3_kingOfBell haX4_ring imX3_kingOfBell hmX3_kingOfBell (by decide +kernel) (by decide +kernel)
set_option maxRecDepth 20000 in
theorem gX3_kingOfBell_X4_ring : GoodIn wsX3_kingOfBell (wsV RX3 47 RX4 yX4_ring wsX4_ring) := goodIn_app (goodIn_ids iaX3_kingOfBell [607, 512, 513, 73] haX3_kingOfBell rfl imX3_kingOfBell hmX3_kingOfBell (by decide +kernel) (by decide +kernel)) ggX3_kingOfBell_X4_ring
theorem dX3_kingOfBell_0 : decode cX3_kingOfBell 0 = .ok (.aload_n 0, 1) := by decide +kernel
theorem dX3_kingOfBell_1 : decode cX3_kingOfBell 1 = .ok (.getfield 12, 3) := by decide +kernel
theorem dX3_kingOfBell_4 : decode cX3_kingOfBell 4 = .ok (.aload_n 0, 1) := by decide +kernel
theorem dX3_kingOfBell_5 : decode cX3_kingOfBell 5 = .ok (.getfield 22, 3) := by decide +kernel
theorem dX3_kingOfBell_8 : decode cX3_kingOfBell 8 = .ok (.invokevirtual 35, 3) := by decide +kernel
theorem dX3_kingOfBell_11 : decode cX3_kingOfBell 11 = .ok (.ldc 43, 2) := by decide +kernel
theorem dX3_kingOfBell_13 : decode cX3_kingOfBell 13 = .ok (.istore_n 2, 1) := by decide +kernel
theorem dX3_kingOfBell_14 : decode cX3_kingOfBell 14 = .ok (.iconst 0, 1) := by decide +kernel
theorem dX3_kingOfBell_15 : decode cX3_kingOfBell 15 = .ok (.istore_n 3, 1) := by decide +kernel
theorem dX3_kingOfBell_16 : decode cX3_kingOfBell 16 = .ok (.iload_n 3, 1) := by decide +kernel
theorem dX3_kingOfBell_17 : decode cX3_kingOfBell 17 = .ok (.iload_n 1, 1) := by decide +kernel
theorem dX3_kingOfBell_18 : decode cX3_kingOfBell 18 = .ok (.if_icmp .ge 24, 3) := by decide +kernel
theorem dX3_kingOfBell_21 : decode cX3_kingOfBell 21 = .ok (.aload_n 0, 1) := by decide +kernel
theorem dX3_kingOfBell_22 : decode cX3_kingOfBell 22 = .ok (.getfield 12, 3) := by decide +kernel
theorem dX3_kingOfBell_25 : decode cX3_kingOfBell 25 = .ok (.invokevirtual 44, 3) := by decide +kernel
theorem dX3_kingOfBell_28 : decode cX3_kingOfBell 28 = .ok (.aload_n 0, 1) := by decide +kernel
theorem dX3_kingOfBell_29 : decode cX3_kingOfBell 29 = .ok (.getfield 12, 3) := by decide +kernel
theorem dX3_kingOfBell_32 : decode cX3_kingOfBell 32 = .ok (.invokevirtual 47, 3) := by decide +kernel
theorem dX3_kingOfBell_35 : decode cX3_kingOfBell 35 = .ok (.istore_n 2, 1) := by decide +kernel
theorem dX3_kingOfBell_36 : decode cX3_kingOfBell 36 = .ok (.iinc 3 1, 3) := by decide +kernel
theorem dX3_kingOfBell_39 : decode cX3_kingOfBell 39 = .ok (.goto (-23), 3) := by decide +kernel
theorem dX3_kingOfBell_42 : decode cX3_kingOfBell 42 = .ok (.iload_n 2, 1) := by decide +kernel
theorem dX3_kingOfBell_43 : decode cX3_kingOfBell 43 = .ok (.ireturn, 1) := by decide +kernel
set_option maxRecDepth 20000 in
theorem ggX3_minutesToReign_X4_become : GoodIn wsX3_minutesToReign wsX4_become := goodIn_ids iaX3_minutesToReign iaX4_become haX3_minutesToReign haX4_become imX3_minutesToReign hmX3_minutesToReign (by decide +kernel) (by decide +kernel)
set_option maxRecDepth 20000 in
theorem gX3_minutesToReign_X4_become : GoodIn wsX3_minutesToReign (wsV RX3 35 RX4 yX4_become wsX4_become) := goodIn_app (goodIn_ids iaX3_minutesToReign [584, 432, 433, 73] haX3_minutesToReign rfl imX3_minutesToReign hmX3_minutesToReign (by decide +kernel) (by decide +kernel)) ggX3_minutesToReign_X4_become
set_option maxRecDepth 20000 in
theorem ggX3_minutesToReign_X4_pass : GoodIn wsX3_minutesToReign wsX4_pass := goodIn_ids iaX3_minutesToReign iaX4_pass haX3_minutesToReign haX4_pass imX3_minutesToReign hmX3_minutesToReign (by decide +kernel) (by decide +kernel)
set_option maxRecDepth 20000 in
theorem gX3_minutesToReign_X4_pass : GoodIn wsX3_minutesToReign (wsV RX3 39 RX4 yX4_pass wsX4_pass) := goodIn_app (goodIn_ids iaX3_minutesToReign [585, 461, 462, 73] haX3_minutesToReign rfl imX3_minutesToReign hmX3_minutesToReign (by decide +kernel) (by decide +kernel)) ggX3_minutesToReign_X4_pass
theorem dX3_minutesToReign_0 : decode cX3_minutesToReign 0 = .ok (.aload_n 0, 1) := by decide +kernel
theorem dX3_minutesToReign_1 : decode cX3_minutesToReign 1 = .ok (.getfield 12, 3) := by decide +kernel
theorem dX3_minutesToReign_4 : decode cX3_minutesToReign 4 = .ok (.aload_n 0, 1) := by decide +kernel
theorem dX3_minutesToReign_5 : decode cX3_minutesToReign 5 = .ok (.getfield 22, 3) := by decide +kernel
theorem dX3_minutesToReign_8 : decode cX3_minutesToReign 8 = .ok (.invokevirtual 35, 3) := by decide +kernel
theorem dX3_minutesToReign_11 : decode cX3_minutesToReign 11 = .ok (.iconst 1, 1) := by decide +kernel
theorem dX3_minutesToReign_12 : decode cX3_minutesToReign 12 = .ok (.istore_n 2, 1) := by decide +kernel
theorem dX3_minutesToReign_13 : decode cX3_minutesToReign 13 = .ok (.iload_n 2, 1) := by decide +kernel
theorem dX3_minutesToReign_14 : decode cX3_minutesToReign 14 = .ok (.bipush 60, 2) := by decide +kernel
theorem dX3_minutesToReign_16 : decode cX3_minutesToReign 16 = .ok (.if_icmp .gt 22, 3) := by decide +kernel
theorem dX3_minutesToReign_19 : decode cX3_minutesToReign 19 = .ok (.aload_n 0, 1) := by decide +kernel
theorem dX3_minutesToReign_20 : decode cX3_minutesToReign 20 = .ok (.getfield 12, 3) := by decide +kernel
theorem dX3_minutesToReign_23 : decode cX3_minutesToReign 23 = .ok (.invokevirtual 39, 3) := by decide +kernel
theorem dX3_minutesToReign_26 : decode cX3_minutesToReign 26 = .ok (.iload_n 1, 1) := by decide +kernel
theorem dX3_minutesToReign_27 : decode cX3_minutesToReign 27 = .ok (.if_icmp .ne 5, 3) := by decide +kernel
theorem dX3_minutesToReign_30 : decode cX3_minutesToReign 30 = .ok (.iload_n 2, 1) := by decide +kernel
theorem dX3_minutesToReign_31 : decode cX3_minutesToReign 31 = .ok (.ireturn, 1) := by decide +kernel
theorem dX3_minutesToReign_32 : decode cX3_minutesToReign 32 = .ok (.iinc 2 1, 3) := by decide +kernel
theorem dX3_minutesToReign_35 : decode cX3_minutesToReign 35 = .ok (.goto (-22), 3) := by decide +kernel
theorem dX3_minutesToReign_38 : decode cX3_minutesToReign 38 = .ok (.ldc 43, 2) := by decide +kernel
theorem dX3_minutesToReign_40 : decode cX3_minutesToReign 40 = .ok (.ireturn, 1) := by decide +kernel
set_option maxRecDepth 20000 in
theorem ggX3_fewestBones_X3_reignsWith : GoodIn wsX3_fewestBones wsX3_reignsWith := goodIn_ids iaX3_fewestBones iaX3_reignsWith haX3_fewestBones haX3_reignsWith imX3_fewestBones hmX3_fewestBones (by decide +kernel) (by decide +kernel)
set_option maxRecDepth 20000 in
theorem gX3_fewestBones_X3_reignsWith : GoodIn wsX3_fewestBones (wsV RX3 50 RX3 yX3_reignsWith wsX3_reignsWith) := goodIn_app (goodIn_ids iaX3_fewestBones [624, 626, 22, 75] haX3_fewestBones rfl imX3_fewestBones hmX3_fewestBones (by decide +kernel) (by decide +kernel)) ggX3_fewestBones_X3_reignsWith
theorem dX3_fewestBones_0 : decode cX3_fewestBones 0 = .ok (.iconst 0, 1) := by decide +kernel
theorem dX3_fewestBones_1 : decode cX3_fewestBones 1 = .ok (.istore_n 2, 1) := by decide +kernel
theorem dX3_fewestBones_2 : decode cX3_fewestBones 2 = .ok (.iload_n 2, 1) := by decide +kernel
theorem dX3_fewestBones_3 : decode cX3_fewestBones 3 = .ok (.bipush 9, 2) := by decide +kernel
theorem dX3_fewestBones_5 : decode cX3_fewestBones 5 = .ok (.if_icmp .gt 21, 3) := by decide +kernel
theorem dX3_fewestBones_8 : decode cX3_fewestBones 8 = .ok (.aload_n 0, 1) := by decide +kernel
theorem dX3_fewestBones_9 : decode cX3_fewestBones 9 = .ok (.iconst 4, 1) := by decide +kernel
theorem dX3_fewestBones_10 : decode cX3_fewestBones 10 = .ok (.iload_n 1, 1) := by decide +kernel
theorem dX3_fewestBones_11 : decode cX3_fewestBones 11 = .ok (.iload_n 2, 1) := by decide +kernel
theorem dX3_fewestBones_12 : decode cX3_fewestBones 12 = .ok (.invokevirtual 50, 3) := by decide +kernel
theorem dX3_fewestBones_15 : decode cX3_fewestBones 15 = .ok (.ifCond .eq 5, 3) := by decide +kernel
theorem dX3_fewestBones_18 : decode cX3_fewestBones 18 = .ok (.iload_n 2, 1) := by decide +kernel
theorem dX3_fewestBones_19 : decode cX3_fewestBones 19 = .ok (.ireturn, 1) := by decide +kernel
theorem dX3_fewestBones_20 : decode cX3_fewestBones 20 = .ok (.iinc 2 1, 3) := by decide +kernel
theorem dX3_fewestBones_23 : decode cX3_fewestBones 23 = .ok (.goto (-21), 3) := by decide +kernel
theorem dX3_fewestBones_26 : decode cX3_fewestBones 26 = .ok (.ldc 43, 2) := by decide +kernel
theorem dX3_fewestBones_28 : decode cX3_fewestBones 28 = .ok (.ireturn, 1) := by decide +kernel
set_option maxRecDepth 20000 in
theorem ggX3_gaitsOfAKing_X3_reignsWith : GoodIn wsX3_gaitsOfAKing wsX3_reignsWith := goodIn_ids iaX3_gaitsOfAKing iaX3_reignsWith haX3_gaitsOfAKing haX3_reignsWith imX3_gaitsOfAKing hmX3_gaitsOfAKing (by decide +kernel) (by decide +kernel)
set_option maxRecDepth 20000 in
theorem gX3_gaitsOfAKing_X3_reignsWith : GoodIn wsX3_gaitsOfAKing (wsV RX3 50 RX3 yX3_reignsWith wsX3_reignsWith) := goodIn_app (goodIn_ids iaX3_gaitsOfAKing [624, 626, 22, 75] haX3_gaitsOfAKing rfl imX3_gaitsOfAKing hmX3_gaitsOfAKing (by decide +kernel) (by decide +kernel)) ggX3_gaitsOfAKing_X3_reignsWith
theorem dX3_gaitsOfAKing_0 : decode cX3_gaitsOfAKing 0 = .ok (.iconst 0, 1) := by decide +kernel
theorem dX3_gaitsOfAKing_1 : decode cX3_gaitsOfAKing 1 = .ok (.istore_n 2, 1) := by decide +kernel
theorem dX3_gaitsOfAKing_2 : decode cX3_gaitsOfAKing 2 = .ok (.iconst 0, 1) := by decide +kernel
theorem dX3_gaitsOfAKing_3 : decode cX3_gaitsOfAKing 3 = .ok (.istore_n 3, 1) := by decide +kernel
theorem dX3_gaitsOfAKing_4 : decode cX3_gaitsOfAKing 4 = .ok (.iload_n 3, 1) := by decide +kernel
theorem dX3_gaitsOfAKing_5 : decode cX3_gaitsOfAKing 5 = .ok (.iconst 2, 1) := by decide +kernel
theorem dX3_gaitsOfAKing_6 : decode cX3_gaitsOfAKing 6 = .ok (.if_icmp .gt 25, 3) := by decide +kernel
theorem dX3_gaitsOfAKing_9 : decode cX3_gaitsOfAKing 9 = .ok (.aload_n 0, 1) := by decide +kernel
theorem dX3_gaitsOfAKing_10 : decode cX3_gaitsOfAKing 10 = .ok (.iconst 3, 1) := by decide +kernel
theorem dX3_gaitsOfAKing_11 : decode cX3_gaitsOfAKing 11 = .ok (.iload_n 1, 1) := by decide +kernel
theorem dX3_gaitsOfAKing_12 : decode cX3_gaitsOfAKing 12 = .ok (.iload_n 3, 1) := by decide +kernel
theorem dX3_gaitsOfAKing_13 : decode cX3_gaitsOfAKing 13 = .ok (.invokevirtual 50, 3) := by decide +kernel
theorem dX3_gaitsOfAKing_16 : decode cX3_gaitsOfAKing 16 = .ok (.ifCond .eq 9, 3) := by decide +kernel
theorem dX3_gaitsOfAKing_19 : decode cX3_gaitsOfAKing 19 = .ok (.iload_n 2, 1) := by decide +kernel
theorem dX3_gaitsOfAKing_20 : decode cX3_gaitsOfAKing 20 = .ok (.iconst 1, 1) := by decide +kernel
theorem dX3_gaitsOfAKing_21 : decode cX3_gaitsOfAKing 21 = .ok (.iload_n 3, 1) := by decide +kernel
theorem dX3_gaitsOfAKing_22 : decode cX3_gaitsOfAKing 22 = .ok (.ishl, 1) := by decide +kernel
theorem dX3_gaitsOfAKing_23 : decode cX3_gaitsOfAKing 23 = .ok (.ior, 1) := by decide +kernel
theorem dX3_gaitsOfAKing_24 : decode cX3_gaitsOfAKing 24 = .ok (.istore_n 2, 1) := by decide +kernel
theorem dX3_gaitsOfAKing_25 : decode cX3_gaitsOfAKing 25 = .ok (.iinc 3 1, 3) := by decide +kernel
theorem dX3_gaitsOfAKing_28 : decode cX3_gaitsOfAKing 28 = .ok (.goto (-24), 3) := by decide +kernel
theorem dX3_gaitsOfAKing_31 : decode cX3_gaitsOfAKing 31 = .ok (.iload_n 2, 1) := by decide +kernel
theorem dX3_gaitsOfAKing_32 : decode cX3_gaitsOfAKing 32 = .ok (.ireturn, 1) := by decide +kernel
set_option maxRecDepth 20000 in
theorem ggX3_reignsWith_X4_become : GoodIn wsX3_reignsWith wsX4_become := goodIn_ids iaX3_reignsWith iaX4_become haX3_reignsWith haX4_become imX3_reignsWith hmX3_reignsWith (by decide +kernel) (by decide +kernel)
set_option maxRecDepth 20000 in
theorem gX3_reignsWith_X4_become : GoodIn wsX3_reignsWith (wsV RX3 35 RX4 yX4_become wsX4_become) := goodIn_app (goodIn_ids iaX3_reignsWith [584, 432, 433, 73] haX3_reignsWith rfl imX3_reignsWith hmX3_reignsWith (by decide +kernel) (by decide +kernel)) ggX3_reignsWith_X4_become
set_option maxRecDepth 20000 in
theorem ggX3_reignsWith_X4_take : GoodIn wsX3_reignsWith wsX4_take := goodIn_ids iaX3_reignsWith iaX4_take haX3_reignsWith haX4_take imX3_reignsWith hmX3_reignsWith (by decide +kernel) (by decide +kernel)
set_option maxRecDepth 20000 in
theorem gX3_reignsWith_X4_take : GoodIn wsX3_reignsWith (wsV RX3 54 RX4 yX4_take wsX4_take) := goodIn_app (goodIn_ids iaX3_reignsWith [628, 629, 630, 73] haX3_reignsWith rfl imX3_reignsWith hmX3_reignsWith (by decide +kernel) (by decide +kernel)) ggX3_reignsWith_X4_take
set_option maxRecDepth 20000 in
theorem ggX3_reignsWith_X4_runToBell : GoodIn wsX3_reignsWith wsX4_runToBell := goodIn_ids iaX3_reignsWith iaX4_runToBell haX3_reignsWith haX4_runToBell imX3_reignsWith hmX3_reignsWith (by decide +kernel) (by decide +kernel)
set_option maxRecDepth 20000 in
theorem gX3_reignsWith_X4_runToBell : GoodIn wsX3_reignsWith (wsV RX3 44 RX4 yX4_runToBell wsX4_runToBell) := goodIn_app (goodIn_ids iaX3_reignsWith [603, 604, 605, 73] haX3_reignsWith rfl imX3_reignsWith hmX3_reignsWith (by decide +kernel) (by decide +kernel)) ggX3_reignsWith_X4_runToBell
set_option maxRecDepth 20000 in
theorem ggX3_reignsWith_X4_kingAtBell : GoodIn wsX3_reignsWith wsX4_kingAtBell := goodIn_ids iaX3_reignsWith iaX4_kingAtBell haX3_reignsWith haX4_kingAtBell imX3_reignsWith hmX3_reignsWith (by decide +kernel) (by decide +kernel)
set_option maxRecDepth 20000 in
theorem gX3_reignsWith_X4_kingAtBell : GoodIn wsX3_reignsWith (wsV RX3 58 RX4 yX4_kingAtBell wsX4_kingAtBell) := goodIn_app (goodIn_ids iaX3_reignsWith [632, 516, 517, 73] haX3_reignsWith rfl imX3_reignsWith hmX3_reignsWith (by decide +kernel) (by decide +kernel)) ggX3_reignsWith_X4_kingAtBell
theorem dX3_reignsWith_0 : decode cX3_reignsWith 0 = .ok (.aload_n 0, 1) := by decide +kernel
theorem dX3_reignsWith_1 : decode cX3_reignsWith 1 = .ok (.getfield 12, 3) := by decide +kernel
theorem dX3_reignsWith_4 : decode cX3_reignsWith 4 = .ok (.aload_n 0, 1) := by decide +kernel
theorem dX3_reignsWith_5 : decode cX3_reignsWith 5 = .ok (.getfield 22, 3) := by decide +kernel
theorem dX3_reignsWith_8 : decode cX3_reignsWith 8 = .ok (.invokevirtual 35, 3) := by decide +kernel
theorem dX3_reignsWith_11 : decode cX3_reignsWith 11 = .ok (.aload_n 0, 1) := by decide +kernel
theorem dX3_reignsWith_12 : decode cX3_reignsWith 12 = .ok (.getfield 12, 3) := by decide +kernel
theorem dX3_reignsWith_15 : decode cX3_reignsWith 15 = .ok (.iload_n 1, 1) := by decide +kernel
theorem dX3_reignsWith_16 : decode cX3_reignsWith 16 = .ok (.iload_n 2, 1) := by decide +kernel
theorem dX3_reignsWith_17 : decode cX3_reignsWith 17 = .ok (.iload_n 3, 1) := by decide +kernel
theorem dX3_reignsWith_18 : decode cX3_reignsWith 18 = .ok (.invokevirtual 54, 3) := by decide +kernel
theorem dX3_reignsWith_21 : decode cX3_reignsWith 21 = .ok (.aload_n 0, 1) := by decide +kernel
theorem dX3_reignsWith_22 : decode cX3_reignsWith 22 = .ok (.getfield 12, 3) := by decide +kernel
theorem dX3_reignsWith_25 : decode cX3_reignsWith 25 = .ok (.invokevirtual 44, 3) := by decide +kernel
theorem dX3_reignsWith_28 : decode cX3_reignsWith 28 = .ok (.aload_n 0, 1) := by decide +kernel
theorem dX3_reignsWith_29 : decode cX3_reignsWith 29 = .ok (.getfield 12, 3) := by decide +kernel
theorem dX3_reignsWith_32 : decode cX3_reignsWith 32 = .ok (.invokevirtual 58, 3) := by decide +kernel
theorem dX3_reignsWith_35 : decode cX3_reignsWith 35 = .ok (.iload_n 2, 1) := by decide +kernel
theorem dX3_reignsWith_36 : decode cX3_reignsWith 36 = .ok (.if_icmp .ne 7, 3) := by decide +kernel
theorem dX3_reignsWith_39 : decode cX3_reignsWith 39 = .ok (.iconst 1, 1) := by decide +kernel
theorem dX3_reignsWith_40 : decode cX3_reignsWith 40 = .ok (.goto 4, 3) := by decide +kernel
theorem dX3_reignsWith_43 : decode cX3_reignsWith 43 = .ok (.iconst 0, 1) := by decide +kernel
theorem dX3_reignsWith_44 : decode cX3_reignsWith 44 = .ok (.ireturn, 1) := by decide +kernel
set_option maxRecDepth 20000 in
theorem ggX3_fewestCats_X5_setOfAll : GoodIn wsX3_fewestCats wsX5_setOfAll := goodIn_ids iaX3_fewestCats iaX5_setOfAll haX3_fewestCats haX5_setOfAll imX3_fewestCats hmX3_fewestCats (by decide +kernel) (by decide +kernel)
set_option maxRecDepth 20000 in
theorem gX3_fewestCats_X5_setOfAll_n65 : GoodIn wsX3_fewestCats (wsX5_setOfAll) := ggX3_fewestCats_X5_setOfAll
set_option maxRecDepth 20000 in
theorem ggX3_fewestCats_J6_bitCount_0f7a4 : GoodIn wsX3_fewestCats wsJ6_bitCount_0f7a4 := goodIn_ids iaX3_fewestCats iaJ6_bitCount_0f7a4 haX3_fewestCats haJ6_bitCount_0f7a4 imX3_fewestCats hmX3_fewestCats (by decide +kernel) (by decide +kernel)
set_option maxRecDepth 20000 in
theorem gX3_fewestCats_J6_bitCount_0f7a4 : GoodIn wsX3_fewestCats (va_wsS RX3 69 yJ6_bitCount_0f7a4 wsJ6_bitCount_0f7a4) := goodIn_app (goodIn_ids iaX3_fewestCats [650, 524, 80] haX3_fewestCats rfl imX3_fewestCats hmX3_fewestCats (by decide +kernel) (by decide +kernel)) ggX3_fewestCats_J6_bitCount_0f7a4
set_option maxRecDepth 20000 in
theorem ggX3_fewestCats_X5_holds : GoodIn wsX3_fewestCats wsX5_holds := goodIn_ids iaX3_fewestCats iaX5_holds haX3_fewestCats haX5_holds imX3_fewestCats hmX3_fewestCats (by decide +kernel) (by decide +kernel)
set_option maxRecDepth 20000 in
theorem gX3_fewestCats_X5_holds_n74 : GoodIn wsX3_fewestCats (wsX5_holds) := ggX3_fewestCats_X5_holds
set_option maxRecDepth 20000 in
theorem ggX3_fewestCats_X3_keepsDogsOut : GoodIn wsX3_fewestCats wsX3_keepsDogsOut := goodIn_ids iaX3_fewestCats iaX3_keepsDogsOut haX3_fewestCats haX3_keepsDogsOut imX3_fewestCats hmX3_fewestCats (by decide +kernel) (by decide +kernel)
set_option maxRecDepth 20000 in
theorem gX3_fewestCats_X3_keepsDogsOut : GoodIn wsX3_fewestCats (wsV RX3 78 RX3 yX3_keepsDogsOut wsX3_keepsDogsOut) := goodIn_app (goodIn_ids iaX3_fewestCats [652, 654, 23, 75] haX3_fewestCats rfl imX3_fewestCats hmX3_fewestCats (by decide +kernel) (by decide +kernel)) ggX3_fewestCats_X3_keepsDogsOut
theorem dX3_fewestCats_0 : decode cX3_fewestCats 0 = .ok (.iconst 0, 1) := by decide +kernel
theorem dX3_fewestCats_1 : decode cX3_fewestCats 1 = .ok (.istore_n 2, 1) := by decide +kernel
theorem dX3_fewestCats_2 : decode cX3_fewestCats 2 = .ok (.iload_n 2, 1) := by decide +kernel
theorem dX3_fewestCats_3 : decode cX3_fewestCats 3 = .ok (.aload_n 0, 1) := by decide +kernel
theorem dX3_fewestCats_4 : decode cX3_fewestCats 4 = .ok (.getfield 22, 3) := by decide +kernel
theorem dX3_fewestCats_7 : decode cX3_fewestCats 7 = .ok (.getfield 61, 3) := by decide +kernel
theorem dX3_fewestCats_10 : decode cX3_fewestCats 10 = .ok (.if_icmp .ge 58, 3) := by decide +kernel
theorem dX3_fewestCats_13 : decode cX3_fewestCats 13 = .ok (.iconst 0, 1) := by decide +kernel
theorem dX3_fewestCats_14 : decode cX3_fewestCats 14 = .ok (.istore_n 3, 1) := by decide +kernel
theorem dX3_fewestCats_15 : decode cX3_fewestCats 15 = .ok (.iload_n 3, 1) := by decide +kernel
theorem dX3_fewestCats_16 : decode cX3_fewestCats 16 = .ok (.aload_n 0, 1) := by decide +kernel
theorem dX3_fewestCats_17 : decode cX3_fewestCats 17 = .ok (.getfield 22, 3) := by decide +kernel
theorem dX3_fewestCats_20 : decode cX3_fewestCats 20 = .ok (.getfield 61, 3) := by decide +kernel
theorem dX3_fewestCats_23 : decode cX3_fewestCats 23 = .ok (.invokestatic 65, 3) := by decide +kernel
theorem dX3_fewestCats_26 : decode cX3_fewestCats 26 = .ok (.if_icmp .gt 36, 3) := by decide +kernel
theorem dX3_fewestCats_29 : decode cX3_fewestCats 29 = .ok (.iload_n 3, 1) := by decide +kernel
theorem dX3_fewestCats_30 : decode cX3_fewestCats 30 = .ok (.invokestatic 69, 3) := by decide +kernel
theorem dX3_fewestCats_33 : decode cX3_fewestCats 33 = .ok (.iload_n 2, 1) := by decide +kernel
theorem dX3_fewestCats_34 : decode cX3_fewestCats 34 = .ok (.if_icmp .ne 22, 3) := by decide +kernel
theorem dX3_fewestCats_37 : decode cX3_fewestCats 37 = .ok (.iload_n 3, 1) := by decide +kernel
theorem dX3_fewestCats_38 : decode cX3_fewestCats 38 = .ok (.iload_n 1, 1) := by decide +kernel
theorem dX3_fewestCats_39 : decode cX3_fewestCats 39 = .ok (.invokestatic 74, 3) := by decide +kernel
theorem dX3_fewestCats_42 : decode cX3_fewestCats 42 = .ok (.ifCond .ne 14, 3) := by decide +kernel
theorem dX3_fewestCats_45 : decode cX3_fewestCats 45 = .ok (.aload_n 0, 1) := by decide +kernel
theorem dX3_fewestCats_46 : decode cX3_fewestCats 46 = .ok (.iload_n 3, 1) := by decide +kernel
theorem dX3_fewestCats_47 : decode cX3_fewestCats 47 = .ok (.iload_n 1, 1) := by decide +kernel
theorem dX3_fewestCats_48 : decode cX3_fewestCats 48 = .ok (.invokevirtual 78, 3) := by decide +kernel
theorem dX3_fewestCats_51 : decode cX3_fewestCats 51 = .ok (.ifCond .eq 5, 3) := by decide +kernel
theorem dX3_fewestCats_54 : decode cX3_fewestCats 54 = .ok (.iload_n 3, 1) := by decide +kernel
theorem dX3_fewestCats_55 : decode cX3_fewestCats 55 = .ok (.ireturn, 1) := by decide +kernel
theorem dX3_fewestCats_56 : decode cX3_fewestCats 56 = .ok (.iinc 3 1, 3) := by decide +kernel
theorem dX3_fewestCats_59 : decode cX3_fewestCats 59 = .ok (.goto (-44), 3) := by decide +kernel
theorem dX3_fewestCats_62 : decode cX3_fewestCats 62 = .ok (.iinc 2 1, 3) := by decide +kernel
theorem dX3_fewestCats_65 : decode cX3_fewestCats 65 = .ok (.goto (-63), 3) := by decide +kernel
theorem dX3_fewestCats_68 : decode cX3_fewestCats 68 = .ok (.ldc 43, 2) := by decide +kernel
theorem dX3_fewestCats_70 : decode cX3_fewestCats 70 = .ok (.ireturn, 1) := by decide +kernel
set_option maxRecDepth 20000 in
theorem ggX3_keepsDogsOut_X4_become : GoodIn wsX3_keepsDogsOut wsX4_become := goodIn_ids iaX3_keepsDogsOut iaX4_become haX3_keepsDogsOut haX4_become imX3_keepsDogsOut hmX3_keepsDogsOut (by decide +kernel) (by decide +kernel)
set_option maxRecDepth 20000 in
theorem gX3_keepsDogsOut_X4_become : GoodIn wsX3_keepsDogsOut (wsV RX3 35 RX4 yX4_become wsX4_become) := goodIn_app (goodIn_ids iaX3_keepsDogsOut [584, 432, 433, 73] haX3_keepsDogsOut rfl imX3_keepsDogsOut hmX3_keepsDogsOut (by decide +kernel) (by decide +kernel)) ggX3_keepsDogsOut_X4_become
set_option maxRecDepth 20000 in
theorem ggX3_keepsDogsOut_X4_runToBell : GoodIn wsX3_keepsDogsOut wsX4_runToBell := goodIn_ids iaX3_keepsDogsOut iaX4_runToBell haX3_keepsDogsOut haX4_runToBell imX3_keepsDogsOut hmX3_keepsDogsOut (by decide +kernel) (by decide +kernel)
set_option maxRecDepth 20000 in
theorem gX3_keepsDogsOut_X4_runToBell : GoodIn wsX3_keepsDogsOut (wsV RX3 44 RX4 yX4_runToBell wsX4_runToBell) := goodIn_app (goodIn_ids iaX3_keepsDogsOut [603, 604, 605, 73] haX3_keepsDogsOut rfl imX3_keepsDogsOut hmX3_keepsDogsOut (by decide +kernel) (by decide +kernel)) ggX3_keepsDogsOut_X4_runToBell
set_option maxRecDepth 20000 in
theorem ggX3_keepsDogsOut_X4_dogsIn : GoodIn wsX3_keepsDogsOut wsX4_dogsIn := goodIn_ids iaX3_keepsDogsOut iaX4_dogsIn haX3_keepsDogsOut haX4_dogsIn imX3_keepsDogsOut hmX3_keepsDogsOut (by decide +kernel) (by decide +kernel)
set_option maxRecDepth 20000 in
theorem gX3_keepsDogsOut_X4_dogsIn : GoodIn wsX3_keepsDogsOut (wsV RX3 84 RX4 yX4_dogsIn wsX4_dogsIn) := goodIn_app (goodIn_ids iaX3_keepsDogsOut [656, 520, 521, 73] haX3_keepsDogsOut rfl imX3_keepsDogsOut hmX3_keepsDogsOut (by decide +kernel) (by decide +kernel)) ggX3_keepsDogsOut_X4_dogsIn
theorem dX3_keepsDogsOut_0 : decode cX3_keepsDogsOut 0 = .ok (.aload_n 0, 1) := by decide +kernel
theorem dX3_keepsDogsOut_1 : decode cX3_keepsDogsOut 1 = .ok (.getfield 12, 3) := by decide +kernel
theorem dX3_keepsDogsOut_4 : decode cX3_keepsDogsOut 4 = .ok (.aload_n 0, 1) := by decide +kernel
theorem dX3_keepsDogsOut_5 : decode cX3_keepsDogsOut 5 = .ok (.getfield 22, 3) := by decide +kernel
theorem dX3_keepsDogsOut_8 : decode cX3_keepsDogsOut 8 = .ok (.invokevirtual 35, 3) := by decide +kernel
theorem dX3_keepsDogsOut_11 : decode cX3_keepsDogsOut 11 = .ok (.aload_n 0, 1) := by decide +kernel
theorem dX3_keepsDogsOut_12 : decode cX3_keepsDogsOut 12 = .ok (.getfield 12, 3) := by decide +kernel
theorem dX3_keepsDogsOut_15 : decode cX3_keepsDogsOut 15 = .ok (.iload_n 1, 1) := by decide +kernel
theorem dX3_keepsDogsOut_16 : decode cX3_keepsDogsOut 16 = .ok (.putfield 81, 3) := by decide +kernel
theorem dX3_keepsDogsOut_19 : decode cX3_keepsDogsOut 19 = .ok (.aload_n 0, 1) := by decide +kernel
theorem dX3_keepsDogsOut_20 : decode cX3_keepsDogsOut 20 = .ok (.getfield 12, 3) := by decide +kernel
theorem dX3_keepsDogsOut_23 : decode cX3_keepsDogsOut 23 = .ok (.invokevirtual 44, 3) := by decide +kernel
theorem dX3_keepsDogsOut_26 : decode cX3_keepsDogsOut 26 = .ok (.aload_n 0, 1) := by decide +kernel
theorem dX3_keepsDogsOut_27 : decode cX3_keepsDogsOut 27 = .ok (.getfield 12, 3) := by decide +kernel
theorem dX3_keepsDogsOut_30 : decode cX3_keepsDogsOut 30 = .ok (.iload_n 2, 1) := by decide +kernel
theorem dX3_keepsDogsOut_31 : decode cX3_keepsDogsOut 31 = .ok (.invokevirtual 84, 3) := by decide +kernel
theorem dX3_keepsDogsOut_34 : decode cX3_keepsDogsOut 34 = .ok (.ifCond .ne 7, 3) := by decide +kernel
theorem dX3_keepsDogsOut_37 : decode cX3_keepsDogsOut 37 = .ok (.iconst 1, 1) := by decide +kernel
theorem dX3_keepsDogsOut_38 : decode cX3_keepsDogsOut 38 = .ok (.goto 4, 3) := by decide +kernel
theorem dX3_keepsDogsOut_41 : decode cX3_keepsDogsOut 41 = .ok (.iconst 0, 1) := by decide +kernel
theorem dX3_keepsDogsOut_42 : decode cX3_keepsDogsOut 42 = .ok (.ireturn, 1) := by decide +kernel
set_option maxRecDepth 20000 in
theorem ggX3_outcome_X3_margin : GoodIn wsX3_outcome wsX3_margin := goodIn_ids iaX3_outcome iaX3_margin haX3_outcome haX3_margin imX3_outcome hmX3_outcome (by decide +kernel) (by decide +kernel)
set_option maxRecDepth 20000 in
theorem gX3_outcome_X3_margin : GoodIn wsX3_outcome (wsV RX3 87 RX3 yX3_margin wsX3_margin) := goodIn_app (goodIn_ids iaX3_outcome [667, 669, 25, 75] haX3_outcome rfl imX3_outcome hmX3_outcome (by decide +kernel) (by decide +kernel)) ggX3_outcome_X3_margin
set_option maxRecDepth 20000 in
theorem ggX3_outcome_X3_outcome : GoodIn wsX3_outcome wsX3_outcome := goodIn_ids iaX3_outcome iaX3_outcome haX3_outcome haX3_outcome imX3_outcome hmX3_outcome (by decide +kernel) (by decide +kernel)
set_option maxRecDepth 20000 in
theorem gX3_outcome_X3_outcome : GoodIn wsX3_outcome (wsV RX3 91 RX3 yX3_outcome wsX3_outcome) := goodIn_app (goodIn_ids iaX3_outcome [671, 665, 24, 75] haX3_outcome rfl imX3_outcome hmX3_outcome (by decide +kernel) (by decide +kernel)) ggX3_outcome_X3_outcome
theorem dX3_outcome_0 : decode cX3_outcome 0 = .ok (.iload 5, 2) := by decide +kernel
theorem dX3_outcome_2 : decode cX3_outcome 2 = .ok (.ifCond .le 9, 3) := by decide +kernel
theorem dX3_outcome_5 : decode cX3_outcome 5 = .ok (.iload 5, 2) := by decide +kernel
theorem dX3_outcome_7 : decode cX3_outcome 7 = .ok (.iconst 4, 1) := by decide +kernel
theorem dX3_outcome_8 : decode cX3_outcome 8 = .ok (.if_icmp .le 13, 3) := by decide +kernel
theorem dX3_outcome_11 : decode cX3_outcome 11 = .ok (.aload_n 0, 1) := by decide +kernel
theorem dX3_outcome_12 : decode cX3_outcome 12 = .ok (.iload_n 1, 1) := by decide +kernel
theorem dX3_outcome_13 : decode cX3_outcome 13 = .ok (.iload_n 2, 1) := by decide +kernel
theorem dX3_outcome_14 : decode cX3_outcome 14 = .ok (.iload_n 3, 1) := by decide +kernel
theorem dX3_outcome_15 : decode cX3_outcome 15 = .ok (.iload 4, 2) := by decide +kernel
theorem dX3_outcome_17 : decode cX3_outcome 17 = .ok (.invokevirtual 87, 3) := by decide +kernel
theorem dX3_outcome_20 : decode cX3_outcome 20 = .ok (.ireturn, 1) := by decide +kernel
theorem dX3_outcome_21 : decode cX3_outcome 21 = .ok (.aload_n 0, 1) := by decide +kernel
theorem dX3_outcome_22 : decode cX3_outcome 22 = .ok (.iload_n 1, 1) := by decide +kernel
theorem dX3_outcome_23 : decode cX3_outcome 23 = .ok (.iload_n 2, 1) := by decide +kernel
theorem dX3_outcome_24 : decode cX3_outcome 24 = .ok (.iload_n 3, 1) := by decide +kernel
theorem dX3_outcome_25 : decode cX3_outcome 25 = .ok (.iload 4, 2) := by decide +kernel
theorem dX3_outcome_27 : decode cX3_outcome 27 = .ok (.iload 5, 2) := by decide +kernel
theorem dX3_outcome_29 : decode cX3_outcome 29 = .ok (.iconst 1, 1) := by decide +kernel
theorem dX3_outcome_30 : decode cX3_outcome 30 = .ok (.isub, 1) := by decide +kernel
theorem dX3_outcome_31 : decode cX3_outcome 31 = .ok (.invokevirtual 91, 3) := by decide +kernel
theorem dX3_outcome_34 : decode cX3_outcome 34 = .ok (.istore 6, 2) := by decide +kernel
theorem dX3_outcome_36 : decode cX3_outcome 36 = .ok (.iload 5, 2) := by decide +kernel
theorem dX3_outcome_38 : decode cX3_outcome 38 = .ok (.iconst 2, 1) := by decide +kernel
theorem dX3_outcome_39 : decode cX3_outcome 39 = .ok (.irem, 1) := by decide +kernel
theorem dX3_outcome_40 : decode cX3_outcome 40 = .ok (.ifCond .ne 33, 3) := by decide +kernel
theorem dX3_outcome_43 : decode cX3_outcome 43 = .ok (.iload_n 3, 1) := by decide +kernel
theorem dX3_outcome_44 : decode cX3_outcome 44 = .ok (.iconst 1, 1) := by decide +kernel
theorem dX3_outcome_45 : decode cX3_outcome 45 = .ok (.iadd, 1) := by decide +kernel
theorem dX3_outcome_46 : decode cX3_outcome 46 = .ok (.bipush 9, 2) := by decide +kernel
theorem dX3_outcome_48 : decode cX3_outcome 48 = .ok (.invokestatic 95, 3) := by decide +kernel
theorem dX3_outcome_51 : decode cX3_outcome 51 = .ok (.istore 7, 2) := by decide +kernel
theorem dX3_outcome_53 : decode cX3_outcome 53 = .ok (.iload 6, 2) := by decide +kernel
theorem dX3_outcome_55 : decode cX3_outcome 55 = .ok (.aload_n 0, 1) := by decide +kernel
theorem dX3_outcome_56 : decode cX3_outcome 56 = .ok (.iload_n 1, 1) := by decide +kernel
theorem dX3_outcome_57 : decode cX3_outcome 57 = .ok (.iload_n 2, 1) := by decide +kernel
theorem dX3_outcome_58 : decode cX3_outcome 58 = .ok (.iload 7, 2) := by decide +kernel
theorem dX3_outcome_60 : decode cX3_outcome 60 = .ok (.iload 4, 2) := by decide +kernel
theorem dX3_outcome_62 : decode cX3_outcome 62 = .ok (.iload 5, 2) := by decide +kernel
theorem dX3_outcome_64 : decode cX3_outcome 64 = .ok (.iconst 1, 1) := by decide +kernel
theorem dX3_outcome_65 : decode cX3_outcome 65 = .ok (.isub, 1) := by decide +kernel
theorem dX3_outcome_66 : decode cX3_outcome 66 = .ok (.invokevirtual 91, 3) := by decide +kernel
theorem dX3_outcome_69 : decode cX3_outcome 69 = .ok (.invokestatic 101, 3) := by decide +kernel
theorem dX3_outcome_72 : decode cX3_outcome 72 = .ok (.ireturn, 1) := by decide +kernel
theorem dX3_outcome_73 : decode cX3_outcome 73 = .ok (.iload 4, 2) := by decide +kernel
theorem dX3_outcome_75 : decode cX3_outcome 75 = .ok (.iconst 1, 1) := by decide +kernel
theorem dX3_outcome_76 : decode cX3_outcome 76 = .ok (.iadd, 1) := by decide +kernel
theorem dX3_outcome_77 : decode cX3_outcome 77 = .ok (.bipush 9, 2) := by decide +kernel
theorem dX3_outcome_79 : decode cX3_outcome 79 = .ok (.invokestatic 95, 3) := by decide +kernel
theorem dX3_outcome_82 : decode cX3_outcome 82 = .ok (.istore 7, 2) := by decide +kernel
theorem dX3_outcome_84 : decode cX3_outcome 84 = .ok (.iload 6, 2) := by decide +kernel
theorem dX3_outcome_86 : decode cX3_outcome 86 = .ok (.aload_n 0, 1) := by decide +kernel
theorem dX3_outcome_87 : decode cX3_outcome 87 = .ok (.iload_n 1, 1) := by decide +kernel
theorem dX3_outcome_88 : decode cX3_outcome 88 = .ok (.iload_n 2, 1) := by decide +kernel
theorem dX3_outcome_89 : decode cX3_outcome 89 = .ok (.iload_n 3, 1) := by decide +kernel
theorem dX3_outcome_90 : decode cX3_outcome 90 = .ok (.iload 7, 2) := by decide +kernel
theorem dX3_outcome_92 : decode cX3_outcome 92 = .ok (.iload 5, 2) := by decide +kernel
theorem dX3_outcome_94 : decode cX3_outcome 94 = .ok (.iconst 1, 1) := by decide +kernel
theorem dX3_outcome_95 : decode cX3_outcome 95 = .ok (.isub, 1) := by decide +kernel
theorem dX3_outcome_96 : decode cX3_outcome 96 = .ok (.invokevirtual 91, 3) := by decide +kernel
theorem dX3_outcome_99 : decode cX3_outcome 99 = .ok (.invokestatic 95, 3) := by decide +kernel
theorem dX3_outcome_102 : decode cX3_outcome 102 = .ok (.ireturn, 1) := by decide +kernel
set_option maxRecDepth 20000 in
theorem ggX3_margin_X4_become : GoodIn wsX3_margin wsX4_become := goodIn_ids iaX3_margin iaX4_become haX3_margin haX4_become imX3_margin hmX3_margin (by decide +kernel) (by decide +kernel)
set_option maxRecDepth 20000 in
theorem gX3_margin_X4_become : GoodIn wsX3_margin (wsV RX3 35 RX4 yX4_become wsX4_become) := goodIn_app (goodIn_ids iaX3_margin [584, 432, 433, 73] haX3_margin rfl imX3_margin hmX3_margin (by decide +kernel) (by decide +kernel)) ggX3_margin_X4_become
set_option maxRecDepth 20000 in
theorem ggX3_margin_X4_runToBell : GoodIn wsX3_margin wsX4_runToBell := goodIn_ids iaX3_margin iaX4_runToBell haX3_margin haX4_runToBell imX3_margin hmX3_margin (by decide +kernel) (by decide +kernel)
set_option maxRecDepth 20000 in
theorem gX3_margin_X4_runToBell : GoodIn wsX3_margin (wsV RX3 44 RX4 yX4_runToBell wsX4_runToBell) := goodIn_app (goodIn_ids iaX3_margin [603, 604, 605, 73] haX3_margin rfl imX3_margin hmX3_margin (by decide +kernel) (by decide +kernel)) ggX3_margin_X4_runToBell
set_option maxRecDepth 20000 in
theorem ggX3_margin_X4_dogsIn : GoodIn wsX3_margin wsX4_dogsIn := goodIn_ids iaX3_margin iaX4_dogsIn haX3_margin haX4_dogsIn imX3_margin hmX3_margin (by decide +kernel) (by decide +kernel)
set_option maxRecDepth 20000 in
theorem gX3_margin_X4_dogsIn : GoodIn wsX3_margin (wsV RX3 84 RX4 yX4_dogsIn wsX4_dogsIn) := goodIn_app (goodIn_ids iaX3_margin [656, 520, 521, 73] haX3_margin rfl imX3_margin hmX3_margin (by decide +kernel) (by decide +kernel)) ggX3_margin_X4_dogsIn
set_option maxRecDepth 20000 in
theorem ggX3_margin_J6_bitCount_0f7a4 : GoodIn wsX3_margin wsJ6_bitCount_0f7a4 := goodIn_ids iaX3_margin iaJ6_bitCount_0f7a4 haX3_margin haJ6_bitCount_0f7a4 imX3_margin hmX3_margin (by decide +kernel) (by decide +kernel)
set_option maxRecDepth 20000 in
theorem gX3_margin_J6_bitCount_0f7a4 : GoodIn wsX3_margin (va_wsS RX3 69 yJ6_bitCount_0f7a4 wsJ6_bitCount_0f7a4) := goodIn_app (goodIn_ids iaX3_margin [650, 524, 80] haX3_margin rfl imX3_margin hmX3_margin (by decide +kernel) (by decide +kernel)) ggX3_margin_J6_bitCount_0f7a4
theorem dX3_margin_0 : decode cX3_margin 0 = .ok (.aload_n 0, 1) := by decide +kernel
theorem dX3_margin_1 : decode cX3_margin 1 = .ok (.getfield 12, 3) := by decide +kernel
theorem dX3_margin_4 : decode cX3_margin 4 = .ok (.aload_n 0, 1) := by decide +kernel
theorem dX3_margin_5 : decode cX3_margin 5 = .ok (.getfield 22, 3) := by decide +kernel
theorem dX3_margin_8 : decode cX3_margin 8 = .ok (.invokevirtual 35, 3) := by decide +kernel
theorem dX3_margin_11 : decode cX3_margin 11 = .ok (.aload_n 0, 1) := by decide +kernel
theorem dX3_margin_12 : decode cX3_margin 12 = .ok (.getfield 12, 3) := by decide +kernel
theorem dX3_margin_15 : decode cX3_margin 15 = .ok (.getfield 104, 3) := by decide +kernel
theorem dX3_margin_18 : decode cX3_margin 18 = .ok (.iload_n 1, 1) := by decide +kernel
theorem dX3_margin_19 : decode cX3_margin 19 = .ok (.iload_n 3, 1) := by decide +kernel
theorem dX3_margin_20 : decode cX3_margin 20 = .ok (.iastore, 1) := by decide +kernel
theorem dX3_margin_21 : decode cX3_margin 21 = .ok (.aload_n 0, 1) := by decide +kernel
theorem dX3_margin_22 : decode cX3_margin 22 = .ok (.getfield 12, 3) := by decide +kernel
theorem dX3_margin_25 : decode cX3_margin 25 = .ok (.getfield 104, 3) := by decide +kernel
theorem dX3_margin_28 : decode cX3_margin 28 = .ok (.iload_n 2, 1) := by decide +kernel
theorem dX3_margin_29 : decode cX3_margin 29 = .ok (.iload 4, 2) := by decide +kernel
theorem dX3_margin_31 : decode cX3_margin 31 = .ok (.iastore, 1) := by decide +kernel
theorem dX3_margin_32 : decode cX3_margin 32 = .ok (.aload_n 0, 1) := by decide +kernel
theorem dX3_margin_33 : decode cX3_margin 33 = .ok (.getfield 12, 3) := by decide +kernel
theorem dX3_margin_36 : decode cX3_margin 36 = .ok (.invokevirtual 44, 3) := by decide +kernel
theorem dX3_margin_39 : decode cX3_margin 39 = .ok (.aload_n 0, 1) := by decide +kernel
theorem dX3_margin_40 : decode cX3_margin 40 = .ok (.getfield 12, 3) := by decide +kernel
theorem dX3_margin_43 : decode cX3_margin 43 = .ok (.aload_n 0, 1) := by decide +kernel
theorem dX3_margin_44 : decode cX3_margin 44 = .ok (.getfield 12, 3) := by decide +kernel
theorem dX3_margin_47 : decode cX3_margin 47 = .ok (.getfield 32, 3) := by decide +kernel
theorem dX3_margin_50 : decode cX3_margin 50 = .ok (.iload_n 1, 1) := by decide +kernel
theorem dX3_margin_51 : decode cX3_margin 51 = .ok (.iaload, 1) := by decide +kernel
theorem dX3_margin_52 : decode cX3_margin 52 = .ok (.invokevirtual 84, 3) := by decide +kernel
theorem dX3_margin_55 : decode cX3_margin 55 = .ok (.invokestatic 69, 3) := by decide +kernel
theorem dX3_margin_58 : decode cX3_margin 58 = .ok (.aload_n 0, 1) := by decide +kernel
theorem dX3_margin_59 : decode cX3_margin 59 = .ok (.getfield 12, 3) := by decide +kernel
theorem dX3_margin_62 : decode cX3_margin 62 = .ok (.aload_n 0, 1) := by decide +kernel
theorem dX3_margin_63 : decode cX3_margin 63 = .ok (.getfield 12, 3) := by decide +kernel
theorem dX3_margin_66 : decode cX3_margin 66 = .ok (.getfield 32, 3) := by decide +kernel
theorem dX3_margin_69 : decode cX3_margin 69 = .ok (.iload_n 2, 1) := by decide +kernel
theorem dX3_margin_70 : decode cX3_margin 70 = .ok (.iaload, 1) := by decide +kernel
theorem dX3_margin_71 : decode cX3_margin 71 = .ok (.invokevirtual 84, 3) := by decide +kernel
theorem dX3_margin_74 : decode cX3_margin 74 = .ok (.invokestatic 69, 3) := by decide +kernel
theorem dX3_margin_77 : decode cX3_margin 77 = .ok (.isub, 1) := by decide +kernel
theorem dX3_margin_78 : decode cX3_margin 78 = .ok (.ireturn, 1) := by decide +kernel
set_option maxRecDepth 20000 in
theorem ggX3_packsThatCrown_X5_setOfAll : GoodIn wsX3_packsThatCrown wsX5_setOfAll := goodIn_ids iaX3_packsThatCrown iaX5_setOfAll haX3_packsThatCrown haX5_setOfAll imX3_packsThatCrown hmX3_packsThatCrown (by decide +kernel) (by decide +kernel)
set_option maxRecDepth 20000 in
theorem gX3_packsThatCrown_X5_setOfAll_n65 : GoodIn wsX3_packsThatCrown (wsX5_setOfAll) := ggX3_packsThatCrown_X5_setOfAll
set_option maxRecDepth 20000 in
theorem ggX3_packsThatCrown_X3_kingBy : GoodIn wsX3_packsThatCrown wsX3_kingBy := goodIn_ids iaX3_packsThatCrown iaX3_kingBy haX3_packsThatCrown haX3_kingBy imX3_packsThatCrown hmX3_packsThatCrown (by decide +kernel) (by decide +kernel)
set_option maxRecDepth 20000 in
theorem gX3_packsThatCrown_X3_kingBy : GoodIn wsX3_packsThatCrown (wsV RX3 110 RX3 yX3_kingBy wsX3_kingBy) := goodIn_app (goodIn_ids iaX3_packsThatCrown [684, 686, 26, 75] haX3_packsThatCrown rfl imX3_packsThatCrown hmX3_packsThatCrown (by decide +kernel) (by decide +kernel)) ggX3_packsThatCrown_X3_kingBy
theorem dX3_packsThatCrown_0 : decode cX3_packsThatCrown 0 = .ok (.iconst 0, 1) := by decide +kernel
theorem dX3_packsThatCrown_1 : decode cX3_packsThatCrown 1 = .ok (.istore_n 2, 1) := by decide +kernel
theorem dX3_packsThatCrown_2 : decode cX3_packsThatCrown 2 = .ok (.iconst 0, 1) := by decide +kernel
theorem dX3_packsThatCrown_3 : decode cX3_packsThatCrown 3 = .ok (.istore_n 3, 1) := by decide +kernel
theorem dX3_packsThatCrown_4 : decode cX3_packsThatCrown 4 = .ok (.iload_n 3, 1) := by decide +kernel
theorem dX3_packsThatCrown_5 : decode cX3_packsThatCrown 5 = .ok (.aload_n 0, 1) := by decide +kernel
theorem dX3_packsThatCrown_6 : decode cX3_packsThatCrown 6 = .ok (.getfield 22, 3) := by decide +kernel
theorem dX3_packsThatCrown_9 : decode cX3_packsThatCrown 9 = .ok (.getfield 107, 3) := by decide +kernel
theorem dX3_packsThatCrown_12 : decode cX3_packsThatCrown 12 = .ok (.invokestatic 65, 3) := by decide +kernel
theorem dX3_packsThatCrown_15 : decode cX3_packsThatCrown 15 = .ok (.if_icmp .gt 21, 3) := by decide +kernel
theorem dX3_packsThatCrown_18 : decode cX3_packsThatCrown 18 = .ok (.aload_n 0, 1) := by decide +kernel
theorem dX3_packsThatCrown_19 : decode cX3_packsThatCrown 19 = .ok (.iload_n 3, 1) := by decide +kernel
theorem dX3_packsThatCrown_20 : decode cX3_packsThatCrown 20 = .ok (.invokevirtual 110, 3) := by decide +kernel
theorem dX3_packsThatCrown_23 : decode cX3_packsThatCrown 23 = .ok (.iload_n 1, 1) := by decide +kernel
theorem dX3_packsThatCrown_24 : decode cX3_packsThatCrown 24 = .ok (.if_icmp .ne 6, 3) := by decide +kernel
theorem dX3_packsThatCrown_27 : decode cX3_packsThatCrown 27 = .ok (.iinc 2 1, 3) := by decide +kernel
theorem dX3_packsThatCrown_30 : decode cX3_packsThatCrown 30 = .ok (.iinc 3 1, 3) := by decide +kernel
theorem dX3_packsThatCrown_33 : decode cX3_packsThatCrown 33 = .ok (.goto (-29), 3) := by decide +kernel
theorem dX3_packsThatCrown_36 : decode cX3_packsThatCrown 36 = .ok (.iload_n 2, 1) := by decide +kernel
theorem dX3_packsThatCrown_37 : decode cX3_packsThatCrown 37 = .ok (.ireturn, 1) := by decide +kernel
set_option maxRecDepth 20000 in
theorem ggX3_dogsThatDecide_X5_setOfAll : GoodIn wsX3_dogsThatDecide wsX5_setOfAll := goodIn_ids iaX3_dogsThatDecide iaX5_setOfAll haX3_dogsThatDecide haX5_setOfAll imX3_dogsThatDecide hmX3_dogsThatDecide (by decide +kernel) (by decide +kernel)
set_option maxRecDepth 20000 in
theorem gX3_dogsThatDecide_X5_setOfAll_n65 : GoodIn wsX3_dogsThatDecide (wsX5_setOfAll) := ggX3_dogsThatDecide_X5_setOfAll
set_option maxRecDepth 20000 in
theorem ggX3_dogsThatDecide_X3_kingBy : GoodIn wsX3_dogsThatDecide wsX3_kingBy := goodIn_ids iaX3_dogsThatDecide iaX3_kingBy haX3_dogsThatDecide haX3_kingBy imX3_dogsThatDecide hmX3_dogsThatDecide (by decide +kernel) (by decide +kernel)
set_option maxRecDepth 20000 in
theorem gX3_dogsThatDecide_X3_kingBy : GoodIn wsX3_dogsThatDecide (wsV RX3 110 RX3 yX3_kingBy wsX3_kingBy) := goodIn_app (goodIn_ids iaX3_dogsThatDecide [684, 686, 26, 75] haX3_dogsThatDecide rfl imX3_dogsThatDecide hmX3_dogsThatDecide (by decide +kernel) (by decide +kernel)) ggX3_dogsThatDecide_X3_kingBy
theorem dX3_dogsThatDecide_0 : decode cX3_dogsThatDecide 0 = .ok (.aload_n 0, 1) := by decide +kernel
theorem dX3_dogsThatDecide_1 : decode cX3_dogsThatDecide 1 = .ok (.getfield 22, 3) := by decide +kernel
theorem dX3_dogsThatDecide_4 : decode cX3_dogsThatDecide 4 = .ok (.getfield 107, 3) := by decide +kernel
theorem dX3_dogsThatDecide_7 : decode cX3_dogsThatDecide 7 = .ok (.invokestatic 65, 3) := by decide +kernel
theorem dX3_dogsThatDecide_10 : decode cX3_dogsThatDecide 10 = .ok (.istore_n 1, 1) := by decide +kernel
theorem dX3_dogsThatDecide_11 : decode cX3_dogsThatDecide 11 = .ok (.aload_n 0, 1) := by decide +kernel
theorem dX3_dogsThatDecide_12 : decode cX3_dogsThatDecide 12 = .ok (.iload_n 1, 1) := by decide +kernel
theorem dX3_dogsThatDecide_13 : decode cX3_dogsThatDecide 13 = .ok (.invokevirtual 110, 3) := by decide +kernel
theorem dX3_dogsThatDecide_16 : decode cX3_dogsThatDecide 16 = .ok (.istore_n 2, 1) := by decide +kernel
theorem dX3_dogsThatDecide_17 : decode cX3_dogsThatDecide 17 = .ok (.iconst 0, 1) := by decide +kernel
theorem dX3_dogsThatDecide_18 : decode cX3_dogsThatDecide 18 = .ok (.istore_n 3, 1) := by decide +kernel
theorem dX3_dogsThatDecide_19 : decode cX3_dogsThatDecide 19 = .ok (.iconst 0, 1) := by decide +kernel
theorem dX3_dogsThatDecide_20 : decode cX3_dogsThatDecide 20 = .ok (.istore 4, 2) := by decide +kernel
theorem dX3_dogsThatDecide_22 : decode cX3_dogsThatDecide 22 = .ok (.iload 4, 2) := by decide +kernel
theorem dX3_dogsThatDecide_24 : decode cX3_dogsThatDecide 24 = .ok (.aload_n 0, 1) := by decide +kernel
theorem dX3_dogsThatDecide_25 : decode cX3_dogsThatDecide 25 = .ok (.getfield 22, 3) := by decide +kernel
theorem dX3_dogsThatDecide_28 : decode cX3_dogsThatDecide 28 = .ok (.getfield 107, 3) := by decide +kernel
theorem dX3_dogsThatDecide_31 : decode cX3_dogsThatDecide 31 = .ok (.if_icmp .ge 32, 3) := by decide +kernel
theorem dX3_dogsThatDecide_34 : decode cX3_dogsThatDecide 34 = .ok (.aload_n 0, 1) := by decide +kernel
theorem dX3_dogsThatDecide_35 : decode cX3_dogsThatDecide 35 = .ok (.iload_n 1, 1) := by decide +kernel
theorem dX3_dogsThatDecide_36 : decode cX3_dogsThatDecide 36 = .ok (.iconst 1, 1) := by decide +kernel
theorem dX3_dogsThatDecide_37 : decode cX3_dogsThatDecide 37 = .ok (.iload 4, 2) := by decide +kernel
theorem dX3_dogsThatDecide_39 : decode cX3_dogsThatDecide 39 = .ok (.ishl, 1) := by decide +kernel
theorem dX3_dogsThatDecide_40 : decode cX3_dogsThatDecide 40 = .ok (.iconst (-1), 1) := by decide +kernel
theorem dX3_dogsThatDecide_41 : decode cX3_dogsThatDecide 41 = .ok (.ixor, 1) := by decide +kernel
theorem dX3_dogsThatDecide_42 : decode cX3_dogsThatDecide 42 = .ok (.iand, 1) := by decide +kernel
theorem dX3_dogsThatDecide_43 : decode cX3_dogsThatDecide 43 = .ok (.invokevirtual 110, 3) := by decide +kernel
theorem dX3_dogsThatDecide_46 : decode cX3_dogsThatDecide 46 = .ok (.iload_n 2, 1) := by decide +kernel
theorem dX3_dogsThatDecide_47 : decode cX3_dogsThatDecide 47 = .ok (.if_icmp .eq 10, 3) := by decide +kernel
theorem dX3_dogsThatDecide_50 : decode cX3_dogsThatDecide 50 = .ok (.iload_n 3, 1) := by decide +kernel
theorem dX3_dogsThatDecide_51 : decode cX3_dogsThatDecide 51 = .ok (.iconst 1, 1) := by decide +kernel
theorem dX3_dogsThatDecide_52 : decode cX3_dogsThatDecide 52 = .ok (.iload 4, 2) := by decide +kernel
theorem dX3_dogsThatDecide_54 : decode cX3_dogsThatDecide 54 = .ok (.ishl, 1) := by decide +kernel
theorem dX3_dogsThatDecide_55 : decode cX3_dogsThatDecide 55 = .ok (.ior, 1) := by decide +kernel
theorem dX3_dogsThatDecide_56 : decode cX3_dogsThatDecide 56 = .ok (.istore_n 3, 1) := by decide +kernel
theorem dX3_dogsThatDecide_57 : decode cX3_dogsThatDecide 57 = .ok (.iinc 4 1, 3) := by decide +kernel
theorem dX3_dogsThatDecide_60 : decode cX3_dogsThatDecide 60 = .ok (.goto (-38), 3) := by decide +kernel
theorem dX3_dogsThatDecide_63 : decode cX3_dogsThatDecide 63 = .ok (.iload_n 3, 1) := by decide +kernel
theorem dX3_dogsThatDecide_64 : decode cX3_dogsThatDecide 64 = .ok (.ireturn, 1) := by decide +kernel
set_option maxRecDepth 20000 in
theorem ggX3_kingBy_X4_become : GoodIn wsX3_kingBy wsX4_become := goodIn_ids iaX3_kingBy iaX4_become haX3_kingBy haX4_become imX3_kingBy hmX3_kingBy (by decide +kernel) (by decide +kernel)
set_option maxRecDepth 20000 in
theorem gX3_kingBy_X4_become : GoodIn wsX3_kingBy (wsV RX3 35 RX4 yX4_become wsX4_become) := goodIn_app (goodIn_ids iaX3_kingBy [584, 432, 433, 73] haX3_kingBy rfl imX3_kingBy hmX3_kingBy (by decide +kernel) (by decide +kernel)) ggX3_kingBy_X4_become
set_option maxRecDepth 20000 in
theorem ggX3_kingBy_X4_runToBell : GoodIn wsX3_kingBy wsX4_runToBell := goodIn_ids iaX3_kingBy iaX4_runToBell haX3_kingBy haX4_runToBell imX3_kingBy hmX3_kingBy (by decide +kernel) (by decide +kernel)
set_option maxRecDepth 20000 in
theorem gX3_kingBy_X4_runToBell : GoodIn wsX3_kingBy (wsV RX3 44 RX4 yX4_runToBell wsX4_runToBell) := goodIn_app (goodIn_ids iaX3_kingBy [603, 604, 605, 73] haX3_kingBy rfl imX3_kingBy hmX3_kingBy (by decide +kernel) (by decide +kernel)) ggX3_kingBy_X4_runToBell
set_option maxRecDepth 20000 in
theorem ggX3_kingBy_X4_kingAtBell : GoodIn wsX3_kingBy wsX4_kingAtBell := goodIn_ids iaX3_kingBy iaX4_kingAtBell haX3_kingBy haX4_kingAtBell imX3_kingBy hmX3_kingBy (by decide +kernel) (by decide +kernel)
set_option maxRecDepth 20000 in
theorem gX3_kingBy_X4_kingAtBell : GoodIn wsX3_kingBy (wsV RX3 58 RX4 yX4_kingAtBell wsX4_kingAtBell) := goodIn_app (goodIn_ids iaX3_kingBy [632, 516, 517, 73] haX3_kingBy rfl imX3_kingBy hmX3_kingBy (by decide +kernel) (by decide +kernel)) ggX3_kingBy_X4_kingAtBell
theorem dX3_kingBy_0 : decode cX3_kingBy 0 = .ok (.aload_n 0, 1) := by decide +kernel
theorem dX3_kingBy_1 : decode cX3_kingBy 1 = .ok (.getfield 12, 3) := by decide +kernel
theorem dX3_kingBy_4 : decode cX3_kingBy 4 = .ok (.aload_n 0, 1) := by decide +kernel
theorem dX3_kingBy_5 : decode cX3_kingBy 5 = .ok (.getfield 22, 3) := by decide +kernel
theorem dX3_kingBy_8 : decode cX3_kingBy 8 = .ok (.invokevirtual 35, 3) := by decide +kernel
theorem dX3_kingBy_11 : decode cX3_kingBy 11 = .ok (.aload_n 0, 1) := by decide +kernel
theorem dX3_kingBy_12 : decode cX3_kingBy 12 = .ok (.getfield 12, 3) := by decide +kernel
theorem dX3_kingBy_15 : decode cX3_kingBy 15 = .ok (.iload_n 1, 1) := by decide +kernel
theorem dX3_kingBy_16 : decode cX3_kingBy 16 = .ok (.putfield 113, 3) := by decide +kernel
theorem dX3_kingBy_19 : decode cX3_kingBy 19 = .ok (.aload_n 0, 1) := by decide +kernel
theorem dX3_kingBy_20 : decode cX3_kingBy 20 = .ok (.getfield 12, 3) := by decide +kernel
theorem dX3_kingBy_23 : decode cX3_kingBy 23 = .ok (.invokevirtual 44, 3) := by decide +kernel
theorem dX3_kingBy_26 : decode cX3_kingBy 26 = .ok (.aload_n 0, 1) := by decide +kernel
theorem dX3_kingBy_27 : decode cX3_kingBy 27 = .ok (.getfield 12, 3) := by decide +kernel
theorem dX3_kingBy_30 : decode cX3_kingBy 30 = .ok (.invokevirtual 58, 3) := by decide +kernel
theorem dX3_kingBy_33 : decode cX3_kingBy 33 = .ok (.ireturn, 1) := by decide +kernel
set_option maxRecDepth 20000 in
theorem ggX3_guesses_X3_leastOf : GoodIn wsX3_guesses wsX3_leastOf := goodIn_ids iaX3_guesses iaX3_leastOf haX3_guesses haX3_leastOf imX3_guesses hmX3_guesses (by decide +kernel) (by decide +kernel)
set_option maxRecDepth 20000 in
theorem gX3_guesses_X3_leastOf : GoodIn wsX3_guesses (va_wsS RX3 116 yX3_leastOf wsX3_leastOf) := goodIn_app (goodIn_ids iaX3_guesses [708, 709, 75] haX3_guesses rfl imX3_guesses hmX3_guesses (by decide +kernel) (by decide +kernel)) ggX3_guesses_X3_leastOf
set_option maxRecDepth 20000 in
theorem ggX3_guesses_X3_mostOf : GoodIn wsX3_guesses wsX3_mostOf := goodIn_ids iaX3_guesses iaX3_mostOf haX3_guesses haX3_mostOf imX3_guesses hmX3_guesses (by decide +kernel) (by decide +kernel)
set_option maxRecDepth 20000 in
theorem gX3_guesses_X3_mostOf : GoodIn wsX3_guesses (wsV RX3 119 RX3 yX3_mostOf wsX3_mostOf) := goodIn_app (goodIn_ids iaX3_guesses [711, 713, 28, 75] haX3_guesses rfl imX3_guesses hmX3_guesses (by decide +kernel) (by decide +kernel)) ggX3_guesses_X3_mostOf
set_option maxRecDepth 20000 in
theorem ggX3_guesses_X4_become : GoodIn wsX3_guesses wsX4_become := goodIn_ids iaX3_guesses iaX4_become haX3_guesses haX4_become imX3_guesses hmX3_guesses (by decide +kernel) (by decide +kernel)
set_option maxRecDepth 20000 in
theorem gX3_guesses_X4_become : GoodIn wsX3_guesses (wsV RX3 35 RX4 yX4_become wsX4_become) := goodIn_app (goodIn_ids iaX3_guesses [584, 432, 433, 73] haX3_guesses rfl imX3_guesses hmX3_guesses (by decide +kernel) (by decide +kernel)) ggX3_guesses_X4_become
set_option maxRecDepth 20000 in
theorem ggX3_guesses_X4_take : GoodIn wsX3_guesses wsX4_take := goodIn_ids iaX3_guesses iaX4_take haX3_guesses haX4_take imX3_guesses hmX3_guesses (by decide +kernel) (by decide +kernel)
set_option maxRecDepth 20000 in
theorem gX3_guesses_X4_take : GoodIn wsX3_guesses (wsV RX3 54 RX4 yX4_take wsX4_take) := goodIn_app (goodIn_ids iaX3_guesses [628, 629, 630, 73] haX3_guesses rfl imX3_guesses hmX3_guesses (by decide +kernel) (by decide +kernel)) ggX3_guesses_X4_take
set_option maxRecDepth 20000 in
theorem ggX3_guesses_X3_goesAsTold : GoodIn wsX3_guesses wsX3_goesAsTold := goodIn_ids iaX3_guesses iaX3_goesAsTold haX3_guesses haX3_goesAsTold imX3_guesses hmX3_guesses (by decide +kernel) (by decide +kernel)
set_option maxRecDepth 20000 in
theorem gX3_guesses_X3_goesAsTold : GoodIn wsX3_guesses (wsV RX3 122 RX3 yX3_goesAsTold wsX3_goesAsTold) := goodIn_app (goodIn_ids iaX3_guesses [715, 717, 29, 75] haX3_guesses rfl imX3_guesses hmX3_guesses (by decide +kernel) (by decide +kernel)) ggX3_guesses_X3_goesAsTold
theorem dX3_guesses_0 : decode cX3_guesses 0 = .ok (.iconst 0, 1) := by decide +kernel
theorem dX3_guesses_1 : decode cX3_guesses 1 = .ok (.istore 7, 2) := by decide +kernel
theorem dX3_guesses_3 : decode cX3_guesses 3 = .ok (.iload_n 1, 1) := by decide +kernel
theorem dX3_guesses_4 : decode cX3_guesses 4 = .ok (.invokestatic 116, 3) := by decide +kernel
theorem dX3_guesses_7 : decode cX3_guesses 7 = .ok (.istore 8, 2) := by decide +kernel
theorem dX3_guesses_9 : decode cX3_guesses 9 = .ok (.iload 8, 2) := by decide +kernel
theorem dX3_guesses_11 : decode cX3_guesses 11 = .ok (.aload_n 0, 1) := by decide +kernel
theorem dX3_guesses_12 : decode cX3_guesses 12 = .ok (.iload_n 1, 1) := by decide +kernel
theorem dX3_guesses_13 : decode cX3_guesses 13 = .ok (.invokevirtual 119, 3) := by decide +kernel
theorem dX3_guesses_16 : decode cX3_guesses 16 = .ok (.if_icmp .gt 54, 3) := by decide +kernel
theorem dX3_guesses_19 : decode cX3_guesses 19 = .ok (.aload_n 0, 1) := by decide +kernel
theorem dX3_guesses_20 : decode cX3_guesses 20 = .ok (.getfield 12, 3) := by decide +kernel
theorem dX3_guesses_23 : decode cX3_guesses 23 = .ok (.aload_n 0, 1) := by decide +kernel
theorem dX3_guesses_24 : decode cX3_guesses 24 = .ok (.getfield 22, 3) := by decide +kernel
theorem dX3_guesses_27 : decode cX3_guesses 27 = .ok (.invokevirtual 35, 3) := by decide +kernel
theorem dX3_guesses_30 : decode cX3_guesses 30 = .ok (.aload_n 0, 1) := by decide +kernel
theorem dX3_guesses_31 : decode cX3_guesses 31 = .ok (.getfield 12, 3) := by decide +kernel
theorem dX3_guesses_34 : decode cX3_guesses 34 = .ok (.iload_n 1, 1) := by decide +kernel
theorem dX3_guesses_35 : decode cX3_guesses 35 = .ok (.iload_n 2, 1) := by decide +kernel
theorem dX3_guesses_36 : decode cX3_guesses 36 = .ok (.iload 8, 2) := by decide +kernel
theorem dX3_guesses_38 : decode cX3_guesses 38 = .ok (.invokevirtual 54, 3) := by decide +kernel
theorem dX3_guesses_41 : decode cX3_guesses 41 = .ok (.aload_n 0, 1) := by decide +kernel
theorem dX3_guesses_42 : decode cX3_guesses 42 = .ok (.iload_n 3, 1) := by decide +kernel
theorem dX3_guesses_43 : decode cX3_guesses 43 = .ok (.aload 4, 2) := by decide +kernel
theorem dX3_guesses_45 : decode cX3_guesses 45 = .ok (.iload 5, 2) := by decide +kernel
theorem dX3_guesses_47 : decode cX3_guesses 47 = .ok (.iload 6, 2) := by decide +kernel
theorem dX3_guesses_49 : decode cX3_guesses 49 = .ok (.invokevirtual 122, 3) := by decide +kernel
theorem dX3_guesses_52 : decode cX3_guesses 52 = .ok (.ifCond .eq 12, 3) := by decide +kernel
theorem dX3_guesses_55 : decode cX3_guesses 55 = .ok (.iload 7, 2) := by decide +kernel
theorem dX3_guesses_57 : decode cX3_guesses 57 = .ok (.iconst 1, 1) := by decide +kernel
theorem dX3_guesses_58 : decode cX3_guesses 58 = .ok (.iload 8, 2) := by decide +kernel
theorem dX3_guesses_60 : decode cX3_guesses 60 = .ok (.ishl, 1) := by decide +kernel
theorem dX3_guesses_61 : decode cX3_guesses 61 = .ok (.ior, 1) := by decide +kernel
theorem dX3_guesses_62 : decode cX3_guesses 62 = .ok (.istore 7, 2) := by decide +kernel
theorem dX3_guesses_64 : decode cX3_guesses 64 = .ok (.iinc 8 1, 3) := by decide +kernel
theorem dX3_guesses_67 : decode cX3_guesses 67 = .ok (.goto (-58), 3) := by decide +kernel
theorem dX3_guesses_70 : decode cX3_guesses 70 = .ok (.iload 7, 2) := by decide +kernel
theorem dX3_guesses_72 : decode cX3_guesses 72 = .ok (.ireturn, 1) := by decide +kernel
theorem dX3_leastOf_0 : decode cX3_leastOf 0 = .ok (.iload_n 0, 1) := by decide +kernel
theorem dX3_leastOf_1 : decode cX3_leastOf 1 = .ok (.ifCond .ne 7, 3) := by decide +kernel
theorem dX3_leastOf_4 : decode cX3_leastOf 4 = .ok (.iconst 1, 1) := by decide +kernel
theorem dX3_leastOf_5 : decode cX3_leastOf 5 = .ok (.goto 4, 3) := by decide +kernel
theorem dX3_leastOf_8 : decode cX3_leastOf 8 = .ok (.iconst 0, 1) := by decide +kernel
theorem dX3_leastOf_9 : decode cX3_leastOf 9 = .ok (.ireturn, 1) := by decide +kernel
theorem dX3_mostOf_0 : decode cX3_mostOf 0 = .ok (.iload_n 1, 1) := by decide +kernel
theorem dX3_mostOf_1 : decode cX3_mostOf 1 = .ok (.tableswitch 42 0 2 #[27, 29, 39], 27) := by decide +kernel
theorem dX3_mostOf_28 : decode cX3_mostOf 28 = .ok (.iconst 5, 1) := by decide +kernel
theorem dX3_mostOf_29 : decode cX3_mostOf 29 = .ok (.ireturn, 1) := by decide +kernel
theorem dX3_mostOf_30 : decode cX3_mostOf 30 = .ok (.aload_n 0, 1) := by decide +kernel
theorem dX3_mostOf_31 : decode cX3_mostOf 31 = .ok (.getfield 22, 3) := by decide +kernel
theorem dX3_mostOf_34 : decode cX3_mostOf 34 = .ok (.getfield 61, 3) := by decide +kernel
theorem dX3_mostOf_37 : decode cX3_mostOf 37 = .ok (.iconst 1, 1) := by decide +kernel
theorem dX3_mostOf_38 : decode cX3_mostOf 38 = .ok (.isub, 1) := by decide +kernel
theorem dX3_mostOf_39 : decode cX3_mostOf 39 = .ok (.ireturn, 1) := by decide +kernel
theorem dX3_mostOf_40 : decode cX3_mostOf 40 = .ok (.bipush 9, 2) := by decide +kernel
theorem dX3_mostOf_42 : decode cX3_mostOf 42 = .ok (.ireturn, 1) := by decide +kernel
theorem dX3_mostOf_43 : decode cX3_mostOf 43 = .ok (.iconst 2, 1) := by decide +kernel
theorem dX3_mostOf_44 : decode cX3_mostOf 44 = .ok (.ireturn, 1) := by decide +kernel
set_option maxRecDepth 20000 in
theorem ggX3_goesAsTold_X4_pass : GoodIn wsX3_goesAsTold wsX4_pass := goodIn_ids iaX3_goesAsTold iaX4_pass haX3_goesAsTold haX4_pass imX3_goesAsTold hmX3_goesAsTold (by decide +kernel) (by decide +kernel)
set_option maxRecDepth 20000 in
theorem gX3_goesAsTold_X4_pass : GoodIn wsX3_goesAsTold (wsV RX3 39 RX4 yX4_pass wsX4_pass) := goodIn_app (goodIn_ids iaX3_goesAsTold [585, 461, 462, 73] haX3_goesAsTold rfl imX3_goesAsTold hmX3_goesAsTold (by decide +kernel) (by decide +kernel)) ggX3_goesAsTold_X4_pass
theorem dX3_goesAsTold_0 : decode cX3_goesAsTold 0 = .ok (.iload_n 3, 1) := by decide +kernel
theorem dX3_goesAsTold_1 : decode cX3_goesAsTold 1 = .ok (.istore 5, 2) := by decide +kernel
theorem dX3_goesAsTold_3 : decode cX3_goesAsTold 3 = .ok (.iload 5, 2) := by decide +kernel
