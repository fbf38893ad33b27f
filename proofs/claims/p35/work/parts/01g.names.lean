theorem dX3_goesAsTold_5 : decode cX3_goesAsTold 5 = .ok (.iload_n 3, 1) := by decide +kernel
theorem dX3_goesAsTold_6 : decode cX3_goesAsTold 6 = .ok (.iload 4, 2) := by decide +kernel
theorem dX3_goesAsTold_8 : decode cX3_goesAsTold 8 = .ok (.iadd, 1) := by decide +kernel
theorem dX3_goesAsTold_9 : decode cX3_goesAsTold 9 = .ok (.if_icmp .ge 47, 3) := by decide +kernel
theorem dX3_goesAsTold_12 : decode cX3_goesAsTold 12 = .ok (.aload_n 0, 1) := by decide +kernel
theorem dX3_goesAsTold_13 : decode cX3_goesAsTold 13 = .ok (.getfield 12, 3) := by decide +kernel
theorem dX3_goesAsTold_16 : decode cX3_goesAsTold 16 = .ok (.invokevirtual 39, 3) := by decide +kernel
theorem dX3_goesAsTold_19 : decode cX3_goesAsTold 19 = .ok (.pop, 1) := by decide +kernel
theorem dX3_goesAsTold_20 : decode cX3_goesAsTold 20 = .ok (.iload 5, 2) := by decide +kernel
theorem dX3_goesAsTold_22 : decode cX3_goesAsTold 22 = .ok (.ifCond .lt 26, 3) := by decide +kernel
theorem dX3_goesAsTold_25 : decode cX3_goesAsTold 25 = .ok (.iload 5, 2) := by decide +kernel
theorem dX3_goesAsTold_27 : decode cX3_goesAsTold 27 = .ok (.aload_n 2, 1) := by decide +kernel
theorem dX3_goesAsTold_28 : decode cX3_goesAsTold 28 = .ok (.arraylength, 1) := by decide +kernel
theorem dX3_goesAsTold_29 : decode cX3_goesAsTold 29 = .ok (.if_icmp .ge 19, 3) := by decide +kernel
theorem dX3_goesAsTold_32 : decode cX3_goesAsTold 32 = .ok (.aload_n 2, 1) := by decide +kernel
theorem dX3_goesAsTold_33 : decode cX3_goesAsTold 33 = .ok (.iload 5, 2) := by decide +kernel
theorem dX3_goesAsTold_35 : decode cX3_goesAsTold 35 = .ok (.iaload, 1) := by decide +kernel
theorem dX3_goesAsTold_36 : decode cX3_goesAsTold 36 = .ok (.aload_n 0, 1) := by decide +kernel
theorem dX3_goesAsTold_37 : decode cX3_goesAsTold 37 = .ok (.getfield 12, 3) := by decide +kernel
theorem dX3_goesAsTold_40 : decode cX3_goesAsTold 40 = .ok (.getfield 29, 3) := by decide +kernel
theorem dX3_goesAsTold_43 : decode cX3_goesAsTold 43 = .ok (.iload_n 1, 1) := by decide +kernel
theorem dX3_goesAsTold_44 : decode cX3_goesAsTold 44 = .ok (.iaload, 1) := by decide +kernel
theorem dX3_goesAsTold_45 : decode cX3_goesAsTold 45 = .ok (.if_icmp .eq 5, 3) := by decide +kernel
theorem dX3_goesAsTold_48 : decode cX3_goesAsTold 48 = .ok (.iconst 0, 1) := by decide +kernel
theorem dX3_goesAsTold_49 : decode cX3_goesAsTold 49 = .ok (.ireturn, 1) := by decide +kernel
theorem dX3_goesAsTold_50 : decode cX3_goesAsTold 50 = .ok (.iinc 5 1, 3) := by decide +kernel
theorem dX3_goesAsTold_53 : decode cX3_goesAsTold 53 = .ok (.goto (-50), 3) := by decide +kernel
theorem dX3_goesAsTold_56 : decode cX3_goesAsTold 56 = .ok (.iconst 1, 1) := by decide +kernel
theorem dX3_goesAsTold_57 : decode cX3_goesAsTold 57 = .ok (.ireturn, 1) := by decide +kernel
set_option maxRecDepth 20000 in
theorem ggX3_chancesAsleep_X5_setOfAll : GoodIn wsX3_chancesAsleep wsX5_setOfAll := goodIn_ids iaX3_chancesAsleep iaX5_setOfAll haX3_chancesAsleep haX5_setOfAll imX3_chancesAsleep hmX3_chancesAsleep (by decide +kernel) (by decide +kernel)
set_option maxRecDepth 20000 in
theorem gX3_chancesAsleep_X5_setOfAll_n65 : GoodIn wsX3_chancesAsleep (wsX5_setOfAll) := ggX3_chancesAsleep_X5_setOfAll
set_option maxRecDepth 20000 in
theorem ggX3_chancesAsleep_J6_bitCount_0f7a4 : GoodIn wsX3_chancesAsleep wsJ6_bitCount_0f7a4 := goodIn_ids iaX3_chancesAsleep iaJ6_bitCount_0f7a4 haX3_chancesAsleep haJ6_bitCount_0f7a4 imX3_chancesAsleep hmX3_chancesAsleep (by decide +kernel) (by decide +kernel)
set_option maxRecDepth 20000 in
theorem gX3_chancesAsleep_J6_bitCount_0f7a4 : GoodIn wsX3_chancesAsleep (va_wsS RX3 69 yJ6_bitCount_0f7a4 wsJ6_bitCount_0f7a4) := goodIn_app (goodIn_ids iaX3_chancesAsleep [650, 524, 80] haX3_chancesAsleep rfl imX3_chancesAsleep hmX3_chancesAsleep (by decide +kernel) (by decide +kernel)) ggX3_chancesAsleep_J6_bitCount_0f7a4
set_option maxRecDepth 20000 in
theorem ggX3_chancesAsleep_X5_power : GoodIn wsX3_chancesAsleep wsX5_power := goodIn_ids iaX3_chancesAsleep iaX5_power haX3_chancesAsleep haX5_power imX3_chancesAsleep hmX3_chancesAsleep (by decide +kernel) (by decide +kernel)
set_option maxRecDepth 20000 in
theorem gX3_chancesAsleep_X5_power_n126 : GoodIn wsX3_chancesAsleep (wsX5_power) := ggX3_chancesAsleep_X5_power
set_option maxRecDepth 20000 in
theorem ggX3_chancesAsleep_X3_kingWhileAsleep : GoodIn wsX3_chancesAsleep wsX3_kingWhileAsleep := goodIn_ids iaX3_chancesAsleep iaX3_kingWhileAsleep haX3_chancesAsleep haX3_kingWhileAsleep imX3_chancesAsleep hmX3_chancesAsleep (by decide +kernel) (by decide +kernel)
set_option maxRecDepth 20000 in
theorem gX3_chancesAsleep_X3_kingWhileAsleep : GoodIn wsX3_chancesAsleep (wsV RX3 129 RX3 yX3_kingWhileAsleep wsX3_kingWhileAsleep) := goodIn_app (goodIn_ids iaX3_chancesAsleep [734, 736, 30, 75] haX3_chancesAsleep rfl imX3_chancesAsleep hmX3_chancesAsleep (by decide +kernel) (by decide +kernel)) ggX3_chancesAsleep_X3_kingWhileAsleep
theorem dX3_chancesAsleep_0 : decode cX3_chancesAsleep 0 = .ok (.iconst 0, 1) := by decide +kernel
theorem dX3_chancesAsleep_1 : decode cX3_chancesAsleep 1 = .ok (.istore_n 3, 1) := by decide +kernel
theorem dX3_chancesAsleep_2 : decode cX3_chancesAsleep 2 = .ok (.iconst 0, 1) := by decide +kernel
theorem dX3_chancesAsleep_3 : decode cX3_chancesAsleep 3 = .ok (.istore 4, 2) := by decide +kernel
theorem dX3_chancesAsleep_5 : decode cX3_chancesAsleep 5 = .ok (.iload 4, 2) := by decide +kernel
theorem dX3_chancesAsleep_7 : decode cX3_chancesAsleep 7 = .ok (.aload_n 0, 1) := by decide +kernel
theorem dX3_chancesAsleep_8 : decode cX3_chancesAsleep 8 = .ok (.getfield 22, 3) := by decide +kernel
theorem dX3_chancesAsleep_11 : decode cX3_chancesAsleep 11 = .ok (.getfield 107, 3) := by decide +kernel
theorem dX3_chancesAsleep_14 : decode cX3_chancesAsleep 14 = .ok (.invokestatic 65, 3) := by decide +kernel
theorem dX3_chancesAsleep_17 : decode cX3_chancesAsleep 17 = .ok (.if_icmp .gt 62, 3) := by decide +kernel
theorem dX3_chancesAsleep_20 : decode cX3_chancesAsleep 20 = .ok (.iload 4, 2) := by decide +kernel
theorem dX3_chancesAsleep_22 : decode cX3_chancesAsleep 22 = .ok (.invokestatic 69, 3) := by decide +kernel
theorem dX3_chancesAsleep_25 : decode cX3_chancesAsleep 25 = .ok (.istore 5, 2) := by decide +kernel
theorem dX3_chancesAsleep_27 : decode cX3_chancesAsleep 27 = .ok (.iload_n 2, 1) := by decide +kernel
theorem dX3_chancesAsleep_28 : decode cX3_chancesAsleep 28 = .ok (.iload 5, 2) := by decide +kernel
theorem dX3_chancesAsleep_30 : decode cX3_chancesAsleep 30 = .ok (.invokestatic 126, 3) := by decide +kernel
theorem dX3_chancesAsleep_33 : decode cX3_chancesAsleep 33 = .ok (.bipush 10, 2) := by decide +kernel
theorem dX3_chancesAsleep_35 : decode cX3_chancesAsleep 35 = .ok (.iload_n 2, 1) := by decide +kernel
theorem dX3_chancesAsleep_36 : decode cX3_chancesAsleep 36 = .ok (.isub, 1) := by decide +kernel
theorem dX3_chancesAsleep_37 : decode cX3_chancesAsleep 37 = .ok (.aload_n 0, 1) := by decide +kernel
theorem dX3_chancesAsleep_38 : decode cX3_chancesAsleep 38 = .ok (.getfield 22, 3) := by decide +kernel
theorem dX3_chancesAsleep_41 : decode cX3_chancesAsleep 41 = .ok (.getfield 107, 3) := by decide +kernel
theorem dX3_chancesAsleep_44 : decode cX3_chancesAsleep 44 = .ok (.iload 5, 2) := by decide +kernel
theorem dX3_chancesAsleep_46 : decode cX3_chancesAsleep 46 = .ok (.isub, 1) := by decide +kernel
theorem dX3_chancesAsleep_47 : decode cX3_chancesAsleep 47 = .ok (.invokestatic 126, 3) := by decide +kernel
theorem dX3_chancesAsleep_50 : decode cX3_chancesAsleep 50 = .ok (.imul, 1) := by decide +kernel
theorem dX3_chancesAsleep_51 : decode cX3_chancesAsleep 51 = .ok (.istore 6, 2) := by decide +kernel
theorem dX3_chancesAsleep_53 : decode cX3_chancesAsleep 53 = .ok (.iload 6, 2) := by decide +kernel
theorem dX3_chancesAsleep_55 : decode cX3_chancesAsleep 55 = .ok (.ifCond .le 18, 3) := by decide +kernel
theorem dX3_chancesAsleep_58 : decode cX3_chancesAsleep 58 = .ok (.aload_n 0, 1) := by decide +kernel
theorem dX3_chancesAsleep_59 : decode cX3_chancesAsleep 59 = .ok (.iload 4, 2) := by decide +kernel
theorem dX3_chancesAsleep_61 : decode cX3_chancesAsleep 61 = .ok (.invokevirtual 129, 3) := by decide +kernel
theorem dX3_chancesAsleep_64 : decode cX3_chancesAsleep 64 = .ok (.iload_n 1, 1) := by decide +kernel
theorem dX3_chancesAsleep_65 : decode cX3_chancesAsleep 65 = .ok (.if_icmp .ne 8, 3) := by decide +kernel
theorem dX3_chancesAsleep_68 : decode cX3_chancesAsleep 68 = .ok (.iload_n 3, 1) := by decide +kernel
theorem dX3_chancesAsleep_69 : decode cX3_chancesAsleep 69 = .ok (.iload 6, 2) := by decide +kernel
theorem dX3_chancesAsleep_71 : decode cX3_chancesAsleep 71 = .ok (.iadd, 1) := by decide +kernel
theorem dX3_chancesAsleep_72 : decode cX3_chancesAsleep 72 = .ok (.istore_n 3, 1) := by decide +kernel
theorem dX3_chancesAsleep_73 : decode cX3_chancesAsleep 73 = .ok (.iinc 4 1, 3) := by decide +kernel
theorem dX3_chancesAsleep_76 : decode cX3_chancesAsleep 76 = .ok (.goto (-71), 3) := by decide +kernel
theorem dX3_chancesAsleep_79 : decode cX3_chancesAsleep 79 = .ok (.iload_n 3, 1) := by decide +kernel
theorem dX3_chancesAsleep_80 : decode cX3_chancesAsleep 80 = .ok (.ireturn, 1) := by decide +kernel
set_option maxRecDepth 20000 in
theorem ggX3_kingWhileAsleep_X4_become : GoodIn wsX3_kingWhileAsleep wsX4_become := goodIn_ids iaX3_kingWhileAsleep iaX4_become haX3_kingWhileAsleep haX4_become imX3_kingWhileAsleep hmX3_kingWhileAsleep (by decide +kernel) (by decide +kernel)
set_option maxRecDepth 20000 in
theorem gX3_kingWhileAsleep_X4_become : GoodIn wsX3_kingWhileAsleep (wsV RX3 35 RX4 yX4_become wsX4_become) := goodIn_app (goodIn_ids iaX3_kingWhileAsleep [584, 432, 433, 73] haX3_kingWhileAsleep rfl imX3_kingWhileAsleep hmX3_kingWhileAsleep (by decide +kernel) (by decide +kernel)) ggX3_kingWhileAsleep_X4_become
set_option maxRecDepth 20000 in
theorem ggX3_kingWhileAsleep_X4_runToBell : GoodIn wsX3_kingWhileAsleep wsX4_runToBell := goodIn_ids iaX3_kingWhileAsleep iaX4_runToBell haX3_kingWhileAsleep haX4_runToBell imX3_kingWhileAsleep hmX3_kingWhileAsleep (by decide +kernel) (by decide +kernel)
set_option maxRecDepth 20000 in
theorem gX3_kingWhileAsleep_X4_runToBell : GoodIn wsX3_kingWhileAsleep (wsV RX3 44 RX4 yX4_runToBell wsX4_runToBell) := goodIn_app (goodIn_ids iaX3_kingWhileAsleep [603, 604, 605, 73] haX3_kingWhileAsleep rfl imX3_kingWhileAsleep hmX3_kingWhileAsleep (by decide +kernel) (by decide +kernel)) ggX3_kingWhileAsleep_X4_runToBell
set_option maxRecDepth 20000 in
theorem ggX3_kingWhileAsleep_X4_kingAtBell : GoodIn wsX3_kingWhileAsleep wsX4_kingAtBell := goodIn_ids iaX3_kingWhileAsleep iaX4_kingAtBell haX3_kingWhileAsleep haX4_kingAtBell imX3_kingWhileAsleep hmX3_kingWhileAsleep (by decide +kernel) (by decide +kernel)
set_option maxRecDepth 20000 in
theorem gX3_kingWhileAsleep_X4_kingAtBell : GoodIn wsX3_kingWhileAsleep (wsV RX3 58 RX4 yX4_kingAtBell wsX4_kingAtBell) := goodIn_app (goodIn_ids iaX3_kingWhileAsleep [632, 516, 517, 73] haX3_kingWhileAsleep rfl imX3_kingWhileAsleep hmX3_kingWhileAsleep (by decide +kernel) (by decide +kernel)) ggX3_kingWhileAsleep_X4_kingAtBell
theorem dX3_kingWhileAsleep_0 : decode cX3_kingWhileAsleep 0 = .ok (.aload_n 0, 1) := by decide +kernel
theorem dX3_kingWhileAsleep_1 : decode cX3_kingWhileAsleep 1 = .ok (.getfield 12, 3) := by decide +kernel
theorem dX3_kingWhileAsleep_4 : decode cX3_kingWhileAsleep 4 = .ok (.aload_n 0, 1) := by decide +kernel
theorem dX3_kingWhileAsleep_5 : decode cX3_kingWhileAsleep 5 = .ok (.getfield 22, 3) := by decide +kernel
theorem dX3_kingWhileAsleep_8 : decode cX3_kingWhileAsleep 8 = .ok (.invokevirtual 35, 3) := by decide +kernel
theorem dX3_kingWhileAsleep_11 : decode cX3_kingWhileAsleep 11 = .ok (.aload_n 0, 1) := by decide +kernel
theorem dX3_kingWhileAsleep_12 : decode cX3_kingWhileAsleep 12 = .ok (.getfield 12, 3) := by decide +kernel
theorem dX3_kingWhileAsleep_15 : decode cX3_kingWhileAsleep 15 = .ok (.iload_n 1, 1) := by decide +kernel
theorem dX3_kingWhileAsleep_16 : decode cX3_kingWhileAsleep 16 = .ok (.putfield 132, 3) := by decide +kernel
theorem dX3_kingWhileAsleep_19 : decode cX3_kingWhileAsleep 19 = .ok (.aload_n 0, 1) := by decide +kernel
theorem dX3_kingWhileAsleep_20 : decode cX3_kingWhileAsleep 20 = .ok (.getfield 12, 3) := by decide +kernel
theorem dX3_kingWhileAsleep_23 : decode cX3_kingWhileAsleep 23 = .ok (.invokevirtual 44, 3) := by decide +kernel
theorem dX3_kingWhileAsleep_26 : decode cX3_kingWhileAsleep 26 = .ok (.aload_n 0, 1) := by decide +kernel
theorem dX3_kingWhileAsleep_27 : decode cX3_kingWhileAsleep 27 = .ok (.getfield 12, 3) := by decide +kernel
theorem dX3_kingWhileAsleep_30 : decode cX3_kingWhileAsleep 30 = .ok (.invokevirtual 58, 3) := by decide +kernel
theorem dX3_kingWhileAsleep_33 : decode cX3_kingWhileAsleep 33 = .ok (.ireturn, 1) := by decide +kernel
set_option maxRecDepth 20000 in
theorem ggX3_drawYears_X4_become : GoodIn wsX3_drawYears wsX4_become := goodIn_ids iaX3_drawYears iaX4_become haX3_drawYears haX4_become imX3_drawYears hmX3_drawYears (by decide +kernel) (by decide +kernel)
set_option maxRecDepth 20000 in
theorem gX3_drawYears_X4_become : GoodIn wsX3_drawYears (wsV RX3 35 RX4 yX4_become wsX4_become) := goodIn_app (goodIn_ids iaX3_drawYears [584, 432, 433, 73] haX3_drawYears rfl imX3_drawYears hmX3_drawYears (by decide +kernel) (by decide +kernel)) ggX3_drawYears_X4_become
set_option maxRecDepth 20000 in
theorem ggX3_drawYears_X3_drawFriday : GoodIn wsX3_drawYears wsX3_drawFriday := goodIn_ids iaX3_drawYears iaX3_drawFriday haX3_drawYears haX3_drawFriday imX3_drawYears hmX3_drawYears (by decide +kernel) (by decide +kernel)
set_option maxRecDepth 20000 in
theorem gX3_drawYears_X3_drawFriday : GoodIn wsX3_drawYears (wsV RX3 138 RX3 yX3_drawFriday wsX3_drawFriday) := goodIn_app (goodIn_ids iaX3_drawYears [752, 754, 31, 75] haX3_drawYears rfl imX3_drawYears hmX3_drawYears (by decide +kernel) (by decide +kernel)) ggX3_drawYears_X3_drawFriday
set_option maxRecDepth 20000 in
theorem ggX3_drawYears_X4_ring : GoodIn wsX3_drawYears wsX4_ring := goodIn_ids iaX3_drawYears iaX4_ring haX3_drawYears haX4_ring imX3_drawYears hmX3_drawYears (by decide +kernel) (by decide +kernel)
set_option maxRecDepth 20000 in
theorem gX3_drawYears_X4_ring : GoodIn wsX3_drawYears (wsV RX3 47 RX4 yX4_ring wsX4_ring) := goodIn_app (goodIn_ids iaX3_drawYears [607, 512, 513, 73] haX3_drawYears rfl imX3_drawYears hmX3_drawYears (by decide +kernel) (by decide +kernel)) ggX3_drawYears_X4_ring
theorem dX3_drawYears_0 : decode cX3_drawYears 0 = .ok (.aload_n 0, 1) := by decide +kernel
theorem dX3_drawYears_1 : decode cX3_drawYears 1 = .ok (.iconst 0, 1) := by decide +kernel
theorem dX3_drawYears_2 : decode cX3_drawYears 2 = .ok (.putfield 135, 3) := by decide +kernel
theorem dX3_drawYears_5 : decode cX3_drawYears 5 = .ok (.iconst 0, 1) := by decide +kernel
theorem dX3_drawYears_6 : decode cX3_drawYears 6 = .ok (.istore_n 3, 1) := by decide +kernel
theorem dX3_drawYears_7 : decode cX3_drawYears 7 = .ok (.iload_n 3, 1) := by decide +kernel
theorem dX3_drawYears_8 : decode cX3_drawYears 8 = .ok (.iconst 5, 1) := by decide +kernel
theorem dX3_drawYears_9 : decode cX3_drawYears 9 = .ok (.if_icmp .ge 16, 3) := by decide +kernel
theorem dX3_drawYears_12 : decode cX3_drawYears 12 = .ok (.aload_n 0, 1) := by decide +kernel
theorem dX3_drawYears_13 : decode cX3_drawYears 13 = .ok (.getfield 18, 3) := by decide +kernel
theorem dX3_drawYears_16 : decode cX3_drawYears 16 = .ok (.iload_n 3, 1) := by decide +kernel
theorem dX3_drawYears_17 : decode cX3_drawYears 17 = .ok (.iconst 0, 1) := by decide +kernel
theorem dX3_drawYears_18 : decode cX3_drawYears 18 = .ok (.iastore, 1) := by decide +kernel
theorem dX3_drawYears_19 : decode cX3_drawYears 19 = .ok (.iinc 3 1, 3) := by decide +kernel
theorem dX3_drawYears_22 : decode cX3_drawYears 22 = .ok (.goto (-15), 3) := by decide +kernel
theorem dX3_drawYears_25 : decode cX3_drawYears 25 = .ok (.aload_n 0, 1) := by decide +kernel
theorem dX3_drawYears_26 : decode cX3_drawYears 26 = .ok (.getfield 12, 3) := by decide +kernel
theorem dX3_drawYears_29 : decode cX3_drawYears 29 = .ok (.aload_n 0, 1) := by decide +kernel
theorem dX3_drawYears_30 : decode cX3_drawYears 30 = .ok (.getfield 22, 3) := by decide +kernel
theorem dX3_drawYears_33 : decode cX3_drawYears 33 = .ok (.invokevirtual 35, 3) := by decide +kernel
theorem dX3_drawYears_36 : decode cX3_drawYears 36 = .ok (.iload_n 2, 1) := by decide +kernel
theorem dX3_drawYears_37 : decode cX3_drawYears 37 = .ok (.i2l, 1) := by decide +kernel
theorem dX3_drawYears_38 : decode cX3_drawYears 38 = .ok (.lstore_n 3, 1) := by decide +kernel
theorem dX3_drawYears_39 : decode cX3_drawYears 39 = .ok (.iconst 0, 1) := by decide +kernel
theorem dX3_drawYears_40 : decode cX3_drawYears 40 = .ok (.istore 5, 2) := by decide +kernel
theorem dX3_drawYears_42 : decode cX3_drawYears 42 = .ok (.iload 5, 2) := by decide +kernel
theorem dX3_drawYears_44 : decode cX3_drawYears 44 = .ok (.iload_n 1, 1) := by decide +kernel
theorem dX3_drawYears_45 : decode cX3_drawYears 45 = .ok (.if_icmp .ge 63, 3) := by decide +kernel
theorem dX3_drawYears_48 : decode cX3_drawYears 48 = .ok (.aload_n 0, 1) := by decide +kernel
theorem dX3_drawYears_49 : decode cX3_drawYears 49 = .ok (.lload_n 3, 1) := by decide +kernel
theorem dX3_drawYears_50 : decode cX3_drawYears 50 = .ok (.invokevirtual 138, 3) := by decide +kernel
theorem dX3_drawYears_53 : decode cX3_drawYears 53 = .ok (.lstore_n 3, 1) := by decide +kernel
theorem dX3_drawYears_54 : decode cX3_drawYears 54 = .ok (.aload_n 0, 1) := by decide +kernel
theorem dX3_drawYears_55 : decode cX3_drawYears 55 = .ok (.getfield 12, 3) := by decide +kernel
theorem dX3_drawYears_58 : decode cX3_drawYears 58 = .ok (.invokevirtual 47, 3) := by decide +kernel
theorem dX3_drawYears_61 : decode cX3_drawYears 61 = .ok (.istore 6, 2) := by decide +kernel
theorem dX3_drawYears_63 : decode cX3_drawYears 63 = .ok (.iload 6, 2) := by decide +kernel
theorem dX3_drawYears_65 : decode cX3_drawYears 65 = .ok (.ifCond .lt 27, 3) := by decide +kernel
theorem dX3_drawYears_68 : decode cX3_drawYears 68 = .ok (.iload 6, 2) := by decide +kernel
theorem dX3_drawYears_70 : decode cX3_drawYears 70 = .ok (.aload_n 0, 1) := by decide +kernel
theorem dX3_drawYears_71 : decode cX3_drawYears 71 = .ok (.getfield 18, 3) := by decide +kernel
theorem dX3_drawYears_74 : decode cX3_drawYears 74 = .ok (.arraylength, 1) := by decide +kernel
theorem dX3_drawYears_75 : decode cX3_drawYears 75 = .ok (.if_icmp .ge 17, 3) := by decide +kernel
theorem dX3_drawYears_78 : decode cX3_drawYears 78 = .ok (.aload_n 0, 1) := by decide +kernel
theorem dX3_drawYears_79 : decode cX3_drawYears 79 = .ok (.getfield 18, 3) := by decide +kernel
theorem dX3_drawYears_82 : decode cX3_drawYears 82 = .ok (.iload 6, 2) := by decide +kernel
theorem dX3_drawYears_84 : decode cX3_drawYears 84 = .ok (.dup2, 1) := by decide +kernel
theorem dX3_drawYears_85 : decode cX3_drawYears 85 = .ok (.iaload, 1) := by decide +kernel
theorem dX3_drawYears_86 : decode cX3_drawYears 86 = .ok (.iconst 1, 1) := by decide +kernel
theorem dX3_drawYears_87 : decode cX3_drawYears 87 = .ok (.iadd, 1) := by decide +kernel
theorem dX3_drawYears_88 : decode cX3_drawYears 88 = .ok (.iastore, 1) := by decide +kernel
theorem dX3_drawYears_89 : decode cX3_drawYears 89 = .ok (.goto 13, 3) := by decide +kernel
theorem dX3_drawYears_92 : decode cX3_drawYears 92 = .ok (.aload_n 0, 1) := by decide +kernel
theorem dX3_drawYears_93 : decode cX3_drawYears 93 = .ok (.dup, 1) := by decide +kernel
theorem dX3_drawYears_94 : decode cX3_drawYears 94 = .ok (.getfield 135, 3) := by decide +kernel
theorem dX3_drawYears_97 : decode cX3_drawYears 97 = .ok (.iconst 1, 1) := by decide +kernel
theorem dX3_drawYears_98 : decode cX3_drawYears 98 = .ok (.iadd, 1) := by decide +kernel
theorem dX3_drawYears_99 : decode cX3_drawYears 99 = .ok (.putfield 135, 3) := by decide +kernel
theorem dX3_drawYears_102 : decode cX3_drawYears 102 = .ok (.iinc 5 1, 3) := by decide +kernel
theorem dX3_drawYears_105 : decode cX3_drawYears 105 = .ok (.goto (-63), 3) := by decide +kernel
theorem dX3_drawYears_108 : decode cX3_drawYears 108 = .ok (.return_, 1) := by decide +kernel
set_option maxRecDepth 20000 in
theorem ggX3_drawFriday_X4_stir : GoodIn wsX3_drawFriday wsX4_stir := goodIn_ids iaX3_drawFriday iaX4_stir haX3_drawFriday haX4_stir imX3_drawFriday hmX3_drawFriday (by decide +kernel) (by decide +kernel)
set_option maxRecDepth 20000 in
theorem gX3_drawFriday_X4_stir : GoodIn wsX3_drawFriday (wsV RX3 157 RX4 yX4_stir wsX4_stir) := goodIn_app (goodIn_ids iaX3_drawFriday [759, 465, 466, 73] haX3_drawFriday rfl imX3_drawFriday hmX3_drawFriday (by decide +kernel) (by decide +kernel)) ggX3_drawFriday_X4_stir
theorem dX3_drawFriday_0 : decode cX3_drawFriday 0 = .ok (.aload_n 0, 1) := by decide +kernel
theorem dX3_drawFriday_1 : decode cX3_drawFriday 1 = .ok (.getfield 12, 3) := by decide +kernel
theorem dX3_drawFriday_4 : decode cX3_drawFriday 4 = .ok (.getfield 142, 3) := by decide +kernel
theorem dX3_drawFriday_7 : decode cX3_drawFriday 7 = .ok (.aload_n 0, 1) := by decide +kernel
theorem dX3_drawFriday_8 : decode cX3_drawFriday 8 = .ok (.getfield 12, 3) := by decide +kernel
theorem dX3_drawFriday_11 : decode cX3_drawFriday 11 = .ok (.getfield 145, 3) := by decide +kernel
theorem dX3_drawFriday_14 : decode cX3_drawFriday 14 = .ok (.isub, 1) := by decide +kernel
theorem dX3_drawFriday_15 : decode cX3_drawFriday 15 = .ok (.istore_n 3, 1) := by decide +kernel
theorem dX3_drawFriday_16 : decode cX3_drawFriday 16 = .ok (.iload_n 3, 1) := by decide +kernel
theorem dX3_drawFriday_17 : decode cX3_drawFriday 17 = .ok (.ifCond .le 61, 3) := by decide +kernel
theorem dX3_drawFriday_20 : decode cX3_drawFriday 20 = .ok (.aload_n 0, 1) := by decide +kernel
theorem dX3_drawFriday_21 : decode cX3_drawFriday 21 = .ok (.getfield 12, 3) := by decide +kernel
theorem dX3_drawFriday_24 : decode cX3_drawFriday 24 = .ok (.getfield 148, 3) := by decide +kernel
theorem dX3_drawFriday_27 : decode cX3_drawFriday 27 = .ok (.ifCond .le 51, 3) := by decide +kernel
theorem dX3_drawFriday_30 : decode cX3_drawFriday 30 = .ok (.lload_n 1, 1) := by decide +kernel
theorem dX3_drawFriday_31 : decode cX3_drawFriday 31 = .ok (.ldc2_w 151, 3) := by decide +kernel
theorem dX3_drawFriday_34 : decode cX3_drawFriday 34 = .ok (.lmul, 1) := by decide +kernel
theorem dX3_drawFriday_35 : decode cX3_drawFriday 35 = .ok (.ldc2_w 153, 3) := by decide +kernel
theorem dX3_drawFriday_38 : decode cX3_drawFriday 38 = .ok (.lrem, 1) := by decide +kernel
theorem dX3_drawFriday_39 : decode cX3_drawFriday 39 = .ok (.lstore_n 1, 1) := by decide +kernel
theorem dX3_drawFriday_40 : decode cX3_drawFriday 40 = .ok (.aload_n 0, 1) := by decide +kernel
theorem dX3_drawFriday_41 : decode cX3_drawFriday 41 = .ok (.getfield 12, 3) := by decide +kernel
theorem dX3_drawFriday_44 : decode cX3_drawFriday 44 = .ok (.getfield 104, 3) := by decide +kernel
theorem dX3_drawFriday_47 : decode cX3_drawFriday 47 = .ok (.lload_n 1, 1) := by decide +kernel
theorem dX3_drawFriday_48 : decode cX3_drawFriday 48 = .ok (.aload_n 0, 1) := by decide +kernel
theorem dX3_drawFriday_49 : decode cX3_drawFriday 49 = .ok (.getfield 12, 3) := by decide +kernel
theorem dX3_drawFriday_52 : decode cX3_drawFriday 52 = .ok (.getfield 148, 3) := by decide +kernel
theorem dX3_drawFriday_55 : decode cX3_drawFriday 55 = .ok (.i2l, 1) := by decide +kernel
theorem dX3_drawFriday_56 : decode cX3_drawFriday 56 = .ok (.lrem, 1) := by decide +kernel
theorem dX3_drawFriday_57 : decode cX3_drawFriday 57 = .ok (.l2i, 1) := by decide +kernel
theorem dX3_drawFriday_58 : decode cX3_drawFriday 58 = .ok (.lload_n 1, 1) := by decide +kernel
theorem dX3_drawFriday_59 : decode cX3_drawFriday 59 = .ok (.ldc2_w 155, 3) := by decide +kernel
theorem dX3_drawFriday_62 : decode cX3_drawFriday 62 = .ok (.lrem, 1) := by decide +kernel
theorem dX3_drawFriday_63 : decode cX3_drawFriday 63 = .ok (.l2i, 1) := by decide +kernel
theorem dX3_drawFriday_64 : decode cX3_drawFriday 64 = .ok (.iastore, 1) := by decide +kernel
theorem dX3_drawFriday_65 : decode cX3_drawFriday 65 = .ok (.aload_n 0, 1) := by decide +kernel
theorem dX3_drawFriday_66 : decode cX3_drawFriday 66 = .ok (.getfield 12, 3) := by decide +kernel
theorem dX3_drawFriday_69 : decode cX3_drawFriday 69 = .ok (.invokevirtual 157, 3) := by decide +kernel
theorem dX3_drawFriday_72 : decode cX3_drawFriday 72 = .ok (.iinc 3 (-1), 3) := by decide +kernel
theorem dX3_drawFriday_75 : decode cX3_drawFriday 75 = .ok (.goto (-59), 3) := by decide +kernel
theorem dX3_drawFriday_78 : decode cX3_drawFriday 78 = .ok (.lload_n 1, 1) := by decide +kernel
theorem dX3_drawFriday_79 : decode cX3_drawFriday 79 = .ok (.lreturn, 1) := by decide +kernel
theorem dX3_kingMostOften_0 : decode cX3_kingMostOften 0 = .ok (.ldc 43, 2) := by decide +kernel
theorem dX3_kingMostOften_2 : decode cX3_kingMostOften 2 = .ok (.istore_n 1, 1) := by decide +kernel
theorem dX3_kingMostOften_3 : decode cX3_kingMostOften 3 = .ok (.iconst 0, 1) := by decide +kernel
theorem dX3_kingMostOften_4 : decode cX3_kingMostOften 4 = .ok (.istore_n 2, 1) := by decide +kernel
theorem dX3_kingMostOften_5 : decode cX3_kingMostOften 5 = .ok (.iconst 0, 1) := by decide +kernel
theorem dX3_kingMostOften_6 : decode cX3_kingMostOften 6 = .ok (.istore_n 3, 1) := by decide +kernel
theorem dX3_kingMostOften_7 : decode cX3_kingMostOften 7 = .ok (.iload_n 3, 1) := by decide +kernel
theorem dX3_kingMostOften_8 : decode cX3_kingMostOften 8 = .ok (.aload_n 0, 1) := by decide +kernel
theorem dX3_kingMostOften_9 : decode cX3_kingMostOften 9 = .ok (.getfield 12, 3) := by decide +kernel
theorem dX3_kingMostOften_12 : decode cX3_kingMostOften 12 = .ok (.getfield 148, 3) := by decide +kernel
theorem dX3_kingMostOften_15 : decode cX3_kingMostOften 15 = .ok (.if_icmp .ge 28, 3) := by decide +kernel
theorem dX3_kingMostOften_18 : decode cX3_kingMostOften 18 = .ok (.aload_n 0, 1) := by decide +kernel
theorem dX3_kingMostOften_19 : decode cX3_kingMostOften 19 = .ok (.getfield 18, 3) := by decide +kernel
theorem dX3_kingMostOften_22 : decode cX3_kingMostOften 22 = .ok (.iload_n 3, 1) := by decide +kernel
theorem dX3_kingMostOften_23 : decode cX3_kingMostOften 23 = .ok (.iaload, 1) := by decide +kernel
theorem dX3_kingMostOften_24 : decode cX3_kingMostOften 24 = .ok (.iload_n 2, 1) := by decide +kernel
theorem dX3_kingMostOften_25 : decode cX3_kingMostOften 25 = .ok (.if_icmp .le 12, 3) := by decide +kernel
theorem dX3_kingMostOften_28 : decode cX3_kingMostOften 28 = .ok (.aload_n 0, 1) := by decide +kernel
theorem dX3_kingMostOften_29 : decode cX3_kingMostOften 29 = .ok (.getfield 18, 3) := by decide +kernel
theorem dX3_kingMostOften_32 : decode cX3_kingMostOften 32 = .ok (.iload_n 3, 1) := by decide +kernel
theorem dX3_kingMostOften_33 : decode cX3_kingMostOften 33 = .ok (.iaload, 1) := by decide +kernel
theorem dX3_kingMostOften_34 : decode cX3_kingMostOften 34 = .ok (.istore_n 2, 1) := by decide +kernel
theorem dX3_kingMostOften_35 : decode cX3_kingMostOften 35 = .ok (.iload_n 3, 1) := by decide +kernel
theorem dX3_kingMostOften_36 : decode cX3_kingMostOften 36 = .ok (.istore_n 1, 1) := by decide +kernel
theorem dX3_kingMostOften_37 : decode cX3_kingMostOften 37 = .ok (.iinc 3 1, 3) := by decide +kernel
theorem dX3_kingMostOften_40 : decode cX3_kingMostOften 40 = .ok (.goto (-33), 3) := by decide +kernel
theorem dX3_kingMostOften_43 : decode cX3_kingMostOften 43 = .ok (.iload_n 1, 1) := by decide +kernel
theorem dX3_kingMostOften_44 : decode cX3_kingMostOften 44 = .ok (.ireturn, 1) := by decide +kernel
theorem dX4_init_0 : decode cX4_init 0 = .ok (.aload_n 0, 1) := by decide +kernel
theorem dX4_init_1 : decode cX4_init 1 = .ok (.invokespecial 3, 3) := by decide +kernel
theorem dX4_init_4 : decode cX4_init 4 = .ok (.aload_n 0, 1) := by decide +kernel
theorem dX4_init_5 : decode cX4_init 5 = .ok (.iconst 5, 1) := by decide +kernel
theorem dX4_init_6 : decode cX4_init 6 = .ok (.newarray .int, 2) := by decide +kernel
theorem dX4_init_8 : decode cX4_init 8 = .ok (.putfield 9, 3) := by decide +kernel
theorem dX4_init_11 : decode cX4_init 11 = .ok (.aload_n 0, 1) := by decide +kernel
theorem dX4_init_12 : decode cX4_init 12 = .ok (.iconst 5, 1) := by decide +kernel
theorem dX4_init_13 : decode cX4_init 13 = .ok (.newarray .int, 2) := by decide +kernel
theorem dX4_init_15 : decode cX4_init 15 = .ok (.putfield 15, 3) := by decide +kernel
theorem dX4_init_18 : decode cX4_init 18 = .ok (.aload_n 0, 1) := by decide +kernel
theorem dX4_init_19 : decode cX4_init 19 = .ok (.iconst 5, 1) := by decide +kernel
theorem dX4_init_20 : decode cX4_init 20 = .ok (.newarray .int, 2) := by decide +kernel
theorem dX4_init_22 : decode cX4_init 22 = .ok (.putfield 18, 3) := by decide +kernel
theorem dX4_init_25 : decode cX4_init 25 = .ok (.aload_n 0, 1) := by decide +kernel
theorem dX4_init_26 : decode cX4_init 26 = .ok (.iconst 5, 1) := by decide +kernel
theorem dX4_init_27 : decode cX4_init 27 = .ok (.newarray .int, 2) := by decide +kernel
theorem dX4_init_29 : decode cX4_init 29 = .ok (.putfield 21, 3) := by decide +kernel
theorem dX4_init_32 : decode cX4_init 32 = .ok (.aload_n 0, 1) := by decide +kernel
theorem dX4_init_33 : decode cX4_init 33 = .ok (.iconst 5, 1) := by decide +kernel
theorem dX4_init_34 : decode cX4_init 34 = .ok (.newarray .int, 2) := by decide +kernel
theorem dX4_init_36 : decode cX4_init 36 = .ok (.putfield 24, 3) := by decide +kernel
theorem dX4_init_39 : decode cX4_init 39 = .ok (.aload_n 0, 1) := by decide +kernel
theorem dX4_init_40 : decode cX4_init 40 = .ok (.iconst 5, 1) := by decide +kernel
theorem dX4_init_41 : decode cX4_init 41 = .ok (.newarray .int, 2) := by decide +kernel
theorem dX4_init_43 : decode cX4_init 43 = .ok (.putfield 27, 3) := by decide +kernel
theorem dX4_init_46 : decode cX4_init 46 = .ok (.aload_n 0, 1) := by decide +kernel
theorem dX4_init_47 : decode cX4_init 47 = .ok (.bipush 6, 2) := by decide +kernel
theorem dX4_init_49 : decode cX4_init 49 = .ok (.newarray .int, 2) := by decide +kernel
theorem dX4_init_51 : decode cX4_init 51 = .ok (.putfield 30, 3) := by decide +kernel
theorem dX4_init_54 : decode cX4_init 54 = .ok (.aload_n 0, 1) := by decide +kernel
theorem dX4_init_55 : decode cX4_init 55 = .ok (.bipush 6, 2) := by decide +kernel
theorem dX4_init_57 : decode cX4_init 57 = .ok (.newarray .int, 2) := by decide +kernel
theorem dX4_init_59 : decode cX4_init 59 = .ok (.putfield 33, 3) := by decide +kernel
theorem dX4_init_62 : decode cX4_init 62 = .ok (.aload_n 0, 1) := by decide +kernel
theorem dX4_init_63 : decode cX4_init 63 = .ok (.bipush 6, 2) := by decide +kernel
theorem dX4_init_65 : decode cX4_init 65 = .ok (.newarray .int, 2) := by decide +kernel
theorem dX4_init_67 : decode cX4_init 67 = .ok (.putfield 36, 3) := by decide +kernel
theorem dX4_init_70 : decode cX4_init 70 = .ok (.aload_n 0, 1) := by decide +kernel
theorem dX4_init_71 : decode cX4_init 71 = .ok (.bipush 9, 2) := by decide +kernel
theorem dX4_init_73 : decode cX4_init 73 = .ok (.newarray .int, 2) := by decide +kernel
theorem dX4_init_75 : decode cX4_init 75 = .ok (.putfield 39, 3) := by decide +kernel
theorem dX4_init_78 : decode cX4_init 78 = .ok (.return_, 1) := by decide +kernel
theorem dX4_stands_0 : decode cX4_stands 0 = .ok (.aload_n 0, 1) := by decide +kernel
theorem dX4_stands_1 : decode cX4_stands 1 = .ok (.getfield 42, 3) := by decide +kernel
theorem dX4_stands_4 : decode cX4_stands 4 = .ok (.ifCond .le 7, 3) := by decide +kernel
theorem dX4_stands_7 : decode cX4_stands 7 = .ok (.iconst 1, 1) := by decide +kernel
theorem dX4_stands_8 : decode cX4_stands 8 = .ok (.goto 4, 3) := by decide +kernel
theorem dX4_stands_11 : decode cX4_stands 11 = .ok (.iconst 0, 1) := by decide +kernel
theorem dX4_stands_12 : decode cX4_stands 12 = .ok (.ireturn, 1) := by decide +kernel
theorem dX4_become_0 : decode cX4_become 0 = .ok (.aload_n 0, 1) := by decide +kernel
theorem dX4_become_1 : decode cX4_become 1 = .ok (.aload_n 1, 1) := by decide +kernel
theorem dX4_become_2 : decode cX4_become 2 = .ok (.getfield 42, 3) := by decide +kernel
theorem dX4_become_5 : decode cX4_become 5 = .ok (.putfield 42, 3) := by decide +kernel
theorem dX4_become_8 : decode cX4_become 8 = .ok (.aload_n 0, 1) := by decide +kernel
theorem dX4_become_9 : decode cX4_become 9 = .ok (.aload_n 1, 1) := by decide +kernel
theorem dX4_become_10 : decode cX4_become 10 = .ok (.getfield 46, 3) := by decide +kernel
theorem dX4_become_13 : decode cX4_become 13 = .ok (.putfield 46, 3) := by decide +kernel
theorem dX4_become_16 : decode cX4_become 16 = .ok (.aload_n 0, 1) := by decide +kernel
theorem dX4_become_17 : decode cX4_become 17 = .ok (.aload_n 1, 1) := by decide +kernel
theorem dX4_become_18 : decode cX4_become 18 = .ok (.getfield 49, 3) := by decide +kernel
theorem dX4_become_21 : decode cX4_become 21 = .ok (.putfield 49, 3) := by decide +kernel
theorem dX4_become_24 : decode cX4_become 24 = .ok (.aload_n 0, 1) := by decide +kernel
theorem dX4_become_25 : decode cX4_become 25 = .ok (.aload_n 1, 1) := by decide +kernel
theorem dX4_become_26 : decode cX4_become 26 = .ok (.getfield 52, 3) := by decide +kernel
theorem dX4_become_29 : decode cX4_become 29 = .ok (.putfield 52, 3) := by decide +kernel
theorem dX4_become_32 : decode cX4_become 32 = .ok (.aload_n 0, 1) := by decide +kernel
theorem dX4_become_33 : decode cX4_become 33 = .ok (.aload_n 1, 1) := by decide +kernel
theorem dX4_become_34 : decode cX4_become 34 = .ok (.getfield 55, 3) := by decide +kernel
theorem dX4_become_37 : decode cX4_become 37 = .ok (.putfield 55, 3) := by decide +kernel
theorem dX4_become_40 : decode cX4_become 40 = .ok (.iconst 0, 1) := by decide +kernel
theorem dX4_become_41 : decode cX4_become 41 = .ok (.istore_n 2, 1) := by decide +kernel
theorem dX4_become_42 : decode cX4_become 42 = .ok (.iload_n 2, 1) := by decide +kernel
theorem dX4_become_43 : decode cX4_become 43 = .ok (.aload_n 0, 1) := by decide +kernel
theorem dX4_become_44 : decode cX4_become 44 = .ok (.getfield 55, 3) := by decide +kernel
theorem dX4_become_47 : decode cX4_become 47 = .ok (.if_icmp .ge 81, 3) := by decide +kernel
theorem dX4_become_50 : decode cX4_become 50 = .ok (.aload_n 0, 1) := by decide +kernel
theorem dX4_become_51 : decode cX4_become 51 = .ok (.getfield 9, 3) := by decide +kernel
theorem dX4_become_54 : decode cX4_become 54 = .ok (.iload_n 2, 1) := by decide +kernel
theorem dX4_become_55 : decode cX4_become 55 = .ok (.aload_n 1, 1) := by decide +kernel
theorem dX4_become_56 : decode cX4_become 56 = .ok (.getfield 9, 3) := by decide +kernel
theorem dX4_become_59 : decode cX4_become 59 = .ok (.iload_n 2, 1) := by decide +kernel
theorem dX4_become_60 : decode cX4_become 60 = .ok (.iaload, 1) := by decide +kernel
theorem dX4_become_61 : decode cX4_become 61 = .ok (.iastore, 1) := by decide +kernel
theorem dX4_become_62 : decode cX4_become 62 = .ok (.aload_n 0, 1) := by decide +kernel
theorem dX4_become_63 : decode cX4_become 63 = .ok (.getfield 15, 3) := by decide +kernel
theorem dX4_become_66 : decode cX4_become 66 = .ok (.iload_n 2, 1) := by decide +kernel
theorem dX4_become_67 : decode cX4_become 67 = .ok (.aload_n 1, 1) := by decide +kernel
theorem dX4_become_68 : decode cX4_become 68 = .ok (.getfield 15, 3) := by decide +kernel
theorem dX4_become_71 : decode cX4_become 71 = .ok (.iload_n 2, 1) := by decide +kernel
theorem dX4_become_72 : decode cX4_become 72 = .ok (.iaload, 1) := by decide +kernel
theorem dX4_become_73 : decode cX4_become 73 = .ok (.iastore, 1) := by decide +kernel
theorem dX4_become_74 : decode cX4_become 74 = .ok (.aload_n 0, 1) := by decide +kernel
theorem dX4_become_75 : decode cX4_become 75 = .ok (.getfield 18, 3) := by decide +kernel
theorem dX4_become_78 : decode cX4_become 78 = .ok (.iload_n 2, 1) := by decide +kernel
theorem dX4_become_79 : decode cX4_become 79 = .ok (.aload_n 1, 1) := by decide +kernel
theorem dX4_become_80 : decode cX4_become 80 = .ok (.getfield 18, 3) := by decide +kernel
theorem dX4_become_83 : decode cX4_become 83 = .ok (.iload_n 2, 1) := by decide +kernel
theorem dX4_become_84 : decode cX4_become 84 = .ok (.iaload, 1) := by decide +kernel
theorem dX4_become_85 : decode cX4_become 85 = .ok (.iastore, 1) := by decide +kernel
theorem dX4_become_86 : decode cX4_become 86 = .ok (.aload_n 0, 1) := by decide +kernel
theorem dX4_become_87 : decode cX4_become 87 = .ok (.getfield 21, 3) := by decide +kernel
theorem dX4_become_90 : decode cX4_become 90 = .ok (.iload_n 2, 1) := by decide +kernel
theorem dX4_become_91 : decode cX4_become 91 = .ok (.aload_n 1, 1) := by decide +kernel
theorem dX4_become_92 : decode cX4_become 92 = .ok (.getfield 21, 3) := by decide +kernel
theorem dX4_become_95 : decode cX4_become 95 = .ok (.iload_n 2, 1) := by decide +kernel
theorem dX4_become_96 : decode cX4_become 96 = .ok (.iaload, 1) := by decide +kernel
theorem dX4_become_97 : decode cX4_become 97 = .ok (.iastore, 1) := by decide +kernel
theorem dX4_become_98 : decode cX4_become 98 = .ok (.aload_n 0, 1) := by decide +kernel
theorem dX4_become_99 : decode cX4_become 99 = .ok (.getfield 24, 3) := by decide +kernel
theorem dX4_become_102 : decode cX4_become 102 = .ok (.iload_n 2, 1) := by decide +kernel
theorem dX4_become_103 : decode cX4_become 103 = .ok (.aload_n 1, 1) := by decide +kernel
theorem dX4_become_104 : decode cX4_become 104 = .ok (.getfield 24, 3) := by decide +kernel
theorem dX4_become_107 : decode cX4_become 107 = .ok (.iload_n 2, 1) := by decide +kernel
theorem dX4_become_108 : decode cX4_become 108 = .ok (.iaload, 1) := by decide +kernel
theorem dX4_become_109 : decode cX4_become 109 = .ok (.iastore, 1) := by decide +kernel
theorem dX4_become_110 : decode cX4_become 110 = .ok (.aload_n 0, 1) := by decide +kernel
theorem dX4_become_111 : decode cX4_become 111 = .ok (.getfield 27, 3) := by decide +kernel
theorem dX4_become_114 : decode cX4_become 114 = .ok (.iload_n 2, 1) := by decide +kernel
theorem dX4_become_115 : decode cX4_become 115 = .ok (.aload_n 1, 1) := by decide +kernel
theorem dX4_become_116 : decode cX4_become 116 = .ok (.getfield 27, 3) := by decide +kernel
theorem dX4_become_119 : decode cX4_become 119 = .ok (.iload_n 2, 1) := by decide +kernel
theorem dX4_become_120 : decode cX4_become 120 = .ok (.iaload, 1) := by decide +kernel
theorem dX4_become_121 : decode cX4_become 121 = .ok (.iastore, 1) := by decide +kernel
theorem dX4_become_122 : decode cX4_become 122 = .ok (.iinc 2 1, 3) := by decide +kernel
theorem dX4_become_125 : decode cX4_become 125 = .ok (.goto (-83), 3) := by decide +kernel
theorem dX4_become_128 : decode cX4_become 128 = .ok (.aload_n 0, 1) := by decide +kernel
theorem dX4_become_129 : decode cX4_become 129 = .ok (.aload_n 1, 1) := by decide +kernel
theorem dX4_become_130 : decode cX4_become 130 = .ok (.getfield 58, 3) := by decide +kernel
theorem dX4_become_133 : decode cX4_become 133 = .ok (.putfield 58, 3) := by decide +kernel
theorem dX4_become_136 : decode cX4_become 136 = .ok (.iconst 0, 1) := by decide +kernel
theorem dX4_become_137 : decode cX4_become 137 = .ok (.istore_n 2, 1) := by decide +kernel
theorem dX4_become_138 : decode cX4_become 138 = .ok (.iload_n 2, 1) := by decide +kernel
theorem dX4_become_139 : decode cX4_become 139 = .ok (.aload_n 0, 1) := by decide +kernel
theorem dX4_become_140 : decode cX4_become 140 = .ok (.getfield 58, 3) := by decide +kernel
theorem dX4_become_143 : decode cX4_become 143 = .ok (.if_icmp .ge 45, 3) := by decide +kernel
theorem dX4_become_146 : decode cX4_become 146 = .ok (.aload_n 0, 1) := by decide +kernel
theorem dX4_become_147 : decode cX4_become 147 = .ok (.getfield 30, 3) := by decide +kernel
theorem dX4_become_150 : decode cX4_become 150 = .ok (.iload_n 2, 1) := by decide +kernel
theorem dX4_become_151 : decode cX4_become 151 = .ok (.aload_n 1, 1) := by decide +kernel
theorem dX4_become_152 : decode cX4_become 152 = .ok (.getfield 30, 3) := by decide +kernel
theorem dX4_become_155 : decode cX4_become 155 = .ok (.iload_n 2, 1) := by decide +kernel
theorem dX4_become_156 : decode cX4_become 156 = .ok (.iaload, 1) := by decide +kernel
theorem dX4_become_157 : decode cX4_become 157 = .ok (.iastore, 1) := by decide +kernel
theorem dX4_become_158 : decode cX4_become 158 = .ok (.aload_n 0, 1) := by decide +kernel
theorem dX4_become_159 : decode cX4_become 159 = .ok (.getfield 33, 3) := by decide +kernel
theorem dX4_become_162 : decode cX4_become 162 = .ok (.iload_n 2, 1) := by decide +kernel
theorem dX4_become_163 : decode cX4_become 163 = .ok (.aload_n 1, 1) := by decide +kernel
theorem dX4_become_164 : decode cX4_become 164 = .ok (.getfield 33, 3) := by decide +kernel
theorem dX4_become_167 : decode cX4_become 167 = .ok (.iload_n 2, 1) := by decide +kernel
theorem dX4_become_168 : decode cX4_become 168 = .ok (.iaload, 1) := by decide +kernel
theorem dX4_become_169 : decode cX4_become 169 = .ok (.iastore, 1) := by decide +kernel
theorem dX4_become_170 : decode cX4_become 170 = .ok (.aload_n 0, 1) := by decide +kernel
theorem dX4_become_171 : decode cX4_become 171 = .ok (.getfield 36, 3) := by decide +kernel
theorem dX4_become_174 : decode cX4_become 174 = .ok (.iload_n 2, 1) := by decide +kernel
theorem dX4_become_175 : decode cX4_become 175 = .ok (.aload_n 1, 1) := by decide +kernel
theorem dX4_become_176 : decode cX4_become 176 = .ok (.getfield 36, 3) := by decide +kernel
theorem dX4_become_179 : decode cX4_become 179 = .ok (.iload_n 2, 1) := by decide +kernel
theorem dX4_become_180 : decode cX4_become 180 = .ok (.iaload, 1) := by decide +kernel
theorem dX4_become_181 : decode cX4_become 181 = .ok (.iastore, 1) := by decide +kernel
theorem dX4_become_182 : decode cX4_become 182 = .ok (.iinc 2 1, 3) := by decide +kernel
theorem dX4_become_185 : decode cX4_become 185 = .ok (.goto (-47), 3) := by decide +kernel
theorem dX4_become_188 : decode cX4_become 188 = .ok (.aload_n 0, 1) := by decide +kernel
theorem dX4_become_189 : decode cX4_become 189 = .ok (.aload_n 1, 1) := by decide +kernel
theorem dX4_become_190 : decode cX4_become 190 = .ok (.getfield 61, 3) := by decide +kernel
theorem dX4_become_193 : decode cX4_become 193 = .ok (.putfield 61, 3) := by decide +kernel
theorem dX4_become_196 : decode cX4_become 196 = .ok (.aload_n 0, 1) := by decide +kernel
theorem dX4_become_197 : decode cX4_become 197 = .ok (.aload_n 1, 1) := by decide +kernel
theorem dX4_become_198 : decode cX4_become 198 = .ok (.getfield 64, 3) := by decide +kernel
theorem dX4_become_201 : decode cX4_become 201 = .ok (.putfield 64, 3) := by decide +kernel
theorem dX4_become_204 : decode cX4_become 204 = .ok (.aload_n 0, 1) := by decide +kernel
theorem dX4_become_205 : decode cX4_become 205 = .ok (.aload_n 1, 1) := by decide +kernel
theorem dX4_become_206 : decode cX4_become 206 = .ok (.getfield 67, 3) := by decide +kernel
theorem dX4_become_209 : decode cX4_become 209 = .ok (.putfield 67, 3) := by decide +kernel
theorem dX4_become_212 : decode cX4_become 212 = .ok (.return_, 1) := by decide +kernel
theorem dX4_begin_0 : decode cX4_begin 0 = .ok (.aload_n 0, 1) := by decide +kernel
theorem dX4_begin_1 : decode cX4_begin 1 = .ok (.iload_n 1, 1) := by decide +kernel
theorem dX4_begin_2 : decode cX4_begin 2 = .ok (.putfield 42, 3) := by decide +kernel
theorem dX4_begin_5 : decode cX4_begin 5 = .ok (.aload_n 0, 1) := by decide +kernel
theorem dX4_begin_6 : decode cX4_begin 6 = .ok (.iload_n 2, 1) := by decide +kernel
theorem dX4_begin_7 : decode cX4_begin 7 = .ok (.putfield 46, 3) := by decide +kernel
theorem dX4_begin_10 : decode cX4_begin 10 = .ok (.aload_n 0, 1) := by decide +kernel
theorem dX4_begin_11 : decode cX4_begin 11 = .ok (.iconst 0, 1) := by decide +kernel
theorem dX4_begin_12 : decode cX4_begin 12 = .ok (.putfield 49, 3) := by decide +kernel
theorem dX4_begin_15 : decode cX4_begin 15 = .ok (.aload_n 0, 1) := by decide +kernel
theorem dX4_begin_16 : decode cX4_begin 16 = .ok (.iconst 0, 1) := by decide +kernel
theorem dX4_begin_17 : decode cX4_begin 17 = .ok (.putfield 52, 3) := by decide +kernel
theorem dX4_begin_20 : decode cX4_begin 20 = .ok (.aload_n 0, 1) := by decide +kernel
theorem dX4_begin_21 : decode cX4_begin 21 = .ok (.iconst 0, 1) := by decide +kernel
theorem dX4_begin_22 : decode cX4_begin 22 = .ok (.putfield 55, 3) := by decide +kernel
theorem dX4_begin_25 : decode cX4_begin 25 = .ok (.aload_n 0, 1) := by decide +kernel
theorem dX4_begin_26 : decode cX4_begin 26 = .ok (.iconst 0, 1) := by decide +kernel
theorem dX4_begin_27 : decode cX4_begin 27 = .ok (.putfield 58, 3) := by decide +kernel
theorem dX4_begin_30 : decode cX4_begin 30 = .ok (.aload_n 0, 1) := by decide +kernel
theorem dX4_begin_31 : decode cX4_begin 31 = .ok (.iconst 0, 1) := by decide +kernel
theorem dX4_begin_32 : decode cX4_begin 32 = .ok (.putfield 61, 3) := by decide +kernel
theorem dX4_begin_35 : decode cX4_begin 35 = .ok (.aload_n 0, 1) := by decide +kernel
theorem dX4_begin_36 : decode cX4_begin 36 = .ok (.iconst 0, 1) := by decide +kernel
theorem dX4_begin_37 : decode cX4_begin 37 = .ok (.putfield 64, 3) := by decide +kernel
theorem dX4_begin_40 : decode cX4_begin 40 = .ok (.aload_n 0, 1) := by decide +kernel
theorem dX4_begin_41 : decode cX4_begin 41 = .ok (.iconst 0, 1) := by decide +kernel
theorem dX4_begin_42 : decode cX4_begin 42 = .ok (.putfield 67, 3) := by decide +kernel
theorem dX4_begin_45 : decode cX4_begin 45 = .ok (.return_, 1) := by decide +kernel
theorem dX4_settle_0 : decode cX4_settle 0 = .ok (.aload_n 0, 1) := by decide +kernel
theorem dX4_settle_1 : decode cX4_settle 1 = .ok (.getfield 55, 3) := by decide +kernel
theorem dX4_settle_4 : decode cX4_settle 4 = .ok (.iconst 5, 1) := by decide +kernel
theorem dX4_settle_5 : decode cX4_settle 5 = .ok (.if_icmp .lt 4, 3) := by decide +kernel
theorem dX4_settle_8 : decode cX4_settle 8 = .ok (.return_, 1) := by decide +kernel
theorem dX4_settle_9 : decode cX4_settle 9 = .ok (.aload_n 0, 1) := by decide +kernel
theorem dX4_settle_10 : decode cX4_settle 10 = .ok (.getfield 9, 3) := by decide +kernel
theorem dX4_settle_13 : decode cX4_settle 13 = .ok (.aload_n 0, 1) := by decide +kernel
theorem dX4_settle_14 : decode cX4_settle 14 = .ok (.getfield 55, 3) := by decide +kernel
theorem dX4_settle_17 : decode cX4_settle 17 = .ok (.iload_n 1, 1) := by decide +kernel
theorem dX4_settle_18 : decode cX4_settle 18 = .ok (.iastore, 1) := by decide +kernel
theorem dX4_settle_19 : decode cX4_settle 19 = .ok (.aload_n 0, 1) := by decide +kernel
theorem dX4_settle_20 : decode cX4_settle 20 = .ok (.getfield 15, 3) := by decide +kernel
theorem dX4_settle_23 : decode cX4_settle 23 = .ok (.aload_n 0, 1) := by decide +kernel
theorem dX4_settle_24 : decode cX4_settle 24 = .ok (.getfield 55, 3) := by decide +kernel
theorem dX4_settle_27 : decode cX4_settle 27 = .ok (.iload_n 2, 1) := by decide +kernel
theorem dX4_settle_28 : decode cX4_settle 28 = .ok (.iastore, 1) := by decide +kernel
theorem dX4_settle_29 : decode cX4_settle 29 = .ok (.aload_n 0, 1) := by decide +kernel
theorem dX4_settle_30 : decode cX4_settle 30 = .ok (.getfield 18, 3) := by decide +kernel
theorem dX4_settle_33 : decode cX4_settle 33 = .ok (.aload_n 0, 1) := by decide +kernel
theorem dX4_settle_34 : decode cX4_settle 34 = .ok (.getfield 55, 3) := by decide +kernel
theorem dX4_settle_37 : decode cX4_settle 37 = .ok (.iload_n 1, 1) := by decide +kernel
theorem dX4_settle_38 : decode cX4_settle 38 = .ok (.iastore, 1) := by decide +kernel
theorem dX4_settle_39 : decode cX4_settle 39 = .ok (.aload_n 0, 1) := by decide +kernel
theorem dX4_settle_40 : decode cX4_settle 40 = .ok (.getfield 21, 3) := by decide +kernel
theorem dX4_settle_43 : decode cX4_settle 43 = .ok (.aload_n 0, 1) := by decide +kernel
theorem dX4_settle_44 : decode cX4_settle 44 = .ok (.getfield 55, 3) := by decide +kernel
theorem dX4_settle_47 : decode cX4_settle 47 = .ok (.iconst 0, 1) := by decide +kernel
theorem dX4_settle_48 : decode cX4_settle 48 = .ok (.iastore, 1) := by decide +kernel
theorem dX4_settle_49 : decode cX4_settle 49 = .ok (.aload_n 0, 1) := by decide +kernel
theorem dX4_settle_50 : decode cX4_settle 50 = .ok (.getfield 24, 3) := by decide +kernel
theorem dX4_settle_53 : decode cX4_settle 53 = .ok (.aload_n 0, 1) := by decide +kernel
theorem dX4_settle_54 : decode cX4_settle 54 = .ok (.getfield 55, 3) := by decide +kernel
theorem dX4_settle_57 : decode cX4_settle 57 = .ok (.iload_n 3, 1) := by decide +kernel
theorem dX4_settle_58 : decode cX4_settle 58 = .ok (.iastore, 1) := by decide +kernel
theorem dX4_settle_59 : decode cX4_settle 59 = .ok (.aload_n 0, 1) := by decide +kernel
theorem dX4_settle_60 : decode cX4_settle 60 = .ok (.getfield 27, 3) := by decide +kernel
theorem dX4_settle_63 : decode cX4_settle 63 = .ok (.aload_n 0, 1) := by decide +kernel
theorem dX4_settle_64 : decode cX4_settle 64 = .ok (.getfield 55, 3) := by decide +kernel
theorem dX4_settle_67 : decode cX4_settle 67 = .ok (.iconst 0, 1) := by decide +kernel
theorem dX4_settle_68 : decode cX4_settle 68 = .ok (.iastore, 1) := by decide +kernel
theorem dX4_settle_69 : decode cX4_settle 69 = .ok (.aload_n 0, 1) := by decide +kernel
theorem dX4_settle_70 : decode cX4_settle 70 = .ok (.dup, 1) := by decide +kernel
theorem dX4_settle_71 : decode cX4_settle 71 = .ok (.getfield 55, 3) := by decide +kernel
theorem dX4_settle_74 : decode cX4_settle 74 = .ok (.iconst 1, 1) := by decide +kernel
theorem dX4_settle_75 : decode cX4_settle 75 = .ok (.iadd, 1) := by decide +kernel
theorem dX4_settle_76 : decode cX4_settle 76 = .ok (.putfield 55, 3) := by decide +kernel
theorem dX4_settle_79 : decode cX4_settle 79 = .ok (.return_, 1) := by decide +kernel
set_option maxRecDepth 20000 in
theorem ggX4_kennel_X5_setOfAll : GoodIn wsX4_kennel wsX5_setOfAll := goodIn_ids iaX4_kennel iaX5_setOfAll haX4_kennel haX5_setOfAll imX4_kennel hmX4_kennel (by decide +kernel) (by decide +kernel)
set_option maxRecDepth 20000 in
theorem gX4_kennel_X5_setOfAll_n70 : GoodIn wsX4_kennel (wsX5_setOfAll) := ggX4_kennel_X5_setOfAll
theorem dX4_kennel_0 : decode cX4_kennel 0 = .ok (.aload_n 0, 1) := by decide +kernel
theorem dX4_kennel_1 : decode cX4_kennel 1 = .ok (.getfield 58, 3) := by decide +kernel
theorem dX4_kennel_4 : decode cX4_kennel 4 = .ok (.bipush 6, 2) := by decide +kernel
theorem dX4_kennel_6 : decode cX4_kennel 6 = .ok (.if_icmp .lt 4, 3) := by decide +kernel
theorem dX4_kennel_9 : decode cX4_kennel 9 = .ok (.return_, 1) := by decide +kernel
theorem dX4_kennel_10 : decode cX4_kennel 10 = .ok (.aload_n 0, 1) := by decide +kernel
theorem dX4_kennel_11 : decode cX4_kennel 11 = .ok (.getfield 30, 3) := by decide +kernel
theorem dX4_kennel_14 : decode cX4_kennel 14 = .ok (.aload_n 0, 1) := by decide +kernel
theorem dX4_kennel_15 : decode cX4_kennel 15 = .ok (.getfield 58, 3) := by decide +kernel
theorem dX4_kennel_18 : decode cX4_kennel 18 = .ok (.iload_n 1, 1) := by decide +kernel
theorem dX4_kennel_19 : decode cX4_kennel 19 = .ok (.iastore, 1) := by decide +kernel
theorem dX4_kennel_20 : decode cX4_kennel 20 = .ok (.aload_n 0, 1) := by decide +kernel
theorem dX4_kennel_21 : decode cX4_kennel 21 = .ok (.getfield 33, 3) := by decide +kernel
theorem dX4_kennel_24 : decode cX4_kennel 24 = .ok (.aload_n 0, 1) := by decide +kernel
theorem dX4_kennel_25 : decode cX4_kennel 25 = .ok (.getfield 58, 3) := by decide +kernel
theorem dX4_kennel_28 : decode cX4_kennel 28 = .ok (.iload_n 2, 1) := by decide +kernel
theorem dX4_kennel_29 : decode cX4_kennel 29 = .ok (.iastore, 1) := by decide +kernel
theorem dX4_kennel_30 : decode cX4_kennel 30 = .ok (.aload_n 0, 1) := by decide +kernel
theorem dX4_kennel_31 : decode cX4_kennel 31 = .ok (.getfield 36, 3) := by decide +kernel
theorem dX4_kennel_34 : decode cX4_kennel 34 = .ok (.aload_n 0, 1) := by decide +kernel
theorem dX4_kennel_35 : decode cX4_kennel 35 = .ok (.getfield 58, 3) := by decide +kernel
theorem dX4_kennel_38 : decode cX4_kennel 38 = .ok (.iload_n 2, 1) := by decide +kernel
theorem dX4_kennel_39 : decode cX4_kennel 39 = .ok (.iastore, 1) := by decide +kernel
theorem dX4_kennel_40 : decode cX4_kennel 40 = .ok (.aload_n 0, 1) := by decide +kernel
theorem dX4_kennel_41 : decode cX4_kennel 41 = .ok (.dup, 1) := by decide +kernel
theorem dX4_kennel_42 : decode cX4_kennel 42 = .ok (.getfield 58, 3) := by decide +kernel
theorem dX4_kennel_45 : decode cX4_kennel 45 = .ok (.iconst 1, 1) := by decide +kernel
theorem dX4_kennel_46 : decode cX4_kennel 46 = .ok (.iadd, 1) := by decide +kernel
theorem dX4_kennel_47 : decode cX4_kennel 47 = .ok (.putfield 58, 3) := by decide +kernel
theorem dX4_kennel_50 : decode cX4_kennel 50 = .ok (.aload_n 0, 1) := by decide +kernel
theorem dX4_kennel_51 : decode cX4_kennel 51 = .ok (.aload_n 0, 1) := by decide +kernel
theorem dX4_kennel_52 : decode cX4_kennel 52 = .ok (.getfield 58, 3) := by decide +kernel
theorem dX4_kennel_55 : decode cX4_kennel 55 = .ok (.invokestatic 70, 3) := by decide +kernel
theorem dX4_kennel_58 : decode cX4_kennel 58 = .ok (.putfield 61, 3) := by decide +kernel
theorem dX4_kennel_61 : decode cX4_kennel 61 = .ok (.return_, 1) := by decide +kernel
theorem dX4_take_0 : decode cX4_take 0 = .ok (.iload_n 1, 1) := by decide +kernel
theorem dX4_take_1 : decode cX4_take 1 = .ok (.tableswitch 85 0 4 #[35, 45, 55, 65, 75], 35) := by decide +kernel
theorem dX4_take_36 : decode cX4_take 36 = .ok (.aload_n 0, 1) := by decide +kernel
theorem dX4_take_37 : decode cX4_take 37 = .ok (.getfield 30, 3) := by decide +kernel
theorem dX4_take_40 : decode cX4_take 40 = .ok (.iload_n 2, 1) := by decide +kernel
theorem dX4_take_41 : decode cX4_take 41 = .ok (.iload_n 3, 1) := by decide +kernel
theorem dX4_take_42 : decode cX4_take 42 = .ok (.iastore, 1) := by decide +kernel
theorem dX4_take_43 : decode cX4_take 43 = .ok (.goto 43, 3) := by decide +kernel
theorem dX4_take_46 : decode cX4_take 46 = .ok (.aload_n 0, 1) := by decide +kernel
theorem dX4_take_47 : decode cX4_take 47 = .ok (.getfield 36, 3) := by decide +kernel
theorem dX4_take_50 : decode cX4_take 50 = .ok (.iload_n 2, 1) := by decide +kernel
theorem dX4_take_51 : decode cX4_take 51 = .ok (.iload_n 3, 1) := by decide +kernel
theorem dX4_take_52 : decode cX4_take 52 = .ok (.iastore, 1) := by decide +kernel
theorem dX4_take_53 : decode cX4_take 53 = .ok (.goto 33, 3) := by decide +kernel
theorem dX4_take_56 : decode cX4_take 56 = .ok (.aload_n 0, 1) := by decide +kernel
theorem dX4_take_57 : decode cX4_take 57 = .ok (.getfield 15, 3) := by decide +kernel
theorem dX4_take_60 : decode cX4_take 60 = .ok (.iload_n 2, 1) := by decide +kernel
theorem dX4_take_61 : decode cX4_take 61 = .ok (.iload_n 3, 1) := by decide +kernel
theorem dX4_take_62 : decode cX4_take 62 = .ok (.iastore, 1) := by decide +kernel
theorem dX4_take_63 : decode cX4_take 63 = .ok (.goto 23, 3) := by decide +kernel
theorem dX4_take_66 : decode cX4_take 66 = .ok (.aload_n 0, 1) := by decide +kernel
theorem dX4_take_67 : decode cX4_take 67 = .ok (.getfield 24, 3) := by decide +kernel
theorem dX4_take_70 : decode cX4_take 70 = .ok (.iload_n 2, 1) := by decide +kernel
theorem dX4_take_71 : decode cX4_take 71 = .ok (.iload_n 3, 1) := by decide +kernel
theorem dX4_take_72 : decode cX4_take 72 = .ok (.iastore, 1) := by decide +kernel
theorem dX4_take_73 : decode cX4_take 73 = .ok (.goto 13, 3) := by decide +kernel
theorem dX4_take_76 : decode cX4_take 76 = .ok (.aload_n 0, 1) := by decide +kernel
theorem dX4_take_77 : decode cX4_take 77 = .ok (.getfield 21, 3) := by decide +kernel
theorem dX4_take_80 : decode cX4_take 80 = .ok (.iload_n 2, 1) := by decide +kernel
theorem dX4_take_81 : decode cX4_take 81 = .ok (.iload_n 3, 1) := by decide +kernel
theorem dX4_take_82 : decode cX4_take 82 = .ok (.iastore, 1) := by decide +kernel
theorem dX4_take_83 : decode cX4_take 83 = .ok (.goto 3, 3) := by decide +kernel
theorem dX4_take_86 : decode cX4_take 86 = .ok (.return_, 1) := by decide +kernel
theorem dX4_allReigns_0 : decode cX4_allReigns 0 = .ok (.iconst 0, 1) := by decide +kernel
theorem dX4_allReigns_1 : decode cX4_allReigns 1 = .ok (.istore_n 1, 1) := by decide +kernel
theorem dX4_allReigns_2 : decode cX4_allReigns 2 = .ok (.iconst 0, 1) := by decide +kernel
theorem dX4_allReigns_3 : decode cX4_allReigns 3 = .ok (.istore_n 2, 1) := by decide +kernel
theorem dX4_allReigns_4 : decode cX4_allReigns 4 = .ok (.iload_n 2, 1) := by decide +kernel
theorem dX4_allReigns_5 : decode cX4_allReigns 5 = .ok (.aload_n 0, 1) := by decide +kernel
theorem dX4_allReigns_6 : decode cX4_allReigns 6 = .ok (.getfield 55, 3) := by decide +kernel
theorem dX4_allReigns_9 : decode cX4_allReigns 9 = .ok (.if_icmp .ge 18, 3) := by decide +kernel
theorem dX4_allReigns_12 : decode cX4_allReigns 12 = .ok (.iload_n 1, 1) := by decide +kernel
theorem dX4_allReigns_13 : decode cX4_allReigns 13 = .ok (.aload_n 0, 1) := by decide +kernel
theorem dX4_allReigns_14 : decode cX4_allReigns 14 = .ok (.getfield 27, 3) := by decide +kernel
theorem dX4_allReigns_17 : decode cX4_allReigns 17 = .ok (.iload_n 2, 1) := by decide +kernel
theorem dX4_allReigns_18 : decode cX4_allReigns 18 = .ok (.iaload, 1) := by decide +kernel
theorem dX4_allReigns_19 : decode cX4_allReigns 19 = .ok (.iadd, 1) := by decide +kernel
theorem dX4_allReigns_20 : decode cX4_allReigns 20 = .ok (.istore_n 1, 1) := by decide +kernel
theorem dX4_allReigns_21 : decode cX4_allReigns 21 = .ok (.iinc 2 1, 3) := by decide +kernel
theorem dX4_allReigns_24 : decode cX4_allReigns 24 = .ok (.goto (-20), 3) := by decide +kernel
theorem dX4_allReigns_27 : decode cX4_allReigns 27 = .ok (.iload_n 1, 1) := by decide +kernel
theorem dX4_allReigns_28 : decode cX4_allReigns 28 = .ok (.ireturn, 1) := by decide +kernel
set_option maxRecDepth 20000 in
theorem ggX4_dogsIn_X5_holds : GoodIn wsX4_dogsIn wsX5_holds := goodIn_ids iaX4_dogsIn iaX5_holds haX4_dogsIn haX5_holds imX4_dogsIn hmX4_dogsIn (by decide +kernel) (by decide +kernel)
set_option maxRecDepth 20000 in
theorem gX4_dogsIn_X5_holds_n74 : GoodIn wsX4_dogsIn (wsX5_holds) := ggX4_dogsIn_X5_holds
theorem dX4_dogsIn_0 : decode cX4_dogsIn 0 = .ok (.iconst 0, 1) := by decide +kernel
theorem dX4_dogsIn_1 : decode cX4_dogsIn 1 = .ok (.istore_n 2, 1) := by decide +kernel
theorem dX4_dogsIn_2 : decode cX4_dogsIn 2 = .ok (.iconst 0, 1) := by decide +kernel
theorem dX4_dogsIn_3 : decode cX4_dogsIn 3 = .ok (.istore_n 3, 1) := by decide +kernel
theorem dX4_dogsIn_4 : decode cX4_dogsIn 4 = .ok (.iload_n 3, 1) := by decide +kernel
theorem dX4_dogsIn_5 : decode cX4_dogsIn 5 = .ok (.aload_n 0, 1) := by decide +kernel
theorem dX4_dogsIn_6 : decode cX4_dogsIn 6 = .ok (.getfield 58, 3) := by decide +kernel
theorem dX4_dogsIn_9 : decode cX4_dogsIn 9 = .ok (.if_icmp .ge 36, 3) := by decide +kernel
theorem dX4_dogsIn_12 : decode cX4_dogsIn 12 = .ok (.aload_n 0, 1) := by decide +kernel
theorem dX4_dogsIn_13 : decode cX4_dogsIn 13 = .ok (.getfield 61, 3) := by decide +kernel
theorem dX4_dogsIn_16 : decode cX4_dogsIn 16 = .ok (.iload_n 3, 1) := by decide +kernel
theorem dX4_dogsIn_17 : decode cX4_dogsIn 17 = .ok (.invokestatic 74, 3) := by decide +kernel
theorem dX4_dogsIn_20 : decode cX4_dogsIn 20 = .ok (.ifCond .eq 19, 3) := by decide +kernel
theorem dX4_dogsIn_23 : decode cX4_dogsIn 23 = .ok (.aload_n 0, 1) := by decide +kernel
theorem dX4_dogsIn_24 : decode cX4_dogsIn 24 = .ok (.getfield 36, 3) := by decide +kernel
theorem dX4_dogsIn_27 : decode cX4_dogsIn 27 = .ok (.iload_n 3, 1) := by decide +kernel
theorem dX4_dogsIn_28 : decode cX4_dogsIn 28 = .ok (.iaload, 1) := by decide +kernel
theorem dX4_dogsIn_29 : decode cX4_dogsIn 29 = .ok (.iload_n 1, 1) := by decide +kernel
theorem dX4_dogsIn_30 : decode cX4_dogsIn 30 = .ok (.if_icmp .ne 9, 3) := by decide +kernel
theorem dX4_dogsIn_33 : decode cX4_dogsIn 33 = .ok (.iload_n 2, 1) := by decide +kernel
theorem dX4_dogsIn_34 : decode cX4_dogsIn 34 = .ok (.iconst 1, 1) := by decide +kernel
theorem dX4_dogsIn_35 : decode cX4_dogsIn 35 = .ok (.iload_n 3, 1) := by decide +kernel
theorem dX4_dogsIn_36 : decode cX4_dogsIn 36 = .ok (.ishl, 1) := by decide +kernel
theorem dX4_dogsIn_37 : decode cX4_dogsIn 37 = .ok (.ior, 1) := by decide +kernel
theorem dX4_dogsIn_38 : decode cX4_dogsIn 38 = .ok (.istore_n 2, 1) := by decide +kernel
theorem dX4_dogsIn_39 : decode cX4_dogsIn 39 = .ok (.iinc 3 1, 3) := by decide +kernel
theorem dX4_dogsIn_42 : decode cX4_dogsIn 42 = .ok (.goto (-38), 3) := by decide +kernel
theorem dX4_dogsIn_45 : decode cX4_dogsIn 45 = .ok (.iload_n 2, 1) := by decide +kernel
theorem dX4_dogsIn_46 : decode cX4_dogsIn 46 = .ok (.ireturn, 1) := by decide +kernel
set_option maxRecDepth 20000 in
theorem ggX4_pass_X4_stir : GoodIn wsX4_pass wsX4_stir := goodIn_ids iaX4_pass iaX4_stir haX4_pass haX4_stir imX4_pass hmX4_pass (by decide +kernel) (by decide +kernel)
set_option maxRecDepth 20000 in
theorem gX4_pass_X4_stir : GoodIn wsX4_pass (wsV RX4 78 RX4 yX4_stir wsX4_stir) := goodIn_app (goodIn_ids iaX4_pass [464, 465, 466, 73] haX4_pass rfl imX4_pass hmX4_pass (by decide +kernel) (by decide +kernel)) ggX4_pass_X4_stir
set_option maxRecDepth 20000 in
theorem ggX4_pass_X4_atBell : GoodIn wsX4_pass wsX4_atBell := goodIn_ids iaX4_pass iaX4_atBell haX4_pass haX4_atBell imX4_pass hmX4_pass (by decide +kernel) (by decide +kernel)
set_option maxRecDepth 20000 in
theorem gX4_pass_X4_atBell : GoodIn wsX4_pass (wsV RX4 81 RX4 yX4_atBell wsX4_atBell) := goodIn_app (goodIn_ids iaX4_pass [507, 508, 509, 73] haX4_pass rfl imX4_pass hmX4_pass (by decide +kernel) (by decide +kernel)) ggX4_pass_X4_atBell
set_option maxRecDepth 20000 in
theorem ggX4_pass_X4_ring : GoodIn wsX4_pass wsX4_ring := goodIn_ids iaX4_pass iaX4_ring haX4_pass haX4_ring imX4_pass hmX4_pass (by decide +kernel) (by decide +kernel)
set_option maxRecDepth 20000 in
theorem gX4_pass_X4_ring : GoodIn wsX4_pass (wsV RX4 85 RX4 yX4_ring wsX4_ring) := goodIn_app (goodIn_ids iaX4_pass [511, 512, 513, 73] haX4_pass rfl imX4_pass hmX4_pass (by decide +kernel) (by decide +kernel)) ggX4_pass_X4_ring
theorem dX4_pass_0 : decode cX4_pass 0 = .ok (.aload_n 0, 1) := by decide +kernel
theorem dX4_pass_1 : decode cX4_pass 1 = .ok (.invokevirtual 78, 3) := by decide +kernel
theorem dX4_pass_4 : decode cX4_pass 4 = .ok (.aload_n 0, 1) := by decide +kernel
theorem dX4_pass_5 : decode cX4_pass 5 = .ok (.invokevirtual 81, 3) := by decide +kernel
theorem dX4_pass_8 : decode cX4_pass 8 = .ok (.ifCond .eq 10, 3) := by decide +kernel
theorem dX4_pass_11 : decode cX4_pass 11 = .ok (.aload_n 0, 1) := by decide +kernel
theorem dX4_pass_12 : decode cX4_pass 12 = .ok (.invokevirtual 85, 3) := by decide +kernel
theorem dX4_pass_15 : decode cX4_pass 15 = .ok (.goto 5, 3) := by decide +kernel
theorem dX4_pass_18 : decode cX4_pass 18 = .ok (.ldc 89, 2) := by decide +kernel
theorem dX4_pass_20 : decode cX4_pass 20 = .ok (.ireturn, 1) := by decide +kernel
set_option maxRecDepth 20000 in
theorem ggX4_stir_X4_stroll : GoodIn wsX4_stir wsX4_stroll := goodIn_ids iaX4_stir iaX4_stroll haX4_stir haX4_stroll imX4_stir hmX4_stir (by decide +kernel) (by decide +kernel)
set_option maxRecDepth 20000 in
theorem gX4_stir_X4_stroll : GoodIn wsX4_stir (wsV RX4 90 RX4 yX4_stroll wsX4_stroll) := goodIn_app (goodIn_ids iaX4_stir [468, 470, 12, 73] haX4_stir rfl imX4_stir hmX4_stir (by decide +kernel) (by decide +kernel)) ggX4_stir_X4_stroll
set_option maxRecDepth 20000 in
theorem ggX4_stir_X5_holds : GoodIn wsX4_stir wsX5_holds := goodIn_ids iaX4_stir iaX5_holds haX4_stir haX5_holds imX4_stir hmX4_stir (by decide +kernel) (by decide +kernel)
set_option maxRecDepth 20000 in
theorem gX4_stir_X5_holds_n74 : GoodIn wsX4_stir (wsX5_holds) := ggX4_stir_X5_holds
set_option maxRecDepth 20000 in
theorem ggX4_stir_X4_goal : GoodIn wsX4_stir wsX4_goal := goodIn_ids iaX4_stir iaX4_goal haX4_stir haX4_goal imX4_stir hmX4_stir (by decide +kernel) (by decide +kernel)
set_option maxRecDepth 20000 in
theorem gX4_stir_X4_goal : GoodIn wsX4_stir (wsV RX4 94 RX4 yX4_goal wsX4_goal) := goodIn_app (goodIn_ids iaX4_stir [475, 476, 477, 73] haX4_stir rfl imX4_stir hmX4_stir (by decide +kernel) (by decide +kernel)) ggX4_stir_X4_goal
set_option maxRecDepth 20000 in
theorem ggX4_stir_X4_trot : GoodIn wsX4_stir wsX4_trot := goodIn_ids iaX4_stir iaX4_trot haX4_stir haX4_trot imX4_stir hmX4_stir (by decide +kernel) (by decide +kernel)
set_option maxRecDepth 20000 in
theorem gX4_stir_X4_trot : GoodIn wsX4_stir (wsV RX4 97 RX4 yX4_trot wsX4_trot) := goodIn_app (goodIn_ids iaX4_stir [503, 505, 17, 73] haX4_stir rfl imX4_stir hmX4_stir (by decide +kernel) (by decide +kernel)) ggX4_stir_X4_trot
theorem dX4_stir_0 : decode cX4_stir 0 = .ok (.iconst 0, 1) := by decide +kernel
theorem dX4_stir_1 : decode cX4_stir 1 = .ok (.istore_n 1, 1) := by decide +kernel
theorem dX4_stir_2 : decode cX4_stir 2 = .ok (.iload_n 1, 1) := by decide +kernel
theorem dX4_stir_3 : decode cX4_stir 3 = .ok (.aload_n 0, 1) := by decide +kernel
theorem dX4_stir_4 : decode cX4_stir 4 = .ok (.getfield 55, 3) := by decide +kernel
theorem dX4_stir_7 : decode cX4_stir 7 = .ok (.if_icmp .ge 14, 3) := by decide +kernel
theorem dX4_stir_10 : decode cX4_stir 10 = .ok (.aload_n 0, 1) := by decide +kernel
theorem dX4_stir_11 : decode cX4_stir 11 = .ok (.iload_n 1, 1) := by decide +kernel
theorem dX4_stir_12 : decode cX4_stir 12 = .ok (.invokevirtual 90, 3) := by decide +kernel
theorem dX4_stir_15 : decode cX4_stir 15 = .ok (.iinc 1 1, 3) := by decide +kernel
theorem dX4_stir_18 : decode cX4_stir 18 = .ok (.goto (-16), 3) := by decide +kernel
theorem dX4_stir_21 : decode cX4_stir 21 = .ok (.iconst 0, 1) := by decide +kernel
theorem dX4_stir_22 : decode cX4_stir 22 = .ok (.istore_n 1, 1) := by decide +kernel
theorem dX4_stir_23 : decode cX4_stir 23 = .ok (.iload_n 1, 1) := by decide +kernel
theorem dX4_stir_24 : decode cX4_stir 24 = .ok (.aload_n 0, 1) := by decide +kernel
theorem dX4_stir_25 : decode cX4_stir 25 = .ok (.getfield 58, 3) := by decide +kernel
theorem dX4_stir_28 : decode cX4_stir 28 = .ok (.if_icmp .ge 41, 3) := by decide +kernel
theorem dX4_stir_31 : decode cX4_stir 31 = .ok (.aload_n 0, 1) := by decide +kernel
theorem dX4_stir_32 : decode cX4_stir 32 = .ok (.getfield 61, 3) := by decide +kernel
theorem dX4_stir_35 : decode cX4_stir 35 = .ok (.iload_n 1, 1) := by decide +kernel
theorem dX4_stir_36 : decode cX4_stir 36 = .ok (.invokestatic 74, 3) := by decide +kernel
theorem dX4_stir_39 : decode cX4_stir 39 = .ok (.ifCond .eq 24, 3) := by decide +kernel
theorem dX4_stir_42 : decode cX4_stir 42 = .ok (.aload_n 0, 1) := by decide +kernel
theorem dX4_stir_43 : decode cX4_stir 43 = .ok (.getfield 64, 3) := by decide +kernel
theorem dX4_stir_46 : decode cX4_stir 46 = .ok (.iload_n 1, 1) := by decide +kernel
theorem dX4_stir_47 : decode cX4_stir 47 = .ok (.invokestatic 74, 3) := by decide +kernel
theorem dX4_stir_50 : decode cX4_stir 50 = .ok (.ifCond .ne 13, 3) := by decide +kernel
theorem dX4_stir_53 : decode cX4_stir 53 = .ok (.aload_n 0, 1) := by decide +kernel
theorem dX4_stir_54 : decode cX4_stir 54 = .ok (.iload_n 1, 1) := by decide +kernel
theorem dX4_stir_55 : decode cX4_stir 55 = .ok (.aload_n 0, 1) := by decide +kernel
theorem dX4_stir_56 : decode cX4_stir 56 = .ok (.iload_n 1, 1) := by decide +kernel
theorem dX4_stir_57 : decode cX4_stir 57 = .ok (.invokevirtual 94, 3) := by decide +kernel
theorem dX4_stir_60 : decode cX4_stir 60 = .ok (.invokevirtual 97, 3) := by decide +kernel
theorem dX4_stir_63 : decode cX4_stir 63 = .ok (.iinc 1 1, 3) := by decide +kernel
theorem dX4_stir_66 : decode cX4_stir 66 = .ok (.goto (-43), 3) := by decide +kernel
theorem dX4_stir_69 : decode cX4_stir 69 = .ok (.aload_n 0, 1) := by decide +kernel
theorem dX4_stir_70 : decode cX4_stir 70 = .ok (.dup, 1) := by decide +kernel
theorem dX4_stir_71 : decode cX4_stir 71 = .ok (.getfield 52, 3) := by decide +kernel
theorem dX4_stir_74 : decode cX4_stir 74 = .ok (.iconst 1, 1) := by decide +kernel
theorem dX4_stir_75 : decode cX4_stir 75 = .ok (.iadd, 1) := by decide +kernel
theorem dX4_stir_76 : decode cX4_stir 76 = .ok (.putfield 52, 3) := by decide +kernel
theorem dX4_stir_79 : decode cX4_stir 79 = .ok (.return_, 1) := by decide +kernel
theorem dX4_atBell_0 : decode cX4_atBell 0 = .ok (.aload_n 0, 1) := by decide +kernel
theorem dX4_atBell_1 : decode cX4_atBell 1 = .ok (.getfield 52, 3) := by decide +kernel
theorem dX4_atBell_4 : decode cX4_atBell 4 = .ok (.aload_n 0, 1) := by decide +kernel
theorem dX4_atBell_5 : decode cX4_atBell 5 = .ok (.getfield 46, 3) := by decide +kernel
theorem dX4_atBell_8 : decode cX4_atBell 8 = .ok (.if_icmp .lt 7, 3) := by decide +kernel
theorem dX4_atBell_11 : decode cX4_atBell 11 = .ok (.iconst 1, 1) := by decide +kernel
theorem dX4_atBell_12 : decode cX4_atBell 12 = .ok (.goto 4, 3) := by decide +kernel
theorem dX4_atBell_15 : decode cX4_atBell 15 = .ok (.iconst 0, 1) := by decide +kernel
theorem dX4_atBell_16 : decode cX4_atBell 16 = .ok (.ireturn, 1) := by decide +kernel
set_option maxRecDepth 20000 in
theorem ggX4_runToBell_X4_stir : GoodIn wsX4_runToBell wsX4_stir := goodIn_ids iaX4_runToBell iaX4_stir haX4_runToBell haX4_stir imX4_runToBell hmX4_runToBell (by decide +kernel) (by decide +kernel)
set_option maxRecDepth 20000 in
theorem gX4_runToBell_X4_stir : GoodIn wsX4_runToBell (wsV RX4 78 RX4 yX4_stir wsX4_stir) := goodIn_app (goodIn_ids iaX4_runToBell [464, 465, 466, 73] haX4_runToBell rfl imX4_runToBell hmX4_runToBell (by decide +kernel) (by decide +kernel)) ggX4_runToBell_X4_stir
theorem dX4_runToBell_0 : decode cX4_runToBell 0 = .ok (.aload_n 0, 1) := by decide +kernel
theorem dX4_runToBell_1 : decode cX4_runToBell 1 = .ok (.getfield 46, 3) := by decide +kernel
theorem dX4_runToBell_4 : decode cX4_runToBell 4 = .ok (.aload_n 0, 1) := by decide +kernel
theorem dX4_runToBell_5 : decode cX4_runToBell 5 = .ok (.getfield 52, 3) := by decide +kernel
theorem dX4_runToBell_8 : decode cX4_runToBell 8 = .ok (.isub, 1) := by decide +kernel
theorem dX4_runToBell_9 : decode cX4_runToBell 9 = .ok (.istore_n 1, 1) := by decide +kernel
theorem dX4_runToBell_10 : decode cX4_runToBell 10 = .ok (.iload_n 1, 1) := by decide +kernel
theorem dX4_runToBell_11 : decode cX4_runToBell 11 = .ok (.ifCond .le 13, 3) := by decide +kernel
theorem dX4_runToBell_14 : decode cX4_runToBell 14 = .ok (.aload_n 0, 1) := by decide +kernel
theorem dX4_runToBell_15 : decode cX4_runToBell 15 = .ok (.invokevirtual 78, 3) := by decide +kernel
theorem dX4_runToBell_18 : decode cX4_runToBell 18 = .ok (.iinc 1 (-1), 3) := by decide +kernel
theorem dX4_runToBell_21 : decode cX4_runToBell 21 = .ok (.goto (-11), 3) := by decide +kernel
theorem dX4_runToBell_24 : decode cX4_runToBell 24 = .ok (.return_, 1) := by decide +kernel
set_option maxRecDepth 20000 in
theorem ggX4_kingAtBell_X4_dogsIn : GoodIn wsX4_kingAtBell wsX4_dogsIn := goodIn_ids iaX4_kingAtBell iaX4_dogsIn haX4_kingAtBell haX4_dogsIn imX4_kingAtBell hmX4_kingAtBell (by decide +kernel) (by decide +kernel)
set_option maxRecDepth 20000 in
theorem gX4_kingAtBell_X4_dogsIn : GoodIn wsX4_kingAtBell (wsV RX4 101 RX4 yX4_dogsIn wsX4_dogsIn) := goodIn_app (goodIn_ids iaX4_kingAtBell [519, 520, 521, 73] haX4_kingAtBell rfl imX4_kingAtBell hmX4_kingAtBell (by decide +kernel) (by decide +kernel)) ggX4_kingAtBell_X4_dogsIn
set_option maxRecDepth 20000 in
theorem ggX4_kingAtBell_J6_bitCount_0f7a4 : GoodIn wsX4_kingAtBell wsJ6_bitCount_0f7a4 := goodIn_ids iaX4_kingAtBell iaJ6_bitCount_0f7a4 haX4_kingAtBell haJ6_bitCount_0f7a4 imX4_kingAtBell hmX4_kingAtBell (by decide +kernel) (by decide +kernel)
set_option maxRecDepth 20000 in
theorem gX4_kingAtBell_J6_bitCount_0f7a4 : GoodIn wsX4_kingAtBell (va_wsS RX4 104 yJ6_bitCount_0f7a4 wsJ6_bitCount_0f7a4) := goodIn_app (goodIn_ids iaX4_kingAtBell [523, 524, 80] haX4_kingAtBell rfl imX4_kingAtBell hmX4_kingAtBell (by decide +kernel) (by decide +kernel)) ggX4_kingAtBell_J6_bitCount_0f7a4
theorem dX4_kingAtBell_0 : decode cX4_kingAtBell 0 = .ok (.ldc 89, 2) := by decide +kernel
theorem dX4_kingAtBell_2 : decode cX4_kingAtBell 2 = .ok (.istore_n 1, 1) := by decide +kernel
theorem dX4_kingAtBell_3 : decode cX4_kingAtBell 3 = .ok (.iconst 0, 1) := by decide +kernel
theorem dX4_kingAtBell_4 : decode cX4_kingAtBell 4 = .ok (.istore_n 2, 1) := by decide +kernel
theorem dX4_kingAtBell_5 : decode cX4_kingAtBell 5 = .ok (.iconst 0, 1) := by decide +kernel
theorem dX4_kingAtBell_6 : decode cX4_kingAtBell 6 = .ok (.istore_n 3, 1) := by decide +kernel
theorem dX4_kingAtBell_7 : decode cX4_kingAtBell 7 = .ok (.iload_n 3, 1) := by decide +kernel
theorem dX4_kingAtBell_8 : decode cX4_kingAtBell 8 = .ok (.aload_n 0, 1) := by decide +kernel
theorem dX4_kingAtBell_9 : decode cX4_kingAtBell 9 = .ok (.getfield 55, 3) := by decide +kernel
theorem dX4_kingAtBell_12 : decode cX4_kingAtBell 12 = .ok (.if_icmp .ge 35, 3) := by decide +kernel
theorem dX4_kingAtBell_15 : decode cX4_kingAtBell 15 = .ok (.aload_n 0, 1) := by decide +kernel
theorem dX4_kingAtBell_16 : decode cX4_kingAtBell 16 = .ok (.aload_n 0, 1) := by decide +kernel
theorem dX4_kingAtBell_17 : decode cX4_kingAtBell 17 = .ok (.getfield 18, 3) := by decide +kernel
theorem dX4_kingAtBell_20 : decode cX4_kingAtBell 20 = .ok (.iload_n 3, 1) := by decide +kernel
theorem dX4_kingAtBell_21 : decode cX4_kingAtBell 21 = .ok (.iaload, 1) := by decide +kernel
theorem dX4_kingAtBell_22 : decode cX4_kingAtBell 22 = .ok (.invokevirtual 101, 3) := by decide +kernel
theorem dX4_kingAtBell_25 : decode cX4_kingAtBell 25 = .ok (.invokestatic 104, 3) := by decide +kernel
theorem dX4_kingAtBell_28 : decode cX4_kingAtBell 28 = .ok (.istore 4, 2) := by decide +kernel
theorem dX4_kingAtBell_30 : decode cX4_kingAtBell 30 = .ok (.iload 4, 2) := by decide +kernel
theorem dX4_kingAtBell_32 : decode cX4_kingAtBell 32 = .ok (.iload_n 2, 1) := by decide +kernel
theorem dX4_kingAtBell_33 : decode cX4_kingAtBell 33 = .ok (.if_icmp .le 8, 3) := by decide +kernel
theorem dX4_kingAtBell_36 : decode cX4_kingAtBell 36 = .ok (.iload 4, 2) := by decide +kernel
theorem dX4_kingAtBell_38 : decode cX4_kingAtBell 38 = .ok (.istore_n 2, 1) := by decide +kernel
theorem dX4_kingAtBell_39 : decode cX4_kingAtBell 39 = .ok (.iload_n 3, 1) := by decide +kernel
theorem dX4_kingAtBell_40 : decode cX4_kingAtBell 40 = .ok (.istore_n 1, 1) := by decide +kernel
theorem dX4_kingAtBell_41 : decode cX4_kingAtBell 41 = .ok (.iinc 3 1, 3) := by decide +kernel
theorem dX4_kingAtBell_44 : decode cX4_kingAtBell 44 = .ok (.goto (-37), 3) := by decide +kernel
theorem dX4_kingAtBell_47 : decode cX4_kingAtBell 47 = .ok (.iload_n 1, 1) := by decide +kernel
theorem dX4_kingAtBell_48 : decode cX4_kingAtBell 48 = .ok (.ireturn, 1) := by decide +kernel
set_option maxRecDepth 20000 in
theorem ggX4_ring_X4_kingAtBell : GoodIn wsX4_ring wsX4_kingAtBell := goodIn_ids iaX4_ring iaX4_kingAtBell haX4_ring haX4_kingAtBell imX4_ring hmX4_ring (by decide +kernel) (by decide +kernel)
set_option maxRecDepth 20000 in
theorem gX4_ring_X4_kingAtBell : GoodIn wsX4_ring (wsV RX4 109 RX4 yX4_kingAtBell wsX4_kingAtBell) := goodIn_app (goodIn_ids iaX4_ring [515, 516, 517, 73] haX4_ring rfl imX4_ring hmX4_ring (by decide +kernel) (by decide +kernel)) ggX4_ring_X4_kingAtBell
theorem dX4_ring_0 : decode cX4_ring 0 = .ok (.aload_n 0, 1) := by decide +kernel
theorem dX4_ring_1 : decode cX4_ring 1 = .ok (.invokevirtual 109, 3) := by decide +kernel
theorem dX4_ring_4 : decode cX4_ring 4 = .ok (.istore_n 1, 1) := by decide +kernel
theorem dX4_ring_5 : decode cX4_ring 5 = .ok (.iload_n 1, 1) := by decide +kernel
theorem dX4_ring_6 : decode cX4_ring 6 = .ok (.ifCond .lt 33, 3) := by decide +kernel
theorem dX4_ring_9 : decode cX4_ring 9 = .ok (.iload_n 1, 1) := by decide +kernel
theorem dX4_ring_10 : decode cX4_ring 10 = .ok (.aload_n 0, 1) := by decide +kernel
theorem dX4_ring_11 : decode cX4_ring 11 = .ok (.getfield 55, 3) := by decide +kernel
theorem dX4_ring_14 : decode cX4_ring 14 = .ok (.if_icmp .ge 25, 3) := by decide +kernel
theorem dX4_ring_17 : decode cX4_ring 17 = .ok (.aload_n 0, 1) := by decide +kernel
theorem dX4_ring_18 : decode cX4_ring 18 = .ok (.getfield 27, 3) := by decide +kernel
theorem dX4_ring_21 : decode cX4_ring 21 = .ok (.iload_n 1, 1) := by decide +kernel
theorem dX4_ring_22 : decode cX4_ring 22 = .ok (.iaload, 1) := by decide +kernel
theorem dX4_ring_23 : decode cX4_ring 23 = .ok (.sipush 999, 3) := by decide +kernel
theorem dX4_ring_26 : decode cX4_ring 26 = .ok (.if_icmp .ge 13, 3) := by decide +kernel
theorem dX4_ring_29 : decode cX4_ring 29 = .ok (.aload_n 0, 1) := by decide +kernel
theorem dX4_ring_30 : decode cX4_ring 30 = .ok (.getfield 27, 3) := by decide +kernel
theorem dX4_ring_33 : decode cX4_ring 33 = .ok (.iload_n 1, 1) := by decide +kernel
theorem dX4_ring_34 : decode cX4_ring 34 = .ok (.dup2, 1) := by decide +kernel
theorem dX4_ring_35 : decode cX4_ring 35 = .ok (.iaload, 1) := by decide +kernel
theorem dX4_ring_36 : decode cX4_ring 36 = .ok (.iconst 1, 1) := by decide +kernel
theorem dX4_ring_37 : decode cX4_ring 37 = .ok (.iadd, 1) := by decide +kernel
theorem dX4_ring_38 : decode cX4_ring 38 = .ok (.iastore, 1) := by decide +kernel
theorem dX4_ring_39 : decode cX4_ring 39 = .ok (.iconst 0, 1) := by decide +kernel
theorem dX4_ring_40 : decode cX4_ring 40 = .ok (.istore_n 2, 1) := by decide +kernel
theorem dX4_ring_41 : decode cX4_ring 41 = .ok (.iload_n 2, 1) := by decide +kernel
theorem dX4_ring_42 : decode cX4_ring 42 = .ok (.aload_n 0, 1) := by decide +kernel
theorem dX4_ring_43 : decode cX4_ring 43 = .ok (.getfield 55, 3) := by decide +kernel
theorem dX4_ring_46 : decode cX4_ring 46 = .ok (.if_icmp .ge 21, 3) := by decide +kernel
theorem dX4_ring_49 : decode cX4_ring 49 = .ok (.aload_n 0, 1) := by decide +kernel
theorem dX4_ring_50 : decode cX4_ring 50 = .ok (.getfield 18, 3) := by decide +kernel
theorem dX4_ring_53 : decode cX4_ring 53 = .ok (.iload_n 2, 1) := by decide +kernel
theorem dX4_ring_54 : decode cX4_ring 54 = .ok (.aload_n 0, 1) := by decide +kernel
theorem dX4_ring_55 : decode cX4_ring 55 = .ok (.getfield 9, 3) := by decide +kernel
theorem dX4_ring_58 : decode cX4_ring 58 = .ok (.iload_n 2, 1) := by decide +kernel
theorem dX4_ring_59 : decode cX4_ring 59 = .ok (.iaload, 1) := by decide +kernel
theorem dX4_ring_60 : decode cX4_ring 60 = .ok (.iastore, 1) := by decide +kernel
theorem dX4_ring_61 : decode cX4_ring 61 = .ok (.iinc 2 1, 3) := by decide +kernel
theorem dX4_ring_64 : decode cX4_ring 64 = .ok (.goto (-23), 3) := by decide +kernel
theorem dX4_ring_67 : decode cX4_ring 67 = .ok (.iconst 0, 1) := by decide +kernel
theorem dX4_ring_68 : decode cX4_ring 68 = .ok (.istore_n 2, 1) := by decide +kernel
theorem dX4_ring_69 : decode cX4_ring 69 = .ok (.iload_n 2, 1) := by decide +kernel
theorem dX4_ring_70 : decode cX4_ring 70 = .ok (.aload_n 0, 1) := by decide +kernel
theorem dX4_ring_71 : decode cX4_ring 71 = .ok (.getfield 58, 3) := by decide +kernel
theorem dX4_ring_74 : decode cX4_ring 74 = .ok (.if_icmp .ge 21, 3) := by decide +kernel
theorem dX4_ring_77 : decode cX4_ring 77 = .ok (.aload_n 0, 1) := by decide +kernel
theorem dX4_ring_78 : decode cX4_ring 78 = .ok (.getfield 36, 3) := by decide +kernel
theorem dX4_ring_81 : decode cX4_ring 81 = .ok (.iload_n 2, 1) := by decide +kernel
theorem dX4_ring_82 : decode cX4_ring 82 = .ok (.aload_n 0, 1) := by decide +kernel
theorem dX4_ring_83 : decode cX4_ring 83 = .ok (.getfield 33, 3) := by decide +kernel
theorem dX4_ring_86 : decode cX4_ring 86 = .ok (.iload_n 2, 1) := by decide +kernel
theorem dX4_ring_87 : decode cX4_ring 87 = .ok (.iaload, 1) := by decide +kernel
theorem dX4_ring_88 : decode cX4_ring 88 = .ok (.iastore, 1) := by decide +kernel
theorem dX4_ring_89 : decode cX4_ring 89 = .ok (.iinc 2 1, 3) := by decide +kernel
theorem dX4_ring_92 : decode cX4_ring 92 = .ok (.goto (-23), 3) := by decide +kernel
theorem dX4_ring_95 : decode cX4_ring 95 = .ok (.aload_n 0, 1) := by decide +kernel
theorem dX4_ring_96 : decode cX4_ring 96 = .ok (.iconst 0, 1) := by decide +kernel
theorem dX4_ring_97 : decode cX4_ring 97 = .ok (.putfield 52, 3) := by decide +kernel
theorem dX4_ring_100 : decode cX4_ring 100 = .ok (.aload_n 0, 1) := by decide +kernel
theorem dX4_ring_101 : decode cX4_ring 101 = .ok (.dup, 1) := by decide +kernel
theorem dX4_ring_102 : decode cX4_ring 102 = .ok (.getfield 49, 3) := by decide +kernel
theorem dX4_ring_105 : decode cX4_ring 105 = .ok (.iconst 1, 1) := by decide +kernel
theorem dX4_ring_106 : decode cX4_ring 106 = .ok (.iadd, 1) := by decide +kernel
theorem dX4_ring_107 : decode cX4_ring 107 = .ok (.putfield 49, 3) := by decide +kernel
theorem dX4_ring_110 : decode cX4_ring 110 = .ok (.iload_n 1, 1) := by decide +kernel
theorem dX4_ring_111 : decode cX4_ring 111 = .ok (.ireturn, 1) := by decide +kernel
theorem dX4_stroll_0 : decode cX4_stroll 0 = .ok (.aload_n 0, 1) := by decide +kernel
theorem dX4_stroll_1 : decode cX4_stroll 1 = .ok (.getfield 24, 3) := by decide +kernel
theorem dX4_stroll_4 : decode cX4_stroll 4 = .ok (.iload_n 1, 1) := by decide +kernel
theorem dX4_stroll_5 : decode cX4_stroll 5 = .ok (.iaload, 1) := by decide +kernel
theorem dX4_stroll_6 : decode cX4_stroll 6 = .ok (.iconst 1, 1) := by decide +kernel
theorem dX4_stroll_7 : decode cX4_stroll 7 = .ok (.if_icmp .ne 28, 3) := by decide +kernel
theorem dX4_stroll_10 : decode cX4_stroll 10 = .ok (.aload_n 0, 1) := by decide +kernel
theorem dX4_stroll_11 : decode cX4_stroll 11 = .ok (.getfield 18, 3) := by decide +kernel
theorem dX4_stroll_14 : decode cX4_stroll 14 = .ok (.iload_n 1, 1) := by decide +kernel
theorem dX4_stroll_15 : decode cX4_stroll 15 = .ok (.iaload, 1) := by decide +kernel
theorem dX4_stroll_16 : decode cX4_stroll 16 = .ok (.aload_n 0, 1) := by decide +kernel
theorem dX4_stroll_17 : decode cX4_stroll 17 = .ok (.getfield 42, 3) := by decide +kernel
theorem dX4_stroll_20 : decode cX4_stroll 20 = .ok (.iconst 1, 1) := by decide +kernel
theorem dX4_stroll_21 : decode cX4_stroll 21 = .ok (.isub, 1) := by decide +kernel
theorem dX4_stroll_22 : decode cX4_stroll 22 = .ok (.if_icmp .ne 13, 3) := by decide +kernel
theorem dX4_stroll_25 : decode cX4_stroll 25 = .ok (.aload_n 0, 1) := by decide +kernel
theorem dX4_stroll_26 : decode cX4_stroll 26 = .ok (.getfield 24, 3) := by decide +kernel
theorem dX4_stroll_29 : decode cX4_stroll 29 = .ok (.iload_n 1, 1) := by decide +kernel
theorem dX4_stroll_30 : decode cX4_stroll 30 = .ok (.iconst 2, 1) := by decide +kernel
theorem dX4_stroll_31 : decode cX4_stroll 31 = .ok (.iastore, 1) := by decide +kernel
theorem dX4_stroll_32 : decode cX4_stroll 32 = .ok (.goto 29, 3) := by decide +kernel
theorem dX4_stroll_35 : decode cX4_stroll 35 = .ok (.aload_n 0, 1) := by decide +kernel
theorem dX4_stroll_36 : decode cX4_stroll 36 = .ok (.getfield 24, 3) := by decide +kernel
theorem dX4_stroll_39 : decode cX4_stroll 39 = .ok (.iload_n 1, 1) := by decide +kernel
theorem dX4_stroll_40 : decode cX4_stroll 40 = .ok (.iaload, 1) := by decide +kernel
theorem dX4_stroll_41 : decode cX4_stroll 41 = .ok (.iconst 2, 1) := by decide +kernel
theorem dX4_stroll_42 : decode cX4_stroll 42 = .ok (.if_icmp .ne 19, 3) := by decide +kernel
theorem dX4_stroll_45 : decode cX4_stroll 45 = .ok (.aload_n 0, 1) := by decide +kernel
theorem dX4_stroll_46 : decode cX4_stroll 46 = .ok (.getfield 18, 3) := by decide +kernel
theorem dX4_stroll_49 : decode cX4_stroll 49 = .ok (.iload_n 1, 1) := by decide +kernel
theorem dX4_stroll_50 : decode cX4_stroll 50 = .ok (.iaload, 1) := by decide +kernel
theorem dX4_stroll_51 : decode cX4_stroll 51 = .ok (.ifCond .ne 10, 3) := by decide +kernel
theorem dX4_stroll_54 : decode cX4_stroll 54 = .ok (.aload_n 0, 1) := by decide +kernel
theorem dX4_stroll_55 : decode cX4_stroll 55 = .ok (.getfield 24, 3) := by decide +kernel
theorem dX4_stroll_58 : decode cX4_stroll 58 = .ok (.iload_n 1, 1) := by decide +kernel
theorem dX4_stroll_59 : decode cX4_stroll 59 = .ok (.iconst 1, 1) := by decide +kernel
theorem dX4_stroll_60 : decode cX4_stroll 60 = .ok (.iastore, 1) := by decide +kernel
theorem dX4_stroll_61 : decode cX4_stroll 61 = .ok (.aload_n 0, 1) := by decide +kernel
theorem dX4_stroll_62 : decode cX4_stroll 62 = .ok (.getfield 24, 3) := by decide +kernel
theorem dX4_stroll_65 : decode cX4_stroll 65 = .ok (.iload_n 1, 1) := by decide +kernel
theorem dX4_stroll_66 : decode cX4_stroll 66 = .ok (.iaload, 1) := by decide +kernel
theorem dX4_stroll_67 : decode cX4_stroll 67 = .ok (.ifCond .eq 27, 3) := by decide +kernel
theorem dX4_stroll_70 : decode cX4_stroll 70 = .ok (.aload_n 0, 1) := by decide +kernel
theorem dX4_stroll_71 : decode cX4_stroll 71 = .ok (.getfield 18, 3) := by decide +kernel
theorem dX4_stroll_74 : decode cX4_stroll 74 = .ok (.iload_n 1, 1) := by decide +kernel
theorem dX4_stroll_75 : decode cX4_stroll 75 = .ok (.dup2, 1) := by decide +kernel
theorem dX4_stroll_76 : decode cX4_stroll 76 = .ok (.iaload, 1) := by decide +kernel
theorem dX4_stroll_77 : decode cX4_stroll 77 = .ok (.aload_n 0, 1) := by decide +kernel
theorem dX4_stroll_78 : decode cX4_stroll 78 = .ok (.getfield 24, 3) := by decide +kernel
theorem dX4_stroll_81 : decode cX4_stroll 81 = .ok (.iload_n 1, 1) := by decide +kernel
theorem dX4_stroll_82 : decode cX4_stroll 82 = .ok (.iaload, 1) := by decide +kernel
theorem dX4_stroll_83 : decode cX4_stroll 83 = .ok (.iconst 1, 1) := by decide +kernel
theorem dX4_stroll_84 : decode cX4_stroll 84 = .ok (.if_icmp .ne 7, 3) := by decide +kernel
theorem dX4_stroll_87 : decode cX4_stroll 87 = .ok (.iconst 1, 1) := by decide +kernel
theorem dX4_stroll_88 : decode cX4_stroll 88 = .ok (.goto 4, 3) := by decide +kernel
theorem dX4_stroll_91 : decode cX4_stroll 91 = .ok (.iconst (-1), 1) := by decide +kernel
theorem dX4_stroll_92 : decode cX4_stroll 92 = .ok (.iadd, 1) := by decide +kernel
theorem dX4_stroll_93 : decode cX4_stroll 93 = .ok (.iastore, 1) := by decide +kernel
theorem dX4_stroll_94 : decode cX4_stroll 94 = .ok (.return_, 1) := by decide +kernel
set_option maxRecDepth 20000 in
theorem ggX4_trot_X5_holds : GoodIn wsX4_trot wsX5_holds := goodIn_ids iaX4_trot iaX5_holds haX4_trot haX5_holds imX4_trot hmX4_trot (by decide +kernel) (by decide +kernel)
set_option maxRecDepth 20000 in
theorem gX4_trot_X5_holds_n74 : GoodIn wsX4_trot (wsX5_holds) := ggX4_trot_X5_holds
theorem dX4_trot_0 : decode cX4_trot 0 = .ok (.iload_n 2, 1) := by decide +kernel
theorem dX4_trot_1 : decode cX4_trot 1 = .ok (.ldc 89, 2) := by decide +kernel
theorem dX4_trot_3 : decode cX4_trot 3 = .ok (.if_icmp .eq 13, 3) := by decide +kernel
theorem dX4_trot_6 : decode cX4_trot 6 = .ok (.iload_n 2, 1) := by decide +kernel
theorem dX4_trot_7 : decode cX4_trot 7 = .ok (.aload_n 0, 1) := by decide +kernel
theorem dX4_trot_8 : decode cX4_trot 8 = .ok (.getfield 36, 3) := by decide +kernel
theorem dX4_trot_11 : decode cX4_trot 11 = .ok (.iload_n 1, 1) := by decide +kernel
theorem dX4_trot_12 : decode cX4_trot 12 = .ok (.iaload, 1) := by decide +kernel
theorem dX4_trot_13 : decode cX4_trot 13 = .ok (.if_icmp .ne 4, 3) := by decide +kernel
theorem dX4_trot_16 : decode cX4_trot 16 = .ok (.return_, 1) := by decide +kernel
theorem dX4_trot_17 : decode cX4_trot 17 = .ok (.aload_n 0, 1) := by decide +kernel
theorem dX4_trot_18 : decode cX4_trot 18 = .ok (.getfield 36, 3) := by decide +kernel
theorem dX4_trot_21 : decode cX4_trot 21 = .ok (.iload_n 1, 1) := by decide +kernel
theorem dX4_trot_22 : decode cX4_trot 22 = .ok (.iaload, 1) := by decide +kernel
theorem dX4_trot_23 : decode cX4_trot 23 = .ok (.iload_n 2, 1) := by decide +kernel
theorem dX4_trot_24 : decode cX4_trot 24 = .ok (.aload_n 0, 1) := by decide +kernel
theorem dX4_trot_25 : decode cX4_trot 25 = .ok (.getfield 36, 3) := by decide +kernel
theorem dX4_trot_28 : decode cX4_trot 28 = .ok (.iload_n 1, 1) := by decide +kernel
theorem dX4_trot_29 : decode cX4_trot 29 = .ok (.iaload, 1) := by decide +kernel
theorem dX4_trot_30 : decode cX4_trot 30 = .ok (.if_icmp .le 7, 3) := by decide +kernel
theorem dX4_trot_33 : decode cX4_trot 33 = .ok (.iconst 1, 1) := by decide +kernel
theorem dX4_trot_34 : decode cX4_trot 34 = .ok (.goto 4, 3) := by decide +kernel
theorem dX4_trot_37 : decode cX4_trot 37 = .ok (.iconst (-1), 1) := by decide +kernel
theorem dX4_trot_38 : decode cX4_trot 38 = .ok (.iadd, 1) := by decide +kernel
theorem dX4_trot_39 : decode cX4_trot 39 = .ok (.istore_n 3, 1) := by decide +kernel
theorem dX4_trot_40 : decode cX4_trot 40 = .ok (.aload_n 0, 1) := by decide +kernel
theorem dX4_trot_41 : decode cX4_trot 41 = .ok (.getfield 67, 3) := by decide +kernel
theorem dX4_trot_44 : decode cX4_trot 44 = .ok (.iload_n 3, 1) := by decide +kernel
theorem dX4_trot_45 : decode cX4_trot 45 = .ok (.invokestatic 74, 3) := by decide +kernel
theorem dX4_trot_48 : decode cX4_trot 48 = .ok (.ifCond .ne 10, 3) := by decide +kernel
theorem dX4_trot_51 : decode cX4_trot 51 = .ok (.aload_n 0, 1) := by decide +kernel
theorem dX4_trot_52 : decode cX4_trot 52 = .ok (.getfield 36, 3) := by decide +kernel
theorem dX4_trot_55 : decode cX4_trot 55 = .ok (.iload_n 1, 1) := by decide +kernel
theorem dX4_trot_56 : decode cX4_trot 56 = .ok (.iload_n 3, 1) := by decide +kernel
theorem dX4_trot_57 : decode cX4_trot 57 = .ok (.iastore, 1) := by decide +kernel
theorem dX4_trot_58 : decode cX4_trot 58 = .ok (.return_, 1) := by decide +kernel
set_option maxRecDepth 20000 in
theorem ggX4_goal_X5_isA : GoodIn wsX4_goal wsX5_isA := goodIn_ids iaX4_goal iaX5_isA haX4_goal haX5_isA imX4_goal hmX4_goal (by decide +kernel) (by decide +kernel)
set_option maxRecDepth 20000 in
theorem gX4_goal_X5_isA_n112 : GoodIn wsX4_goal (wsX5_isA) := ggX4_goal_X5_isA
set_option maxRecDepth 20000 in
theorem ggX4_goal_X4_countOthers : GoodIn wsX4_goal wsX4_countOthers := goodIn_ids iaX4_goal iaX4_countOthers haX4_goal haX4_countOthers imX4_goal hmX4_goal (by decide +kernel) (by decide +kernel)
set_option maxRecDepth 20000 in
theorem gX4_goal_X4_countOthers : GoodIn wsX4_goal (wsV RX4 115 RX4 yX4_countOthers wsX4_countOthers) := goodIn_app (goodIn_ids iaX4_goal [482, 484, 13, 73] haX4_goal rfl imX4_goal hmX4_goal (by decide +kernel) (by decide +kernel)) ggX4_goal_X4_countOthers
set_option maxRecDepth 20000 in
theorem ggX4_goal_X4_emptiestPlace : GoodIn wsX4_goal wsX4_emptiestPlace := goodIn_ids iaX4_goal iaX4_emptiestPlace haX4_goal haX4_emptiestPlace imX4_goal hmX4_goal (by decide +kernel) (by decide +kernel)
set_option maxRecDepth 20000 in
theorem gX4_goal_X4_emptiestPlace : GoodIn wsX4_goal (wsV RX4 118 RX4 yX4_emptiestPlace wsX4_emptiestPlace) := goodIn_app (goodIn_ids iaX4_goal [486, 488, 14, 73] haX4_goal rfl imX4_goal hmX4_goal (by decide +kernel) (by decide +kernel)) ggX4_goal_X4_emptiestPlace
set_option maxRecDepth 20000 in
theorem ggX4_goal_X4_fullestPlace : GoodIn wsX4_goal wsX4_fullestPlace := goodIn_ids iaX4_goal iaX4_fullestPlace haX4_goal haX4_fullestPlace imX4_goal hmX4_goal (by decide +kernel) (by decide +kernel)
set_option maxRecDepth 20000 in
theorem gX4_goal_X4_fullestPlace : GoodIn wsX4_goal (wsV RX4 121 RX4 yX4_fullestPlace wsX4_fullestPlace) := goodIn_app (goodIn_ids iaX4_goal [490, 492, 15, 73] haX4_goal rfl imX4_goal hmX4_goal (by decide +kernel) (by decide +kernel)) ggX4_goal_X4_fullestPlace
set_option maxRecDepth 20000 in
theorem ggX4_goal_X4_favourite : GoodIn wsX4_goal wsX4_favourite := goodIn_ids iaX4_goal iaX4_favourite haX4_goal haX4_favourite imX4_goal hmX4_goal (by decide +kernel) (by decide +kernel)
set_option maxRecDepth 20000 in
theorem gX4_goal_X4_favourite : GoodIn wsX4_goal (wsV RX4 124 RX4 yX4_favourite wsX4_favourite) := goodIn_app (goodIn_ids iaX4_goal [495, 496, 497, 73] haX4_goal rfl imX4_goal hmX4_goal (by decide +kernel) (by decide +kernel)) ggX4_goal_X4_favourite
theorem dX4_goal_0 : decode cX4_goal 0 = .ok (.aload_n 0, 1) := by decide +kernel
theorem dX4_goal_1 : decode cX4_goal 1 = .ok (.getfield 30, 3) := by decide +kernel
theorem dX4_goal_4 : decode cX4_goal 4 = .ok (.iload_n 1, 1) := by decide +kernel
theorem dX4_goal_5 : decode cX4_goal 5 = .ok (.iaload, 1) := by decide +kernel
theorem dX4_goal_6 : decode cX4_goal 6 = .ok (.iconst 4, 1) := by decide +kernel
theorem dX4_goal_7 : decode cX4_goal 7 = .ok (.invokestatic 112, 3) := by decide +kernel
theorem dX4_goal_10 : decode cX4_goal 10 = .ok (.ifCond .eq 30, 3) := by decide +kernel
theorem dX4_goal_13 : decode cX4_goal 13 = .ok (.aload_n 0, 1) := by decide +kernel
theorem dX4_goal_14 : decode cX4_goal 14 = .ok (.iload_n 1, 1) := by decide +kernel
theorem dX4_goal_15 : decode cX4_goal 15 = .ok (.invokevirtual 115, 3) := by decide +kernel
theorem dX4_goal_18 : decode cX4_goal 18 = .ok (.aload_n 0, 1) := by decide +kernel
theorem dX4_goal_19 : decode cX4_goal 19 = .ok (.getfield 30, 3) := by decide +kernel
theorem dX4_goal_22 : decode cX4_goal 22 = .ok (.iload_n 1, 1) := by decide +kernel
theorem dX4_goal_23 : decode cX4_goal 23 = .ok (.iaload, 1) := by decide +kernel
theorem dX4_goal_24 : decode cX4_goal 24 = .ok (.iconst 5, 1) := by decide +kernel
theorem dX4_goal_25 : decode cX4_goal 25 = .ok (.if_icmp .ne 10, 3) := by decide +kernel
theorem dX4_goal_28 : decode cX4_goal 28 = .ok (.aload_n 0, 1) := by decide +kernel
theorem dX4_goal_29 : decode cX4_goal 29 = .ok (.invokevirtual 118, 3) := by decide +kernel
theorem dX4_goal_32 : decode cX4_goal 32 = .ok (.goto 7, 3) := by decide +kernel
theorem dX4_goal_35 : decode cX4_goal 35 = .ok (.aload_n 0, 1) := by decide +kernel
theorem dX4_goal_36 : decode cX4_goal 36 = .ok (.invokevirtual 121, 3) := by decide +kernel
theorem dX4_goal_39 : decode cX4_goal 39 = .ok (.ireturn, 1) := by decide +kernel
theorem dX4_goal_40 : decode cX4_goal 40 = .ok (.aload_n 0, 1) := by decide +kernel
theorem dX4_goal_41 : decode cX4_goal 41 = .ok (.iload_n 1, 1) := by decide +kernel
theorem dX4_goal_42 : decode cX4_goal 42 = .ok (.invokevirtual 124, 3) := by decide +kernel
theorem dX4_goal_45 : decode cX4_goal 45 = .ok (.istore_n 2, 1) := by decide +kernel
theorem dX4_goal_46 : decode cX4_goal 46 = .ok (.iload_n 2, 1) := by decide +kernel
theorem dX4_goal_47 : decode cX4_goal 47 = .ok (.ldc 89, 2) := by decide +kernel
theorem dX4_goal_49 : decode cX4_goal 49 = .ok (.if_icmp .ne 8, 3) := by decide +kernel
theorem dX4_goal_52 : decode cX4_goal 52 = .ok (.ldc 89, 2) := by decide +kernel
theorem dX4_goal_54 : decode cX4_goal 54 = .ok (.goto 9, 3) := by decide +kernel
theorem dX4_goal_57 : decode cX4_goal 57 = .ok (.aload_n 0, 1) := by decide +kernel
theorem dX4_goal_58 : decode cX4_goal 58 = .ok (.getfield 18, 3) := by decide +kernel
theorem dX4_goal_61 : decode cX4_goal 61 = .ok (.iload_n 2, 1) := by decide +kernel
theorem dX4_goal_62 : decode cX4_goal 62 = .ok (.iaload, 1) := by decide +kernel
theorem dX4_goal_63 : decode cX4_goal 63 = .ok (.ireturn, 1) := by decide +kernel
set_option maxRecDepth 20000 in
theorem ggX4_favourite_X5_isA : GoodIn wsX4_favourite wsX5_isA := goodIn_ids iaX4_favourite iaX5_isA haX4_favourite haX5_isA imX4_favourite hmX4_favourite (by decide +kernel) (by decide +kernel)
set_option maxRecDepth 20000 in
theorem gX4_favourite_X5_isA_n112 : GoodIn wsX4_favourite (wsX5_isA) := ggX4_favourite_X5_isA
set_option maxRecDepth 20000 in
theorem ggX4_favourite_X4_pull : GoodIn wsX4_favourite wsX4_pull := goodIn_ids iaX4_favourite iaX4_pull haX4_favourite haX4_pull imX4_favourite hmX4_favourite (by decide +kernel) (by decide +kernel)
set_option maxRecDepth 20000 in
theorem gX4_favourite_X4_pull : GoodIn wsX4_favourite (wsV RX4 127 RX4 yX4_pull wsX4_pull) := goodIn_app (goodIn_ids iaX4_favourite [499, 501, 16, 73] haX4_favourite rfl imX4_favourite hmX4_favourite (by decide +kernel) (by decide +kernel)) ggX4_favourite_X4_pull
theorem dX4_favourite_0 : decode cX4_favourite 0 = .ok (.aload_n 0, 1) := by decide +kernel
theorem dX4_favourite_1 : decode cX4_favourite 1 = .ok (.getfield 30, 3) := by decide +kernel
theorem dX4_favourite_4 : decode cX4_favourite 4 = .ok (.iload_n 1, 1) := by decide +kernel
theorem dX4_favourite_5 : decode cX4_favourite 5 = .ok (.iaload, 1) := by decide +kernel
theorem dX4_favourite_6 : decode cX4_favourite 6 = .ok (.iconst 1, 1) := by decide +kernel
theorem dX4_favourite_7 : decode cX4_favourite 7 = .ok (.invokestatic 112, 3) := by decide +kernel
theorem dX4_favourite_10 : decode cX4_favourite 10 = .ok (.ifCond .ne 6, 3) := by decide +kernel
theorem dX4_favourite_13 : decode cX4_favourite 13 = .ok (.ldc 89, 2) := by decide +kernel
theorem dX4_favourite_15 : decode cX4_favourite 15 = .ok (.ireturn, 1) := by decide +kernel
theorem dX4_favourite_16 : decode cX4_favourite 16 = .ok (.ldc 89, 2) := by decide +kernel
theorem dX4_favourite_18 : decode cX4_favourite 18 = .ok (.istore_n 2, 1) := by decide +kernel
theorem dX4_favourite_19 : decode cX4_favourite 19 = .ok (.iconst 0, 1) := by decide +kernel
theorem dX4_favourite_20 : decode cX4_favourite 20 = .ok (.istore_n 3, 1) := by decide +kernel
theorem dX4_favourite_21 : decode cX4_favourite 21 = .ok (.iload_n 3, 1) := by decide +kernel
theorem dX4_favourite_22 : decode cX4_favourite 22 = .ok (.aload_n 0, 1) := by decide +kernel
theorem dX4_favourite_23 : decode cX4_favourite 23 = .ok (.getfield 55, 3) := by decide +kernel
theorem dX4_favourite_26 : decode cX4_favourite 26 = .ok (.if_icmp .ge 32, 3) := by decide +kernel
theorem dX4_favourite_29 : decode cX4_favourite 29 = .ok (.iload_n 2, 1) := by decide +kernel
theorem dX4_favourite_30 : decode cX4_favourite 30 = .ok (.ldc 89, 2) := by decide +kernel
theorem dX4_favourite_32 : decode cX4_favourite 32 = .ok (.if_icmp .eq 18, 3) := by decide +kernel
theorem dX4_favourite_35 : decode cX4_favourite 35 = .ok (.aload_n 0, 1) := by decide +kernel
theorem dX4_favourite_36 : decode cX4_favourite 36 = .ok (.iload_n 3, 1) := by decide +kernel
theorem dX4_favourite_37 : decode cX4_favourite 37 = .ok (.iload_n 1, 1) := by decide +kernel
theorem dX4_favourite_38 : decode cX4_favourite 38 = .ok (.invokevirtual 127, 3) := by decide +kernel
theorem dX4_favourite_41 : decode cX4_favourite 41 = .ok (.aload_n 0, 1) := by decide +kernel
theorem dX4_favourite_42 : decode cX4_favourite 42 = .ok (.iload_n 2, 1) := by decide +kernel
theorem dX4_favourite_43 : decode cX4_favourite 43 = .ok (.iload_n 1, 1) := by decide +kernel
theorem dX4_favourite_44 : decode cX4_favourite 44 = .ok (.invokevirtual 127, 3) := by decide +kernel
theorem dX4_favourite_47 : decode cX4_favourite 47 = .ok (.if_icmp .le 5, 3) := by decide +kernel
theorem dX4_favourite_50 : decode cX4_favourite 50 = .ok (.iload_n 3, 1) := by decide +kernel
theorem dX4_favourite_51 : decode cX4_favourite 51 = .ok (.istore_n 2, 1) := by decide +kernel
theorem dX4_favourite_52 : decode cX4_favourite 52 = .ok (.iinc 3 1, 3) := by decide +kernel
theorem dX4_favourite_55 : decode cX4_favourite 55 = .ok (.goto (-34), 3) := by decide +kernel
theorem dX4_favourite_58 : decode cX4_favourite 58 = .ok (.aload_n 0, 1) := by decide +kernel
theorem dX4_favourite_59 : decode cX4_favourite 59 = .ok (.getfield 30, 3) := by decide +kernel
theorem dX4_favourite_62 : decode cX4_favourite 62 = .ok (.iload_n 1, 1) := by decide +kernel
theorem dX4_favourite_63 : decode cX4_favourite 63 = .ok (.iaload, 1) := by decide +kernel
theorem dX4_favourite_64 : decode cX4_favourite 64 = .ok (.iconst 3, 1) := by decide +kernel
theorem dX4_favourite_65 : decode cX4_favourite 65 = .ok (.if_icmp .ne 23, 3) := by decide +kernel
theorem dX4_favourite_68 : decode cX4_favourite 68 = .ok (.iload_n 2, 1) := by decide +kernel
theorem dX4_favourite_69 : decode cX4_favourite 69 = .ok (.ldc 89, 2) := by decide +kernel
theorem dX4_favourite_71 : decode cX4_favourite 71 = .ok (.if_icmp .eq 17, 3) := by decide +kernel
theorem dX4_favourite_74 : decode cX4_favourite 74 = .ok (.aload_n 0, 1) := by decide +kernel
theorem dX4_favourite_75 : decode cX4_favourite 75 = .ok (.iload_n 2, 1) := by decide +kernel
theorem dX4_favourite_76 : decode cX4_favourite 76 = .ok (.iload_n 1, 1) := by decide +kernel
theorem dX4_favourite_77 : decode cX4_favourite 77 = .ok (.invokevirtual 127, 3) := by decide +kernel
theorem dX4_favourite_80 : decode cX4_favourite 80 = .ok (.ifCond .gt 8, 3) := by decide +kernel
theorem dX4_favourite_83 : decode cX4_favourite 83 = .ok (.ldc 89, 2) := by decide +kernel
theorem dX4_favourite_85 : decode cX4_favourite 85 = .ok (.goto 4, 3) := by decide +kernel
theorem dX4_favourite_88 : decode cX4_favourite 88 = .ok (.iload_n 2, 1) := by decide +kernel
theorem dX4_favourite_89 : decode cX4_favourite 89 = .ok (.ireturn, 1) := by decide +kernel
theorem dX4_pull_0 : decode cX4_pull 0 = .ok (.aload_n 0, 1) := by decide +kernel
theorem dX4_pull_1 : decode cX4_pull 1 = .ok (.getfield 30, 3) := by decide +kernel
theorem dX4_pull_4 : decode cX4_pull 4 = .ok (.iload_n 2, 1) := by decide +kernel
theorem dX4_pull_5 : decode cX4_pull 5 = .ok (.iaload, 1) := by decide +kernel
theorem dX4_pull_6 : decode cX4_pull 6 = .ok (.iconst 2, 1) := by decide +kernel
theorem dX4_pull_7 : decode cX4_pull 7 = .ok (.if_icmp .ne 7, 3) := by decide +kernel
theorem dX4_pull_10 : decode cX4_pull 10 = .ok (.iconst 0, 1) := by decide +kernel
theorem dX4_pull_11 : decode cX4_pull 11 = .ok (.goto 9, 3) := by decide +kernel
theorem dX4_pull_14 : decode cX4_pull 14 = .ok (.aload_n 0, 1) := by decide +kernel
theorem dX4_pull_15 : decode cX4_pull 15 = .ok (.getfield 15, 3) := by decide +kernel
theorem dX4_pull_18 : decode cX4_pull 18 = .ok (.iload_n 1, 1) := by decide +kernel
theorem dX4_pull_19 : decode cX4_pull 19 = .ok (.iaload, 1) := by decide +kernel
theorem dX4_pull_20 : decode cX4_pull 20 = .ok (.istore_n 3, 1) := by decide +kernel
theorem dX4_pull_21 : decode cX4_pull 21 = .ok (.aload_n 0, 1) := by decide +kernel
theorem dX4_pull_22 : decode cX4_pull 22 = .ok (.getfield 18, 3) := by decide +kernel
theorem dX4_pull_25 : decode cX4_pull 25 = .ok (.iload_n 1, 1) := by decide +kernel
theorem dX4_pull_26 : decode cX4_pull 26 = .ok (.iaload, 1) := by decide +kernel
theorem dX4_pull_27 : decode cX4_pull 27 = .ok (.aload_n 0, 1) := by decide +kernel
theorem dX4_pull_28 : decode cX4_pull 28 = .ok (.getfield 36, 3) := by decide +kernel
theorem dX4_pull_31 : decode cX4_pull 31 = .ok (.iload_n 2, 1) := by decide +kernel
theorem dX4_pull_32 : decode cX4_pull 32 = .ok (.iaload, 1) := by decide +kernel
theorem dX4_pull_33 : decode cX4_pull 33 = .ok (.isub, 1) := by decide +kernel
theorem dX4_pull_34 : decode cX4_pull 34 = .ok (.istore 4, 2) := by decide +kernel
theorem dX4_pull_36 : decode cX4_pull 36 = .ok (.iload_n 3, 1) := by decide +kernel
theorem dX4_pull_37 : decode cX4_pull 37 = .ok (.iconst 3, 1) := by decide +kernel
theorem dX4_pull_38 : decode cX4_pull 38 = .ok (.aload_n 0, 1) := by decide +kernel
theorem dX4_pull_39 : decode cX4_pull 39 = .ok (.getfield 21, 3) := by decide +kernel
theorem dX4_pull_42 : decode cX4_pull 42 = .ok (.iload_n 1, 1) := by decide +kernel
theorem dX4_pull_43 : decode cX4_pull 43 = .ok (.iaload, 1) := by decide +kernel
theorem dX4_pull_44 : decode cX4_pull 44 = .ok (.imul, 1) := by decide +kernel
theorem dX4_pull_45 : decode cX4_pull 45 = .ok (.iadd, 1) := by decide +kernel
theorem dX4_pull_46 : decode cX4_pull 46 = .ok (.iload 4, 2) := by decide +kernel
theorem dX4_pull_48 : decode cX4_pull 48 = .ok (.ifCond .ge 9, 3) := by decide +kernel
theorem dX4_pull_51 : decode cX4_pull 51 = .ok (.iload 4, 2) := by decide +kernel
theorem dX4_pull_53 : decode cX4_pull 53 = .ok (.ineg, 1) := by decide +kernel
theorem dX4_pull_54 : decode cX4_pull 54 = .ok (.goto 5, 3) := by decide +kernel
theorem dX4_pull_57 : decode cX4_pull 57 = .ok (.iload 4, 2) := by decide +kernel
theorem dX4_pull_59 : decode cX4_pull 59 = .ok (.isub, 1) := by decide +kernel
theorem dX4_pull_60 : decode cX4_pull 60 = .ok (.ireturn, 1) := by decide +kernel
theorem dX4_fullestPlace_0 : decode cX4_fullestPlace 0 = .ok (.ldc 89, 2) := by decide +kernel
theorem dX4_fullestPlace_2 : decode cX4_fullestPlace 2 = .ok (.istore_n 1, 1) := by decide +kernel
theorem dX4_fullestPlace_3 : decode cX4_fullestPlace 3 = .ok (.iconst 0, 1) := by decide +kernel
theorem dX4_fullestPlace_4 : decode cX4_fullestPlace 4 = .ok (.istore_n 2, 1) := by decide +kernel
theorem dX4_fullestPlace_5 : decode cX4_fullestPlace 5 = .ok (.iconst 0, 1) := by decide +kernel
theorem dX4_fullestPlace_6 : decode cX4_fullestPlace 6 = .ok (.istore_n 3, 1) := by decide +kernel
theorem dX4_fullestPlace_7 : decode cX4_fullestPlace 7 = .ok (.iload_n 3, 1) := by decide +kernel
theorem dX4_fullestPlace_8 : decode cX4_fullestPlace 8 = .ok (.aload_n 0, 1) := by decide +kernel
theorem dX4_fullestPlace_9 : decode cX4_fullestPlace 9 = .ok (.getfield 42, 3) := by decide +kernel
theorem dX4_fullestPlace_12 : decode cX4_fullestPlace 12 = .ok (.if_icmp .ge 28, 3) := by decide +kernel
theorem dX4_fullestPlace_15 : decode cX4_fullestPlace 15 = .ok (.aload_n 0, 1) := by decide +kernel
theorem dX4_fullestPlace_16 : decode cX4_fullestPlace 16 = .ok (.getfield 39, 3) := by decide +kernel
theorem dX4_fullestPlace_19 : decode cX4_fullestPlace 19 = .ok (.iload_n 3, 1) := by decide +kernel
theorem dX4_fullestPlace_20 : decode cX4_fullestPlace 20 = .ok (.iaload, 1) := by decide +kernel
theorem dX4_fullestPlace_21 : decode cX4_fullestPlace 21 = .ok (.iload_n 2, 1) := by decide +kernel
theorem dX4_fullestPlace_22 : decode cX4_fullestPlace 22 = .ok (.if_icmp .le 12, 3) := by decide +kernel
theorem dX4_fullestPlace_25 : decode cX4_fullestPlace 25 = .ok (.aload_n 0, 1) := by decide +kernel
theorem dX4_fullestPlace_26 : decode cX4_fullestPlace 26 = .ok (.getfield 39, 3) := by decide +kernel
theorem dX4_fullestPlace_29 : decode cX4_fullestPlace 29 = .ok (.iload_n 3, 1) := by decide +kernel
theorem dX4_fullestPlace_30 : decode cX4_fullestPlace 30 = .ok (.iaload, 1) := by decide +kernel
theorem dX4_fullestPlace_31 : decode cX4_fullestPlace 31 = .ok (.istore_n 2, 1) := by decide +kernel
theorem dX4_fullestPlace_32 : decode cX4_fullestPlace 32 = .ok (.iload_n 3, 1) := by decide +kernel
theorem dX4_fullestPlace_33 : decode cX4_fullestPlace 33 = .ok (.istore_n 1, 1) := by decide +kernel
theorem dX4_fullestPlace_34 : decode cX4_fullestPlace 34 = .ok (.iinc 3 1, 3) := by decide +kernel
theorem dX4_fullestPlace_37 : decode cX4_fullestPlace 37 = .ok (.goto (-30), 3) := by decide +kernel
theorem dX4_fullestPlace_40 : decode cX4_fullestPlace 40 = .ok (.iload_n 1, 1) := by decide +kernel
theorem dX4_fullestPlace_41 : decode cX4_fullestPlace 41 = .ok (.ireturn, 1) := by decide +kernel
theorem dX4_emptiestPlace_0 : decode cX4_emptiestPlace 0 = .ok (.iconst 0, 1) := by decide +kernel
theorem dX4_emptiestPlace_1 : decode cX4_emptiestPlace 1 = .ok (.istore_n 1, 1) := by decide +kernel
theorem dX4_emptiestPlace_2 : decode cX4_emptiestPlace 2 = .ok (.iconst 1, 1) := by decide +kernel
theorem dX4_emptiestPlace_3 : decode cX4_emptiestPlace 3 = .ok (.istore_n 2, 1) := by decide +kernel
theorem dX4_emptiestPlace_4 : decode cX4_emptiestPlace 4 = .ok (.iload_n 2, 1) := by decide +kernel
theorem dX4_emptiestPlace_5 : decode cX4_emptiestPlace 5 = .ok (.aload_n 0, 1) := by decide +kernel
theorem dX4_emptiestPlace_6 : decode cX4_emptiestPlace 6 = .ok (.getfield 42, 3) := by decide +kernel
theorem dX4_emptiestPlace_9 : decode cX4_emptiestPlace 9 = .ok (.if_icmp .ge 26, 3) := by decide +kernel
theorem dX4_emptiestPlace_12 : decode cX4_emptiestPlace 12 = .ok (.aload_n 0, 1) := by decide +kernel
theorem dX4_emptiestPlace_13 : decode cX4_emptiestPlace 13 = .ok (.getfield 39, 3) := by decide +kernel
theorem dX4_emptiestPlace_16 : decode cX4_emptiestPlace 16 = .ok (.iload_n 2, 1) := by decide +kernel
theorem dX4_emptiestPlace_17 : decode cX4_emptiestPlace 17 = .ok (.iaload, 1) := by decide +kernel
theorem dX4_emptiestPlace_18 : decode cX4_emptiestPlace 18 = .ok (.aload_n 0, 1) := by decide +kernel
theorem dX4_emptiestPlace_19 : decode cX4_emptiestPlace 19 = .ok (.getfield 39, 3) := by decide +kernel
theorem dX4_emptiestPlace_22 : decode cX4_emptiestPlace 22 = .ok (.iload_n 1, 1) := by decide +kernel
theorem dX4_emptiestPlace_23 : decode cX4_emptiestPlace 23 = .ok (.iaload, 1) := by decide +kernel
theorem dX4_emptiestPlace_24 : decode cX4_emptiestPlace 24 = .ok (.if_icmp .ge 5, 3) := by decide +kernel
theorem dX4_emptiestPlace_27 : decode cX4_emptiestPlace 27 = .ok (.iload_n 2, 1) := by decide +kernel
theorem dX4_emptiestPlace_28 : decode cX4_emptiestPlace 28 = .ok (.istore_n 1, 1) := by decide +kernel
theorem dX4_emptiestPlace_29 : decode cX4_emptiestPlace 29 = .ok (.iinc 2 1, 3) := by decide +kernel
theorem dX4_emptiestPlace_32 : decode cX4_emptiestPlace 32 = .ok (.goto (-28), 3) := by decide +kernel
theorem dX4_emptiestPlace_35 : decode cX4_emptiestPlace 35 = .ok (.iload_n 1, 1) := by decide +kernel
theorem dX4_emptiestPlace_36 : decode cX4_emptiestPlace 36 = .ok (.ireturn, 1) := by decide +kernel
set_option maxRecDepth 20000 in
theorem ggX4_countOthers_X5_holds : GoodIn wsX4_countOthers wsX5_holds := goodIn_ids iaX4_countOthers iaX5_holds haX4_countOthers haX5_holds imX4_countOthers hmX4_countOthers (by decide +kernel) (by decide +kernel)
set_option maxRecDepth 20000 in
theorem gX4_countOthers_X5_holds_n74 : GoodIn wsX4_countOthers (wsX5_holds) := ggX4_countOthers_X5_holds
theorem dX4_countOthers_0 : decode cX4_countOthers 0 = .ok (.iconst 0, 1) := by decide +kernel
theorem dX4_countOthers_1 : decode cX4_countOthers 1 = .ok (.istore_n 2, 1) := by decide +kernel
theorem dX4_countOthers_2 : decode cX4_countOthers 2 = .ok (.iload_n 2, 1) := by decide +kernel
theorem dX4_countOthers_3 : decode cX4_countOthers 3 = .ok (.aload_n 0, 1) := by decide +kernel
theorem dX4_countOthers_4 : decode cX4_countOthers 4 = .ok (.getfield 42, 3) := by decide +kernel
theorem dX4_countOthers_7 : decode cX4_countOthers 7 = .ok (.if_icmp .ge 16, 3) := by decide +kernel
theorem dX4_countOthers_10 : decode cX4_countOthers 10 = .ok (.aload_n 0, 1) := by decide +kernel
theorem dX4_countOthers_11 : decode cX4_countOthers 11 = .ok (.getfield 39, 3) := by decide +kernel
theorem dX4_countOthers_14 : decode cX4_countOthers 14 = .ok (.iload_n 2, 1) := by decide +kernel
theorem dX4_countOthers_15 : decode cX4_countOthers 15 = .ok (.iconst 0, 1) := by decide +kernel
theorem dX4_countOthers_16 : decode cX4_countOthers 16 = .ok (.iastore, 1) := by decide +kernel
theorem dX4_countOthers_17 : decode cX4_countOthers 17 = .ok (.iinc 2 1, 3) := by decide +kernel
theorem dX4_countOthers_20 : decode cX4_countOthers 20 = .ok (.goto (-18), 3) := by decide +kernel
theorem dX4_countOthers_23 : decode cX4_countOthers 23 = .ok (.iconst 0, 1) := by decide +kernel
theorem dX4_countOthers_24 : decode cX4_countOthers 24 = .ok (.istore_n 2, 1) := by decide +kernel
theorem dX4_countOthers_25 : decode cX4_countOthers 25 = .ok (.iload_n 2, 1) := by decide +kernel
theorem dX4_countOthers_26 : decode cX4_countOthers 26 = .ok (.aload_n 0, 1) := by decide +kernel
theorem dX4_countOthers_27 : decode cX4_countOthers 27 = .ok (.getfield 58, 3) := by decide +kernel
theorem dX4_countOthers_30 : decode cX4_countOthers 30 = .ok (.if_icmp .ge 54, 3) := by decide +kernel
theorem dX4_countOthers_33 : decode cX4_countOthers 33 = .ok (.aload_n 0, 1) := by decide +kernel
theorem dX4_countOthers_34 : decode cX4_countOthers 34 = .ok (.getfield 36, 3) := by decide +kernel
theorem dX4_countOthers_37 : decode cX4_countOthers 37 = .ok (.iload_n 2, 1) := by decide +kernel
theorem dX4_countOthers_38 : decode cX4_countOthers 38 = .ok (.iaload, 1) := by decide +kernel
theorem dX4_countOthers_39 : decode cX4_countOthers 39 = .ok (.istore_n 3, 1) := by decide +kernel
theorem dX4_countOthers_40 : decode cX4_countOthers 40 = .ok (.iload_n 2, 1) := by decide +kernel
theorem dX4_countOthers_41 : decode cX4_countOthers 41 = .ok (.iload_n 1, 1) := by decide +kernel
theorem dX4_countOthers_42 : decode cX4_countOthers 42 = .ok (.if_icmp .eq 36, 3) := by decide +kernel
theorem dX4_countOthers_45 : decode cX4_countOthers 45 = .ok (.aload_n 0, 1) := by decide +kernel
theorem dX4_countOthers_46 : decode cX4_countOthers 46 = .ok (.getfield 61, 3) := by decide +kernel
theorem dX4_countOthers_49 : decode cX4_countOthers 49 = .ok (.iload_n 2, 1) := by decide +kernel
theorem dX4_countOthers_50 : decode cX4_countOthers 50 = .ok (.invokestatic 74, 3) := by decide +kernel
theorem dX4_countOthers_53 : decode cX4_countOthers 53 = .ok (.ifCond .eq 25, 3) := by decide +kernel
theorem dX4_countOthers_56 : decode cX4_countOthers 56 = .ok (.iload_n 3, 1) := by decide +kernel
theorem dX4_countOthers_57 : decode cX4_countOthers 57 = .ok (.ifCond .lt 21, 3) := by decide +kernel
theorem dX4_countOthers_60 : decode cX4_countOthers 60 = .ok (.iload_n 3, 1) := by decide +kernel
theorem dX4_countOthers_61 : decode cX4_countOthers 61 = .ok (.aload_n 0, 1) := by decide +kernel
theorem dX4_countOthers_62 : decode cX4_countOthers 62 = .ok (.getfield 42, 3) := by decide +kernel
theorem dX4_countOthers_65 : decode cX4_countOthers 65 = .ok (.if_icmp .ge 13, 3) := by decide +kernel
theorem dX4_countOthers_68 : decode cX4_countOthers 68 = .ok (.aload_n 0, 1) := by decide +kernel
theorem dX4_countOthers_69 : decode cX4_countOthers 69 = .ok (.getfield 39, 3) := by decide +kernel
theorem dX4_countOthers_72 : decode cX4_countOthers 72 = .ok (.iload_n 3, 1) := by decide +kernel
theorem dX4_countOthers_73 : decode cX4_countOthers 73 = .ok (.dup2, 1) := by decide +kernel
theorem dX4_countOthers_74 : decode cX4_countOthers 74 = .ok (.iaload, 1) := by decide +kernel
theorem dX4_countOthers_75 : decode cX4_countOthers 75 = .ok (.iconst 1, 1) := by decide +kernel
theorem dX4_countOthers_76 : decode cX4_countOthers 76 = .ok (.iadd, 1) := by decide +kernel
theorem dX4_countOthers_77 : decode cX4_countOthers 77 = .ok (.iastore, 1) := by decide +kernel
theorem dX4_countOthers_78 : decode cX4_countOthers 78 = .ok (.iinc 2 1, 3) := by decide +kernel
theorem dX4_countOthers_81 : decode cX4_countOthers 81 = .ok (.goto (-56), 3) := by decide +kernel
theorem dX4_countOthers_84 : decode cX4_countOthers 84 = .ok (.return_, 1) := by decide +kernel
set_option maxRecDepth 20000 in
theorem ggX5_init_X2_init : GoodIn wsX5_init wsX2_init := goodIn_ids iaX5_init iaX2_init haX5_init haX2_init imX5_init hmX5_init (by decide +kernel) (by decide +kernel)
set_option maxRecDepth 20000 in
theorem gX5_init_X2_init_n23 : GoodIn wsX5_init (wsX2_init) := ggX5_init_X2_init
set_option maxRecDepth 20000 in
theorem ggX5_init_X4_init : GoodIn wsX5_init wsX4_init := goodIn_ids iaX5_init iaX4_init haX5_init haX4_init imX5_init hmX5_init (by decide +kernel) (by decide +kernel)
set_option maxRecDepth 20000 in
theorem gX5_init_X4_init_n30 : GoodIn wsX5_init (wsX4_init) := ggX5_init_X4_init
set_option maxRecDepth 20000 in
theorem ggX5_init_X0_init : GoodIn wsX5_init wsX0_init := goodIn_ids iaX5_init iaX0_init haX5_init haX0_init imX5_init hmX5_init (by decide +kernel) (by decide +kernel)
set_option maxRecDepth 20000 in
theorem gX5_init_X0_init : GoodIn wsX5_init (wsX0_init) := ggX5_init_X0_init
set_option maxRecDepth 20000 in
theorem ggX5_init_X3_init : GoodIn wsX5_init wsX3_init := goodIn_ids iaX5_init iaX3_init haX5_init haX3_init imX5_init hmX5_init (by decide +kernel) (by decide +kernel)
set_option maxRecDepth 20000 in
theorem gX5_init_X3_init : GoodIn wsX5_init (wsX3_init) := ggX5_init_X3_init
set_option maxRecDepth 20000 in
theorem ggX5_init_X1_init : GoodIn wsX5_init wsX1_init := goodIn_ids iaX5_init iaX1_init haX5_init haX1_init imX5_init hmX5_init (by decide +kernel) (by decide +kernel)
set_option maxRecDepth 20000 in
theorem gX5_init_X1_init : GoodIn wsX5_init (wsX1_init) := ggX5_init_X1_init
theorem dX5_init_0 : decode cX5_init 0 = .ok (.aload_n 0, 1) := by decide +kernel
theorem dX5_init_1 : decode cX5_init 1 = .ok (.invokespecial 1, 3) := by decide +kernel
theorem dX5_init_4 : decode cX5_init 4 = .ok (.aload_n 0, 1) := by decide +kernel
theorem dX5_init_5 : decode cX5_init 5 = .ok (.bipush 8, 2) := by decide +kernel
theorem dX5_init_7 : decode cX5_init 7 = .ok (.bipush 40, 2) := by decide +kernel
theorem dX5_init_9 : decode cX5_init 9 = .ok (.multianewarray 9 2, 4) := by decide +kernel
theorem dX5_init_13 : decode cX5_init 13 = .ok (.putfield 11, 3) := by decide +kernel
theorem dX5_init_16 : decode cX5_init 16 = .ok (.aload_n 0, 1) := by decide +kernel
theorem dX5_init_17 : decode cX5_init 17 = .ok (.bipush 8, 2) := by decide +kernel
theorem dX5_init_19 : decode cX5_init 19 = .ok (.newarray .int, 2) := by decide +kernel
theorem dX5_init_21 : decode cX5_init 21 = .ok (.putfield 14, 3) := by decide +kernel
theorem dX5_init_24 : decode cX5_init 24 = .ok (.aload_n 0, 1) := by decide +kernel
theorem dX5_init_25 : decode cX5_init 25 = .ok (.bipush 8, 2) := by decide +kernel
theorem dX5_init_27 : decode cX5_init 27 = .ok (.newarray .int, 2) := by decide +kernel
theorem dX5_init_29 : decode cX5_init 29 = .ok (.dup, 1) := by decide +kernel
theorem dX5_init_30 : decode cX5_init 30 = .ok (.iconst 0, 1) := by decide +kernel
theorem dX5_init_31 : decode cX5_init 31 = .ok (.iconst (-1), 1) := by decide +kernel
theorem dX5_init_32 : decode cX5_init 32 = .ok (.iastore, 1) := by decide +kernel
theorem dX5_init_33 : decode cX5_init 33 = .ok (.dup, 1) := by decide +kernel
theorem dX5_init_34 : decode cX5_init 34 = .ok (.iconst 1, 1) := by decide +kernel
theorem dX5_init_35 : decode cX5_init 35 = .ok (.iconst (-1), 1) := by decide +kernel
theorem dX5_init_36 : decode cX5_init 36 = .ok (.iastore, 1) := by decide +kernel
theorem dX5_init_37 : decode cX5_init 37 = .ok (.dup, 1) := by decide +kernel
theorem dX5_init_38 : decode cX5_init 38 = .ok (.iconst 2, 1) := by decide +kernel
theorem dX5_init_39 : decode cX5_init 39 = .ok (.iconst (-1), 1) := by decide +kernel
theorem dX5_init_40 : decode cX5_init 40 = .ok (.iastore, 1) := by decide +kernel
theorem dX5_init_41 : decode cX5_init 41 = .ok (.dup, 1) := by decide +kernel
theorem dX5_init_42 : decode cX5_init 42 = .ok (.iconst 3, 1) := by decide +kernel
theorem dX5_init_43 : decode cX5_init 43 = .ok (.iconst (-1), 1) := by decide +kernel
theorem dX5_init_44 : decode cX5_init 44 = .ok (.iastore, 1) := by decide +kernel
theorem dX5_init_45 : decode cX5_init 45 = .ok (.dup, 1) := by decide +kernel
theorem dX5_init_46 : decode cX5_init 46 = .ok (.iconst 4, 1) := by decide +kernel
theorem dX5_init_47 : decode cX5_init 47 = .ok (.iconst (-1), 1) := by decide +kernel
theorem dX5_init_48 : decode cX5_init 48 = .ok (.iastore, 1) := by decide +kernel
theorem dX5_init_49 : decode cX5_init 49 = .ok (.dup, 1) := by decide +kernel
theorem dX5_init_50 : decode cX5_init 50 = .ok (.iconst 5, 1) := by decide +kernel
theorem dX5_init_51 : decode cX5_init 51 = .ok (.iconst (-1), 1) := by decide +kernel
theorem dX5_init_52 : decode cX5_init 52 = .ok (.iastore, 1) := by decide +kernel
theorem dX5_init_53 : decode cX5_init 53 = .ok (.dup, 1) := by decide +kernel
theorem dX5_init_54 : decode cX5_init 54 = .ok (.bipush 6, 2) := by decide +kernel
theorem dX5_init_56 : decode cX5_init 56 = .ok (.iconst (-1), 1) := by decide +kernel
theorem dX5_init_57 : decode cX5_init 57 = .ok (.iastore, 1) := by decide +kernel
theorem dX5_init_58 : decode cX5_init 58 = .ok (.dup, 1) := by decide +kernel
theorem dX5_init_59 : decode cX5_init 59 = .ok (.bipush 7, 2) := by decide +kernel
theorem dX5_init_61 : decode cX5_init 61 = .ok (.iconst (-1), 1) := by decide +kernel
theorem dX5_init_62 : decode cX5_init 62 = .ok (.iastore, 1) := by decide +kernel
theorem dX5_init_63 : decode cX5_init 63 = .ok (.putfield 18, 3) := by decide +kernel
theorem dX5_init_66 : decode cX5_init 66 = .ok (.aload_n 0, 1) := by decide +kernel
theorem dX5_init_67 : decode cX5_init 67 = .ok (.new 21, 3) := by decide +kernel
theorem dX5_init_70 : decode cX5_init 70 = .ok (.dup, 1) := by decide +kernel
theorem dX5_init_71 : decode cX5_init 71 = .ok (.invokespecial 23, 3) := by decide +kernel
theorem dX5_init_74 : decode cX5_init 74 = .ok (.putfield 24, 3) := by decide +kernel
theorem dX5_init_77 : decode cX5_init 77 = .ok (.aload_n 0, 1) := by decide +kernel
theorem dX5_init_78 : decode cX5_init 78 = .ok (.new 28, 3) := by decide +kernel
theorem dX5_init_81 : decode cX5_init 81 = .ok (.dup, 1) := by decide +kernel
theorem dX5_init_82 : decode cX5_init 82 = .ok (.invokespecial 30, 3) := by decide +kernel
theorem dX5_init_85 : decode cX5_init 85 = .ok (.putfield 31, 3) := by decide +kernel
theorem dX5_init_88 : decode cX5_init 88 = .ok (.aload_n 0, 1) := by decide +kernel
theorem dX5_init_89 : decode cX5_init 89 = .ok (.iconst 2, 1) := by decide +kernel
theorem dX5_init_90 : decode cX5_init 90 = .ok (.anewarray 28, 3) := by decide +kernel
theorem dX5_init_93 : decode cX5_init 93 = .ok (.dup, 1) := by decide +kernel
theorem dX5_init_94 : decode cX5_init 94 = .ok (.iconst 0, 1) := by decide +kernel
theorem dX5_init_95 : decode cX5_init 95 = .ok (.new 28, 3) := by decide +kernel
theorem dX5_init_98 : decode cX5_init 98 = .ok (.dup, 1) := by decide +kernel
theorem dX5_init_99 : decode cX5_init 99 = .ok (.invokespecial 30, 3) := by decide +kernel
theorem dX5_init_102 : decode cX5_init 102 = .ok (.aastore, 1) := by decide +kernel
theorem dX5_init_103 : decode cX5_init 103 = .ok (.dup, 1) := by decide +kernel
theorem dX5_init_104 : decode cX5_init 104 = .ok (.iconst 1, 1) := by decide +kernel
theorem dX5_init_105 : decode cX5_init 105 = .ok (.new 28, 3) := by decide +kernel
theorem dX5_init_108 : decode cX5_init 108 = .ok (.dup, 1) := by decide +kernel
theorem dX5_init_109 : decode cX5_init 109 = .ok (.invokespecial 30, 3) := by decide +kernel
theorem dX5_init_112 : decode cX5_init 112 = .ok (.aastore, 1) := by decide +kernel
theorem dX5_init_113 : decode cX5_init 113 = .ok (.putfield 35, 3) := by decide +kernel
theorem dX5_init_116 : decode cX5_init 116 = .ok (.aload_n 0, 1) := by decide +kernel
theorem dX5_init_117 : decode cX5_init 117 = .ok (.new 39, 3) := by decide +kernel
theorem dX5_init_120 : decode cX5_init 120 = .ok (.dup, 1) := by decide +kernel
theorem dX5_init_121 : decode cX5_init 121 = .ok (.invokespecial 41, 3) := by decide +kernel
theorem dX5_init_124 : decode cX5_init 124 = .ok (.putfield 42, 3) := by decide +kernel
theorem dX5_init_127 : decode cX5_init 127 = .ok (.aload_n 0, 1) := by decide +kernel
theorem dX5_init_128 : decode cX5_init 128 = .ok (.new 46, 3) := by decide +kernel
theorem dX5_init_131 : decode cX5_init 131 = .ok (.dup, 1) := by decide +kernel
theorem dX5_init_132 : decode cX5_init 132 = .ok (.aload_n 0, 1) := by decide +kernel
theorem dX5_init_133 : decode cX5_init 133 = .ok (.getfield 31, 3) := by decide +kernel
theorem dX5_init_136 : decode cX5_init 136 = .ok (.invokespecial 48, 3) := by decide +kernel
theorem dX5_init_139 : decode cX5_init 139 = .ok (.putfield 51, 3) := by decide +kernel
theorem dX5_init_142 : decode cX5_init 142 = .ok (.aload_n 0, 1) := by decide +kernel
theorem dX5_init_143 : decode cX5_init 143 = .ok (.new 55, 3) := by decide +kernel
theorem dX5_init_146 : decode cX5_init 146 = .ok (.dup, 1) := by decide +kernel
theorem dX5_init_147 : decode cX5_init 147 = .ok (.aload_n 0, 1) := by decide +kernel
theorem dX5_init_148 : decode cX5_init 148 = .ok (.getfield 31, 3) := by decide +kernel
theorem dX5_init_151 : decode cX5_init 151 = .ok (.invokespecial 57, 3) := by decide +kernel
theorem dX5_init_154 : decode cX5_init 154 = .ok (.putfield 58, 3) := by decide +kernel
theorem dX5_init_157 : decode cX5_init 157 = .ok (.return_, 1) := by decide +kernel
set_option maxRecDepth 20000 in
theorem ggX5_row_X5_isRow : GoodIn wsX5_row wsX5_isRow := goodIn_ids iaX5_row iaX5_isRow haX5_row haX5_isRow imX5_row hmX5_row (by decide +kernel) (by decide +kernel)
set_option maxRecDepth 20000 in
theorem gX5_row_X5_isRow : GoodIn wsX5_row (va_wsS RX5 62 yX5_isRow wsX5_isRow) := goodIn_app (goodIn_ids iaX5_row [312, 313, 71] haX5_row rfl imX5_row hmX5_row (by decide +kernel) (by decide +kernel)) ggX5_row_X5_isRow
set_option maxRecDepth 20000 in
theorem ggX5_row_X5_isUpTo : GoodIn wsX5_row wsX5_isUpTo := goodIn_ids iaX5_row iaX5_isUpTo haX5_row haX5_isUpTo imX5_row hmX5_row (by decide +kernel) (by decide +kernel)
set_option maxRecDepth 20000 in
theorem gX5_row_X5_isUpTo : GoodIn wsX5_row (va_wsS RX5 66 yX5_isUpTo wsX5_isUpTo) := goodIn_app (goodIn_ids iaX5_row [315, 316, 71] haX5_row rfl imX5_row hmX5_row (by decide +kernel) (by decide +kernel)) ggX5_row_X5_isUpTo
set_option maxRecDepth 20000 in
theorem ggX5_row_X5_found : GoodIn wsX5_row wsX5_found := goodIn_ids iaX5_row iaX5_found haX5_row haX5_found imX5_row hmX5_row (by decide +kernel) (by decide +kernel)
set_option maxRecDepth 20000 in
theorem gX5_row_X5_found : GoodIn wsX5_row (wsV RX5 71 RX5 yX5_found wsX5_found) := goodIn_app (goodIn_ids iaX5_row [319, 321, 0, 71] haX5_row rfl imX5_row hmX5_row (by decide +kernel) (by decide +kernel)) ggX5_row_X5_found
set_option maxRecDepth 20000 in
theorem ggX5_row_X5_nothingFound : GoodIn wsX5_row wsX5_nothingFound := goodIn_ids iaX5_row iaX5_nothingFound haX5_row haX5_nothingFound imX5_row hmX5_row (by decide +kernel) (by decide +kernel)
set_option maxRecDepth 20000 in
theorem gX5_row_X5_nothingFound : GoodIn wsX5_row (wsV RX5 75 RX5 yX5_nothingFound wsX5_nothingFound) := goodIn_app (goodIn_ids iaX5_row [324, 326, 1, 71] haX5_row rfl imX5_row hmX5_row (by decide +kernel) (by decide +kernel)) ggX5_row_X5_nothingFound
theorem dX5_row_0 : decode cX5_row 0 = .ok (.iload_n 1, 1) := by decide +kernel
theorem dX5_row_1 : decode cX5_row 1 = .ok (.invokestatic 62, 3) := by decide +kernel
theorem dX5_row_4 : decode cX5_row 4 = .ok (.ifCond .eq 17, 3) := by decide +kernel
theorem dX5_row_7 : decode cX5_row 7 = .ok (.iload_n 2, 1) := by decide +kernel
theorem dX5_row_8 : decode cX5_row 8 = .ok (.iconst 2, 1) := by decide +kernel
theorem dX5_row_9 : decode cX5_row 9 = .ok (.invokestatic 66, 3) := by decide +kernel
theorem dX5_row_12 : decode cX5_row 12 = .ok (.ifCond .eq 9, 3) := by decide +kernel
theorem dX5_row_15 : decode cX5_row 15 = .ok (.iload_n 3, 1) := by decide +kernel
theorem dX5_row_16 : decode cX5_row 16 = .ok (.bipush 40, 2) := by decide +kernel
theorem dX5_row_18 : decode cX5_row 18 = .ok (.if_icmp .le 6, 3) := by decide +kernel
theorem dX5_row_21 : decode cX5_row 21 = .ok (.ldc 70, 2) := by decide +kernel
theorem dX5_row_23 : decode cX5_row 23 = .ok (.ireturn, 1) := by decide +kernel
theorem dX5_row_24 : decode cX5_row 24 = .ok (.iload_n 3, 1) := by decide +kernel
theorem dX5_row_25 : decode cX5_row 25 = .ok (.ifCond .ge 9, 3) := by decide +kernel
theorem dX5_row_28 : decode cX5_row 28 = .ok (.aload_n 0, 1) := by decide +kernel
theorem dX5_row_29 : decode cX5_row 29 = .ok (.iconst 4, 1) := by decide +kernel
theorem dX5_row_30 : decode cX5_row 30 = .ok (.invokevirtual 71, 3) := by decide +kernel
theorem dX5_row_33 : decode cX5_row 33 = .ok (.ireturn, 1) := by decide +kernel
theorem dX5_row_34 : decode cX5_row 34 = .ok (.iconst 0, 1) := by decide +kernel
theorem dX5_row_35 : decode cX5_row 35 = .ok (.istore 4, 2) := by decide +kernel
theorem dX5_row_37 : decode cX5_row 37 = .ok (.iload 4, 2) := by decide +kernel
theorem dX5_row_39 : decode cX5_row 39 = .ok (.iload_n 3, 1) := by decide +kernel
theorem dX5_row_40 : decode cX5_row 40 = .ok (.if_icmp .ge 19, 3) := by decide +kernel
theorem dX5_row_43 : decode cX5_row 43 = .ok (.aload_n 0, 1) := by decide +kernel
theorem dX5_row_44 : decode cX5_row 44 = .ok (.getfield 11, 3) := by decide +kernel
theorem dX5_row_47 : decode cX5_row 47 = .ok (.iload_n 1, 1) := by decide +kernel
theorem dX5_row_48 : decode cX5_row 48 = .ok (.aaload, 1) := by decide +kernel
theorem dX5_row_49 : decode cX5_row 49 = .ok (.iload 4, 2) := by decide +kernel
theorem dX5_row_51 : decode cX5_row 51 = .ok (.iconst 0, 1) := by decide +kernel
theorem dX5_row_52 : decode cX5_row 52 = .ok (.iastore, 1) := by decide +kernel
theorem dX5_row_53 : decode cX5_row 53 = .ok (.iinc 4 1, 3) := by decide +kernel
theorem dX5_row_56 : decode cX5_row 56 = .ok (.goto (-19), 3) := by decide +kernel
theorem dX5_row_59 : decode cX5_row 59 = .ok (.aload_n 0, 1) := by decide +kernel
theorem dX5_row_60 : decode cX5_row 60 = .ok (.getfield 14, 3) := by decide +kernel
theorem dX5_row_63 : decode cX5_row 63 = .ok (.iload_n 1, 1) := by decide +kernel
theorem dX5_row_64 : decode cX5_row 64 = .ok (.iload_n 2, 1) := by decide +kernel
theorem dX5_row_65 : decode cX5_row 65 = .ok (.iastore, 1) := by decide +kernel
theorem dX5_row_66 : decode cX5_row 66 = .ok (.aload_n 0, 1) := by decide +kernel
theorem dX5_row_67 : decode cX5_row 67 = .ok (.getfield 18, 3) := by decide +kernel
theorem dX5_row_70 : decode cX5_row 70 = .ok (.iload_n 1, 1) := by decide +kernel
theorem dX5_row_71 : decode cX5_row 71 = .ok (.iload_n 3, 1) := by decide +kernel
theorem dX5_row_72 : decode cX5_row 72 = .ok (.iastore, 1) := by decide +kernel
theorem dX5_row_73 : decode cX5_row 73 = .ok (.aload_n 0, 1) := by decide +kernel
theorem dX5_row_74 : decode cX5_row 74 = .ok (.iload_n 3, 1) := by decide +kernel
theorem dX5_row_75 : decode cX5_row 75 = .ok (.invokevirtual 75, 3) := by decide +kernel
theorem dX5_row_78 : decode cX5_row 78 = .ok (.ireturn, 1) := by decide +kernel
set_option maxRecDepth 20000 in
theorem ggX5_set_X5_isRow : GoodIn wsX5_set wsX5_isRow := goodIn_ids iaX5_set iaX5_isRow haX5_set haX5_isRow imX5_set hmX5_set (by decide +kernel) (by decide +kernel)
set_option maxRecDepth 20000 in
theorem gX5_set_X5_isRow : GoodIn wsX5_set (va_wsS RX5 62 yX5_isRow wsX5_isRow) := goodIn_app (goodIn_ids iaX5_set [312, 313, 71] haX5_set rfl imX5_set hmX5_set (by decide +kernel) (by decide +kernel)) ggX5_set_X5_isRow
set_option maxRecDepth 20000 in
theorem ggX5_set_X5_isMissing : GoodIn wsX5_set wsX5_isMissing := goodIn_ids iaX5_set iaX5_isMissing haX5_set haX5_isMissing imX5_set hmX5_set (by decide +kernel) (by decide +kernel)
set_option maxRecDepth 20000 in
theorem gX5_set_X5_isMissing : GoodIn wsX5_set (wsV RX5 78 RX5 yX5_isMissing wsX5_isMissing) := goodIn_app (goodIn_ids iaX5_set [332, 334, 2, 71] haX5_set rfl imX5_set hmX5_set (by decide +kernel) (by decide +kernel)) ggX5_set_X5_isMissing
set_option maxRecDepth 20000 in
theorem ggX5_set_X5_found : GoodIn wsX5_set wsX5_found := goodIn_ids iaX5_set iaX5_found haX5_set haX5_found imX5_set hmX5_set (by decide +kernel) (by decide +kernel)
set_option maxRecDepth 20000 in
theorem gX5_set_X5_found : GoodIn wsX5_set (wsV RX5 71 RX5 yX5_found wsX5_found) := goodIn_app (goodIn_ids iaX5_set [319, 321, 0, 71] haX5_set rfl imX5_set hmX5_set (by decide +kernel) (by decide +kernel)) ggX5_set_X5_found
set_option maxRecDepth 20000 in
theorem ggX5_set_X5_cutTo : GoodIn wsX5_set wsX5_cutTo := goodIn_ids iaX5_set iaX5_cutTo haX5_set haX5_cutTo imX5_set hmX5_set (by decide +kernel) (by decide +kernel)
set_option maxRecDepth 20000 in
theorem gX5_set_X5_cutTo : GoodIn wsX5_set (va_wsS RX5 81 yX5_cutTo wsX5_cutTo) := goodIn_app (goodIn_ids iaX5_set [336, 337, 71] haX5_set rfl imX5_set hmX5_set (by decide +kernel) (by decide +kernel)) ggX5_set_X5_cutTo
set_option maxRecDepth 20000 in
theorem ggX5_set_X5_nothingFound : GoodIn wsX5_set wsX5_nothingFound := goodIn_ids iaX5_set iaX5_nothingFound haX5_set haX5_nothingFound imX5_set hmX5_set (by decide +kernel) (by decide +kernel)
set_option maxRecDepth 20000 in
theorem gX5_set_X5_nothingFound : GoodIn wsX5_set (wsV RX5 75 RX5 yX5_nothingFound wsX5_nothingFound) := goodIn_app (goodIn_ids iaX5_set [324, 326, 1, 71] haX5_set rfl imX5_set hmX5_set (by decide +kernel) (by decide +kernel)) ggX5_set_X5_nothingFound
theorem dX5_set_0 : decode cX5_set 0 = .ok (.iload_n 1, 1) := by decide +kernel
theorem dX5_set_1 : decode cX5_set 1 = .ok (.invokestatic 62, 3) := by decide +kernel
theorem dX5_set_4 : decode cX5_set 4 = .ok (.ifCond .ne 6, 3) := by decide +kernel
theorem dX5_set_7 : decode cX5_set 7 = .ok (.ldc 70, 2) := by decide +kernel
theorem dX5_set_9 : decode cX5_set 9 = .ok (.ireturn, 1) := by decide +kernel
theorem dX5_set_10 : decode cX5_set 10 = .ok (.aload_n 0, 1) := by decide +kernel
theorem dX5_set_11 : decode cX5_set 11 = .ok (.iload_n 1, 1) := by decide +kernel
theorem dX5_set_12 : decode cX5_set 12 = .ok (.invokevirtual 78, 3) := by decide +kernel
theorem dX5_set_15 : decode cX5_set 15 = .ok (.ifCond .eq 9, 3) := by decide +kernel
theorem dX5_set_18 : decode cX5_set 18 = .ok (.aload_n 0, 1) := by decide +kernel
theorem dX5_set_19 : decode cX5_set 19 = .ok (.iconst 1, 1) := by decide +kernel
theorem dX5_set_20 : decode cX5_set 20 = .ok (.invokevirtual 71, 3) := by decide +kernel
theorem dX5_set_23 : decode cX5_set 23 = .ok (.ireturn, 1) := by decide +kernel
theorem dX5_set_24 : decode cX5_set 24 = .ok (.iload_n 2, 1) := by decide +kernel
theorem dX5_set_25 : decode cX5_set 25 = .ok (.ifCond .lt 13, 3) := by decide +kernel
theorem dX5_set_28 : decode cX5_set 28 = .ok (.iload_n 2, 1) := by decide +kernel
theorem dX5_set_29 : decode cX5_set 29 = .ok (.aload_n 0, 1) := by decide +kernel
