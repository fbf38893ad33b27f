theorem dX5_cutTo_0 : decode cX5_cutTo 0 = .ok (.iload_n 0, 1) := by decide +kernel
theorem dX5_cutTo_1 : decode cX5_cutTo 1 = .ok (.lookupswitch 33 #[(0, 27), (1, 30)], 27) := by decide +kernel
theorem dX5_cutTo_28 : decode cX5_cutTo 28 = .ok (.iload_n 1, 1) := by decide +kernel
theorem dX5_cutTo_29 : decode cX5_cutTo 29 = .ok (.i2b, 1) := by decide +kernel
theorem dX5_cutTo_30 : decode cX5_cutTo 30 = .ok (.ireturn, 1) := by decide +kernel
theorem dX5_cutTo_31 : decode cX5_cutTo 31 = .ok (.iload_n 1, 1) := by decide +kernel
theorem dX5_cutTo_32 : decode cX5_cutTo 32 = .ok (.i2s, 1) := by decide +kernel
theorem dX5_cutTo_33 : decode cX5_cutTo 33 = .ok (.ireturn, 1) := by decide +kernel
theorem dX5_cutTo_34 : decode cX5_cutTo 34 = .ok (.iload_n 1, 1) := by decide +kernel
theorem dX5_cutTo_35 : decode cX5_cutTo 35 = .ok (.ireturn, 1) := by decide +kernel
set_option maxRecDepth 20000 in
theorem ggX5_rowsThatStand_X5_isMissing : GoodIn wsX5_rowsThatStand wsX5_isMissing := goodIn_ids iaX5_rowsThatStand iaX5_isMissing haX5_rowsThatStand haX5_isMissing imX5_rowsThatStand hmX5_rowsThatStand (by decide +kernel) (by decide +kernel)
set_option maxRecDepth 20000 in
theorem gX5_rowsThatStand_X5_isMissing : GoodIn wsX5_rowsThatStand (wsV RX5 78 RX5 yX5_isMissing wsX5_isMissing) := goodIn_app (goodIn_ids iaX5_rowsThatStand [332, 334, 2, 71] haX5_rowsThatStand rfl imX5_rowsThatStand hmX5_rowsThatStand (by decide +kernel) (by decide +kernel)) ggX5_rowsThatStand_X5_isMissing
theorem dX5_rowsThatStand_0 : decode cX5_rowsThatStand 0 = .ok (.iconst 0, 1) := by decide +kernel
theorem dX5_rowsThatStand_1 : decode cX5_rowsThatStand 1 = .ok (.istore_n 1, 1) := by decide +kernel
theorem dX5_rowsThatStand_2 : decode cX5_rowsThatStand 2 = .ok (.iconst 0, 1) := by decide +kernel
theorem dX5_rowsThatStand_3 : decode cX5_rowsThatStand 3 = .ok (.istore_n 2, 1) := by decide +kernel
theorem dX5_rowsThatStand_4 : decode cX5_rowsThatStand 4 = .ok (.iload_n 2, 1) := by decide +kernel
theorem dX5_rowsThatStand_5 : decode cX5_rowsThatStand 5 = .ok (.bipush 8, 2) := by decide +kernel
theorem dX5_rowsThatStand_7 : decode cX5_rowsThatStand 7 = .ok (.if_icmp .ge 20, 3) := by decide +kernel
theorem dX5_rowsThatStand_10 : decode cX5_rowsThatStand 10 = .ok (.aload_n 0, 1) := by decide +kernel
theorem dX5_rowsThatStand_11 : decode cX5_rowsThatStand 11 = .ok (.iload_n 2, 1) := by decide +kernel
theorem dX5_rowsThatStand_12 : decode cX5_rowsThatStand 12 = .ok (.invokevirtual 78, 3) := by decide +kernel
theorem dX5_rowsThatStand_15 : decode cX5_rowsThatStand 15 = .ok (.ifCond .ne 6, 3) := by decide +kernel
theorem dX5_rowsThatStand_18 : decode cX5_rowsThatStand 18 = .ok (.iinc 1 1, 3) := by decide +kernel
theorem dX5_rowsThatStand_21 : decode cX5_rowsThatStand 21 = .ok (.iinc 2 1, 3) := by decide +kernel
theorem dX5_rowsThatStand_24 : decode cX5_rowsThatStand 24 = .ok (.goto (-20), 3) := by decide +kernel
theorem dX5_rowsThatStand_27 : decode cX5_rowsThatStand 27 = .ok (.iload_n 1, 1) := by decide +kernel
theorem dX5_rowsThatStand_28 : decode cX5_rowsThatStand 28 = .ok (.ireturn, 1) := by decide +kernel
theorem dX5_holds_0 : decode cX5_holds 0 = .ok (.iload_n 0, 1) := by decide +kernel
theorem dX5_holds_1 : decode cX5_holds 1 = .ok (.iload_n 1, 1) := by decide +kernel
theorem dX5_holds_2 : decode cX5_holds 2 = .ok (.ishr, 1) := by decide +kernel
theorem dX5_holds_3 : decode cX5_holds 3 = .ok (.iconst 1, 1) := by decide +kernel
theorem dX5_holds_4 : decode cX5_holds 4 = .ok (.iand, 1) := by decide +kernel
theorem dX5_holds_5 : decode cX5_holds 5 = .ok (.iconst 1, 1) := by decide +kernel
theorem dX5_holds_6 : decode cX5_holds 6 = .ok (.if_icmp .ne 7, 3) := by decide +kernel
theorem dX5_holds_9 : decode cX5_holds 9 = .ok (.iconst 1, 1) := by decide +kernel
theorem dX5_holds_10 : decode cX5_holds 10 = .ok (.goto 4, 3) := by decide +kernel
theorem dX5_holds_13 : decode cX5_holds 13 = .ok (.iconst 0, 1) := by decide +kernel
theorem dX5_holds_14 : decode cX5_holds 14 = .ok (.ireturn, 1) := by decide +kernel
theorem dX5_setOfAll_0 : decode cX5_setOfAll 0 = .ok (.iconst 1, 1) := by decide +kernel
theorem dX5_setOfAll_1 : decode cX5_setOfAll 1 = .ok (.iload_n 0, 1) := by decide +kernel
theorem dX5_setOfAll_2 : decode cX5_setOfAll 2 = .ok (.ishl, 1) := by decide +kernel
theorem dX5_setOfAll_3 : decode cX5_setOfAll 3 = .ok (.iconst 1, 1) := by decide +kernel
theorem dX5_setOfAll_4 : decode cX5_setOfAll 4 = .ok (.isub, 1) := by decide +kernel
theorem dX5_setOfAll_5 : decode cX5_setOfAll 5 = .ok (.ireturn, 1) := by decide +kernel
theorem dX5_power_0 : decode cX5_power 0 = .ok (.iconst 1, 1) := by decide +kernel
theorem dX5_power_1 : decode cX5_power 1 = .ok (.istore_n 2, 1) := by decide +kernel
theorem dX5_power_2 : decode cX5_power 2 = .ok (.iconst 0, 1) := by decide +kernel
theorem dX5_power_3 : decode cX5_power 3 = .ok (.istore_n 3, 1) := by decide +kernel
theorem dX5_power_4 : decode cX5_power 4 = .ok (.iload_n 3, 1) := by decide +kernel
theorem dX5_power_5 : decode cX5_power 5 = .ok (.iload_n 1, 1) := by decide +kernel
theorem dX5_power_6 : decode cX5_power 6 = .ok (.if_icmp .ge 13, 3) := by decide +kernel
theorem dX5_power_9 : decode cX5_power 9 = .ok (.iload_n 2, 1) := by decide +kernel
theorem dX5_power_10 : decode cX5_power 10 = .ok (.iload_n 0, 1) := by decide +kernel
theorem dX5_power_11 : decode cX5_power 11 = .ok (.imul, 1) := by decide +kernel
theorem dX5_power_12 : decode cX5_power 12 = .ok (.istore_n 2, 1) := by decide +kernel
theorem dX5_power_13 : decode cX5_power 13 = .ok (.iinc 3 1, 3) := by decide +kernel
theorem dX5_power_16 : decode cX5_power 16 = .ok (.goto (-12), 3) := by decide +kernel
theorem dX5_power_19 : decode cX5_power 19 = .ok (.iload_n 2, 1) := by decide +kernel
theorem dX5_power_20 : decode cX5_power 20 = .ok (.ireturn, 1) := by decide +kernel
theorem dX5_commonDivisor_0 : decode cX5_commonDivisor 0 = .ok (.iconst 0, 1) := by decide +kernel
theorem dX5_commonDivisor_1 : decode cX5_commonDivisor 1 = .ok (.istore_n 2, 1) := by decide +kernel
theorem dX5_commonDivisor_2 : decode cX5_commonDivisor 2 = .ok (.iload_n 2, 1) := by decide +kernel
theorem dX5_commonDivisor_3 : decode cX5_commonDivisor 3 = .ok (.bipush 50, 2) := by decide +kernel
theorem dX5_commonDivisor_5 : decode cX5_commonDivisor 5 = .ok (.if_icmp .ge 21, 3) := by decide +kernel
theorem dX5_commonDivisor_8 : decode cX5_commonDivisor 8 = .ok (.iload_n 1, 1) := by decide +kernel
theorem dX5_commonDivisor_9 : decode cX5_commonDivisor 9 = .ok (.ifCond .eq 17, 3) := by decide +kernel
theorem dX5_commonDivisor_12 : decode cX5_commonDivisor 12 = .ok (.iload_n 0, 1) := by decide +kernel
theorem dX5_commonDivisor_13 : decode cX5_commonDivisor 13 = .ok (.iload_n 1, 1) := by decide +kernel
theorem dX5_commonDivisor_14 : decode cX5_commonDivisor 14 = .ok (.irem, 1) := by decide +kernel
theorem dX5_commonDivisor_15 : decode cX5_commonDivisor 15 = .ok (.istore_n 3, 1) := by decide +kernel
theorem dX5_commonDivisor_16 : decode cX5_commonDivisor 16 = .ok (.iload_n 1, 1) := by decide +kernel
theorem dX5_commonDivisor_17 : decode cX5_commonDivisor 17 = .ok (.istore_n 0, 1) := by decide +kernel
theorem dX5_commonDivisor_18 : decode cX5_commonDivisor 18 = .ok (.iload_n 3, 1) := by decide +kernel
theorem dX5_commonDivisor_19 : decode cX5_commonDivisor 19 = .ok (.istore_n 1, 1) := by decide +kernel
theorem dX5_commonDivisor_20 : decode cX5_commonDivisor 20 = .ok (.iinc 2 1, 3) := by decide +kernel
theorem dX5_commonDivisor_23 : decode cX5_commonDivisor 23 = .ok (.goto (-21), 3) := by decide +kernel
theorem dX5_commonDivisor_26 : decode cX5_commonDivisor 26 = .ok (.iload_n 0, 1) := by decide +kernel
theorem dX5_commonDivisor_27 : decode cX5_commonDivisor 27 = .ok (.ireturn, 1) := by decide +kernel
theorem dX5_isA_0 : decode cX5_isA 0 = .ok (.iload_n 1, 1) := by decide +kernel
theorem dX5_isA_1 : decode cX5_isA 1 = .ok (.tableswitch 74 0 4 #[35, 37, 74, 74, 58], 35) := by decide +kernel
theorem dX5_isA_36 : decode cX5_isA 36 = .ok (.iconst 1, 1) := by decide +kernel
theorem dX5_isA_37 : decode cX5_isA 37 = .ok (.ireturn, 1) := by decide +kernel
theorem dX5_isA_38 : decode cX5_isA 38 = .ok (.iload_n 0, 1) := by decide +kernel
theorem dX5_isA_39 : decode cX5_isA 39 = .ok (.iconst 1, 1) := by decide +kernel
theorem dX5_isA_40 : decode cX5_isA 40 = .ok (.if_icmp .eq 13, 3) := by decide +kernel
theorem dX5_isA_43 : decode cX5_isA 43 = .ok (.iload_n 0, 1) := by decide +kernel
theorem dX5_isA_44 : decode cX5_isA 44 = .ok (.iconst 2, 1) := by decide +kernel
theorem dX5_isA_45 : decode cX5_isA 45 = .ok (.if_icmp .eq 8, 3) := by decide +kernel
theorem dX5_isA_48 : decode cX5_isA 48 = .ok (.iload_n 0, 1) := by decide +kernel
theorem dX5_isA_49 : decode cX5_isA 49 = .ok (.iconst 3, 1) := by decide +kernel
theorem dX5_isA_50 : decode cX5_isA 50 = .ok (.if_icmp .ne 7, 3) := by decide +kernel
theorem dX5_isA_53 : decode cX5_isA 53 = .ok (.iconst 1, 1) := by decide +kernel
theorem dX5_isA_54 : decode cX5_isA 54 = .ok (.goto 4, 3) := by decide +kernel
theorem dX5_isA_57 : decode cX5_isA 57 = .ok (.iconst 0, 1) := by decide +kernel
theorem dX5_isA_58 : decode cX5_isA 58 = .ok (.ireturn, 1) := by decide +kernel
theorem dX5_isA_59 : decode cX5_isA 59 = .ok (.iload_n 0, 1) := by decide +kernel
theorem dX5_isA_60 : decode cX5_isA 60 = .ok (.iconst 4, 1) := by decide +kernel
theorem dX5_isA_61 : decode cX5_isA 61 = .ok (.if_icmp .eq 8, 3) := by decide +kernel
theorem dX5_isA_64 : decode cX5_isA 64 = .ok (.iload_n 0, 1) := by decide +kernel
theorem dX5_isA_65 : decode cX5_isA 65 = .ok (.iconst 5, 1) := by decide +kernel
theorem dX5_isA_66 : decode cX5_isA 66 = .ok (.if_icmp .ne 7, 3) := by decide +kernel
theorem dX5_isA_69 : decode cX5_isA 69 = .ok (.iconst 1, 1) := by decide +kernel
theorem dX5_isA_70 : decode cX5_isA 70 = .ok (.goto 4, 3) := by decide +kernel
theorem dX5_isA_73 : decode cX5_isA 73 = .ok (.iconst 0, 1) := by decide +kernel
theorem dX5_isA_74 : decode cX5_isA 74 = .ok (.ireturn, 1) := by decide +kernel
theorem dX5_isA_75 : decode cX5_isA 75 = .ok (.iload_n 0, 1) := by decide +kernel
theorem dX5_isA_76 : decode cX5_isA 76 = .ok (.iload_n 1, 1) := by decide +kernel
theorem dX5_isA_77 : decode cX5_isA 77 = .ok (.if_icmp .ne 7, 3) := by decide +kernel
theorem dX5_isA_80 : decode cX5_isA 80 = .ok (.iconst 1, 1) := by decide +kernel
theorem dX5_isA_81 : decode cX5_isA 81 = .ok (.goto 4, 3) := by decide +kernel
theorem dX5_isA_84 : decode cX5_isA 84 = .ok (.iconst 0, 1) := by decide +kernel
theorem dX5_isA_85 : decode cX5_isA 85 = .ok (.ireturn, 1) := by decide +kernel
theorem dX6_init_0 : decode cX6_init 0 = .ok (.aload_n 0, 1) := by decide +kernel
theorem dX6_init_1 : decode cX6_init 1 = .ok (.invokespecial 1, 3) := by decide +kernel
theorem dX6_init_4 : decode cX6_init 4 = .ok (.aload_n 0, 1) := by decide +kernel
theorem dX6_init_5 : decode cX6_init 5 = .ok (.bipush 8, 2) := by decide +kernel
theorem dX6_init_7 : decode cX6_init 7 = .ok (.newarray .int, 2) := by decide +kernel
theorem dX6_init_9 : decode cX6_init 9 = .ok (.putfield 7, 3) := by decide +kernel
theorem dX6_init_12 : decode cX6_init 12 = .ok (.aload_n 0, 1) := by decide +kernel
theorem dX6_init_13 : decode cX6_init 13 = .ok (.bipush 8, 2) := by decide +kernel
theorem dX6_init_15 : decode cX6_init 15 = .ok (.newarray .int, 2) := by decide +kernel
theorem dX6_init_17 : decode cX6_init 17 = .ok (.putfield 13, 3) := by decide +kernel
theorem dX6_init_20 : decode cX6_init 20 = .ok (.aload_n 0, 1) := by decide +kernel
theorem dX6_init_21 : decode cX6_init 21 = .ok (.sipush 320, 3) := by decide +kernel
theorem dX6_init_24 : decode cX6_init 24 = .ok (.newarray .int, 2) := by decide +kernel
theorem dX6_init_26 : decode cX6_init 26 = .ok (.putfield 16, 3) := by decide +kernel
theorem dX6_init_29 : decode cX6_init 29 = .ok (.aload_n 0, 1) := by decide +kernel
theorem dX6_init_30 : decode cX6_init 30 = .ok (.bipush 40, 2) := by decide +kernel
theorem dX6_init_32 : decode cX6_init 32 = .ok (.newarray .int, 2) := by decide +kernel
theorem dX6_init_34 : decode cX6_init 34 = .ok (.putfield 19, 3) := by decide +kernel
theorem dX6_init_37 : decode cX6_init 37 = .ok (.aload_n 0, 1) := by decide +kernel
theorem dX6_init_38 : decode cX6_init 38 = .ok (.bipush 90, 2) := by decide +kernel
theorem dX6_init_40 : decode cX6_init 40 = .ok (.newarray .int, 2) := by decide +kernel
theorem dX6_init_42 : decode cX6_init 42 = .ok (.putfield 22, 3) := by decide +kernel
theorem dX6_init_45 : decode cX6_init 45 = .ok (.aload_n 0, 1) := by decide +kernel
theorem dX6_init_46 : decode cX6_init 46 = .ok (.bipush 54, 2) := by decide +kernel
theorem dX6_init_48 : decode cX6_init 48 = .ok (.newarray .int, 2) := by decide +kernel
theorem dX6_init_50 : decode cX6_init 50 = .ok (.putfield 25, 3) := by decide +kernel
theorem dX6_init_53 : decode cX6_init 53 = .ok (.aload_n 0, 1) := by decide +kernel
theorem dX6_init_54 : decode cX6_init 54 = .ok (.bipush 54, 2) := by decide +kernel
theorem dX6_init_56 : decode cX6_init 56 = .ok (.newarray .int, 2) := by decide +kernel
theorem dX6_init_58 : decode cX6_init 58 = .ok (.putfield 28, 3) := by decide +kernel
theorem dX6_init_61 : decode cX6_init 61 = .ok (.aload_n 0, 1) := by decide +kernel
theorem dX6_init_62 : decode cX6_init 62 = .ok (.bipush 54, 2) := by decide +kernel
theorem dX6_init_64 : decode cX6_init 64 = .ok (.newarray .int, 2) := by decide +kernel
theorem dX6_init_66 : decode cX6_init 66 = .ok (.putfield 31, 3) := by decide +kernel
theorem dX6_init_69 : decode cX6_init 69 = .ok (.aload_n 0, 1) := by decide +kernel
theorem dX6_init_70 : decode cX6_init 70 = .ok (.sipush 1296, 3) := by decide +kernel
theorem dX6_init_73 : decode cX6_init 73 = .ok (.newarray .int, 2) := by decide +kernel
theorem dX6_init_75 : decode cX6_init 75 = .ok (.putfield 34, 3) := by decide +kernel
theorem dX6_init_78 : decode cX6_init 78 = .ok (.aload_n 0, 1) := by decide +kernel
theorem dX6_init_79 : decode cX6_init 79 = .ok (.bipush 108, 2) := by decide +kernel
theorem dX6_init_81 : decode cX6_init 81 = .ok (.newarray .int, 2) := by decide +kernel
theorem dX6_init_83 : decode cX6_init 83 = .ok (.putfield 37, 3) := by decide +kernel
theorem dX6_init_86 : decode cX6_init 86 = .ok (.aload_n 0, 1) := by decide +kernel
theorem dX6_init_87 : decode cX6_init 87 = .ok (.iconst 2, 1) := by decide +kernel
theorem dX6_init_88 : decode cX6_init 88 = .ok (.newarray .boolean, 2) := by decide +kernel
theorem dX6_init_90 : decode cX6_init 90 = .ok (.putfield 40, 3) := by decide +kernel
theorem dX6_init_93 : decode cX6_init 93 = .ok (.aload_n 0, 1) := by decide +kernel
theorem dX6_init_94 : decode cX6_init 94 = .ok (.iconst 5, 1) := by decide +kernel
theorem dX6_init_95 : decode cX6_init 95 = .ok (.newarray .int, 2) := by decide +kernel
theorem dX6_init_97 : decode cX6_init 97 = .ok (.putfield 44, 3) := by decide +kernel
theorem dX6_init_100 : decode cX6_init 100 = .ok (.aload_n 0, 1) := by decide +kernel
theorem dX6_init_101 : decode cX6_init 101 = .ok (.bipush 16, 2) := by decide +kernel
theorem dX6_init_103 : decode cX6_init 103 = .ok (.newarray .int, 2) := by decide +kernel
theorem dX6_init_105 : decode cX6_init 105 = .ok (.putfield 47, 3) := by decide +kernel
theorem dX6_init_108 : decode cX6_init 108 = .ok (.iconst 0, 1) := by decide +kernel
theorem dX6_init_109 : decode cX6_init 109 = .ok (.istore_n 1, 1) := by decide +kernel
theorem dX6_init_110 : decode cX6_init 110 = .ok (.iload_n 1, 1) := by decide +kernel
theorem dX6_init_111 : decode cX6_init 111 = .ok (.bipush 8, 2) := by decide +kernel
theorem dX6_init_113 : decode cX6_init 113 = .ok (.if_icmp .ge 17, 3) := by decide +kernel
theorem dX6_init_116 : decode cX6_init 116 = .ok (.aload_n 0, 1) := by decide +kernel
theorem dX6_init_117 : decode cX6_init 117 = .ok (.getfield 7, 3) := by decide +kernel
theorem dX6_init_120 : decode cX6_init 120 = .ok (.iload_n 1, 1) := by decide +kernel
theorem dX6_init_121 : decode cX6_init 121 = .ok (.ldc 50, 2) := by decide +kernel
theorem dX6_init_123 : decode cX6_init 123 = .ok (.iastore, 1) := by decide +kernel
theorem dX6_init_124 : decode cX6_init 124 = .ok (.iinc 1 1, 3) := by decide +kernel
theorem dX6_init_127 : decode cX6_init 127 = .ok (.goto (-17), 3) := by decide +kernel
theorem dX6_init_130 : decode cX6_init 130 = .ok (.return_, 1) := by decide +kernel
theorem dX6_in_0 : decode cX6_in 0 = .ok (.iload_n 0, 1) := by decide +kernel
theorem dX6_in_1 : decode cX6_in 1 = .ok (.iload_n 1, 1) := by decide +kernel
theorem dX6_in_2 : decode cX6_in 2 = .ok (.if_icmp .lt 12, 3) := by decide +kernel
theorem dX6_in_5 : decode cX6_in 5 = .ok (.iload_n 0, 1) := by decide +kernel
theorem dX6_in_6 : decode cX6_in 6 = .ok (.iload_n 2, 1) := by decide +kernel
theorem dX6_in_7 : decode cX6_in 7 = .ok (.if_icmp .gt 7, 3) := by decide +kernel
theorem dX6_in_10 : decode cX6_in 10 = .ok (.iconst 1, 1) := by decide +kernel
theorem dX6_in_11 : decode cX6_in 11 = .ok (.goto 4, 3) := by decide +kernel
theorem dX6_in_14 : decode cX6_in 14 = .ok (.iconst 0, 1) := by decide +kernel
theorem dX6_in_15 : decode cX6_in 15 = .ok (.ireturn, 1) := by decide +kernel
theorem dX6_has_0 : decode cX6_has 0 = .ok (.iload_n 0, 1) := by decide +kernel
theorem dX6_has_1 : decode cX6_has 1 = .ok (.iload_n 1, 1) := by decide +kernel
theorem dX6_has_2 : decode cX6_has 2 = .ok (.ishr, 1) := by decide +kernel
theorem dX6_has_3 : decode cX6_has 3 = .ok (.iconst 1, 1) := by decide +kernel
theorem dX6_has_4 : decode cX6_has 4 = .ok (.iand, 1) := by decide +kernel
theorem dX6_has_5 : decode cX6_has 5 = .ok (.iconst 1, 1) := by decide +kernel
theorem dX6_has_6 : decode cX6_has 6 = .ok (.if_icmp .ne 7, 3) := by decide +kernel
theorem dX6_has_9 : decode cX6_has 9 = .ok (.iconst 1, 1) := by decide +kernel
theorem dX6_has_10 : decode cX6_has 10 = .ok (.goto 4, 3) := by decide +kernel
theorem dX6_has_13 : decode cX6_has 13 = .ok (.iconst 0, 1) := by decide +kernel
theorem dX6_has_14 : decode cX6_has 14 = .ok (.ireturn, 1) := by decide +kernel
theorem dX6_ones_0 : decode cX6_ones 0 = .ok (.iconst 0, 1) := by decide +kernel
theorem dX6_ones_1 : decode cX6_ones 1 = .ok (.istore_n 1, 1) := by decide +kernel
theorem dX6_ones_2 : decode cX6_ones 2 = .ok (.iconst 0, 1) := by decide +kernel
theorem dX6_ones_3 : decode cX6_ones 3 = .ok (.istore_n 2, 1) := by decide +kernel
theorem dX6_ones_4 : decode cX6_ones 4 = .ok (.iload_n 2, 1) := by decide +kernel
theorem dX6_ones_5 : decode cX6_ones 5 = .ok (.bipush 9, 2) := by decide +kernel
theorem dX6_ones_7 : decode cX6_ones 7 = .ok (.if_icmp .ge 17, 3) := by decide +kernel
theorem dX6_ones_10 : decode cX6_ones 10 = .ok (.iload_n 1, 1) := by decide +kernel
theorem dX6_ones_11 : decode cX6_ones 11 = .ok (.iload_n 0, 1) := by decide +kernel
theorem dX6_ones_12 : decode cX6_ones 12 = .ok (.iload_n 2, 1) := by decide +kernel
theorem dX6_ones_13 : decode cX6_ones 13 = .ok (.ishr, 1) := by decide +kernel
theorem dX6_ones_14 : decode cX6_ones 14 = .ok (.iconst 1, 1) := by decide +kernel
theorem dX6_ones_15 : decode cX6_ones 15 = .ok (.iand, 1) := by decide +kernel
theorem dX6_ones_16 : decode cX6_ones 16 = .ok (.iadd, 1) := by decide +kernel
theorem dX6_ones_17 : decode cX6_ones 17 = .ok (.istore_n 1, 1) := by decide +kernel
theorem dX6_ones_18 : decode cX6_ones 18 = .ok (.iinc 2 1, 3) := by decide +kernel
theorem dX6_ones_21 : decode cX6_ones 21 = .ok (.goto (-17), 3) := by decide +kernel
theorem dX6_ones_24 : decode cX6_ones 24 = .ok (.iload_n 1, 1) := by decide +kernel
theorem dX6_ones_25 : decode cX6_ones 25 = .ok (.ireturn, 1) := by decide +kernel
theorem dX6_found_0 : decode cX6_found 0 = .ok (.aload_n 0, 1) := by decide +kernel
theorem dX6_found_1 : decode cX6_found 1 = .ok (.iload_n 1, 1) := by decide +kernel
theorem dX6_found_2 : decode cX6_found 2 = .ok (.putfield 51, 3) := by decide +kernel
theorem dX6_found_5 : decode cX6_found 5 = .ok (.ldc 55, 2) := by decide +kernel
theorem dX6_found_7 : decode cX6_found 7 = .ok (.iload_n 1, 1) := by decide +kernel
theorem dX6_found_8 : decode cX6_found 8 = .ok (.isub, 1) := by decide +kernel
theorem dX6_found_9 : decode cX6_found 9 = .ok (.ireturn, 1) := by decide +kernel
theorem dX6_well_0 : decode cX6_well 0 = .ok (.aload_n 0, 1) := by decide +kernel
theorem dX6_well_1 : decode cX6_well 1 = .ok (.iconst 0, 1) := by decide +kernel
theorem dX6_well_2 : decode cX6_well 2 = .ok (.putfield 51, 3) := by decide +kernel
theorem dX6_well_5 : decode cX6_well 5 = .ok (.iload_n 1, 1) := by decide +kernel
theorem dX6_well_6 : decode cX6_well 6 = .ok (.ireturn, 1) := by decide +kernel
theorem dX6_copies_0 : decode cX6_copies 0 = .ok (.iconst 0, 1) := by decide +kernel
theorem dX6_copies_1 : decode cX6_copies 1 = .ok (.istore 4, 2) := by decide +kernel
theorem dX6_copies_3 : decode cX6_copies 3 = .ok (.iload 4, 2) := by decide +kernel
theorem dX6_copies_5 : decode cX6_copies 5 = .ok (.bipush 54, 2) := by decide +kernel
theorem dX6_copies_7 : decode cX6_copies 7 = .ok (.if_icmp .ge 21, 3) := by decide +kernel
theorem dX6_copies_10 : decode cX6_copies 10 = .ok (.aload_n 2, 1) := by decide +kernel
theorem dX6_copies_11 : decode cX6_copies 11 = .ok (.iload_n 3, 1) := by decide +kernel
theorem dX6_copies_12 : decode cX6_copies 12 = .ok (.iload 4, 2) := by decide +kernel
theorem dX6_copies_14 : decode cX6_copies 14 = .ok (.iadd, 1) := by decide +kernel
theorem dX6_copies_15 : decode cX6_copies 15 = .ok (.aload_n 0, 1) := by decide +kernel
theorem dX6_copies_16 : decode cX6_copies 16 = .ok (.iload_n 1, 1) := by decide +kernel
theorem dX6_copies_17 : decode cX6_copies 17 = .ok (.iload 4, 2) := by decide +kernel
theorem dX6_copies_19 : decode cX6_copies 19 = .ok (.iadd, 1) := by decide +kernel
theorem dX6_copies_20 : decode cX6_copies 20 = .ok (.iaload, 1) := by decide +kernel
theorem dX6_copies_21 : decode cX6_copies 21 = .ok (.iastore, 1) := by decide +kernel
theorem dX6_copies_22 : decode cX6_copies 22 = .ok (.iinc 4 1, 3) := by decide +kernel
theorem dX6_copies_25 : decode cX6_copies 25 = .ok (.goto (-22), 3) := by decide +kernel
theorem dX6_copies_28 : decode cX6_copies 28 = .ok (.return_, 1) := by decide +kernel
set_option maxRecDepth 20000 in
theorem ggX6_isRow_X6_in : GoodIn wsX6_isRow wsX6_in := goodIn_ids iaX6_isRow iaX6_in haX6_isRow haX6_in imX6_isRow hmX6_isRow (by decide +kernel) (by decide +kernel)
set_option maxRecDepth 20000 in
theorem gX6_isRow_X6_in : GoodIn wsX6_isRow (va_wsS RX6 56 yX6_in wsX6_in) := goodIn_app (goodIn_ids iaX6_isRow [929, 930, 77] haX6_isRow rfl imX6_isRow hmX6_isRow (by decide +kernel) (by decide +kernel)) ggX6_isRow_X6_in
theorem dX6_isRow_0 : decode cX6_isRow 0 = .ok (.iload_n 0, 1) := by decide +kernel
theorem dX6_isRow_1 : decode cX6_isRow 1 = .ok (.iconst 0, 1) := by decide +kernel
theorem dX6_isRow_2 : decode cX6_isRow 2 = .ok (.bipush 7, 2) := by decide +kernel
theorem dX6_isRow_4 : decode cX6_isRow 4 = .ok (.invokestatic 56, 3) := by decide +kernel
theorem dX6_isRow_7 : decode cX6_isRow 7 = .ok (.ireturn, 1) := by decide +kernel
theorem dX6_isMissing_0 : decode cX6_isMissing 0 = .ok (.aload_n 0, 1) := by decide +kernel
theorem dX6_isMissing_1 : decode cX6_isMissing 1 = .ok (.getfield 7, 3) := by decide +kernel
theorem dX6_isMissing_4 : decode cX6_isMissing 4 = .ok (.iload_n 1, 1) := by decide +kernel
theorem dX6_isMissing_5 : decode cX6_isMissing 5 = .ok (.iaload, 1) := by decide +kernel
theorem dX6_isMissing_6 : decode cX6_isMissing 6 = .ok (.ldc 50, 2) := by decide +kernel
theorem dX6_isMissing_8 : decode cX6_isMissing 8 = .ok (.if_icmp .ne 7, 3) := by decide +kernel
theorem dX6_isMissing_11 : decode cX6_isMissing 11 = .ok (.iconst 1, 1) := by decide +kernel
theorem dX6_isMissing_12 : decode cX6_isMissing 12 = .ok (.goto 4, 3) := by decide +kernel
theorem dX6_isMissing_15 : decode cX6_isMissing 15 = .ok (.iconst 0, 1) := by decide +kernel
theorem dX6_isMissing_16 : decode cX6_isMissing 16 = .ok (.ireturn, 1) := by decide +kernel
theorem dX6_cut_0 : decode cX6_cut 0 = .ok (.iload_n 0, 1) := by decide +kernel
theorem dX6_cut_1 : decode cX6_cut 1 = .ok (.ifCond .ne 13, 3) := by decide +kernel
theorem dX6_cut_4 : decode cX6_cut 4 = .ok (.iload_n 1, 1) := by decide +kernel
theorem dX6_cut_5 : decode cX6_cut 5 = .ok (.bipush 24, 2) := by decide +kernel
theorem dX6_cut_7 : decode cX6_cut 7 = .ok (.ishl, 1) := by decide +kernel
theorem dX6_cut_8 : decode cX6_cut 8 = .ok (.bipush 24, 2) := by decide +kernel
theorem dX6_cut_10 : decode cX6_cut 10 = .ok (.ishr, 1) := by decide +kernel
theorem dX6_cut_11 : decode cX6_cut 11 = .ok (.goto 19, 3) := by decide +kernel
theorem dX6_cut_14 : decode cX6_cut 14 = .ok (.iload_n 0, 1) := by decide +kernel
theorem dX6_cut_15 : decode cX6_cut 15 = .ok (.iconst 1, 1) := by decide +kernel
theorem dX6_cut_16 : decode cX6_cut 16 = .ok (.if_icmp .ne 13, 3) := by decide +kernel
theorem dX6_cut_19 : decode cX6_cut 19 = .ok (.iload_n 1, 1) := by decide +kernel
theorem dX6_cut_20 : decode cX6_cut 20 = .ok (.bipush 16, 2) := by decide +kernel
theorem dX6_cut_22 : decode cX6_cut 22 = .ok (.ishl, 1) := by decide +kernel
theorem dX6_cut_23 : decode cX6_cut 23 = .ok (.bipush 16, 2) := by decide +kernel
theorem dX6_cut_25 : decode cX6_cut 25 = .ok (.ishr, 1) := by decide +kernel
theorem dX6_cut_26 : decode cX6_cut 26 = .ok (.goto 4, 3) := by decide +kernel
theorem dX6_cut_29 : decode cX6_cut 29 = .ok (.iload_n 1, 1) := by decide +kernel
theorem dX6_cut_30 : decode cX6_cut 30 = .ok (.ireturn, 1) := by decide +kernel
set_option maxRecDepth 20000 in
theorem ggX6_row_X6_isRow : GoodIn wsX6_row wsX6_isRow := goodIn_ids iaX6_row iaX6_isRow haX6_row haX6_isRow imX6_row hmX6_row (by decide +kernel) (by decide +kernel)
set_option maxRecDepth 20000 in
theorem gX6_row_X6_isRow : GoodIn wsX6_row (va_wsS RX6 60 yX6_isRow wsX6_isRow) := goodIn_app (goodIn_ids iaX6_row [926, 927, 77] haX6_row rfl imX6_row hmX6_row (by decide +kernel) (by decide +kernel)) ggX6_row_X6_isRow
set_option maxRecDepth 20000 in
theorem ggX6_row_X6_in : GoodIn wsX6_row wsX6_in := goodIn_ids iaX6_row iaX6_in haX6_row haX6_in imX6_row hmX6_row (by decide +kernel) (by decide +kernel)
set_option maxRecDepth 20000 in
theorem gX6_row_X6_in : GoodIn wsX6_row (va_wsS RX6 56 yX6_in wsX6_in) := goodIn_app (goodIn_ids iaX6_row [929, 930, 77] haX6_row rfl imX6_row hmX6_row (by decide +kernel) (by decide +kernel)) ggX6_row_X6_in
set_option maxRecDepth 20000 in
theorem ggX6_row_X6_found : GoodIn wsX6_row wsX6_found := goodIn_ids iaX6_row iaX6_found haX6_row haX6_found imX6_row hmX6_row (by decide +kernel) (by decide +kernel)
set_option maxRecDepth 20000 in
theorem gX6_row_X6_found : GoodIn wsX6_row (wsV RX6 65 RX6 yX6_found wsX6_found) := goodIn_app (goodIn_ids iaX6_row [933, 935, 37, 77] haX6_row rfl imX6_row hmX6_row (by decide +kernel) (by decide +kernel)) ggX6_row_X6_found
set_option maxRecDepth 20000 in
theorem ggX6_row_X6_well : GoodIn wsX6_row wsX6_well := goodIn_ids iaX6_row iaX6_well haX6_row haX6_well imX6_row hmX6_row (by decide +kernel) (by decide +kernel)
set_option maxRecDepth 20000 in
theorem gX6_row_X6_well : GoodIn wsX6_row (wsV RX6 69 RX6 yX6_well wsX6_well) := goodIn_app (goodIn_ids iaX6_row [938, 940, 38, 77] haX6_row rfl imX6_row hmX6_row (by decide +kernel) (by decide +kernel)) ggX6_row_X6_well
theorem dX6_row_0 : decode cX6_row 0 = .ok (.iload_n 1, 1) := by decide +kernel
theorem dX6_row_1 : decode cX6_row 1 = .ok (.invokestatic 60, 3) := by decide +kernel
theorem dX6_row_4 : decode cX6_row 4 = .ok (.ifCond .eq 18, 3) := by decide +kernel
theorem dX6_row_7 : decode cX6_row 7 = .ok (.iload_n 2, 1) := by decide +kernel
theorem dX6_row_8 : decode cX6_row 8 = .ok (.iconst 0, 1) := by decide +kernel
theorem dX6_row_9 : decode cX6_row 9 = .ok (.iconst 2, 1) := by decide +kernel
theorem dX6_row_10 : decode cX6_row 10 = .ok (.invokestatic 56, 3) := by decide +kernel
theorem dX6_row_13 : decode cX6_row 13 = .ok (.ifCond .eq 9, 3) := by decide +kernel
theorem dX6_row_16 : decode cX6_row 16 = .ok (.iload_n 3, 1) := by decide +kernel
theorem dX6_row_17 : decode cX6_row 17 = .ok (.bipush 40, 2) := by decide +kernel
theorem dX6_row_19 : decode cX6_row 19 = .ok (.if_icmp .le 6, 3) := by decide +kernel
theorem dX6_row_22 : decode cX6_row 22 = .ok (.ldc 64, 2) := by decide +kernel
theorem dX6_row_24 : decode cX6_row 24 = .ok (.ireturn, 1) := by decide +kernel
theorem dX6_row_25 : decode cX6_row 25 = .ok (.iload_n 3, 1) := by decide +kernel
theorem dX6_row_26 : decode cX6_row 26 = .ok (.ifCond .ge 9, 3) := by decide +kernel
theorem dX6_row_29 : decode cX6_row 29 = .ok (.aload_n 0, 1) := by decide +kernel
theorem dX6_row_30 : decode cX6_row 30 = .ok (.iconst 4, 1) := by decide +kernel
theorem dX6_row_31 : decode cX6_row 31 = .ok (.invokevirtual 65, 3) := by decide +kernel
theorem dX6_row_34 : decode cX6_row 34 = .ok (.ireturn, 1) := by decide +kernel
theorem dX6_row_35 : decode cX6_row 35 = .ok (.aload_n 0, 1) := by decide +kernel
theorem dX6_row_36 : decode cX6_row 36 = .ok (.getfield 7, 3) := by decide +kernel
theorem dX6_row_39 : decode cX6_row 39 = .ok (.iload_n 1, 1) := by decide +kernel
theorem dX6_row_40 : decode cX6_row 40 = .ok (.iload_n 2, 1) := by decide +kernel
theorem dX6_row_41 : decode cX6_row 41 = .ok (.iastore, 1) := by decide +kernel
theorem dX6_row_42 : decode cX6_row 42 = .ok (.aload_n 0, 1) := by decide +kernel
theorem dX6_row_43 : decode cX6_row 43 = .ok (.getfield 13, 3) := by decide +kernel
theorem dX6_row_46 : decode cX6_row 46 = .ok (.iload_n 1, 1) := by decide +kernel
theorem dX6_row_47 : decode cX6_row 47 = .ok (.iload_n 3, 1) := by decide +kernel
theorem dX6_row_48 : decode cX6_row 48 = .ok (.iastore, 1) := by decide +kernel
theorem dX6_row_49 : decode cX6_row 49 = .ok (.iconst 0, 1) := by decide +kernel
theorem dX6_row_50 : decode cX6_row 50 = .ok (.istore 4, 2) := by decide +kernel
theorem dX6_row_52 : decode cX6_row 52 = .ok (.iload 4, 2) := by decide +kernel
theorem dX6_row_54 : decode cX6_row 54 = .ok (.bipush 40, 2) := by decide +kernel
theorem dX6_row_56 : decode cX6_row 56 = .ok (.if_icmp .ge 22, 3) := by decide +kernel
theorem dX6_row_59 : decode cX6_row 59 = .ok (.aload_n 0, 1) := by decide +kernel
theorem dX6_row_60 : decode cX6_row 60 = .ok (.getfield 16, 3) := by decide +kernel
theorem dX6_row_63 : decode cX6_row 63 = .ok (.bipush 40, 2) := by decide +kernel
theorem dX6_row_65 : decode cX6_row 65 = .ok (.iload_n 1, 1) := by decide +kernel
theorem dX6_row_66 : decode cX6_row 66 = .ok (.imul, 1) := by decide +kernel
theorem dX6_row_67 : decode cX6_row 67 = .ok (.iload 4, 2) := by decide +kernel
theorem dX6_row_69 : decode cX6_row 69 = .ok (.iadd, 1) := by decide +kernel
theorem dX6_row_70 : decode cX6_row 70 = .ok (.iconst 0, 1) := by decide +kernel
theorem dX6_row_71 : decode cX6_row 71 = .ok (.iastore, 1) := by decide +kernel
theorem dX6_row_72 : decode cX6_row 72 = .ok (.iinc 4 1, 3) := by decide +kernel
theorem dX6_row_75 : decode cX6_row 75 = .ok (.goto (-23), 3) := by decide +kernel
theorem dX6_row_78 : decode cX6_row 78 = .ok (.aload_n 0, 1) := by decide +kernel
theorem dX6_row_79 : decode cX6_row 79 = .ok (.iload_n 3, 1) := by decide +kernel
theorem dX6_row_80 : decode cX6_row 80 = .ok (.invokevirtual 69, 3) := by decide +kernel
theorem dX6_row_83 : decode cX6_row 83 = .ok (.ireturn, 1) := by decide +kernel
set_option maxRecDepth 20000 in
theorem ggX6_set_X6_isRow : GoodIn wsX6_set wsX6_isRow := goodIn_ids iaX6_set iaX6_isRow haX6_set haX6_isRow imX6_set hmX6_set (by decide +kernel) (by decide +kernel)
set_option maxRecDepth 20000 in
theorem gX6_set_X6_isRow : GoodIn wsX6_set (va_wsS RX6 60 yX6_isRow wsX6_isRow) := goodIn_app (goodIn_ids iaX6_set [926, 927, 77] haX6_set rfl imX6_set hmX6_set (by decide +kernel) (by decide +kernel)) ggX6_set_X6_isRow
set_option maxRecDepth 20000 in
theorem ggX6_set_X6_isMissing : GoodIn wsX6_set wsX6_isMissing := goodIn_ids iaX6_set iaX6_isMissing haX6_set haX6_isMissing imX6_set hmX6_set (by decide +kernel) (by decide +kernel)
set_option maxRecDepth 20000 in
theorem gX6_set_X6_isMissing : GoodIn wsX6_set (wsV RX6 72 RX6 yX6_isMissing wsX6_isMissing) := goodIn_app (goodIn_ids iaX6_set [946, 948, 39, 77] haX6_set rfl imX6_set hmX6_set (by decide +kernel) (by decide +kernel)) ggX6_set_X6_isMissing
set_option maxRecDepth 20000 in
theorem ggX6_set_X6_found : GoodIn wsX6_set wsX6_found := goodIn_ids iaX6_set iaX6_found haX6_set haX6_found imX6_set hmX6_set (by decide +kernel) (by decide +kernel)
set_option maxRecDepth 20000 in
theorem gX6_set_X6_found : GoodIn wsX6_set (wsV RX6 65 RX6 yX6_found wsX6_found) := goodIn_app (goodIn_ids iaX6_set [933, 935, 37, 77] haX6_set rfl imX6_set hmX6_set (by decide +kernel) (by decide +kernel)) ggX6_set_X6_found
set_option maxRecDepth 20000 in
theorem ggX6_set_X6_in : GoodIn wsX6_set wsX6_in := goodIn_ids iaX6_set iaX6_in haX6_set haX6_in imX6_set hmX6_set (by decide +kernel) (by decide +kernel)
set_option maxRecDepth 20000 in
theorem gX6_set_X6_in : GoodIn wsX6_set (va_wsS RX6 56 yX6_in wsX6_in) := goodIn_app (goodIn_ids iaX6_set [929, 930, 77] haX6_set rfl imX6_set hmX6_set (by decide +kernel) (by decide +kernel)) ggX6_set_X6_in
set_option maxRecDepth 20000 in
theorem ggX6_set_X6_cut : GoodIn wsX6_set wsX6_cut := goodIn_ids iaX6_set iaX6_cut haX6_set haX6_cut imX6_set hmX6_set (by decide +kernel) (by decide +kernel)
set_option maxRecDepth 20000 in
theorem gX6_set_X6_cut : GoodIn wsX6_set (va_wsS RX6 75 yX6_cut wsX6_cut) := goodIn_app (goodIn_ids iaX6_set [950, 951, 77] haX6_set rfl imX6_set hmX6_set (by decide +kernel) (by decide +kernel)) ggX6_set_X6_cut
set_option maxRecDepth 20000 in
theorem ggX6_set_X6_well : GoodIn wsX6_set wsX6_well := goodIn_ids iaX6_set iaX6_well haX6_set haX6_well imX6_set hmX6_set (by decide +kernel) (by decide +kernel)
set_option maxRecDepth 20000 in
theorem gX6_set_X6_well : GoodIn wsX6_set (wsV RX6 69 RX6 yX6_well wsX6_well) := goodIn_app (goodIn_ids iaX6_set [938, 940, 38, 77] haX6_set rfl imX6_set hmX6_set (by decide +kernel) (by decide +kernel)) ggX6_set_X6_well
theorem dX6_set_0 : decode cX6_set 0 = .ok (.iload_n 1, 1) := by decide +kernel
theorem dX6_set_1 : decode cX6_set 1 = .ok (.invokestatic 60, 3) := by decide +kernel
theorem dX6_set_4 : decode cX6_set 4 = .ok (.ifCond .ne 6, 3) := by decide +kernel
theorem dX6_set_7 : decode cX6_set 7 = .ok (.ldc 64, 2) := by decide +kernel
theorem dX6_set_9 : decode cX6_set 9 = .ok (.ireturn, 1) := by decide +kernel
theorem dX6_set_10 : decode cX6_set 10 = .ok (.aload_n 0, 1) := by decide +kernel
theorem dX6_set_11 : decode cX6_set 11 = .ok (.iload_n 1, 1) := by decide +kernel
theorem dX6_set_12 : decode cX6_set 12 = .ok (.invokevirtual 72, 3) := by decide +kernel
theorem dX6_set_15 : decode cX6_set 15 = .ok (.ifCond .eq 9, 3) := by decide +kernel
theorem dX6_set_18 : decode cX6_set 18 = .ok (.aload_n 0, 1) := by decide +kernel
theorem dX6_set_19 : decode cX6_set 19 = .ok (.iconst 1, 1) := by decide +kernel
theorem dX6_set_20 : decode cX6_set 20 = .ok (.invokevirtual 65, 3) := by decide +kernel
theorem dX6_set_23 : decode cX6_set 23 = .ok (.ireturn, 1) := by decide +kernel
theorem dX6_set_24 : decode cX6_set 24 = .ok (.iload_n 2, 1) := by decide +kernel
theorem dX6_set_25 : decode cX6_set 25 = .ok (.iconst 0, 1) := by decide +kernel
theorem dX6_set_26 : decode cX6_set 26 = .ok (.aload_n 0, 1) := by decide +kernel
theorem dX6_set_27 : decode cX6_set 27 = .ok (.getfield 13, 3) := by decide +kernel
theorem dX6_set_30 : decode cX6_set 30 = .ok (.iload_n 1, 1) := by decide +kernel
theorem dX6_set_31 : decode cX6_set 31 = .ok (.iaload, 1) := by decide +kernel
theorem dX6_set_32 : decode cX6_set 32 = .ok (.iconst 1, 1) := by decide +kernel
theorem dX6_set_33 : decode cX6_set 33 = .ok (.isub, 1) := by decide +kernel
theorem dX6_set_34 : decode cX6_set 34 = .ok (.invokestatic 56, 3) := by decide +kernel
theorem dX6_set_37 : decode cX6_set 37 = .ok (.ifCond .ne 9, 3) := by decide +kernel
theorem dX6_set_40 : decode cX6_set 40 = .ok (.aload_n 0, 1) := by decide +kernel
theorem dX6_set_41 : decode cX6_set 41 = .ok (.iconst 2, 1) := by decide +kernel
theorem dX6_set_42 : decode cX6_set 42 = .ok (.invokevirtual 65, 3) := by decide +kernel
theorem dX6_set_45 : decode cX6_set 45 = .ok (.ireturn, 1) := by decide +kernel
theorem dX6_set_46 : decode cX6_set 46 = .ok (.aload_n 0, 1) := by decide +kernel
theorem dX6_set_47 : decode cX6_set 47 = .ok (.getfield 16, 3) := by decide +kernel
theorem dX6_set_50 : decode cX6_set 50 = .ok (.bipush 40, 2) := by decide +kernel
theorem dX6_set_52 : decode cX6_set 52 = .ok (.iload_n 1, 1) := by decide +kernel
theorem dX6_set_53 : decode cX6_set 53 = .ok (.imul, 1) := by decide +kernel
theorem dX6_set_54 : decode cX6_set 54 = .ok (.iload_n 2, 1) := by decide +kernel
theorem dX6_set_55 : decode cX6_set 55 = .ok (.iadd, 1) := by decide +kernel
theorem dX6_set_56 : decode cX6_set 56 = .ok (.aload_n 0, 1) := by decide +kernel
theorem dX6_set_57 : decode cX6_set 57 = .ok (.getfield 7, 3) := by decide +kernel
theorem dX6_set_60 : decode cX6_set 60 = .ok (.iload_n 1, 1) := by decide +kernel
theorem dX6_set_61 : decode cX6_set 61 = .ok (.iaload, 1) := by decide +kernel
theorem dX6_set_62 : decode cX6_set 62 = .ok (.iload_n 3, 1) := by decide +kernel
theorem dX6_set_63 : decode cX6_set 63 = .ok (.invokestatic 75, 3) := by decide +kernel
theorem dX6_set_66 : decode cX6_set 66 = .ok (.iastore, 1) := by decide +kernel
theorem dX6_set_67 : decode cX6_set 67 = .ok (.aload_n 0, 1) := by decide +kernel
theorem dX6_set_68 : decode cX6_set 68 = .ok (.aload_n 0, 1) := by decide +kernel
theorem dX6_set_69 : decode cX6_set 69 = .ok (.getfield 16, 3) := by decide +kernel
theorem dX6_set_72 : decode cX6_set 72 = .ok (.bipush 40, 2) := by decide +kernel
theorem dX6_set_74 : decode cX6_set 74 = .ok (.iload_n 1, 1) := by decide +kernel
theorem dX6_set_75 : decode cX6_set 75 = .ok (.imul, 1) := by decide +kernel
theorem dX6_set_76 : decode cX6_set 76 = .ok (.iload_n 2, 1) := by decide +kernel
theorem dX6_set_77 : decode cX6_set 77 = .ok (.iadd, 1) := by decide +kernel
theorem dX6_set_78 : decode cX6_set 78 = .ok (.iaload, 1) := by decide +kernel
theorem dX6_set_79 : decode cX6_set 79 = .ok (.invokevirtual 69, 3) := by decide +kernel
theorem dX6_set_82 : decode cX6_set 82 = .ok (.ireturn, 1) := by decide +kernel
theorem dX6_isPart_0 : decode cX6_isPart 0 = .ok (.iload_n 2, 1) := by decide +kernel
theorem dX6_isPart_1 : decode cX6_isPart 1 = .ok (.ifCond .lt 33, 3) := by decide +kernel
theorem dX6_isPart_4 : decode cX6_isPart 4 = .ok (.iload_n 3, 1) := by decide +kernel
theorem dX6_isPart_5 : decode cX6_isPart 5 = .ok (.ifCond .lt 29, 3) := by decide +kernel
theorem dX6_isPart_8 : decode cX6_isPart 8 = .ok (.iload_n 2, 1) := by decide +kernel
theorem dX6_isPart_9 : decode cX6_isPart 9 = .ok (.aload_n 0, 1) := by decide +kernel
theorem dX6_isPart_10 : decode cX6_isPart 10 = .ok (.getfield 13, 3) := by decide +kernel
theorem dX6_isPart_13 : decode cX6_isPart 13 = .ok (.iload_n 1, 1) := by decide +kernel
theorem dX6_isPart_14 : decode cX6_isPart 14 = .ok (.iaload, 1) := by decide +kernel
theorem dX6_isPart_15 : decode cX6_isPart 15 = .ok (.if_icmp .gt 19, 3) := by decide +kernel
theorem dX6_isPart_18 : decode cX6_isPart 18 = .ok (.iload_n 3, 1) := by decide +kernel
theorem dX6_isPart_19 : decode cX6_isPart 19 = .ok (.aload_n 0, 1) := by decide +kernel
theorem dX6_isPart_20 : decode cX6_isPart 20 = .ok (.getfield 13, 3) := by decide +kernel
theorem dX6_isPart_23 : decode cX6_isPart 23 = .ok (.iload_n 1, 1) := by decide +kernel
theorem dX6_isPart_24 : decode cX6_isPart 24 = .ok (.iaload, 1) := by decide +kernel
theorem dX6_isPart_25 : decode cX6_isPart 25 = .ok (.iload_n 2, 1) := by decide +kernel
theorem dX6_isPart_26 : decode cX6_isPart 26 = .ok (.isub, 1) := by decide +kernel
theorem dX6_isPart_27 : decode cX6_isPart 27 = .ok (.if_icmp .gt 7, 3) := by decide +kernel
theorem dX6_isPart_30 : decode cX6_isPart 30 = .ok (.iconst 1, 1) := by decide +kernel
theorem dX6_isPart_31 : decode cX6_isPart 31 = .ok (.goto 4, 3) := by decide +kernel
theorem dX6_isPart_34 : decode cX6_isPart 34 = .ok (.iconst 0, 1) := by decide +kernel
theorem dX6_isPart_35 : decode cX6_isPart 35 = .ok (.ireturn, 1) := by decide +kernel
set_option maxRecDepth 20000 in
theorem ggX6_copy_X6_isRow : GoodIn wsX6_copy wsX6_isRow := goodIn_ids iaX6_copy iaX6_isRow haX6_copy haX6_isRow imX6_copy hmX6_copy (by decide +kernel) (by decide +kernel)
set_option maxRecDepth 20000 in
theorem gX6_copy_X6_isRow : GoodIn wsX6_copy (va_wsS RX6 60 yX6_isRow wsX6_isRow) := goodIn_app (goodIn_ids iaX6_copy [926, 927, 77] haX6_copy rfl imX6_copy hmX6_copy (by decide +kernel) (by decide +kernel)) ggX6_copy_X6_isRow
set_option maxRecDepth 20000 in
theorem ggX6_copy_X6_isMissing : GoodIn wsX6_copy wsX6_isMissing := goodIn_ids iaX6_copy iaX6_isMissing haX6_copy haX6_isMissing imX6_copy hmX6_copy (by decide +kernel) (by decide +kernel)
set_option maxRecDepth 20000 in
theorem gX6_copy_X6_isMissing : GoodIn wsX6_copy (wsV RX6 72 RX6 yX6_isMissing wsX6_isMissing) := goodIn_app (goodIn_ids iaX6_copy [946, 948, 39, 77] haX6_copy rfl imX6_copy hmX6_copy (by decide +kernel) (by decide +kernel)) ggX6_copy_X6_isMissing
set_option maxRecDepth 20000 in
theorem ggX6_copy_X6_found : GoodIn wsX6_copy wsX6_found := goodIn_ids iaX6_copy iaX6_found haX6_copy haX6_found imX6_copy hmX6_copy (by decide +kernel) (by decide +kernel)
set_option maxRecDepth 20000 in
theorem gX6_copy_X6_found : GoodIn wsX6_copy (wsV RX6 65 RX6 yX6_found wsX6_found) := goodIn_app (goodIn_ids iaX6_copy [933, 935, 37, 77] haX6_copy rfl imX6_copy hmX6_copy (by decide +kernel) (by decide +kernel)) ggX6_copy_X6_found
set_option maxRecDepth 20000 in
theorem ggX6_copy_X6_isPart : GoodIn wsX6_copy wsX6_isPart := goodIn_ids iaX6_copy iaX6_isPart haX6_copy haX6_isPart imX6_copy hmX6_copy (by decide +kernel) (by decide +kernel)
set_option maxRecDepth 20000 in
theorem gX6_copy_X6_isPart : GoodIn wsX6_copy (wsV RX6 79 RX6 yX6_isPart wsX6_isPart) := goodIn_app (goodIn_ids iaX6_copy [957, 959, 40, 77] haX6_copy rfl imX6_copy hmX6_copy (by decide +kernel) (by decide +kernel)) ggX6_copy_X6_isPart
set_option maxRecDepth 20000 in
theorem ggX6_copy_X6_well : GoodIn wsX6_copy wsX6_well := goodIn_ids iaX6_copy iaX6_well haX6_copy haX6_well imX6_copy hmX6_copy (by decide +kernel) (by decide +kernel)
set_option maxRecDepth 20000 in
theorem gX6_copy_X6_well : GoodIn wsX6_copy (wsV RX6 69 RX6 yX6_well wsX6_well) := goodIn_app (goodIn_ids iaX6_copy [938, 940, 38, 77] haX6_copy rfl imX6_copy hmX6_copy (by decide +kernel) (by decide +kernel)) ggX6_copy_X6_well
theorem dX6_copy_0 : decode cX6_copy 0 = .ok (.iload_n 1, 1) := by decide +kernel
theorem dX6_copy_1 : decode cX6_copy 1 = .ok (.invokestatic 60, 3) := by decide +kernel
theorem dX6_copy_4 : decode cX6_copy 4 = .ok (.ifCond .eq 10, 3) := by decide +kernel
theorem dX6_copy_7 : decode cX6_copy 7 = .ok (.iload_n 3, 1) := by decide +kernel
theorem dX6_copy_8 : decode cX6_copy 8 = .ok (.invokestatic 60, 3) := by decide +kernel
theorem dX6_copy_11 : decode cX6_copy 11 = .ok (.ifCond .ne 6, 3) := by decide +kernel
theorem dX6_copy_14 : decode cX6_copy 14 = .ok (.ldc 64, 2) := by decide +kernel
theorem dX6_copy_16 : decode cX6_copy 16 = .ok (.ireturn, 1) := by decide +kernel
theorem dX6_copy_17 : decode cX6_copy 17 = .ok (.aload_n 0, 1) := by decide +kernel
theorem dX6_copy_18 : decode cX6_copy 18 = .ok (.iload_n 1, 1) := by decide +kernel
theorem dX6_copy_19 : decode cX6_copy 19 = .ok (.invokevirtual 72, 3) := by decide +kernel
theorem dX6_copy_22 : decode cX6_copy 22 = .ok (.ifCond .ne 11, 3) := by decide +kernel
theorem dX6_copy_25 : decode cX6_copy 25 = .ok (.aload_n 0, 1) := by decide +kernel
theorem dX6_copy_26 : decode cX6_copy 26 = .ok (.iload_n 3, 1) := by decide +kernel
theorem dX6_copy_27 : decode cX6_copy 27 = .ok (.invokevirtual 72, 3) := by decide +kernel
theorem dX6_copy_30 : decode cX6_copy 30 = .ok (.ifCond .eq 9, 3) := by decide +kernel
theorem dX6_copy_33 : decode cX6_copy 33 = .ok (.aload_n 0, 1) := by decide +kernel
theorem dX6_copy_34 : decode cX6_copy 34 = .ok (.iconst 1, 1) := by decide +kernel
theorem dX6_copy_35 : decode cX6_copy 35 = .ok (.invokevirtual 65, 3) := by decide +kernel
theorem dX6_copy_38 : decode cX6_copy 38 = .ok (.ireturn, 1) := by decide +kernel
theorem dX6_copy_39 : decode cX6_copy 39 = .ok (.aload_n 0, 1) := by decide +kernel
theorem dX6_copy_40 : decode cX6_copy 40 = .ok (.getfield 7, 3) := by decide +kernel
theorem dX6_copy_43 : decode cX6_copy 43 = .ok (.iload_n 1, 1) := by decide +kernel
theorem dX6_copy_44 : decode cX6_copy 44 = .ok (.iaload, 1) := by decide +kernel
theorem dX6_copy_45 : decode cX6_copy 45 = .ok (.aload_n 0, 1) := by decide +kernel
theorem dX6_copy_46 : decode cX6_copy 46 = .ok (.getfield 7, 3) := by decide +kernel
theorem dX6_copy_49 : decode cX6_copy 49 = .ok (.iload_n 3, 1) := by decide +kernel
theorem dX6_copy_50 : decode cX6_copy 50 = .ok (.iaload, 1) := by decide +kernel
theorem dX6_copy_51 : decode cX6_copy 51 = .ok (.if_icmp .eq 9, 3) := by decide +kernel
theorem dX6_copy_54 : decode cX6_copy 54 = .ok (.aload_n 0, 1) := by decide +kernel
theorem dX6_copy_55 : decode cX6_copy 55 = .ok (.iconst 5, 1) := by decide +kernel
theorem dX6_copy_56 : decode cX6_copy 56 = .ok (.invokevirtual 65, 3) := by decide +kernel
theorem dX6_copy_59 : decode cX6_copy 59 = .ok (.ireturn, 1) := by decide +kernel
theorem dX6_copy_60 : decode cX6_copy 60 = .ok (.aload_n 0, 1) := by decide +kernel
theorem dX6_copy_61 : decode cX6_copy 61 = .ok (.iload_n 1, 1) := by decide +kernel
theorem dX6_copy_62 : decode cX6_copy 62 = .ok (.iload_n 2, 1) := by decide +kernel
theorem dX6_copy_63 : decode cX6_copy 63 = .ok (.iload 5, 2) := by decide +kernel
theorem dX6_copy_65 : decode cX6_copy 65 = .ok (.invokevirtual 79, 3) := by decide +kernel
theorem dX6_copy_68 : decode cX6_copy 68 = .ok (.ifCond .eq 15, 3) := by decide +kernel
theorem dX6_copy_71 : decode cX6_copy 71 = .ok (.aload_n 0, 1) := by decide +kernel
theorem dX6_copy_72 : decode cX6_copy 72 = .ok (.iload_n 3, 1) := by decide +kernel
theorem dX6_copy_73 : decode cX6_copy 73 = .ok (.iload 4, 2) := by decide +kernel
theorem dX6_copy_75 : decode cX6_copy 75 = .ok (.iload 5, 2) := by decide +kernel
theorem dX6_copy_77 : decode cX6_copy 77 = .ok (.invokevirtual 79, 3) := by decide +kernel
theorem dX6_copy_80 : decode cX6_copy 80 = .ok (.ifCond .ne 9, 3) := by decide +kernel
theorem dX6_copy_83 : decode cX6_copy 83 = .ok (.aload_n 0, 1) := by decide +kernel
theorem dX6_copy_84 : decode cX6_copy 84 = .ok (.iconst 2, 1) := by decide +kernel
theorem dX6_copy_85 : decode cX6_copy 85 = .ok (.invokevirtual 65, 3) := by decide +kernel
theorem dX6_copy_88 : decode cX6_copy 88 = .ok (.ireturn, 1) := by decide +kernel
theorem dX6_copy_89 : decode cX6_copy 89 = .ok (.iconst 0, 1) := by decide +kernel
theorem dX6_copy_90 : decode cX6_copy 90 = .ok (.istore 6, 2) := by decide +kernel
theorem dX6_copy_92 : decode cX6_copy 92 = .ok (.iload 6, 2) := by decide +kernel
theorem dX6_copy_94 : decode cX6_copy 94 = .ok (.iload 5, 2) := by decide +kernel
theorem dX6_copy_96 : decode cX6_copy 96 = .ok (.if_icmp .ge 30, 3) := by decide +kernel
theorem dX6_copy_99 : decode cX6_copy 99 = .ok (.aload_n 0, 1) := by decide +kernel
theorem dX6_copy_100 : decode cX6_copy 100 = .ok (.getfield 19, 3) := by decide +kernel
theorem dX6_copy_103 : decode cX6_copy 103 = .ok (.iload 6, 2) := by decide +kernel
theorem dX6_copy_105 : decode cX6_copy 105 = .ok (.aload_n 0, 1) := by decide +kernel
theorem dX6_copy_106 : decode cX6_copy 106 = .ok (.getfield 16, 3) := by decide +kernel
theorem dX6_copy_109 : decode cX6_copy 109 = .ok (.bipush 40, 2) := by decide +kernel
theorem dX6_copy_111 : decode cX6_copy 111 = .ok (.iload_n 1, 1) := by decide +kernel
theorem dX6_copy_112 : decode cX6_copy 112 = .ok (.imul, 1) := by decide +kernel
theorem dX6_copy_113 : decode cX6_copy 113 = .ok (.iload_n 2, 1) := by decide +kernel
theorem dX6_copy_114 : decode cX6_copy 114 = .ok (.iadd, 1) := by decide +kernel
theorem dX6_copy_115 : decode cX6_copy 115 = .ok (.iload 6, 2) := by decide +kernel
theorem dX6_copy_117 : decode cX6_copy 117 = .ok (.iadd, 1) := by decide +kernel
theorem dX6_copy_118 : decode cX6_copy 118 = .ok (.iaload, 1) := by decide +kernel
theorem dX6_copy_119 : decode cX6_copy 119 = .ok (.iastore, 1) := by decide +kernel
theorem dX6_copy_120 : decode cX6_copy 120 = .ok (.iinc 6 1, 3) := by decide +kernel
theorem dX6_copy_123 : decode cX6_copy 123 = .ok (.goto (-31), 3) := by decide +kernel
theorem dX6_copy_126 : decode cX6_copy 126 = .ok (.iconst 0, 1) := by decide +kernel
theorem dX6_copy_127 : decode cX6_copy 127 = .ok (.istore 6, 2) := by decide +kernel
theorem dX6_copy_129 : decode cX6_copy 129 = .ok (.iload 6, 2) := by decide +kernel
theorem dX6_copy_131 : decode cX6_copy 131 = .ok (.iload 5, 2) := by decide +kernel
theorem dX6_copy_133 : decode cX6_copy 133 = .ok (.if_icmp .ge 31, 3) := by decide +kernel
theorem dX6_copy_136 : decode cX6_copy 136 = .ok (.aload_n 0, 1) := by decide +kernel
theorem dX6_copy_137 : decode cX6_copy 137 = .ok (.getfield 16, 3) := by decide +kernel
theorem dX6_copy_140 : decode cX6_copy 140 = .ok (.bipush 40, 2) := by decide +kernel
theorem dX6_copy_142 : decode cX6_copy 142 = .ok (.iload_n 3, 1) := by decide +kernel
theorem dX6_copy_143 : decode cX6_copy 143 = .ok (.imul, 1) := by decide +kernel
theorem dX6_copy_144 : decode cX6_copy 144 = .ok (.iload 4, 2) := by decide +kernel
theorem dX6_copy_146 : decode cX6_copy 146 = .ok (.iadd, 1) := by decide +kernel
theorem dX6_copy_147 : decode cX6_copy 147 = .ok (.iload 6, 2) := by decide +kernel
theorem dX6_copy_149 : decode cX6_copy 149 = .ok (.iadd, 1) := by decide +kernel
theorem dX6_copy_150 : decode cX6_copy 150 = .ok (.aload_n 0, 1) := by decide +kernel
theorem dX6_copy_151 : decode cX6_copy 151 = .ok (.getfield 19, 3) := by decide +kernel
theorem dX6_copy_154 : decode cX6_copy 154 = .ok (.iload 6, 2) := by decide +kernel
theorem dX6_copy_156 : decode cX6_copy 156 = .ok (.iaload, 1) := by decide +kernel
theorem dX6_copy_157 : decode cX6_copy 157 = .ok (.iastore, 1) := by decide +kernel
theorem dX6_copy_158 : decode cX6_copy 158 = .ok (.iinc 6 1, 3) := by decide +kernel
theorem dX6_copy_161 : decode cX6_copy 161 = .ok (.goto (-32), 3) := by decide +kernel
theorem dX6_copy_164 : decode cX6_copy 164 = .ok (.aload_n 0, 1) := by decide +kernel
theorem dX6_copy_165 : decode cX6_copy 165 = .ok (.iload 5, 2) := by decide +kernel
theorem dX6_copy_167 : decode cX6_copy 167 = .ok (.invokevirtual 69, 3) := by decide +kernel
theorem dX6_copy_170 : decode cX6_copy 170 = .ok (.ireturn, 1) := by decide +kernel
set_option maxRecDepth 20000 in
theorem ggX6_drop_X6_isRow : GoodIn wsX6_drop wsX6_isRow := goodIn_ids iaX6_drop iaX6_isRow haX6_drop haX6_isRow imX6_drop hmX6_drop (by decide +kernel) (by decide +kernel)
set_option maxRecDepth 20000 in
theorem gX6_drop_X6_isRow : GoodIn wsX6_drop (va_wsS RX6 60 yX6_isRow wsX6_isRow) := goodIn_app (goodIn_ids iaX6_drop [926, 927, 77] haX6_drop rfl imX6_drop hmX6_drop (by decide +kernel) (by decide +kernel)) ggX6_drop_X6_isRow
set_option maxRecDepth 20000 in
theorem ggX6_drop_X6_isMissing : GoodIn wsX6_drop wsX6_isMissing := goodIn_ids iaX6_drop iaX6_isMissing haX6_drop haX6_isMissing imX6_drop hmX6_drop (by decide +kernel) (by decide +kernel)
set_option maxRecDepth 20000 in
theorem gX6_drop_X6_isMissing : GoodIn wsX6_drop (wsV RX6 72 RX6 yX6_isMissing wsX6_isMissing) := goodIn_app (goodIn_ids iaX6_drop [946, 948, 39, 77] haX6_drop rfl imX6_drop hmX6_drop (by decide +kernel) (by decide +kernel)) ggX6_drop_X6_isMissing
set_option maxRecDepth 20000 in
theorem ggX6_drop_X6_found : GoodIn wsX6_drop wsX6_found := goodIn_ids iaX6_drop iaX6_found haX6_drop haX6_found imX6_drop hmX6_drop (by decide +kernel) (by decide +kernel)
set_option maxRecDepth 20000 in
theorem gX6_drop_X6_found : GoodIn wsX6_drop (wsV RX6 65 RX6 yX6_found wsX6_found) := goodIn_app (goodIn_ids iaX6_drop [933, 935, 37, 77] haX6_drop rfl imX6_drop hmX6_drop (by decide +kernel) (by decide +kernel)) ggX6_drop_X6_found
set_option maxRecDepth 20000 in
theorem ggX6_drop_X6_well : GoodIn wsX6_drop wsX6_well := goodIn_ids iaX6_drop iaX6_well haX6_drop haX6_well imX6_drop hmX6_drop (by decide +kernel) (by decide +kernel)
set_option maxRecDepth 20000 in
theorem gX6_drop_X6_well : GoodIn wsX6_drop (wsV RX6 69 RX6 yX6_well wsX6_well) := goodIn_app (goodIn_ids iaX6_drop [938, 940, 38, 77] haX6_drop rfl imX6_drop hmX6_drop (by decide +kernel) (by decide +kernel)) ggX6_drop_X6_well
theorem dX6_drop_0 : decode cX6_drop 0 = .ok (.iload_n 1, 1) := by decide +kernel
theorem dX6_drop_1 : decode cX6_drop 1 = .ok (.invokestatic 60, 3) := by decide +kernel
theorem dX6_drop_4 : decode cX6_drop 4 = .ok (.ifCond .ne 6, 3) := by decide +kernel
theorem dX6_drop_7 : decode cX6_drop 7 = .ok (.ldc 64, 2) := by decide +kernel
theorem dX6_drop_9 : decode cX6_drop 9 = .ok (.ireturn, 1) := by decide +kernel
theorem dX6_drop_10 : decode cX6_drop 10 = .ok (.aload_n 0, 1) := by decide +kernel
theorem dX6_drop_11 : decode cX6_drop 11 = .ok (.iload_n 1, 1) := by decide +kernel
theorem dX6_drop_12 : decode cX6_drop 12 = .ok (.invokevirtual 72, 3) := by decide +kernel
theorem dX6_drop_15 : decode cX6_drop 15 = .ok (.ifCond .eq 9, 3) := by decide +kernel
theorem dX6_drop_18 : decode cX6_drop 18 = .ok (.aload_n 0, 1) := by decide +kernel
theorem dX6_drop_19 : decode cX6_drop 19 = .ok (.iconst 1, 1) := by decide +kernel
theorem dX6_drop_20 : decode cX6_drop 20 = .ok (.invokevirtual 65, 3) := by decide +kernel
theorem dX6_drop_23 : decode cX6_drop 23 = .ok (.ireturn, 1) := by decide +kernel
theorem dX6_drop_24 : decode cX6_drop 24 = .ok (.aload_n 0, 1) := by decide +kernel
theorem dX6_drop_25 : decode cX6_drop 25 = .ok (.getfield 7, 3) := by decide +kernel
theorem dX6_drop_28 : decode cX6_drop 28 = .ok (.iload_n 1, 1) := by decide +kernel
theorem dX6_drop_29 : decode cX6_drop 29 = .ok (.ldc 50, 2) := by decide +kernel
theorem dX6_drop_31 : decode cX6_drop 31 = .ok (.iastore, 1) := by decide +kernel
theorem dX6_drop_32 : decode cX6_drop 32 = .ok (.aload_n 0, 1) := by decide +kernel
theorem dX6_drop_33 : decode cX6_drop 33 = .ok (.aload_n 0, 1) := by decide +kernel
theorem dX6_drop_34 : decode cX6_drop 34 = .ok (.getfield 13, 3) := by decide +kernel
theorem dX6_drop_37 : decode cX6_drop 37 = .ok (.iload_n 1, 1) := by decide +kernel
theorem dX6_drop_38 : decode cX6_drop 38 = .ok (.iaload, 1) := by decide +kernel
theorem dX6_drop_39 : decode cX6_drop 39 = .ok (.invokevirtual 69, 3) := by decide +kernel
theorem dX6_drop_42 : decode cX6_drop 42 = .ok (.ireturn, 1) := by decide +kernel
set_option maxRecDepth 20000 in
theorem ggX6_feed_X6_in : GoodIn wsX6_feed wsX6_in := goodIn_ids iaX6_feed iaX6_in haX6_feed haX6_in imX6_feed hmX6_feed (by decide +kernel) (by decide +kernel)
set_option maxRecDepth 20000 in
theorem gX6_feed_X6_in : GoodIn wsX6_feed (va_wsS RX6 56 yX6_in wsX6_in) := goodIn_app (goodIn_ids iaX6_feed [929, 930, 77] haX6_feed rfl imX6_feed hmX6_feed (by decide +kernel) (by decide +kernel)) ggX6_feed_X6_in
theorem dX6_feed_0 : decode cX6_feed 0 = .ok (.iload_n 1, 1) := by decide +kernel
theorem dX6_feed_1 : decode cX6_feed 1 = .ok (.iconst 0, 1) := by decide +kernel
theorem dX6_feed_2 : decode cX6_feed 2 = .ok (.sipush 255, 3) := by decide +kernel
theorem dX6_feed_5 : decode cX6_feed 5 = .ok (.invokestatic 56, 3) := by decide +kernel
theorem dX6_feed_8 : decode cX6_feed 8 = .ok (.ifCond .ne 6, 3) := by decide +kernel
theorem dX6_feed_11 : decode cX6_feed 11 = .ok (.ldc 64, 2) := by decide +kernel
theorem dX6_feed_13 : decode cX6_feed 13 = .ok (.ireturn, 1) := by decide +kernel
theorem dX6_feed_14 : decode cX6_feed 14 = .ok (.aload_n 0, 1) := by decide +kernel
theorem dX6_feed_15 : decode cX6_feed 15 = .ok (.getfield 82, 3) := by decide +kernel
theorem dX6_feed_18 : decode cX6_feed 18 = .ok (.bipush 90, 2) := by decide +kernel
theorem dX6_feed_20 : decode cX6_feed 20 = .ok (.if_icmp .ne 6, 3) := by decide +kernel
theorem dX6_feed_23 : decode cX6_feed 23 = .ok (.ldc 85, 2) := by decide +kernel
theorem dX6_feed_25 : decode cX6_feed 25 = .ok (.ireturn, 1) := by decide +kernel
theorem dX6_feed_26 : decode cX6_feed 26 = .ok (.aload_n 0, 1) := by decide +kernel
theorem dX6_feed_27 : decode cX6_feed 27 = .ok (.getfield 22, 3) := by decide +kernel
theorem dX6_feed_30 : decode cX6_feed 30 = .ok (.aload_n 0, 1) := by decide +kernel
theorem dX6_feed_31 : decode cX6_feed 31 = .ok (.getfield 82, 3) := by decide +kernel
theorem dX6_feed_34 : decode cX6_feed 34 = .ok (.iload_n 1, 1) := by decide +kernel
theorem dX6_feed_35 : decode cX6_feed 35 = .ok (.iastore, 1) := by decide +kernel
theorem dX6_feed_36 : decode cX6_feed 36 = .ok (.aload_n 0, 1) := by decide +kernel
theorem dX6_feed_37 : decode cX6_feed 37 = .ok (.dup, 1) := by decide +kernel
theorem dX6_feed_38 : decode cX6_feed 38 = .ok (.getfield 82, 3) := by decide +kernel
theorem dX6_feed_41 : decode cX6_feed 41 = .ok (.iconst 1, 1) := by decide +kernel
theorem dX6_feed_42 : decode cX6_feed 42 = .ok (.iadd, 1) := by decide +kernel
theorem dX6_feed_43 : decode cX6_feed 43 = .ok (.putfield 82, 3) := by decide +kernel
theorem dX6_feed_46 : decode cX6_feed 46 = .ok (.aload_n 0, 1) := by decide +kernel
theorem dX6_feed_47 : decode cX6_feed 47 = .ok (.getfield 82, 3) := by decide +kernel
theorem dX6_feed_50 : decode cX6_feed 50 = .ok (.ireturn, 1) := by decide +kernel
theorem dX6_byteAt_0 : decode cX6_byteAt 0 = .ok (.iload_n 1, 1) := by decide +kernel
theorem dX6_byteAt_1 : decode cX6_byteAt 1 = .ok (.aload_n 0, 1) := by decide +kernel
theorem dX6_byteAt_2 : decode cX6_byteAt 2 = .ok (.getfield 82, 3) := by decide +kernel
theorem dX6_byteAt_5 : decode cX6_byteAt 5 = .ok (.if_icmp .ge 12, 3) := by decide +kernel
theorem dX6_byteAt_8 : decode cX6_byteAt 8 = .ok (.aload_n 0, 1) := by decide +kernel
theorem dX6_byteAt_9 : decode cX6_byteAt 9 = .ok (.getfield 22, 3) := by decide +kernel
theorem dX6_byteAt_12 : decode cX6_byteAt 12 = .ok (.iload_n 1, 1) := by decide +kernel
theorem dX6_byteAt_13 : decode cX6_byteAt 13 = .ok (.iaload, 1) := by decide +kernel
theorem dX6_byteAt_14 : decode cX6_byteAt 14 = .ok (.goto 4, 3) := by decide +kernel
theorem dX6_byteAt_17 : decode cX6_byteAt 17 = .ok (.iconst (-1), 1) := by decide +kernel
theorem dX6_byteAt_18 : decode cX6_byteAt 18 = .ok (.ireturn, 1) := by decide +kernel
set_option maxRecDepth 20000 in
theorem ggX6_advances_X6_byteAt : GoodIn wsX6_advances wsX6_byteAt := goodIn_ids iaX6_advances iaX6_byteAt haX6_advances haX6_byteAt imX6_advances hmX6_advances (by decide +kernel) (by decide +kernel)
set_option maxRecDepth 20000 in
theorem gX6_advances_X6_byteAt : GoodIn wsX6_advances (wsV RX6 92 RX6 yX6_byteAt wsX6_byteAt) := goodIn_app (goodIn_ids iaX6_advances [978, 980, 42, 77] haX6_advances rfl imX6_advances hmX6_advances (by decide +kernel) (by decide +kernel)) ggX6_advances_X6_byteAt
set_option maxRecDepth 20000 in
theorem ggX6_advances_X6_in : GoodIn wsX6_advances wsX6_in := goodIn_ids iaX6_advances iaX6_in haX6_advances haX6_in imX6_advances hmX6_advances (by decide +kernel) (by decide +kernel)
set_option maxRecDepth 20000 in
theorem gX6_advances_X6_in : GoodIn wsX6_advances (va_wsS RX6 56 yX6_in wsX6_in) := goodIn_app (goodIn_ids iaX6_advances [929, 930, 77] haX6_advances rfl imX6_advances hmX6_advances (by decide +kernel) (by decide +kernel)) ggX6_advances_X6_in
theorem dX6_advances_0 : decode cX6_advances 0 = .ok (.aload_n 0, 1) := by decide +kernel
theorem dX6_advances_1 : decode cX6_advances 1 = .ok (.aload_n 0, 1) := by decide +kernel
theorem dX6_advances_2 : decode cX6_advances 2 = .ok (.getfield 86, 3) := by decide +kernel
theorem dX6_advances_5 : decode cX6_advances 5 = .ok (.putfield 89, 3) := by decide +kernel
theorem dX6_advances_8 : decode cX6_advances 8 = .ok (.aload_n 0, 1) := by decide +kernel
theorem dX6_advances_9 : decode cX6_advances 9 = .ok (.aload_n 0, 1) := by decide +kernel
theorem dX6_advances_10 : decode cX6_advances 10 = .ok (.getfield 86, 3) := by decide +kernel
theorem dX6_advances_13 : decode cX6_advances 13 = .ok (.invokevirtual 92, 3) := by decide +kernel
theorem dX6_advances_16 : decode cX6_advances 16 = .ok (.istore_n 1, 1) := by decide +kernel
theorem dX6_advances_17 : decode cX6_advances 17 = .ok (.aload_n 0, 1) := by decide +kernel
theorem dX6_advances_18 : decode cX6_advances 18 = .ok (.iload_n 1, 1) := by decide +kernel
theorem dX6_advances_19 : decode cX6_advances 19 = .ok (.putfield 95, 3) := by decide +kernel
theorem dX6_advances_22 : decode cX6_advances 22 = .ok (.iload_n 1, 1) := by decide +kernel
theorem dX6_advances_23 : decode cX6_advances 23 = .ok (.bipush 48, 2) := by decide +kernel
theorem dX6_advances_25 : decode cX6_advances 25 = .ok (.bipush 57, 2) := by decide +kernel
theorem dX6_advances_27 : decode cX6_advances 27 = .ok (.invokestatic 56, 3) := by decide +kernel
theorem dX6_advances_30 : decode cX6_advances 30 = .ok (.ifCond .eq 105, 3) := by decide +kernel
theorem dX6_advances_33 : decode cX6_advances 33 = .ok (.aload_n 0, 1) := by decide +kernel
theorem dX6_advances_34 : decode cX6_advances 34 = .ok (.iconst 0, 1) := by decide +kernel
theorem dX6_advances_35 : decode cX6_advances 35 = .ok (.putfield 95, 3) := by decide +kernel
theorem dX6_advances_38 : decode cX6_advances 38 = .ok (.aload_n 0, 1) := by decide +kernel
theorem dX6_advances_39 : decode cX6_advances 39 = .ok (.aload_n 0, 1) := by decide +kernel
theorem dX6_advances_40 : decode cX6_advances 40 = .ok (.getfield 86, 3) := by decide +kernel
theorem dX6_advances_43 : decode cX6_advances 43 = .ok (.invokevirtual 92, 3) := by decide +kernel
theorem dX6_advances_46 : decode cX6_advances 46 = .ok (.bipush 48, 2) := by decide +kernel
theorem dX6_advances_48 : decode cX6_advances 48 = .ok (.bipush 57, 2) := by decide +kernel
theorem dX6_advances_50 : decode cX6_advances 50 = .ok (.invokestatic 56, 3) := by decide +kernel
theorem dX6_advances_53 : decode cX6_advances 53 = .ok (.ifCond .eq 59, 3) := by decide +kernel
theorem dX6_advances_56 : decode cX6_advances 56 = .ok (.aload_n 0, 1) := by decide +kernel
theorem dX6_advances_57 : decode cX6_advances 57 = .ok (.aload_n 0, 1) := by decide +kernel
theorem dX6_advances_58 : decode cX6_advances 58 = .ok (.getfield 86, 3) := by decide +kernel
theorem dX6_advances_61 : decode cX6_advances 61 = .ok (.aload_n 0, 1) := by decide +kernel
theorem dX6_advances_62 : decode cX6_advances 62 = .ok (.getfield 89, 3) := by decide +kernel
theorem dX6_advances_65 : decode cX6_advances 65 = .ok (.isub, 1) := by decide +kernel
theorem dX6_advances_66 : decode cX6_advances 66 = .ok (.iconst 2, 1) := by decide +kernel
theorem dX6_advances_67 : decode cX6_advances 67 = .ok (.if_icmp .ge 25, 3) := by decide +kernel
theorem dX6_advances_70 : decode cX6_advances 70 = .ok (.bipush 10, 2) := by decide +kernel
theorem dX6_advances_72 : decode cX6_advances 72 = .ok (.aload_n 0, 1) := by decide +kernel
theorem dX6_advances_73 : decode cX6_advances 73 = .ok (.getfield 95, 3) := by decide +kernel
theorem dX6_advances_76 : decode cX6_advances 76 = .ok (.imul, 1) := by decide +kernel
theorem dX6_advances_77 : decode cX6_advances 77 = .ok (.aload_n 0, 1) := by decide +kernel
theorem dX6_advances_78 : decode cX6_advances 78 = .ok (.aload_n 0, 1) := by decide +kernel
theorem dX6_advances_79 : decode cX6_advances 79 = .ok (.getfield 86, 3) := by decide +kernel
theorem dX6_advances_82 : decode cX6_advances 82 = .ok (.invokevirtual 92, 3) := by decide +kernel
theorem dX6_advances_85 : decode cX6_advances 85 = .ok (.iadd, 1) := by decide +kernel
theorem dX6_advances_86 : decode cX6_advances 86 = .ok (.bipush 48, 2) := by decide +kernel
theorem dX6_advances_88 : decode cX6_advances 88 = .ok (.isub, 1) := by decide +kernel
theorem dX6_advances_89 : decode cX6_advances 89 = .ok (.goto 7, 3) := by decide +kernel
theorem dX6_advances_92 : decode cX6_advances 92 = .ok (.aload_n 0, 1) := by decide +kernel
theorem dX6_advances_93 : decode cX6_advances 93 = .ok (.getfield 95, 3) := by decide +kernel
theorem dX6_advances_96 : decode cX6_advances 96 = .ok (.putfield 95, 3) := by decide +kernel
theorem dX6_advances_99 : decode cX6_advances 99 = .ok (.aload_n 0, 1) := by decide +kernel
theorem dX6_advances_100 : decode cX6_advances 100 = .ok (.dup, 1) := by decide +kernel
theorem dX6_advances_101 : decode cX6_advances 101 = .ok (.getfield 86, 3) := by decide +kernel
theorem dX6_advances_104 : decode cX6_advances 104 = .ok (.iconst 1, 1) := by decide +kernel
theorem dX6_advances_105 : decode cX6_advances 105 = .ok (.iadd, 1) := by decide +kernel
theorem dX6_advances_106 : decode cX6_advances 106 = .ok (.putfield 86, 3) := by decide +kernel
theorem dX6_advances_109 : decode cX6_advances 109 = .ok (.goto (-71), 3) := by decide +kernel
theorem dX6_advances_112 : decode cX6_advances 112 = .ok (.aload_n 0, 1) := by decide +kernel
theorem dX6_advances_113 : decode cX6_advances 113 = .ok (.aload_n 0, 1) := by decide +kernel
theorem dX6_advances_114 : decode cX6_advances 114 = .ok (.getfield 86, 3) := by decide +kernel
theorem dX6_advances_117 : decode cX6_advances 117 = .ok (.aload_n 0, 1) := by decide +kernel
theorem dX6_advances_118 : decode cX6_advances 118 = .ok (.getfield 89, 3) := by decide +kernel
theorem dX6_advances_121 : decode cX6_advances 121 = .ok (.isub, 1) := by decide +kernel
theorem dX6_advances_122 : decode cX6_advances 122 = .ok (.iconst 3, 1) := by decide +kernel
theorem dX6_advances_123 : decode cX6_advances 123 = .ok (.if_icmp .ge 7, 3) := by decide +kernel
theorem dX6_advances_126 : decode cX6_advances 126 = .ok (.iconst 2, 1) := by decide +kernel
theorem dX6_advances_127 : decode cX6_advances 127 = .ok (.goto 4, 3) := by decide +kernel
theorem dX6_advances_130 : decode cX6_advances 130 = .ok (.iconst 5, 1) := by decide +kernel
theorem dX6_advances_131 : decode cX6_advances 131 = .ok (.putfield 98, 3) := by decide +kernel
theorem dX6_advances_134 : decode cX6_advances 134 = .ok (.return_, 1) := by decide +kernel
theorem dX6_advances_135 : decode cX6_advances 135 = .ok (.aload_n 0, 1) := by decide +kernel
theorem dX6_advances_136 : decode cX6_advances 136 = .ok (.iload_n 1, 1) := by decide +kernel
theorem dX6_advances_137 : decode cX6_advances 137 = .ok (.ifCond .ge 7, 3) := by decide +kernel
theorem dX6_advances_140 : decode cX6_advances 140 = .ok (.iconst 0, 1) := by decide +kernel
theorem dX6_advances_141 : decode cX6_advances 141 = .ok (.goto 39, 3) := by decide +kernel
theorem dX6_advances_144 : decode cX6_advances 144 = .ok (.iload_n 1, 1) := by decide +kernel
theorem dX6_advances_145 : decode cX6_advances 145 = .ok (.bipush 97, 2) := by decide +kernel
theorem dX6_advances_147 : decode cX6_advances 147 = .ok (.bipush 122, 2) := by decide +kernel
theorem dX6_advances_149 : decode cX6_advances 149 = .ok (.invokestatic 56, 3) := by decide +kernel
theorem dX6_advances_152 : decode cX6_advances 152 = .ok (.ifCond .eq 7, 3) := by decide +kernel
theorem dX6_advances_155 : decode cX6_advances 155 = .ok (.iconst 1, 1) := by decide +kernel
theorem dX6_advances_156 : decode cX6_advances 156 = .ok (.goto 24, 3) := by decide +kernel
theorem dX6_advances_159 : decode cX6_advances 159 = .ok (.iload_n 1, 1) := by decide +kernel
theorem dX6_advances_160 : decode cX6_advances 160 = .ok (.bipush 44, 2) := by decide +kernel
theorem dX6_advances_162 : decode cX6_advances 162 = .ok (.if_icmp .ne 7, 3) := by decide +kernel
theorem dX6_advances_165 : decode cX6_advances 165 = .ok (.iconst 3, 1) := by decide +kernel
theorem dX6_advances_166 : decode cX6_advances 166 = .ok (.goto 14, 3) := by decide +kernel
theorem dX6_advances_169 : decode cX6_advances 169 = .ok (.iload_n 1, 1) := by decide +kernel
theorem dX6_advances_170 : decode cX6_advances 170 = .ok (.bipush 59, 2) := by decide +kernel
theorem dX6_advances_172 : decode cX6_advances 172 = .ok (.if_icmp .ne 7, 3) := by decide +kernel
theorem dX6_advances_175 : decode cX6_advances 175 = .ok (.iconst 4, 1) := by decide +kernel
theorem dX6_advances_176 : decode cX6_advances 176 = .ok (.goto 4, 3) := by decide +kernel
theorem dX6_advances_179 : decode cX6_advances 179 = .ok (.iconst 5, 1) := by decide +kernel
theorem dX6_advances_180 : decode cX6_advances 180 = .ok (.putfield 98, 3) := by decide +kernel
theorem dX6_advances_183 : decode cX6_advances 183 = .ok (.aload_n 0, 1) := by decide +kernel
theorem dX6_advances_184 : decode cX6_advances 184 = .ok (.dup, 1) := by decide +kernel
theorem dX6_advances_185 : decode cX6_advances 185 = .ok (.getfield 86, 3) := by decide +kernel
theorem dX6_advances_188 : decode cX6_advances 188 = .ok (.aload_n 0, 1) := by decide +kernel
theorem dX6_advances_189 : decode cX6_advances 189 = .ok (.getfield 98, 3) := by decide +kernel
theorem dX6_advances_192 : decode cX6_advances 192 = .ok (.ifCond .ne 7, 3) := by decide +kernel
theorem dX6_advances_195 : decode cX6_advances 195 = .ok (.iconst 0, 1) := by decide +kernel
theorem dX6_advances_196 : decode cX6_advances 196 = .ok (.goto 4, 3) := by decide +kernel
theorem dX6_advances_199 : decode cX6_advances 199 = .ok (.iconst 1, 1) := by decide +kernel
theorem dX6_advances_200 : decode cX6_advances 200 = .ok (.iadd, 1) := by decide +kernel
theorem dX6_advances_201 : decode cX6_advances 201 = .ok (.putfield 86, 3) := by decide +kernel
theorem dX6_advances_204 : decode cX6_advances 204 = .ok (.return_, 1) := by decide +kernel
theorem dX6_isWell_0 : decode cX6_isWell 0 = .ok (.aload_n 0, 1) := by decide +kernel
theorem dX6_isWell_1 : decode cX6_isWell 1 = .ok (.getfield 101, 3) := by decide +kernel
theorem dX6_isWell_4 : decode cX6_isWell 4 = .ok (.ifCond .ge 7, 3) := by decide +kernel
theorem dX6_isWell_7 : decode cX6_isWell 7 = .ok (.iconst 1, 1) := by decide +kernel
theorem dX6_isWell_8 : decode cX6_isWell 8 = .ok (.goto 4, 3) := by decide +kernel
theorem dX6_isWell_11 : decode cX6_isWell 11 = .ok (.iconst 0, 1) := by decide +kernel
theorem dX6_isWell_12 : decode cX6_isWell 12 = .ok (.ireturn, 1) := by decide +kernel
set_option maxRecDepth 20000 in
theorem ggX6_takes_X6_isWell : GoodIn wsX6_takes wsX6_isWell := goodIn_ids iaX6_takes iaX6_isWell haX6_takes haX6_isWell imX6_takes hmX6_takes (by decide +kernel) (by decide +kernel)
set_option maxRecDepth 20000 in
theorem gX6_takes_X6_isWell : GoodIn wsX6_takes (wsV RX6 104 RX6 yX6_isWell wsX6_isWell) := goodIn_app (goodIn_ids iaX6_takes [986, 988, 44, 77] haX6_takes rfl imX6_takes hmX6_takes (by decide +kernel) (by decide +kernel)) ggX6_takes_X6_isWell
set_option maxRecDepth 20000 in
theorem ggX6_takes_X6_advances : GoodIn wsX6_takes wsX6_advances := goodIn_ids iaX6_takes iaX6_advances haX6_takes haX6_advances imX6_takes hmX6_takes (by decide +kernel) (by decide +kernel)
set_option maxRecDepth 20000 in
theorem gX6_takes_X6_advances : GoodIn wsX6_takes (wsV RX6 111 RX6 yX6_advances wsX6_advances) := goodIn_app (goodIn_ids iaX6_takes [974, 976, 41, 77] haX6_takes rfl imX6_takes hmX6_takes (by decide +kernel) (by decide +kernel)) ggX6_takes_X6_advances
theorem dX6_takes_0 : decode cX6_takes 0 = .ok (.aload_n 0, 1) := by decide +kernel
theorem dX6_takes_1 : decode cX6_takes 1 = .ok (.invokevirtual 104, 3) := by decide +kernel
theorem dX6_takes_4 : decode cX6_takes 4 = .ok (.ifCond .ne 5, 3) := by decide +kernel
theorem dX6_takes_7 : decode cX6_takes 7 = .ok (.iconst 0, 1) := by decide +kernel
theorem dX6_takes_8 : decode cX6_takes 8 = .ok (.ireturn, 1) := by decide +kernel
theorem dX6_takes_9 : decode cX6_takes 9 = .ok (.iload_n 1, 1) := by decide +kernel
theorem dX6_takes_10 : decode cX6_takes 10 = .ok (.ifCond .ne 18, 3) := by decide +kernel
theorem dX6_takes_13 : decode cX6_takes 13 = .ok (.aload_n 0, 1) := by decide +kernel
theorem dX6_takes_14 : decode cX6_takes 14 = .ok (.aload_n 0, 1) := by decide +kernel
theorem dX6_takes_15 : decode cX6_takes 15 = .ok (.getfield 89, 3) := by decide +kernel
theorem dX6_takes_18 : decode cX6_takes 18 = .ok (.putfield 101, 3) := by decide +kernel
theorem dX6_takes_21 : decode cX6_takes 21 = .ok (.aload_n 0, 1) := by decide +kernel
theorem dX6_takes_22 : decode cX6_takes 22 = .ok (.iload_n 2, 1) := by decide +kernel
theorem dX6_takes_23 : decode cX6_takes 23 = .ok (.putfield 108, 3) := by decide +kernel
theorem dX6_takes_26 : decode cX6_takes 26 = .ok (.iconst 0, 1) := by decide +kernel
theorem dX6_takes_27 : decode cX6_takes 27 = .ok (.ireturn, 1) := by decide +kernel
theorem dX6_takes_28 : decode cX6_takes 28 = .ok (.aload_n 0, 1) := by decide +kernel
theorem dX6_takes_29 : decode cX6_takes 29 = .ok (.getfield 95, 3) := by decide +kernel
theorem dX6_takes_32 : decode cX6_takes 32 = .ok (.istore_n 3, 1) := by decide +kernel
theorem dX6_takes_33 : decode cX6_takes 33 = .ok (.aload_n 0, 1) := by decide +kernel
theorem dX6_takes_34 : decode cX6_takes 34 = .ok (.invokevirtual 111, 3) := by decide +kernel
theorem dX6_takes_37 : decode cX6_takes 37 = .ok (.iload_n 3, 1) := by decide +kernel
theorem dX6_takes_38 : decode cX6_takes 38 = .ok (.ireturn, 1) := by decide +kernel
set_option maxRecDepth 20000 in
theorem ggX6_figure_X6_isWell : GoodIn wsX6_figure wsX6_isWell := goodIn_ids iaX6_figure iaX6_isWell haX6_figure haX6_isWell imX6_figure hmX6_figure (by decide +kernel) (by decide +kernel)
set_option maxRecDepth 20000 in
theorem gX6_figure_X6_isWell : GoodIn wsX6_figure (wsV RX6 104 RX6 yX6_isWell wsX6_isWell) := goodIn_app (goodIn_ids iaX6_figure [986, 988, 44, 77] haX6_figure rfl imX6_figure hmX6_figure (by decide +kernel) (by decide +kernel)) ggX6_figure_X6_isWell
set_option maxRecDepth 20000 in
theorem ggX6_figure_X6_takes : GoodIn wsX6_figure wsX6_takes := goodIn_ids iaX6_figure iaX6_takes haX6_figure haX6_takes imX6_figure hmX6_figure (by decide +kernel) (by decide +kernel)
set_option maxRecDepth 20000 in
theorem gX6_figure_X6_takes : GoodIn wsX6_figure (wsV RX6 114 RX6 yX6_takes wsX6_takes) := goodIn_app (goodIn_ids iaX6_figure [982, 984, 43, 77] haX6_figure rfl imX6_figure hmX6_figure (by decide +kernel) (by decide +kernel)) ggX6_figure_X6_takes
set_option maxRecDepth 20000 in
theorem ggX6_figure_X6_in : GoodIn wsX6_figure wsX6_in := goodIn_ids iaX6_figure iaX6_in haX6_figure haX6_in imX6_figure hmX6_figure (by decide +kernel) (by decide +kernel)
set_option maxRecDepth 20000 in
theorem gX6_figure_X6_in : GoodIn wsX6_figure (va_wsS RX6 56 yX6_in wsX6_in) := goodIn_app (goodIn_ids iaX6_figure [929, 930, 77] haX6_figure rfl imX6_figure hmX6_figure (by decide +kernel) (by decide +kernel)) ggX6_figure_X6_in
theorem dX6_figure_0 : decode cX6_figure 0 = .ok (.aload_n 0, 1) := by decide +kernel
theorem dX6_figure_1 : decode cX6_figure 1 = .ok (.invokevirtual 104, 3) := by decide +kernel
theorem dX6_figure_4 : decode cX6_figure 4 = .ok (.ifCond .eq 18, 3) := by decide +kernel
theorem dX6_figure_7 : decode cX6_figure 7 = .ok (.aload_n 0, 1) := by decide +kernel
theorem dX6_figure_8 : decode cX6_figure 8 = .ok (.getfield 98, 3) := by decide +kernel
theorem dX6_figure_11 : decode cX6_figure 11 = .ok (.iconst 2, 1) := by decide +kernel
theorem dX6_figure_12 : decode cX6_figure 12 = .ok (.if_icmp .eq 10, 3) := by decide +kernel
theorem dX6_figure_15 : decode cX6_figure 15 = .ok (.aload_n 0, 1) := by decide +kernel
theorem dX6_figure_16 : decode cX6_figure 16 = .ok (.iconst 0, 1) := by decide +kernel
theorem dX6_figure_17 : decode cX6_figure 17 = .ok (.iconst 1, 1) := by decide +kernel
theorem dX6_figure_18 : decode cX6_figure 18 = .ok (.invokevirtual 114, 3) := by decide +kernel
theorem dX6_figure_21 : decode cX6_figure 21 = .ok (.ireturn, 1) := by decide +kernel
theorem dX6_figure_22 : decode cX6_figure 22 = .ok (.aload_n 0, 1) := by decide +kernel
theorem dX6_figure_23 : decode cX6_figure 23 = .ok (.aload_n 0, 1) := by decide +kernel
theorem dX6_figure_24 : decode cX6_figure 24 = .ok (.getfield 95, 3) := by decide +kernel
theorem dX6_figure_27 : decode cX6_figure 27 = .ok (.iload_n 1, 1) := by decide +kernel
theorem dX6_figure_28 : decode cX6_figure 28 = .ok (.iload_n 2, 1) := by decide +kernel
theorem dX6_figure_29 : decode cX6_figure 29 = .ok (.invokestatic 56, 3) := by decide +kernel
theorem dX6_figure_32 : decode cX6_figure 32 = .ok (.iconst 2, 1) := by decide +kernel
theorem dX6_figure_33 : decode cX6_figure 33 = .ok (.invokevirtual 114, 3) := by decide +kernel
theorem dX6_figure_36 : decode cX6_figure 36 = .ok (.ireturn, 1) := by decide +kernel
theorem dX6_kindOf_0 : decode cX6_kindOf 0 = .ok (.iload_n 0, 1) := by decide +kernel
theorem dX6_kindOf_1 : decode cX6_kindOf 1 = .ok (.bipush 104, 2) := by decide +kernel
theorem dX6_kindOf_3 : decode cX6_kindOf 3 = .ok (.if_icmp .ne 7, 3) := by decide +kernel
theorem dX6_kindOf_6 : decode cX6_kindOf 6 = .ok (.iconst 1, 1) := by decide +kernel
theorem dX6_kindOf_7 : decode cX6_kindOf 7 = .ok (.goto 44, 3) := by decide +kernel
theorem dX6_kindOf_10 : decode cX6_kindOf 10 = .ok (.iload_n 0, 1) := by decide +kernel
theorem dX6_kindOf_11 : decode cX6_kindOf 11 = .ok (.bipush 116, 2) := by decide +kernel
theorem dX6_kindOf_13 : decode cX6_kindOf 13 = .ok (.if_icmp .ne 7, 3) := by decide +kernel
theorem dX6_kindOf_16 : decode cX6_kindOf 16 = .ok (.iconst 2, 1) := by decide +kernel
theorem dX6_kindOf_17 : decode cX6_kindOf 17 = .ok (.goto 34, 3) := by decide +kernel
theorem dX6_kindOf_20 : decode cX6_kindOf 20 = .ok (.iload_n 0, 1) := by decide +kernel
theorem dX6_kindOf_21 : decode cX6_kindOf 21 = .ok (.bipush 112, 2) := by decide +kernel
theorem dX6_kindOf_23 : decode cX6_kindOf 23 = .ok (.if_icmp .ne 7, 3) := by decide +kernel
theorem dX6_kindOf_26 : decode cX6_kindOf 26 = .ok (.iconst 3, 1) := by decide +kernel
theorem dX6_kindOf_27 : decode cX6_kindOf 27 = .ok (.goto 24, 3) := by decide +kernel
theorem dX6_kindOf_30 : decode cX6_kindOf 30 = .ok (.iload_n 0, 1) := by decide +kernel
theorem dX6_kindOf_31 : decode cX6_kindOf 31 = .ok (.bipush 107, 2) := by decide +kernel
theorem dX6_kindOf_33 : decode cX6_kindOf 33 = .ok (.if_icmp .ne 7, 3) := by decide +kernel
theorem dX6_kindOf_36 : decode cX6_kindOf 36 = .ok (.iconst 4, 1) := by decide +kernel
theorem dX6_kindOf_37 : decode cX6_kindOf 37 = .ok (.goto 14, 3) := by decide +kernel
theorem dX6_kindOf_40 : decode cX6_kindOf 40 = .ok (.iload_n 0, 1) := by decide +kernel
theorem dX6_kindOf_41 : decode cX6_kindOf 41 = .ok (.bipush 115, 2) := by decide +kernel
theorem dX6_kindOf_43 : decode cX6_kindOf 43 = .ok (.if_icmp .ne 7, 3) := by decide +kernel
theorem dX6_kindOf_46 : decode cX6_kindOf 46 = .ok (.iconst 5, 1) := by decide +kernel
theorem dX6_kindOf_47 : decode cX6_kindOf 47 = .ok (.goto 4, 3) := by decide +kernel
theorem dX6_kindOf_50 : decode cX6_kindOf 50 = .ok (.iconst 0, 1) := by decide +kernel
theorem dX6_kindOf_51 : decode cX6_kindOf 51 = .ok (.ireturn, 1) := by decide +kernel
set_option maxRecDepth 20000 in
theorem ggX6_follows_X6_takes : GoodIn wsX6_follows wsX6_takes := goodIn_ids iaX6_follows iaX6_takes haX6_follows haX6_takes imX6_follows hmX6_follows (by decide +kernel) (by decide +kernel)
set_option maxRecDepth 20000 in
theorem gX6_follows_X6_takes : GoodIn wsX6_follows (wsV RX6 114 RX6 yX6_takes wsX6_takes) := goodIn_app (goodIn_ids iaX6_follows [982, 984, 43, 77] haX6_follows rfl imX6_follows hmX6_follows (by decide +kernel) (by decide +kernel)) ggX6_follows_X6_takes
set_option maxRecDepth 20000 in
theorem ggX6_follows_X6_figure : GoodIn wsX6_follows wsX6_figure := goodIn_ids iaX6_follows iaX6_figure haX6_follows haX6_figure imX6_follows hmX6_follows (by decide +kernel) (by decide +kernel)
set_option maxRecDepth 20000 in
theorem gX6_follows_X6_figure : GoodIn wsX6_follows (wsV RX6 118 RX6 yX6_figure wsX6_figure) := goodIn_app (goodIn_ids iaX6_follows [990, 992, 45, 77] haX6_follows rfl imX6_follows hmX6_follows (by decide +kernel) (by decide +kernel)) ggX6_follows_X6_figure
theorem dX6_follows_0 : decode cX6_follows 0 = .ok (.aload_n 0, 1) := by decide +kernel
theorem dX6_follows_1 : decode cX6_follows 1 = .ok (.aload_n 0, 1) := by decide +kernel
theorem dX6_follows_2 : decode cX6_follows 2 = .ok (.getfield 98, 3) := by decide +kernel
theorem dX6_follows_5 : decode cX6_follows 5 = .ok (.iconst 3, 1) := by decide +kernel
theorem dX6_follows_6 : decode cX6_follows 6 = .ok (.if_icmp .ne 7, 3) := by decide +kernel
theorem dX6_follows_9 : decode cX6_follows 9 = .ok (.iconst 1, 1) := by decide +kernel
theorem dX6_follows_10 : decode cX6_follows 10 = .ok (.goto 4, 3) := by decide +kernel
theorem dX6_follows_13 : decode cX6_follows 13 = .ok (.iconst 0, 1) := by decide +kernel
theorem dX6_follows_14 : decode cX6_follows 14 = .ok (.iconst 1, 1) := by decide +kernel
theorem dX6_follows_15 : decode cX6_follows 15 = .ok (.invokevirtual 114, 3) := by decide +kernel
theorem dX6_follows_18 : decode cX6_follows 18 = .ok (.pop, 1) := by decide +kernel
theorem dX6_follows_19 : decode cX6_follows 19 = .ok (.aload_n 0, 1) := by decide +kernel
theorem dX6_follows_20 : decode cX6_follows 20 = .ok (.iload_n 1, 1) := by decide +kernel
theorem dX6_follows_21 : decode cX6_follows 21 = .ok (.iload_n 2, 1) := by decide +kernel
theorem dX6_follows_22 : decode cX6_follows 22 = .ok (.invokevirtual 118, 3) := by decide +kernel
theorem dX6_follows_25 : decode cX6_follows 25 = .ok (.ireturn, 1) := by decide +kernel
set_option maxRecDepth 20000 in
theorem ggX6_readsPerson_X6_takes : GoodIn wsX6_readsPerson wsX6_takes := goodIn_ids iaX6_readsPerson iaX6_takes haX6_readsPerson haX6_takes imX6_readsPerson hmX6_readsPerson (by decide +kernel) (by decide +kernel)
set_option maxRecDepth 20000 in
theorem gX6_readsPerson_X6_takes : GoodIn wsX6_readsPerson (wsV RX6 114 RX6 yX6_takes wsX6_takes) := goodIn_app (goodIn_ids iaX6_readsPerson [982, 984, 43, 77] haX6_readsPerson rfl imX6_readsPerson hmX6_readsPerson (by decide +kernel) (by decide +kernel)) ggX6_readsPerson_X6_takes
set_option maxRecDepth 20000 in
theorem ggX6_readsPerson_X6_figure : GoodIn wsX6_readsPerson wsX6_figure := goodIn_ids iaX6_readsPerson iaX6_figure haX6_readsPerson haX6_figure imX6_readsPerson hmX6_readsPerson (by decide +kernel) (by decide +kernel)
set_option maxRecDepth 20000 in
theorem gX6_readsPerson_X6_figure : GoodIn wsX6_readsPerson (wsV RX6 118 RX6 yX6_figure wsX6_figure) := goodIn_app (goodIn_ids iaX6_readsPerson [990, 992, 45, 77] haX6_readsPerson rfl imX6_readsPerson hmX6_readsPerson (by decide +kernel) (by decide +kernel)) ggX6_readsPerson_X6_figure
set_option maxRecDepth 20000 in
theorem ggX6_readsPerson_X6_follows : GoodIn wsX6_readsPerson wsX6_follows := goodIn_ids iaX6_readsPerson iaX6_follows haX6_readsPerson haX6_follows imX6_readsPerson hmX6_readsPerson (by decide +kernel) (by decide +kernel)
set_option maxRecDepth 20000 in
theorem gX6_readsPerson_X6_follows : GoodIn wsX6_readsPerson (wsV RX6 121 RX6 yX6_follows wsX6_follows) := goodIn_app (goodIn_ids iaX6_readsPerson [994, 996, 46, 77] haX6_readsPerson rfl imX6_readsPerson hmX6_readsPerson (by decide +kernel) (by decide +kernel)) ggX6_readsPerson_X6_follows
set_option maxRecDepth 20000 in
theorem ggX6_readsPerson_X6_isWell : GoodIn wsX6_readsPerson wsX6_isWell := goodIn_ids iaX6_readsPerson iaX6_isWell haX6_readsPerson haX6_isWell imX6_readsPerson hmX6_readsPerson (by decide +kernel) (by decide +kernel)
set_option maxRecDepth 20000 in
theorem gX6_readsPerson_X6_isWell : GoodIn wsX6_readsPerson (wsV RX6 104 RX6 yX6_isWell wsX6_isWell) := goodIn_app (goodIn_ids iaX6_readsPerson [986, 988, 44, 77] haX6_readsPerson rfl imX6_readsPerson hmX6_readsPerson (by decide +kernel) (by decide +kernel)) ggX6_readsPerson_X6_isWell
theorem dX6_readsPerson_0 : decode cX6_readsPerson 0 = .ok (.aload_n 0, 1) := by decide +kernel
theorem dX6_readsPerson_1 : decode cX6_readsPerson 1 = .ok (.aload_n 0, 1) := by decide +kernel
theorem dX6_readsPerson_2 : decode cX6_readsPerson 2 = .ok (.getfield 28, 3) := by decide +kernel
theorem dX6_readsPerson_5 : decode cX6_readsPerson 5 = .ok (.iconst 4, 1) := by decide +kernel
theorem dX6_readsPerson_6 : decode cX6_readsPerson 6 = .ok (.iaload, 1) := by decide +kernel
theorem dX6_readsPerson_7 : decode cX6_readsPerson 7 = .ok (.iconst 5, 1) := by decide +kernel
theorem dX6_readsPerson_8 : decode cX6_readsPerson 8 = .ok (.if_icmp .ge 7, 3) := by decide +kernel
theorem dX6_readsPerson_11 : decode cX6_readsPerson 11 = .ok (.iconst 1, 1) := by decide +kernel
theorem dX6_readsPerson_12 : decode cX6_readsPerson 12 = .ok (.goto 4, 3) := by decide +kernel
theorem dX6_readsPerson_15 : decode cX6_readsPerson 15 = .ok (.iconst 0, 1) := by decide +kernel
theorem dX6_readsPerson_16 : decode cX6_readsPerson 16 = .ok (.iconst 3, 1) := by decide +kernel
theorem dX6_readsPerson_17 : decode cX6_readsPerson 17 = .ok (.invokevirtual 114, 3) := by decide +kernel
theorem dX6_readsPerson_20 : decode cX6_readsPerson 20 = .ok (.pop, 1) := by decide +kernel
theorem dX6_readsPerson_21 : decode cX6_readsPerson 21 = .ok (.bipush 6, 2) := by decide +kernel
theorem dX6_readsPerson_23 : decode cX6_readsPerson 23 = .ok (.bipush 6, 2) := by decide +kernel
theorem dX6_readsPerson_25 : decode cX6_readsPerson 25 = .ok (.aload_n 0, 1) := by decide +kernel
theorem dX6_readsPerson_26 : decode cX6_readsPerson 26 = .ok (.getfield 28, 3) := by decide +kernel
theorem dX6_readsPerson_29 : decode cX6_readsPerson 29 = .ok (.iconst 4, 1) := by decide +kernel
theorem dX6_readsPerson_30 : decode cX6_readsPerson 30 = .ok (.iaload, 1) := by decide +kernel
theorem dX6_readsPerson_31 : decode cX6_readsPerson 31 = .ok (.iconst 5, 1) := by decide +kernel
theorem dX6_readsPerson_32 : decode cX6_readsPerson 32 = .ok (.if_icmp .ge 12, 3) := by decide +kernel
theorem dX6_readsPerson_35 : decode cX6_readsPerson 35 = .ok (.aload_n 0, 1) := by decide +kernel
theorem dX6_readsPerson_36 : decode cX6_readsPerson 36 = .ok (.getfield 28, 3) := by decide +kernel
theorem dX6_readsPerson_39 : decode cX6_readsPerson 39 = .ok (.iconst 4, 1) := by decide +kernel
theorem dX6_readsPerson_40 : decode cX6_readsPerson 40 = .ok (.iaload, 1) := by decide +kernel
theorem dX6_readsPerson_41 : decode cX6_readsPerson 41 = .ok (.goto 4, 3) := by decide +kernel
theorem dX6_readsPerson_44 : decode cX6_readsPerson 44 = .ok (.iconst 0, 1) := by decide +kernel
theorem dX6_readsPerson_45 : decode cX6_readsPerson 45 = .ok (.imul, 1) := by decide +kernel
theorem dX6_readsPerson_46 : decode cX6_readsPerson 46 = .ok (.iadd, 1) := by decide +kernel
theorem dX6_readsPerson_47 : decode cX6_readsPerson 47 = .ok (.istore_n 1, 1) := by decide +kernel
theorem dX6_readsPerson_48 : decode cX6_readsPerson 48 = .ok (.aload_n 0, 1) := by decide +kernel
theorem dX6_readsPerson_49 : decode cX6_readsPerson 49 = .ok (.iconst 0, 1) := by decide +kernel
theorem dX6_readsPerson_50 : decode cX6_readsPerson 50 = .ok (.aload_n 0, 1) := by decide +kernel
theorem dX6_readsPerson_51 : decode cX6_readsPerson 51 = .ok (.getfield 28, 3) := by decide +kernel
theorem dX6_readsPerson_54 : decode cX6_readsPerson 54 = .ok (.iconst 0, 1) := by decide +kernel
theorem dX6_readsPerson_55 : decode cX6_readsPerson 55 = .ok (.iaload, 1) := by decide +kernel
theorem dX6_readsPerson_56 : decode cX6_readsPerson 56 = .ok (.iconst 1, 1) := by decide +kernel
theorem dX6_readsPerson_57 : decode cX6_readsPerson 57 = .ok (.isub, 1) := by decide +kernel
theorem dX6_readsPerson_58 : decode cX6_readsPerson 58 = .ok (.invokevirtual 118, 3) := by decide +kernel
theorem dX6_readsPerson_61 : decode cX6_readsPerson 61 = .ok (.istore_n 2, 1) := by decide +kernel
theorem dX6_readsPerson_62 : decode cX6_readsPerson 62 = .ok (.aload_n 0, 1) := by decide +kernel
theorem dX6_readsPerson_63 : decode cX6_readsPerson 63 = .ok (.iconst 0, 1) := by decide +kernel
theorem dX6_readsPerson_64 : decode cX6_readsPerson 64 = .ok (.bipush 9, 2) := by decide +kernel
theorem dX6_readsPerson_66 : decode cX6_readsPerson 66 = .ok (.invokevirtual 121, 3) := by decide +kernel
theorem dX6_readsPerson_69 : decode cX6_readsPerson 69 = .ok (.istore_n 3, 1) := by decide +kernel
theorem dX6_readsPerson_70 : decode cX6_readsPerson 70 = .ok (.aload_n 0, 1) := by decide +kernel
theorem dX6_readsPerson_71 : decode cX6_readsPerson 71 = .ok (.iconst 0, 1) := by decide +kernel
theorem dX6_readsPerson_72 : decode cX6_readsPerson 72 = .ok (.iconst 2, 1) := by decide +kernel
theorem dX6_readsPerson_73 : decode cX6_readsPerson 73 = .ok (.invokevirtual 121, 3) := by decide +kernel
theorem dX6_readsPerson_76 : decode cX6_readsPerson 76 = .ok (.istore 4, 2) := by decide +kernel
theorem dX6_readsPerson_78 : decode cX6_readsPerson 78 = .ok (.aload_n 0, 1) := by decide +kernel
theorem dX6_readsPerson_79 : decode cX6_readsPerson 79 = .ok (.aload_n 0, 1) := by decide +kernel
theorem dX6_readsPerson_80 : decode cX6_readsPerson 80 = .ok (.getfield 98, 3) := by decide +kernel
theorem dX6_readsPerson_83 : decode cX6_readsPerson 83 = .ok (.iconst 4, 1) := by decide +kernel
theorem dX6_readsPerson_84 : decode cX6_readsPerson 84 = .ok (.if_icmp .ne 7, 3) := by decide +kernel
theorem dX6_readsPerson_87 : decode cX6_readsPerson 87 = .ok (.iconst 1, 1) := by decide +kernel
theorem dX6_readsPerson_88 : decode cX6_readsPerson 88 = .ok (.goto 4, 3) := by decide +kernel
theorem dX6_readsPerson_91 : decode cX6_readsPerson 91 = .ok (.iconst 0, 1) := by decide +kernel
theorem dX6_readsPerson_92 : decode cX6_readsPerson 92 = .ok (.iconst 1, 1) := by decide +kernel
theorem dX6_readsPerson_93 : decode cX6_readsPerson 93 = .ok (.invokevirtual 114, 3) := by decide +kernel
theorem dX6_readsPerson_96 : decode cX6_readsPerson 96 = .ok (.pop, 1) := by decide +kernel
theorem dX6_readsPerson_97 : decode cX6_readsPerson 97 = .ok (.aload_n 0, 1) := by decide +kernel
theorem dX6_readsPerson_98 : decode cX6_readsPerson 98 = .ok (.invokevirtual 104, 3) := by decide +kernel
theorem dX6_readsPerson_101 : decode cX6_readsPerson 101 = .ok (.ifCond .eq 48, 3) := by decide +kernel
theorem dX6_readsPerson_104 : decode cX6_readsPerson 104 = .ok (.aload_n 0, 1) := by decide +kernel
theorem dX6_readsPerson_105 : decode cX6_readsPerson 105 = .ok (.getfield 28, 3) := by decide +kernel
theorem dX6_readsPerson_108 : decode cX6_readsPerson 108 = .ok (.iload_n 1, 1) := by decide +kernel
theorem dX6_readsPerson_109 : decode cX6_readsPerson 109 = .ok (.iload_n 2, 1) := by decide +kernel
theorem dX6_readsPerson_110 : decode cX6_readsPerson 110 = .ok (.iastore, 1) := by decide +kernel
theorem dX6_readsPerson_111 : decode cX6_readsPerson 111 = .ok (.aload_n 0, 1) := by decide +kernel
theorem dX6_readsPerson_112 : decode cX6_readsPerson 112 = .ok (.getfield 28, 3) := by decide +kernel
theorem dX6_readsPerson_115 : decode cX6_readsPerson 115 = .ok (.iload_n 1, 1) := by decide +kernel
theorem dX6_readsPerson_116 : decode cX6_readsPerson 116 = .ok (.iconst 1, 1) := by decide +kernel
theorem dX6_readsPerson_117 : decode cX6_readsPerson 117 = .ok (.iadd, 1) := by decide +kernel
theorem dX6_readsPerson_118 : decode cX6_readsPerson 118 = .ok (.iload_n 3, 1) := by decide +kernel
theorem dX6_readsPerson_119 : decode cX6_readsPerson 119 = .ok (.iastore, 1) := by decide +kernel
theorem dX6_readsPerson_120 : decode cX6_readsPerson 120 = .ok (.aload_n 0, 1) := by decide +kernel
theorem dX6_readsPerson_121 : decode cX6_readsPerson 121 = .ok (.getfield 28, 3) := by decide +kernel
theorem dX6_readsPerson_124 : decode cX6_readsPerson 124 = .ok (.iload_n 1, 1) := by decide +kernel
theorem dX6_readsPerson_125 : decode cX6_readsPerson 125 = .ok (.iconst 2, 1) := by decide +kernel
theorem dX6_readsPerson_126 : decode cX6_readsPerson 126 = .ok (.iadd, 1) := by decide +kernel
theorem dX6_readsPerson_127 : decode cX6_readsPerson 127 = .ok (.iload 4, 2) := by decide +kernel
theorem dX6_readsPerson_129 : decode cX6_readsPerson 129 = .ok (.iastore, 1) := by decide +kernel
theorem dX6_readsPerson_130 : decode cX6_readsPerson 130 = .ok (.aload_n 0, 1) := by decide +kernel
theorem dX6_readsPerson_131 : decode cX6_readsPerson 131 = .ok (.getfield 28, 3) := by decide +kernel
theorem dX6_readsPerson_134 : decode cX6_readsPerson 134 = .ok (.iload_n 1, 1) := by decide +kernel
theorem dX6_readsPerson_135 : decode cX6_readsPerson 135 = .ok (.iconst 4, 1) := by decide +kernel
theorem dX6_readsPerson_136 : decode cX6_readsPerson 136 = .ok (.iadd, 1) := by decide +kernel
theorem dX6_readsPerson_137 : decode cX6_readsPerson 137 = .ok (.iload_n 2, 1) := by decide +kernel
theorem dX6_readsPerson_138 : decode cX6_readsPerson 138 = .ok (.iastore, 1) := by decide +kernel
theorem dX6_readsPerson_139 : decode cX6_readsPerson 139 = .ok (.aload_n 0, 1) := by decide +kernel
theorem dX6_readsPerson_140 : decode cX6_readsPerson 140 = .ok (.getfield 28, 3) := by decide +kernel
theorem dX6_readsPerson_143 : decode cX6_readsPerson 143 = .ok (.iconst 4, 1) := by decide +kernel
theorem dX6_readsPerson_144 : decode cX6_readsPerson 144 = .ok (.dup2, 1) := by decide +kernel
theorem dX6_readsPerson_145 : decode cX6_readsPerson 145 = .ok (.iaload, 1) := by decide +kernel
theorem dX6_readsPerson_146 : decode cX6_readsPerson 146 = .ok (.iconst 1, 1) := by decide +kernel
theorem dX6_readsPerson_147 : decode cX6_readsPerson 147 = .ok (.iadd, 1) := by decide +kernel
theorem dX6_readsPerson_148 : decode cX6_readsPerson 148 = .ok (.iastore, 1) := by decide +kernel
theorem dX6_readsPerson_149 : decode cX6_readsPerson 149 = .ok (.return_, 1) := by decide +kernel
set_option maxRecDepth 20000 in
theorem ggX6_readsDog_X6_kindOf : GoodIn wsX6_readsDog wsX6_kindOf := goodIn_ids iaX6_readsDog iaX6_kindOf haX6_readsDog haX6_kindOf imX6_readsDog hmX6_readsDog (by decide +kernel) (by decide +kernel)
set_option maxRecDepth 20000 in
theorem gX6_readsDog_X6_kindOf : GoodIn wsX6_readsDog (va_wsS RX6 124 yX6_kindOf wsX6_kindOf) := goodIn_app (goodIn_ids iaX6_readsDog [1006, 1007, 77] haX6_readsDog rfl imX6_readsDog hmX6_readsDog (by decide +kernel) (by decide +kernel)) ggX6_readsDog_X6_kindOf
set_option maxRecDepth 20000 in
theorem ggX6_readsDog_X6_takes : GoodIn wsX6_readsDog wsX6_takes := goodIn_ids iaX6_readsDog iaX6_takes haX6_readsDog haX6_takes imX6_readsDog hmX6_readsDog (by decide +kernel) (by decide +kernel)
set_option maxRecDepth 20000 in
theorem gX6_readsDog_X6_takes : GoodIn wsX6_readsDog (wsV RX6 114 RX6 yX6_takes wsX6_takes) := goodIn_app (goodIn_ids iaX6_readsDog [982, 984, 43, 77] haX6_readsDog rfl imX6_readsDog hmX6_readsDog (by decide +kernel) (by decide +kernel)) ggX6_readsDog_X6_takes
set_option maxRecDepth 20000 in
theorem ggX6_readsDog_X6_figure : GoodIn wsX6_readsDog wsX6_figure := goodIn_ids iaX6_readsDog iaX6_figure haX6_readsDog haX6_figure imX6_readsDog hmX6_readsDog (by decide +kernel) (by decide +kernel)
set_option maxRecDepth 20000 in
theorem gX6_readsDog_X6_figure : GoodIn wsX6_readsDog (wsV RX6 118 RX6 yX6_figure wsX6_figure) := goodIn_app (goodIn_ids iaX6_readsDog [990, 992, 45, 77] haX6_readsDog rfl imX6_readsDog hmX6_readsDog (by decide +kernel) (by decide +kernel)) ggX6_readsDog_X6_figure
set_option maxRecDepth 20000 in
theorem ggX6_readsDog_X6_isWell : GoodIn wsX6_readsDog wsX6_isWell := goodIn_ids iaX6_readsDog iaX6_isWell haX6_readsDog haX6_isWell imX6_readsDog hmX6_readsDog (by decide +kernel) (by decide +kernel)
set_option maxRecDepth 20000 in
theorem gX6_readsDog_X6_isWell : GoodIn wsX6_readsDog (wsV RX6 104 RX6 yX6_isWell wsX6_isWell) := goodIn_app (goodIn_ids iaX6_readsDog [986, 988, 44, 77] haX6_readsDog rfl imX6_readsDog hmX6_readsDog (by decide +kernel) (by decide +kernel)) ggX6_readsDog_X6_isWell
theorem dX6_readsDog_0 : decode cX6_readsDog 0 = .ok (.aload_n 0, 1) := by decide +kernel
theorem dX6_readsDog_1 : decode cX6_readsDog 1 = .ok (.getfield 95, 3) := by decide +kernel
theorem dX6_readsDog_4 : decode cX6_readsDog 4 = .ok (.invokestatic 124, 3) := by decide +kernel
theorem dX6_readsDog_7 : decode cX6_readsDog 7 = .ok (.istore_n 1, 1) := by decide +kernel
theorem dX6_readsDog_8 : decode cX6_readsDog 8 = .ok (.aload_n 0, 1) := by decide +kernel
theorem dX6_readsDog_9 : decode cX6_readsDog 9 = .ok (.aload_n 0, 1) := by decide +kernel
theorem dX6_readsDog_10 : decode cX6_readsDog 10 = .ok (.getfield 28, 3) := by decide +kernel
theorem dX6_readsDog_13 : decode cX6_readsDog 13 = .ok (.iconst 5, 1) := by decide +kernel
theorem dX6_readsDog_14 : decode cX6_readsDog 14 = .ok (.iaload, 1) := by decide +kernel
theorem dX6_readsDog_15 : decode cX6_readsDog 15 = .ok (.bipush 6, 2) := by decide +kernel
theorem dX6_readsDog_17 : decode cX6_readsDog 17 = .ok (.if_icmp .ge 7, 3) := by decide +kernel
theorem dX6_readsDog_20 : decode cX6_readsDog 20 = .ok (.iconst 1, 1) := by decide +kernel
theorem dX6_readsDog_21 : decode cX6_readsDog 21 = .ok (.goto 4, 3) := by decide +kernel
theorem dX6_readsDog_24 : decode cX6_readsDog 24 = .ok (.iconst 0, 1) := by decide +kernel
theorem dX6_readsDog_25 : decode cX6_readsDog 25 = .ok (.iconst 3, 1) := by decide +kernel
theorem dX6_readsDog_26 : decode cX6_readsDog 26 = .ok (.invokevirtual 114, 3) := by decide +kernel
theorem dX6_readsDog_29 : decode cX6_readsDog 29 = .ok (.pop, 1) := by decide +kernel
theorem dX6_readsDog_30 : decode cX6_readsDog 30 = .ok (.bipush 36, 2) := by decide +kernel
theorem dX6_readsDog_32 : decode cX6_readsDog 32 = .ok (.iconst 3, 1) := by decide +kernel
theorem dX6_readsDog_33 : decode cX6_readsDog 33 = .ok (.aload_n 0, 1) := by decide +kernel
theorem dX6_readsDog_34 : decode cX6_readsDog 34 = .ok (.getfield 28, 3) := by decide +kernel
theorem dX6_readsDog_37 : decode cX6_readsDog 37 = .ok (.iconst 5, 1) := by decide +kernel
theorem dX6_readsDog_38 : decode cX6_readsDog 38 = .ok (.iaload, 1) := by decide +kernel
theorem dX6_readsDog_39 : decode cX6_readsDog 39 = .ok (.bipush 6, 2) := by decide +kernel
theorem dX6_readsDog_41 : decode cX6_readsDog 41 = .ok (.if_icmp .ge 12, 3) := by decide +kernel
theorem dX6_readsDog_44 : decode cX6_readsDog 44 = .ok (.aload_n 0, 1) := by decide +kernel
theorem dX6_readsDog_45 : decode cX6_readsDog 45 = .ok (.getfield 28, 3) := by decide +kernel
theorem dX6_readsDog_48 : decode cX6_readsDog 48 = .ok (.iconst 5, 1) := by decide +kernel
theorem dX6_readsDog_49 : decode cX6_readsDog 49 = .ok (.iaload, 1) := by decide +kernel
theorem dX6_readsDog_50 : decode cX6_readsDog 50 = .ok (.goto 4, 3) := by decide +kernel
theorem dX6_readsDog_53 : decode cX6_readsDog 53 = .ok (.iconst 0, 1) := by decide +kernel
theorem dX6_readsDog_54 : decode cX6_readsDog 54 = .ok (.imul, 1) := by decide +kernel
theorem dX6_readsDog_55 : decode cX6_readsDog 55 = .ok (.iadd, 1) := by decide +kernel
theorem dX6_readsDog_56 : decode cX6_readsDog 56 = .ok (.istore_n 2, 1) := by decide +kernel
theorem dX6_readsDog_57 : decode cX6_readsDog 57 = .ok (.aload_n 0, 1) := by decide +kernel
theorem dX6_readsDog_58 : decode cX6_readsDog 58 = .ok (.iconst 0, 1) := by decide +kernel
theorem dX6_readsDog_59 : decode cX6_readsDog 59 = .ok (.aload_n 0, 1) := by decide +kernel
theorem dX6_readsDog_60 : decode cX6_readsDog 60 = .ok (.getfield 28, 3) := by decide +kernel
theorem dX6_readsDog_63 : decode cX6_readsDog 63 = .ok (.iconst 0, 1) := by decide +kernel
theorem dX6_readsDog_64 : decode cX6_readsDog 64 = .ok (.iaload, 1) := by decide +kernel
theorem dX6_readsDog_65 : decode cX6_readsDog 65 = .ok (.iconst 1, 1) := by decide +kernel
theorem dX6_readsDog_66 : decode cX6_readsDog 66 = .ok (.isub, 1) := by decide +kernel
theorem dX6_readsDog_67 : decode cX6_readsDog 67 = .ok (.invokevirtual 118, 3) := by decide +kernel
theorem dX6_readsDog_70 : decode cX6_readsDog 70 = .ok (.istore_n 3, 1) := by decide +kernel
theorem dX6_readsDog_71 : decode cX6_readsDog 71 = .ok (.aload_n 0, 1) := by decide +kernel
theorem dX6_readsDog_72 : decode cX6_readsDog 72 = .ok (.aload_n 0, 1) := by decide +kernel
theorem dX6_readsDog_73 : decode cX6_readsDog 73 = .ok (.getfield 98, 3) := by decide +kernel
theorem dX6_readsDog_76 : decode cX6_readsDog 76 = .ok (.iconst 4, 1) := by decide +kernel
theorem dX6_readsDog_77 : decode cX6_readsDog 77 = .ok (.if_icmp .ne 7, 3) := by decide +kernel
theorem dX6_readsDog_80 : decode cX6_readsDog 80 = .ok (.iconst 1, 1) := by decide +kernel
theorem dX6_readsDog_81 : decode cX6_readsDog 81 = .ok (.goto 4, 3) := by decide +kernel
theorem dX6_readsDog_84 : decode cX6_readsDog 84 = .ok (.iconst 0, 1) := by decide +kernel
theorem dX6_readsDog_85 : decode cX6_readsDog 85 = .ok (.iconst 1, 1) := by decide +kernel
theorem dX6_readsDog_86 : decode cX6_readsDog 86 = .ok (.invokevirtual 114, 3) := by decide +kernel
theorem dX6_readsDog_89 : decode cX6_readsDog 89 = .ok (.pop, 1) := by decide +kernel
theorem dX6_readsDog_90 : decode cX6_readsDog 90 = .ok (.aload_n 0, 1) := by decide +kernel
theorem dX6_readsDog_91 : decode cX6_readsDog 91 = .ok (.invokevirtual 104, 3) := by decide +kernel
theorem dX6_readsDog_94 : decode cX6_readsDog 94 = .ok (.ifCond .eq 38, 3) := by decide +kernel
theorem dX6_readsDog_97 : decode cX6_readsDog 97 = .ok (.aload_n 0, 1) := by decide +kernel
theorem dX6_readsDog_98 : decode cX6_readsDog 98 = .ok (.getfield 28, 3) := by decide +kernel
theorem dX6_readsDog_101 : decode cX6_readsDog 101 = .ok (.iload_n 2, 1) := by decide +kernel
theorem dX6_readsDog_102 : decode cX6_readsDog 102 = .ok (.iload_n 1, 1) := by decide +kernel
theorem dX6_readsDog_103 : decode cX6_readsDog 103 = .ok (.iastore, 1) := by decide +kernel
theorem dX6_readsDog_104 : decode cX6_readsDog 104 = .ok (.aload_n 0, 1) := by decide +kernel
theorem dX6_readsDog_105 : decode cX6_readsDog 105 = .ok (.getfield 28, 3) := by decide +kernel
theorem dX6_readsDog_108 : decode cX6_readsDog 108 = .ok (.iload_n 2, 1) := by decide +kernel
theorem dX6_readsDog_109 : decode cX6_readsDog 109 = .ok (.iconst 1, 1) := by decide +kernel
theorem dX6_readsDog_110 : decode cX6_readsDog 110 = .ok (.iadd, 1) := by decide +kernel
theorem dX6_readsDog_111 : decode cX6_readsDog 111 = .ok (.iload_n 3, 1) := by decide +kernel
theorem dX6_readsDog_112 : decode cX6_readsDog 112 = .ok (.iastore, 1) := by decide +kernel
theorem dX6_readsDog_113 : decode cX6_readsDog 113 = .ok (.aload_n 0, 1) := by decide +kernel
theorem dX6_readsDog_114 : decode cX6_readsDog 114 = .ok (.getfield 28, 3) := by decide +kernel
theorem dX6_readsDog_117 : decode cX6_readsDog 117 = .ok (.iload_n 2, 1) := by decide +kernel
theorem dX6_readsDog_118 : decode cX6_readsDog 118 = .ok (.iconst 2, 1) := by decide +kernel
theorem dX6_readsDog_119 : decode cX6_readsDog 119 = .ok (.iadd, 1) := by decide +kernel
theorem dX6_readsDog_120 : decode cX6_readsDog 120 = .ok (.iload_n 3, 1) := by decide +kernel
theorem dX6_readsDog_121 : decode cX6_readsDog 121 = .ok (.iastore, 1) := by decide +kernel
theorem dX6_readsDog_122 : decode cX6_readsDog 122 = .ok (.aload_n 0, 1) := by decide +kernel
theorem dX6_readsDog_123 : decode cX6_readsDog 123 = .ok (.getfield 28, 3) := by decide +kernel
theorem dX6_readsDog_126 : decode cX6_readsDog 126 = .ok (.iconst 5, 1) := by decide +kernel
theorem dX6_readsDog_127 : decode cX6_readsDog 127 = .ok (.dup2, 1) := by decide +kernel
theorem dX6_readsDog_128 : decode cX6_readsDog 128 = .ok (.iaload, 1) := by decide +kernel
theorem dX6_readsDog_129 : decode cX6_readsDog 129 = .ok (.iconst 1, 1) := by decide +kernel
theorem dX6_readsDog_130 : decode cX6_readsDog 130 = .ok (.iadd, 1) := by decide +kernel
theorem dX6_readsDog_131 : decode cX6_readsDog 131 = .ok (.iastore, 1) := by decide +kernel
theorem dX6_readsDog_132 : decode cX6_readsDog 132 = .ok (.return_, 1) := by decide +kernel
set_option maxRecDepth 20000 in
theorem ggX6_must_X6_isWell : GoodIn wsX6_must wsX6_isWell := goodIn_ids iaX6_must iaX6_isWell haX6_must haX6_isWell imX6_must hmX6_must (by decide +kernel) (by decide +kernel)
set_option maxRecDepth 20000 in
theorem gX6_must_X6_isWell : GoodIn wsX6_must (wsV RX6 104 RX6 yX6_isWell wsX6_isWell) := goodIn_app (goodIn_ids iaX6_must [986, 988, 44, 77] haX6_must rfl imX6_must hmX6_must (by decide +kernel) (by decide +kernel)) ggX6_must_X6_isWell
set_option maxRecDepth 20000 in
theorem ggX6_must_X6_takes : GoodIn wsX6_must wsX6_takes := goodIn_ids iaX6_must iaX6_takes haX6_must haX6_takes imX6_must hmX6_must (by decide +kernel) (by decide +kernel)
set_option maxRecDepth 20000 in
theorem gX6_must_X6_takes : GoodIn wsX6_must (wsV RX6 114 RX6 yX6_takes wsX6_takes) := goodIn_app (goodIn_ids iaX6_must [982, 984, 43, 77] haX6_must rfl imX6_must hmX6_must (by decide +kernel) (by decide +kernel)) ggX6_must_X6_takes
theorem dX6_must_0 : decode cX6_must 0 = .ok (.aload_n 0, 1) := by decide +kernel
theorem dX6_must_1 : decode cX6_must 1 = .ok (.invokevirtual 104, 3) := by decide +kernel
theorem dX6_must_4 : decode cX6_must 4 = .ok (.ifCond .eq 14, 3) := by decide +kernel
theorem dX6_must_7 : decode cX6_must 7 = .ok (.iload_n 1, 1) := by decide +kernel
theorem dX6_must_8 : decode cX6_must 8 = .ok (.ifCond .ne 10, 3) := by decide +kernel
theorem dX6_must_11 : decode cX6_must 11 = .ok (.aload_n 0, 1) := by decide +kernel
theorem dX6_must_12 : decode cX6_must 12 = .ok (.iconst 0, 1) := by decide +kernel
theorem dX6_must_13 : decode cX6_must 13 = .ok (.iconst 1, 1) := by decide +kernel
theorem dX6_must_14 : decode cX6_must 14 = .ok (.invokevirtual 114, 3) := by decide +kernel
theorem dX6_must_17 : decode cX6_must 17 = .ok (.pop, 1) := by decide +kernel
theorem dX6_must_18 : decode cX6_must 18 = .ok (.return_, 1) := by decide +kernel
set_option maxRecDepth 20000 in
theorem ggX6_town_X6_advances : GoodIn wsX6_town wsX6_advances := goodIn_ids iaX6_town iaX6_advances haX6_town haX6_advances imX6_town hmX6_town (by decide +kernel) (by decide +kernel)
set_option maxRecDepth 20000 in
theorem gX6_town_X6_advances : GoodIn wsX6_town (wsV RX6 111 RX6 yX6_advances wsX6_advances) := goodIn_app (goodIn_ids iaX6_town [974, 976, 41, 77] haX6_town rfl imX6_town hmX6_town (by decide +kernel) (by decide +kernel)) ggX6_town_X6_advances
set_option maxRecDepth 20000 in
theorem ggX6_town_X6_takes : GoodIn wsX6_town wsX6_takes := goodIn_ids iaX6_town iaX6_takes haX6_town haX6_takes imX6_town hmX6_town (by decide +kernel) (by decide +kernel)
set_option maxRecDepth 20000 in
theorem gX6_town_X6_takes : GoodIn wsX6_town (wsV RX6 114 RX6 yX6_takes wsX6_takes) := goodIn_app (goodIn_ids iaX6_town [982, 984, 43, 77] haX6_town rfl imX6_town hmX6_town (by decide +kernel) (by decide +kernel)) ggX6_town_X6_takes
set_option maxRecDepth 20000 in
theorem ggX6_town_X6_figure : GoodIn wsX6_town wsX6_figure := goodIn_ids iaX6_town iaX6_figure haX6_town haX6_figure imX6_town hmX6_town (by decide +kernel) (by decide +kernel)
set_option maxRecDepth 20000 in
theorem gX6_town_X6_figure : GoodIn wsX6_town (wsV RX6 118 RX6 yX6_figure wsX6_figure) := goodIn_app (goodIn_ids iaX6_town [990, 992, 45, 77] haX6_town rfl imX6_town hmX6_town (by decide +kernel) (by decide +kernel)) ggX6_town_X6_figure
set_option maxRecDepth 20000 in
theorem ggX6_town_X6_follows : GoodIn wsX6_town wsX6_follows := goodIn_ids iaX6_town iaX6_follows haX6_town haX6_follows imX6_town hmX6_town (by decide +kernel) (by decide +kernel)
set_option maxRecDepth 20000 in
theorem gX6_town_X6_follows : GoodIn wsX6_town (wsV RX6 121 RX6 yX6_follows wsX6_follows) := goodIn_app (goodIn_ids iaX6_town [994, 996, 46, 77] haX6_town rfl imX6_town hmX6_town (by decide +kernel) (by decide +kernel)) ggX6_town_X6_follows
set_option maxRecDepth 20000 in
theorem ggX6_town_X6_must : GoodIn wsX6_town wsX6_must := goodIn_ids iaX6_town iaX6_must haX6_town haX6_must imX6_town hmX6_town (by decide +kernel) (by decide +kernel)
set_option maxRecDepth 20000 in
theorem gX6_town_X6_must : GoodIn wsX6_town (wsV RX6 127 RX6 yX6_must wsX6_must) := goodIn_app (goodIn_ids iaX6_town [998, 1000, 47, 77] haX6_town rfl imX6_town hmX6_town (by decide +kernel) (by decide +kernel)) ggX6_town_X6_must
set_option maxRecDepth 20000 in
theorem ggX6_town_X6_isWell : GoodIn wsX6_town wsX6_isWell := goodIn_ids iaX6_town iaX6_isWell haX6_town haX6_isWell imX6_town hmX6_town (by decide +kernel) (by decide +kernel)
set_option maxRecDepth 20000 in
theorem gX6_town_X6_isWell : GoodIn wsX6_town (wsV RX6 104 RX6 yX6_isWell wsX6_isWell) := goodIn_app (goodIn_ids iaX6_town [986, 988, 44, 77] haX6_town rfl imX6_town hmX6_town (by decide +kernel) (by decide +kernel)) ggX6_town_X6_isWell
set_option maxRecDepth 20000 in
theorem ggX6_town_X6_readsPerson : GoodIn wsX6_town wsX6_readsPerson := goodIn_ids iaX6_town iaX6_readsPerson haX6_town haX6_readsPerson imX6_town hmX6_town (by decide +kernel) (by decide +kernel)
set_option maxRecDepth 20000 in
theorem gX6_town_X6_readsPerson : GoodIn wsX6_town (wsV RX6 131 RX6 yX6_readsPerson wsX6_readsPerson) := goodIn_app (goodIn_ids iaX6_town [1002, 1004, 48, 77] haX6_town rfl imX6_town hmX6_town (by decide +kernel) (by decide +kernel)) ggX6_town_X6_readsPerson
set_option maxRecDepth 20000 in
theorem ggX6_town_X6_kindOf : GoodIn wsX6_town wsX6_kindOf := goodIn_ids iaX6_town iaX6_kindOf haX6_town haX6_kindOf imX6_town hmX6_town (by decide +kernel) (by decide +kernel)
set_option maxRecDepth 20000 in
theorem gX6_town_X6_kindOf : GoodIn wsX6_town (va_wsS RX6 124 yX6_kindOf wsX6_kindOf) := goodIn_app (goodIn_ids iaX6_town [1006, 1007, 77] haX6_town rfl imX6_town hmX6_town (by decide +kernel) (by decide +kernel)) ggX6_town_X6_kindOf
set_option maxRecDepth 20000 in
theorem ggX6_town_X6_readsDog : GoodIn wsX6_town wsX6_readsDog := goodIn_ids iaX6_town iaX6_readsDog haX6_town haX6_readsDog imX6_town hmX6_town (by decide +kernel) (by decide +kernel)
set_option maxRecDepth 20000 in
theorem gX6_town_X6_readsDog : GoodIn wsX6_town (wsV RX6 134 RX6 yX6_readsDog wsX6_readsDog) := goodIn_app (goodIn_ids iaX6_town [1009, 1011, 49, 77] haX6_town rfl imX6_town hmX6_town (by decide +kernel) (by decide +kernel)) ggX6_town_X6_readsDog
set_option maxRecDepth 20000 in
theorem ggX6_town_X6_copies : GoodIn wsX6_town wsX6_copies := goodIn_ids iaX6_town iaX6_copies haX6_town haX6_copies imX6_town hmX6_town (by decide +kernel) (by decide +kernel)
set_option maxRecDepth 20000 in
theorem gX6_town_X6_copies : GoodIn wsX6_town (va_wsS RX6 138 yX6_copies wsX6_copies) := goodIn_app (goodIn_ids iaX6_town [1014, 1015, 77] haX6_town rfl imX6_town hmX6_town (by decide +kernel) (by decide +kernel)) ggX6_town_X6_copies
theorem dX6_town_0 : decode cX6_town 0 = .ok (.iconst 0, 1) := by decide +kernel
theorem dX6_town_1 : decode cX6_town 1 = .ok (.istore_n 1, 1) := by decide +kernel
theorem dX6_town_2 : decode cX6_town 2 = .ok (.iload_n 1, 1) := by decide +kernel
theorem dX6_town_3 : decode cX6_town 3 = .ok (.bipush 54, 2) := by decide +kernel
theorem dX6_town_5 : decode cX6_town 5 = .ok (.if_icmp .ge 16, 3) := by decide +kernel
theorem dX6_town_8 : decode cX6_town 8 = .ok (.aload_n 0, 1) := by decide +kernel
theorem dX6_town_9 : decode cX6_town 9 = .ok (.getfield 28, 3) := by decide +kernel
theorem dX6_town_12 : decode cX6_town 12 = .ok (.iload_n 1, 1) := by decide +kernel
theorem dX6_town_13 : decode cX6_town 13 = .ok (.iconst 0, 1) := by decide +kernel
theorem dX6_town_14 : decode cX6_town 14 = .ok (.iastore, 1) := by decide +kernel
theorem dX6_town_15 : decode cX6_town 15 = .ok (.iinc 1 1, 3) := by decide +kernel
theorem dX6_town_18 : decode cX6_town 18 = .ok (.goto (-16), 3) := by decide +kernel
theorem dX6_town_21 : decode cX6_town 21 = .ok (.aload_n 0, 1) := by decide +kernel
theorem dX6_town_22 : decode cX6_town 22 = .ok (.iconst 0, 1) := by decide +kernel
theorem dX6_town_23 : decode cX6_town 23 = .ok (.putfield 86, 3) := by decide +kernel
theorem dX6_town_26 : decode cX6_town 26 = .ok (.aload_n 0, 1) := by decide +kernel
theorem dX6_town_27 : decode cX6_town 27 = .ok (.iconst (-1), 1) := by decide +kernel
theorem dX6_town_28 : decode cX6_town 28 = .ok (.putfield 101, 3) := by decide +kernel
theorem dX6_town_31 : decode cX6_town 31 = .ok (.aload_n 0, 1) := by decide +kernel
theorem dX6_town_32 : decode cX6_town 32 = .ok (.invokevirtual 111, 3) := by decide +kernel
theorem dX6_town_35 : decode cX6_town 35 = .ok (.aload_n 0, 1) := by decide +kernel
theorem dX6_town_36 : decode cX6_town 36 = .ok (.aload_n 0, 1) := by decide +kernel
theorem dX6_town_37 : decode cX6_town 37 = .ok (.getfield 98, 3) := by decide +kernel
theorem dX6_town_40 : decode cX6_town 40 = .ok (.iconst 1, 1) := by decide +kernel
theorem dX6_town_41 : decode cX6_town 41 = .ok (.if_icmp .ne 16, 3) := by decide +kernel
theorem dX6_town_44 : decode cX6_town 44 = .ok (.aload_n 0, 1) := by decide +kernel
theorem dX6_town_45 : decode cX6_town 45 = .ok (.getfield 95, 3) := by decide +kernel
theorem dX6_town_48 : decode cX6_town 48 = .ok (.bipush 116, 2) := by decide +kernel
theorem dX6_town_50 : decode cX6_town 50 = .ok (.if_icmp .ne 7, 3) := by decide +kernel
theorem dX6_town_53 : decode cX6_town 53 = .ok (.iconst 1, 1) := by decide +kernel
theorem dX6_town_54 : decode cX6_town 54 = .ok (.goto 4, 3) := by decide +kernel
theorem dX6_town_57 : decode cX6_town 57 = .ok (.iconst 0, 1) := by decide +kernel
theorem dX6_town_58 : decode cX6_town 58 = .ok (.iconst 1, 1) := by decide +kernel
theorem dX6_town_59 : decode cX6_town 59 = .ok (.invokevirtual 114, 3) := by decide +kernel
theorem dX6_town_62 : decode cX6_town 62 = .ok (.pop, 1) := by decide +kernel
theorem dX6_town_63 : decode cX6_town 63 = .ok (.aload_n 0, 1) := by decide +kernel
theorem dX6_town_64 : decode cX6_town 64 = .ok (.getfield 28, 3) := by decide +kernel
theorem dX6_town_67 : decode cX6_town 67 = .ok (.iconst 0, 1) := by decide +kernel
theorem dX6_town_68 : decode cX6_town 68 = .ok (.aload_n 0, 1) := by decide +kernel
theorem dX6_town_69 : decode cX6_town 69 = .ok (.iconst 3, 1) := by decide +kernel
theorem dX6_town_70 : decode cX6_town 70 = .ok (.bipush 9, 2) := by decide +kernel
theorem dX6_town_72 : decode cX6_town 72 = .ok (.invokevirtual 118, 3) := by decide +kernel
theorem dX6_town_75 : decode cX6_town 75 = .ok (.iastore, 1) := by decide +kernel
theorem dX6_town_76 : decode cX6_town 76 = .ok (.aload_n 0, 1) := by decide +kernel
theorem dX6_town_77 : decode cX6_town 77 = .ok (.getfield 28, 3) := by decide +kernel
theorem dX6_town_80 : decode cX6_town 80 = .ok (.iconst 1, 1) := by decide +kernel
theorem dX6_town_81 : decode cX6_town 81 = .ok (.aload_n 0, 1) := by decide +kernel
theorem dX6_town_82 : decode cX6_town 82 = .ok (.iconst 1, 1) := by decide +kernel
theorem dX6_town_83 : decode cX6_town 83 = .ok (.bipush 30, 2) := by decide +kernel
theorem dX6_town_85 : decode cX6_town 85 = .ok (.invokevirtual 121, 3) := by decide +kernel
theorem dX6_town_88 : decode cX6_town 88 = .ok (.iastore, 1) := by decide +kernel
theorem dX6_town_89 : decode cX6_town 89 = .ok (.aload_n 0, 1) := by decide +kernel
theorem dX6_town_90 : decode cX6_town 90 = .ok (.aload_n 0, 1) := by decide +kernel
theorem dX6_town_91 : decode cX6_town 91 = .ok (.getfield 98, 3) := by decide +kernel
theorem dX6_town_94 : decode cX6_town 94 = .ok (.iconst 4, 1) := by decide +kernel
theorem dX6_town_95 : decode cX6_town 95 = .ok (.if_icmp .ne 7, 3) := by decide +kernel
theorem dX6_town_98 : decode cX6_town 98 = .ok (.iconst 1, 1) := by decide +kernel
theorem dX6_town_99 : decode cX6_town 99 = .ok (.goto 4, 3) := by decide +kernel
theorem dX6_town_102 : decode cX6_town 102 = .ok (.iconst 0, 1) := by decide +kernel
theorem dX6_town_103 : decode cX6_town 103 = .ok (.iconst 1, 1) := by decide +kernel
theorem dX6_town_104 : decode cX6_town 104 = .ok (.invokevirtual 114, 3) := by decide +kernel
theorem dX6_town_107 : decode cX6_town 107 = .ok (.pop, 1) := by decide +kernel
theorem dX6_town_108 : decode cX6_town 108 = .ok (.aload_n 0, 1) := by decide +kernel
theorem dX6_town_109 : decode cX6_town 109 = .ok (.aload_n 0, 1) := by decide +kernel
theorem dX6_town_110 : decode cX6_town 110 = .ok (.getfield 98, 3) := by decide +kernel
theorem dX6_town_113 : decode cX6_town 113 = .ok (.iconst 1, 1) := by decide +kernel
theorem dX6_town_114 : decode cX6_town 114 = .ok (.if_icmp .ne 16, 3) := by decide +kernel
theorem dX6_town_117 : decode cX6_town 117 = .ok (.aload_n 0, 1) := by decide +kernel
theorem dX6_town_118 : decode cX6_town 118 = .ok (.getfield 95, 3) := by decide +kernel
theorem dX6_town_121 : decode cX6_town 121 = .ok (.bipush 109, 2) := by decide +kernel
theorem dX6_town_123 : decode cX6_town 123 = .ok (.if_icmp .ne 7, 3) := by decide +kernel
theorem dX6_town_126 : decode cX6_town 126 = .ok (.iconst 1, 1) := by decide +kernel
theorem dX6_town_127 : decode cX6_town 127 = .ok (.goto 4, 3) := by decide +kernel
theorem dX6_town_130 : decode cX6_town 130 = .ok (.iconst 0, 1) := by decide +kernel
theorem dX6_town_131 : decode cX6_town 131 = .ok (.invokevirtual 127, 3) := by decide +kernel
theorem dX6_town_134 : decode cX6_town 134 = .ok (.aload_n 0, 1) := by decide +kernel
theorem dX6_town_135 : decode cX6_town 135 = .ok (.invokevirtual 104, 3) := by decide +kernel
theorem dX6_town_138 : decode cX6_town 138 = .ok (.ifCond .eq 27, 3) := by decide +kernel
theorem dX6_town_141 : decode cX6_town 141 = .ok (.aload_n 0, 1) := by decide +kernel
theorem dX6_town_142 : decode cX6_town 142 = .ok (.getfield 98, 3) := by decide +kernel
theorem dX6_town_145 : decode cX6_town 145 = .ok (.iconst 1, 1) := by decide +kernel
theorem dX6_town_146 : decode cX6_town 146 = .ok (.if_icmp .ne 19, 3) := by decide +kernel
theorem dX6_town_149 : decode cX6_town 149 = .ok (.aload_n 0, 1) := by decide +kernel
theorem dX6_town_150 : decode cX6_town 150 = .ok (.getfield 95, 3) := by decide +kernel
theorem dX6_town_153 : decode cX6_town 153 = .ok (.bipush 109, 2) := by decide +kernel
theorem dX6_town_155 : decode cX6_town 155 = .ok (.if_icmp .ne 10, 3) := by decide +kernel
theorem dX6_town_158 : decode cX6_town 158 = .ok (.aload_n 0, 1) := by decide +kernel
theorem dX6_town_159 : decode cX6_town 159 = .ok (.invokevirtual 131, 3) := by decide +kernel
theorem dX6_town_162 : decode cX6_town 162 = .ok (.goto (-28), 3) := by decide +kernel
theorem dX6_town_165 : decode cX6_town 165 = .ok (.aload_n 0, 1) := by decide +kernel
theorem dX6_town_166 : decode cX6_town 166 = .ok (.invokevirtual 104, 3) := by decide +kernel
theorem dX6_town_169 : decode cX6_town 169 = .ok (.ifCond .eq 28, 3) := by decide +kernel
theorem dX6_town_172 : decode cX6_town 172 = .ok (.aload_n 0, 1) := by decide +kernel
theorem dX6_town_173 : decode cX6_town 173 = .ok (.getfield 98, 3) := by decide +kernel
theorem dX6_town_176 : decode cX6_town 176 = .ok (.iconst 1, 1) := by decide +kernel
theorem dX6_town_177 : decode cX6_town 177 = .ok (.if_icmp .ne 20, 3) := by decide +kernel
theorem dX6_town_180 : decode cX6_town 180 = .ok (.aload_n 0, 1) := by decide +kernel
theorem dX6_town_181 : decode cX6_town 181 = .ok (.getfield 95, 3) := by decide +kernel
theorem dX6_town_184 : decode cX6_town 184 = .ok (.invokestatic 124, 3) := by decide +kernel
theorem dX6_town_187 : decode cX6_town 187 = .ok (.ifCond .le 10, 3) := by decide +kernel
theorem dX6_town_190 : decode cX6_town 190 = .ok (.aload_n 0, 1) := by decide +kernel
theorem dX6_town_191 : decode cX6_town 191 = .ok (.invokevirtual 134, 3) := by decide +kernel
theorem dX6_town_194 : decode cX6_town 194 = .ok (.goto (-29), 3) := by decide +kernel
theorem dX6_town_197 : decode cX6_town 197 = .ok (.aload_n 0, 1) := by decide +kernel
theorem dX6_town_198 : decode cX6_town 198 = .ok (.aload_n 0, 1) := by decide +kernel
theorem dX6_town_199 : decode cX6_town 199 = .ok (.getfield 98, 3) := by decide +kernel
theorem dX6_town_202 : decode cX6_town 202 = .ok (.ifCond .ne 7, 3) := by decide +kernel
theorem dX6_town_205 : decode cX6_town 205 = .ok (.iconst 1, 1) := by decide +kernel
theorem dX6_town_206 : decode cX6_town 206 = .ok (.goto 4, 3) := by decide +kernel
theorem dX6_town_209 : decode cX6_town 209 = .ok (.iconst 0, 1) := by decide +kernel
theorem dX6_town_210 : decode cX6_town 210 = .ok (.invokevirtual 127, 3) := by decide +kernel
theorem dX6_town_213 : decode cX6_town 213 = .ok (.aload_n 0, 1) := by decide +kernel
theorem dX6_town_214 : decode cX6_town 214 = .ok (.iconst 0, 1) := by decide +kernel
theorem dX6_town_215 : decode cX6_town 215 = .ok (.putfield 82, 3) := by decide +kernel
theorem dX6_town_218 : decode cX6_town 218 = .ok (.aload_n 0, 1) := by decide +kernel
theorem dX6_town_219 : decode cX6_town 219 = .ok (.invokevirtual 104, 3) := by decide +kernel
theorem dX6_town_222 : decode cX6_town 222 = .ok (.ifCond .ne 11, 3) := by decide +kernel
theorem dX6_town_225 : decode cX6_town 225 = .ok (.ldc 137, 2) := by decide +kernel
theorem dX6_town_227 : decode cX6_town 227 = .ok (.aload_n 0, 1) := by decide +kernel
theorem dX6_town_228 : decode cX6_town 228 = .ok (.getfield 101, 3) := by decide +kernel
theorem dX6_town_231 : decode cX6_town 231 = .ok (.isub, 1) := by decide +kernel
theorem dX6_town_232 : decode cX6_town 232 = .ok (.ireturn, 1) := by decide +kernel
theorem dX6_town_233 : decode cX6_town 233 = .ok (.aload_n 0, 1) := by decide +kernel
theorem dX6_town_234 : decode cX6_town 234 = .ok (.getfield 28, 3) := by decide +kernel
theorem dX6_town_237 : decode cX6_town 237 = .ok (.iconst 0, 1) := by decide +kernel
theorem dX6_town_238 : decode cX6_town 238 = .ok (.aload_n 0, 1) := by decide +kernel
theorem dX6_town_239 : decode cX6_town 239 = .ok (.getfield 25, 3) := by decide +kernel
theorem dX6_town_242 : decode cX6_town 242 = .ok (.iconst 0, 1) := by decide +kernel
theorem dX6_town_243 : decode cX6_town 243 = .ok (.invokestatic 138, 3) := by decide +kernel
theorem dX6_town_246 : decode cX6_town 246 = .ok (.aload_n 0, 1) := by decide +kernel
theorem dX6_town_247 : decode cX6_town 247 = .ok (.iconst 0, 1) := by decide +kernel
theorem dX6_town_248 : decode cX6_town 248 = .ok (.putfield 142, 3) := by decide +kernel
theorem dX6_town_251 : decode cX6_town 251 = .ok (.aload_n 0, 1) := by decide +kernel
theorem dX6_town_252 : decode cX6_town 252 = .ok (.getfield 25, 3) := by decide +kernel
theorem dX6_town_255 : decode cX6_town 255 = .ok (.iconst 5, 1) := by decide +kernel
theorem dX6_town_256 : decode cX6_town 256 = .ok (.iaload, 1) := by decide +kernel
theorem dX6_town_257 : decode cX6_town 257 = .ok (.ireturn, 1) := by decide +kernel
theorem dX6_fault_0 : decode cX6_fault 0 = .ok (.aload_n 0, 1) := by decide +kernel
theorem dX6_fault_1 : decode cX6_fault 1 = .ok (.getfield 108, 3) := by decide +kernel
theorem dX6_fault_4 : decode cX6_fault 4 = .ok (.ireturn, 1) := by decide +kernel
theorem dX6_isTown_0 : decode cX6_isTown 0 = .ok (.aload_n 0, 1) := by decide +kernel
theorem dX6_isTown_1 : decode cX6_isTown 1 = .ok (.getfield 25, 3) := by decide +kernel
theorem dX6_isTown_4 : decode cX6_isTown 4 = .ok (.iconst 0, 1) := by decide +kernel
theorem dX6_isTown_5 : decode cX6_isTown 5 = .ok (.iaload, 1) := by decide +kernel
theorem dX6_isTown_6 : decode cX6_isTown 6 = .ok (.ifCond .le 7, 3) := by decide +kernel
theorem dX6_isTown_9 : decode cX6_isTown 9 = .ok (.iconst 1, 1) := by decide +kernel
theorem dX6_isTown_10 : decode cX6_isTown 10 = .ok (.goto 4, 3) := by decide +kernel
theorem dX6_isTown_13 : decode cX6_isTown 13 = .ok (.iconst 0, 1) := by decide +kernel
theorem dX6_isTown_14 : decode cX6_isTown 14 = .ok (.ireturn, 1) := by decide +kernel
set_option maxRecDepth 20000 in
theorem ggX6_isDog_X6_in : GoodIn wsX6_isDog wsX6_in := goodIn_ids iaX6_isDog iaX6_in haX6_isDog haX6_in imX6_isDog hmX6_isDog (by decide +kernel) (by decide +kernel)
set_option maxRecDepth 20000 in
theorem gX6_isDog_X6_in : GoodIn wsX6_isDog (va_wsS RX6 56 yX6_in wsX6_in) := goodIn_app (goodIn_ids iaX6_isDog [929, 930, 77] haX6_isDog rfl imX6_isDog hmX6_isDog (by decide +kernel) (by decide +kernel)) ggX6_isDog_X6_in
theorem dX6_isDog_0 : decode cX6_isDog 0 = .ok (.iload_n 1, 1) := by decide +kernel
theorem dX6_isDog_1 : decode cX6_isDog 1 = .ok (.iconst 0, 1) := by decide +kernel
theorem dX6_isDog_2 : decode cX6_isDog 2 = .ok (.aload_n 0, 1) := by decide +kernel
theorem dX6_isDog_3 : decode cX6_isDog 3 = .ok (.getfield 25, 3) := by decide +kernel
theorem dX6_isDog_6 : decode cX6_isDog 6 = .ok (.iconst 5, 1) := by decide +kernel
theorem dX6_isDog_7 : decode cX6_isDog 7 = .ok (.iaload, 1) := by decide +kernel
theorem dX6_isDog_8 : decode cX6_isDog 8 = .ok (.iconst 1, 1) := by decide +kernel
theorem dX6_isDog_9 : decode cX6_isDog 9 = .ok (.isub, 1) := by decide +kernel
theorem dX6_isDog_10 : decode cX6_isDog 10 = .ok (.invokestatic 56, 3) := by decide +kernel
theorem dX6_isDog_13 : decode cX6_isDog 13 = .ok (.ireturn, 1) := by decide +kernel
set_option maxRecDepth 20000 in
theorem ggX6_isPerson_X6_in : GoodIn wsX6_isPerson wsX6_in := goodIn_ids iaX6_isPerson iaX6_in haX6_isPerson haX6_in imX6_isPerson hmX6_isPerson (by decide +kernel) (by decide +kernel)
set_option maxRecDepth 20000 in
theorem gX6_isPerson_X6_in : GoodIn wsX6_isPerson (va_wsS RX6 56 yX6_in wsX6_in) := goodIn_app (goodIn_ids iaX6_isPerson [929, 930, 77] haX6_isPerson rfl imX6_isPerson hmX6_isPerson (by decide +kernel) (by decide +kernel)) ggX6_isPerson_X6_in
theorem dX6_isPerson_0 : decode cX6_isPerson 0 = .ok (.iload_n 1, 1) := by decide +kernel
theorem dX6_isPerson_1 : decode cX6_isPerson 1 = .ok (.iconst 0, 1) := by decide +kernel
theorem dX6_isPerson_2 : decode cX6_isPerson 2 = .ok (.aload_n 0, 1) := by decide +kernel
theorem dX6_isPerson_3 : decode cX6_isPerson 3 = .ok (.getfield 25, 3) := by decide +kernel
theorem dX6_isPerson_6 : decode cX6_isPerson 6 = .ok (.iconst 4, 1) := by decide +kernel
theorem dX6_isPerson_7 : decode cX6_isPerson 7 = .ok (.iaload, 1) := by decide +kernel
theorem dX6_isPerson_8 : decode cX6_isPerson 8 = .ok (.iconst 1, 1) := by decide +kernel
theorem dX6_isPerson_9 : decode cX6_isPerson 9 = .ok (.isub, 1) := by decide +kernel
theorem dX6_isPerson_10 : decode cX6_isPerson 10 = .ok (.invokestatic 56, 3) := by decide +kernel
theorem dX6_isPerson_13 : decode cX6_isPerson 13 = .ok (.ireturn, 1) := by decide +kernel
set_option maxRecDepth 20000 in
theorem ggX6_isStreet_X6_in : GoodIn wsX6_isStreet wsX6_in := goodIn_ids iaX6_isStreet iaX6_in haX6_isStreet haX6_in imX6_isStreet hmX6_isStreet (by decide +kernel) (by decide +kernel)
set_option maxRecDepth 20000 in
theorem gX6_isStreet_X6_in : GoodIn wsX6_isStreet (va_wsS RX6 56 yX6_in wsX6_in) := goodIn_app (goodIn_ids iaX6_isStreet [929, 930, 77] haX6_isStreet rfl imX6_isStreet hmX6_isStreet (by decide +kernel) (by decide +kernel)) ggX6_isStreet_X6_in
theorem dX6_isStreet_0 : decode cX6_isStreet 0 = .ok (.iload_n 1, 1) := by decide +kernel
theorem dX6_isStreet_1 : decode cX6_isStreet 1 = .ok (.iconst 0, 1) := by decide +kernel
theorem dX6_isStreet_2 : decode cX6_isStreet 2 = .ok (.aload_n 0, 1) := by decide +kernel
theorem dX6_isStreet_3 : decode cX6_isStreet 3 = .ok (.getfield 25, 3) := by decide +kernel
theorem dX6_isStreet_6 : decode cX6_isStreet 6 = .ok (.iconst 0, 1) := by decide +kernel
theorem dX6_isStreet_7 : decode cX6_isStreet 7 = .ok (.iaload, 1) := by decide +kernel
theorem dX6_isStreet_8 : decode cX6_isStreet 8 = .ok (.iconst 1, 1) := by decide +kernel
theorem dX6_isStreet_9 : decode cX6_isStreet 9 = .ok (.isub, 1) := by decide +kernel
theorem dX6_isStreet_10 : decode cX6_isStreet 10 = .ok (.invokestatic 56, 3) := by decide +kernel
theorem dX6_isStreet_13 : decode cX6_isStreet 13 = .ok (.ireturn, 1) := by decide +kernel
theorem dX6_size_0 : decode cX6_size 0 = .ok (.iload_n 0, 1) := by decide +kernel
theorem dX6_size_1 : decode cX6_size 1 = .ok (.ifCond .ge 8, 3) := by decide +kernel
theorem dX6_size_4 : decode cX6_size 4 = .ok (.iload_n 0, 1) := by decide +kernel
theorem dX6_size_5 : decode cX6_size 5 = .ok (.ineg, 1) := by decide +kernel
theorem dX6_size_6 : decode cX6_size 6 = .ok (.goto 4, 3) := by decide +kernel
theorem dX6_size_9 : decode cX6_size 9 = .ok (.iload_n 0, 1) := by decide +kernel
theorem dX6_size_10 : decode cX6_size 10 = .ok (.ireturn, 1) := by decide +kernel
set_option maxRecDepth 20000 in
theorem ggX6_pull_X6_size : GoodIn wsX6_pull wsX6_size := goodIn_ids iaX6_pull iaX6_size haX6_pull haX6_size imX6_pull hmX6_pull (by decide +kernel) (by decide +kernel)
set_option maxRecDepth 20000 in
theorem gX6_pull_X6_size : GoodIn wsX6_pull (va_wsS RX6 145 yX6_size wsX6_size) := goodIn_app (goodIn_ids iaX6_pull [1052, 1053, 77] haX6_pull rfl imX6_pull hmX6_pull (by decide +kernel) (by decide +kernel)) ggX6_pull_X6_size
theorem dX6_pull_0 : decode cX6_pull 0 = .ok (.bipush 6, 2) := by decide +kernel
theorem dX6_pull_2 : decode cX6_pull 2 = .ok (.bipush 6, 2) := by decide +kernel
theorem dX6_pull_4 : decode cX6_pull 4 = .ok (.iload_n 2, 1) := by decide +kernel
theorem dX6_pull_5 : decode cX6_pull 5 = .ok (.imul, 1) := by decide +kernel
theorem dX6_pull_6 : decode cX6_pull 6 = .ok (.iadd, 1) := by decide +kernel
theorem dX6_pull_7 : decode cX6_pull 7 = .ok (.istore_n 3, 1) := by decide +kernel
theorem dX6_pull_8 : decode cX6_pull 8 = .ok (.aload_n 0, 1) := by decide +kernel
theorem dX6_pull_9 : decode cX6_pull 9 = .ok (.iload_n 3, 1) := by decide +kernel
theorem dX6_pull_10 : decode cX6_pull 10 = .ok (.iconst 4, 1) := by decide +kernel
theorem dX6_pull_11 : decode cX6_pull 11 = .ok (.iadd, 1) := by decide +kernel
theorem dX6_pull_12 : decode cX6_pull 12 = .ok (.iaload, 1) := by decide +kernel
theorem dX6_pull_13 : decode cX6_pull 13 = .ok (.aload_n 0, 1) := by decide +kernel
theorem dX6_pull_14 : decode cX6_pull 14 = .ok (.bipush 36, 2) := by decide +kernel
theorem dX6_pull_16 : decode cX6_pull 16 = .ok (.iconst 3, 1) := by decide +kernel
theorem dX6_pull_17 : decode cX6_pull 17 = .ok (.iload_n 1, 1) := by decide +kernel
theorem dX6_pull_18 : decode cX6_pull 18 = .ok (.imul, 1) := by decide +kernel
theorem dX6_pull_19 : decode cX6_pull 19 = .ok (.iadd, 1) := by decide +kernel
theorem dX6_pull_20 : decode cX6_pull 20 = .ok (.iconst 2, 1) := by decide +kernel
theorem dX6_pull_21 : decode cX6_pull 21 = .ok (.iadd, 1) := by decide +kernel
theorem dX6_pull_22 : decode cX6_pull 22 = .ok (.iaload, 1) := by decide +kernel
theorem dX6_pull_23 : decode cX6_pull 23 = .ok (.isub, 1) := by decide +kernel
theorem dX6_pull_24 : decode cX6_pull 24 = .ok (.invokestatic 145, 3) := by decide +kernel
theorem dX6_pull_27 : decode cX6_pull 27 = .ok (.istore 4, 2) := by decide +kernel
theorem dX6_pull_29 : decode cX6_pull 29 = .ok (.aload_n 0, 1) := by decide +kernel
theorem dX6_pull_30 : decode cX6_pull 30 = .ok (.bipush 36, 2) := by decide +kernel
theorem dX6_pull_32 : decode cX6_pull 32 = .ok (.iconst 3, 1) := by decide +kernel
theorem dX6_pull_33 : decode cX6_pull 33 = .ok (.iload_n 1, 1) := by decide +kernel
theorem dX6_pull_34 : decode cX6_pull 34 = .ok (.imul, 1) := by decide +kernel
theorem dX6_pull_35 : decode cX6_pull 35 = .ok (.iadd, 1) := by decide +kernel
theorem dX6_pull_36 : decode cX6_pull 36 = .ok (.iaload, 1) := by decide +kernel
theorem dX6_pull_37 : decode cX6_pull 37 = .ok (.iconst 2, 1) := by decide +kernel
theorem dX6_pull_38 : decode cX6_pull 38 = .ok (.if_icmp .ne 7, 3) := by decide +kernel
theorem dX6_pull_41 : decode cX6_pull 41 = .ok (.iconst 0, 1) := by decide +kernel
theorem dX6_pull_42 : decode cX6_pull 42 = .ok (.goto 8, 3) := by decide +kernel
theorem dX6_pull_45 : decode cX6_pull 45 = .ok (.aload_n 0, 1) := by decide +kernel
theorem dX6_pull_46 : decode cX6_pull 46 = .ok (.iload_n 3, 1) := by decide +kernel
theorem dX6_pull_47 : decode cX6_pull 47 = .ok (.iconst 1, 1) := by decide +kernel
theorem dX6_pull_48 : decode cX6_pull 48 = .ok (.iadd, 1) := by decide +kernel
theorem dX6_pull_49 : decode cX6_pull 49 = .ok (.iaload, 1) := by decide +kernel
theorem dX6_pull_50 : decode cX6_pull 50 = .ok (.iconst 3, 1) := by decide +kernel
theorem dX6_pull_51 : decode cX6_pull 51 = .ok (.aload_n 0, 1) := by decide +kernel
theorem dX6_pull_52 : decode cX6_pull 52 = .ok (.iload_n 3, 1) := by decide +kernel
theorem dX6_pull_53 : decode cX6_pull 53 = .ok (.iconst 3, 1) := by decide +kernel
theorem dX6_pull_54 : decode cX6_pull 54 = .ok (.iadd, 1) := by decide +kernel
theorem dX6_pull_55 : decode cX6_pull 55 = .ok (.iaload, 1) := by decide +kernel
theorem dX6_pull_56 : decode cX6_pull 56 = .ok (.imul, 1) := by decide +kernel
theorem dX6_pull_57 : decode cX6_pull 57 = .ok (.iadd, 1) := by decide +kernel
theorem dX6_pull_58 : decode cX6_pull 58 = .ok (.iload 4, 2) := by decide +kernel
theorem dX6_pull_60 : decode cX6_pull 60 = .ok (.isub, 1) := by decide +kernel
theorem dX6_pull_61 : decode cX6_pull 61 = .ok (.ireturn, 1) := by decide +kernel
set_option maxRecDepth 20000 in
theorem ggX6_master_X6_pull : GoodIn wsX6_master wsX6_pull := goodIn_ids iaX6_master iaX6_pull haX6_master haX6_pull imX6_master hmX6_master (by decide +kernel) (by decide +kernel)
