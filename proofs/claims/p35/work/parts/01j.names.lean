set_option maxRecDepth 20000 in
theorem gX6_master_X6_pull : GoodIn wsX6_master (va_wsS RX6 148 yX6_pull wsX6_pull) := goodIn_app (goodIn_ids iaX6_master [1049, 1050, 77] haX6_master rfl imX6_master hmX6_master (by decide +kernel) (by decide +kernel)) ggX6_master_X6_pull
theorem dX6_master_0 : decode cX6_master 0 = .ok (.iconst 0, 1) := by decide +kernel
theorem dX6_master_1 : decode cX6_master 1 = .ok (.istore_n 2, 1) := by decide +kernel
theorem dX6_master_2 : decode cX6_master 2 = .ok (.iconst 1, 1) := by decide +kernel
theorem dX6_master_3 : decode cX6_master 3 = .ok (.istore_n 3, 1) := by decide +kernel
theorem dX6_master_4 : decode cX6_master 4 = .ok (.iload_n 3, 1) := by decide +kernel
theorem dX6_master_5 : decode cX6_master 5 = .ok (.aload_n 0, 1) := by decide +kernel
theorem dX6_master_6 : decode cX6_master 6 = .ok (.iconst 4, 1) := by decide +kernel
theorem dX6_master_7 : decode cX6_master 7 = .ok (.iaload, 1) := by decide +kernel
theorem dX6_master_8 : decode cX6_master 8 = .ok (.if_icmp .ge 30, 3) := by decide +kernel
theorem dX6_master_11 : decode cX6_master 11 = .ok (.aload_n 0, 1) := by decide +kernel
theorem dX6_master_12 : decode cX6_master 12 = .ok (.iload_n 1, 1) := by decide +kernel
theorem dX6_master_13 : decode cX6_master 13 = .ok (.iload_n 3, 1) := by decide +kernel
theorem dX6_master_14 : decode cX6_master 14 = .ok (.invokestatic 148, 3) := by decide +kernel
theorem dX6_master_17 : decode cX6_master 17 = .ok (.aload_n 0, 1) := by decide +kernel
theorem dX6_master_18 : decode cX6_master 18 = .ok (.iload_n 1, 1) := by decide +kernel
theorem dX6_master_19 : decode cX6_master 19 = .ok (.iload_n 2, 1) := by decide +kernel
theorem dX6_master_20 : decode cX6_master 20 = .ok (.invokestatic 148, 3) := by decide +kernel
theorem dX6_master_23 : decode cX6_master 23 = .ok (.if_icmp .le 7, 3) := by decide +kernel
theorem dX6_master_26 : decode cX6_master 26 = .ok (.iload_n 3, 1) := by decide +kernel
theorem dX6_master_27 : decode cX6_master 27 = .ok (.goto 4, 3) := by decide +kernel
theorem dX6_master_30 : decode cX6_master 30 = .ok (.iload_n 2, 1) := by decide +kernel
theorem dX6_master_31 : decode cX6_master 31 = .ok (.istore_n 2, 1) := by decide +kernel
theorem dX6_master_32 : decode cX6_master 32 = .ok (.iinc 3 1, 3) := by decide +kernel
theorem dX6_master_35 : decode cX6_master 35 = .ok (.goto (-31), 3) := by decide +kernel
theorem dX6_master_38 : decode cX6_master 38 = .ok (.aload_n 0, 1) := by decide +kernel
theorem dX6_master_39 : decode cX6_master 39 = .ok (.bipush 36, 2) := by decide +kernel
theorem dX6_master_41 : decode cX6_master 41 = .ok (.iconst 3, 1) := by decide +kernel
theorem dX6_master_42 : decode cX6_master 42 = .ok (.iload_n 1, 1) := by decide +kernel
theorem dX6_master_43 : decode cX6_master 43 = .ok (.imul, 1) := by decide +kernel
theorem dX6_master_44 : decode cX6_master 44 = .ok (.iadd, 1) := by decide +kernel
theorem dX6_master_45 : decode cX6_master 45 = .ok (.iaload, 1) := by decide +kernel
theorem dX6_master_46 : decode cX6_master 46 = .ok (.istore_n 3, 1) := by decide +kernel
theorem dX6_master_47 : decode cX6_master 47 = .ok (.iload_n 3, 1) := by decide +kernel
theorem dX6_master_48 : decode cX6_master 48 = .ok (.iconst 3, 1) := by decide +kernel
theorem dX6_master_49 : decode cX6_master 49 = .ok (.if_icmp .gt 17, 3) := by decide +kernel
theorem dX6_master_52 : decode cX6_master 52 = .ok (.iload_n 3, 1) := by decide +kernel
theorem dX6_master_53 : decode cX6_master 53 = .ok (.iconst 3, 1) := by decide +kernel
theorem dX6_master_54 : decode cX6_master 54 = .ok (.if_icmp .ne 17, 3) := by decide +kernel
theorem dX6_master_57 : decode cX6_master 57 = .ok (.aload_n 0, 1) := by decide +kernel
theorem dX6_master_58 : decode cX6_master 58 = .ok (.iload_n 1, 1) := by decide +kernel
theorem dX6_master_59 : decode cX6_master 59 = .ok (.iload_n 2, 1) := by decide +kernel
theorem dX6_master_60 : decode cX6_master 60 = .ok (.invokestatic 148, 3) := by decide +kernel
theorem dX6_master_63 : decode cX6_master 63 = .ok (.ifCond .gt 8, 3) := by decide +kernel
theorem dX6_master_66 : decode cX6_master 66 = .ok (.ldc 50, 2) := by decide +kernel
theorem dX6_master_68 : decode cX6_master 68 = .ok (.goto 4, 3) := by decide +kernel
theorem dX6_master_71 : decode cX6_master 71 = .ok (.iload_n 2, 1) := by decide +kernel
theorem dX6_master_72 : decode cX6_master 72 = .ok (.ireturn, 1) := by decide +kernel
set_option maxRecDepth 20000 in
theorem ggX6_othersIn_X6_has : GoodIn wsX6_othersIn wsX6_has := goodIn_ids iaX6_othersIn iaX6_has haX6_othersIn haX6_has imX6_othersIn hmX6_othersIn (by decide +kernel) (by decide +kernel)
set_option maxRecDepth 20000 in
theorem gX6_othersIn_X6_has : GoodIn wsX6_othersIn (va_wsS RX6 152 yX6_has wsX6_has) := goodIn_app (goodIn_ids iaX6_othersIn [1058, 1059, 77] haX6_othersIn rfl imX6_othersIn hmX6_othersIn (by decide +kernel) (by decide +kernel)) ggX6_othersIn_X6_has
theorem dX6_othersIn_0 : decode cX6_othersIn 0 = .ok (.iconst 0, 1) := by decide +kernel
theorem dX6_othersIn_1 : decode cX6_othersIn 1 = .ok (.istore 4, 2) := by decide +kernel
theorem dX6_othersIn_3 : decode cX6_othersIn 3 = .ok (.iconst 0, 1) := by decide +kernel
theorem dX6_othersIn_4 : decode cX6_othersIn 4 = .ok (.istore 5, 2) := by decide +kernel
theorem dX6_othersIn_6 : decode cX6_othersIn 6 = .ok (.iload 5, 2) := by decide +kernel
theorem dX6_othersIn_8 : decode cX6_othersIn 8 = .ok (.aload_n 0, 1) := by decide +kernel
theorem dX6_othersIn_9 : decode cX6_othersIn 9 = .ok (.iconst 5, 1) := by decide +kernel
theorem dX6_othersIn_10 : decode cX6_othersIn 10 = .ok (.iaload, 1) := by decide +kernel
theorem dX6_othersIn_11 : decode cX6_othersIn 11 = .ok (.if_icmp .ge 49, 3) := by decide +kernel
theorem dX6_othersIn_14 : decode cX6_othersIn 14 = .ok (.iload 4, 2) := by decide +kernel
theorem dX6_othersIn_16 : decode cX6_othersIn 16 = .ok (.iload 5, 2) := by decide +kernel
theorem dX6_othersIn_18 : decode cX6_othersIn 18 = .ok (.iload_n 2, 1) := by decide +kernel
theorem dX6_othersIn_19 : decode cX6_othersIn 19 = .ok (.if_icmp .eq 31, 3) := by decide +kernel
theorem dX6_othersIn_22 : decode cX6_othersIn 22 = .ok (.iload_n 3, 1) := by decide +kernel
theorem dX6_othersIn_23 : decode cX6_othersIn 23 = .ok (.iload 5, 2) := by decide +kernel
theorem dX6_othersIn_25 : decode cX6_othersIn 25 = .ok (.invokestatic 152, 3) := by decide +kernel
theorem dX6_othersIn_28 : decode cX6_othersIn 28 = .ok (.ifCond .ne 22, 3) := by decide +kernel
theorem dX6_othersIn_31 : decode cX6_othersIn 31 = .ok (.aload_n 0, 1) := by decide +kernel
theorem dX6_othersIn_32 : decode cX6_othersIn 32 = .ok (.bipush 36, 2) := by decide +kernel
theorem dX6_othersIn_34 : decode cX6_othersIn 34 = .ok (.iconst 3, 1) := by decide +kernel
theorem dX6_othersIn_35 : decode cX6_othersIn 35 = .ok (.iload 5, 2) := by decide +kernel
theorem dX6_othersIn_37 : decode cX6_othersIn 37 = .ok (.imul, 1) := by decide +kernel
theorem dX6_othersIn_38 : decode cX6_othersIn 38 = .ok (.iadd, 1) := by decide +kernel
theorem dX6_othersIn_39 : decode cX6_othersIn 39 = .ok (.iconst 2, 1) := by decide +kernel
theorem dX6_othersIn_40 : decode cX6_othersIn 40 = .ok (.iadd, 1) := by decide +kernel
theorem dX6_othersIn_41 : decode cX6_othersIn 41 = .ok (.iaload, 1) := by decide +kernel
theorem dX6_othersIn_42 : decode cX6_othersIn 42 = .ok (.iload_n 1, 1) := by decide +kernel
theorem dX6_othersIn_43 : decode cX6_othersIn 43 = .ok (.if_icmp .ne 7, 3) := by decide +kernel
theorem dX6_othersIn_46 : decode cX6_othersIn 46 = .ok (.iconst 1, 1) := by decide +kernel
theorem dX6_othersIn_47 : decode cX6_othersIn 47 = .ok (.goto 4, 3) := by decide +kernel
theorem dX6_othersIn_50 : decode cX6_othersIn 50 = .ok (.iconst 0, 1) := by decide +kernel
theorem dX6_othersIn_51 : decode cX6_othersIn 51 = .ok (.iadd, 1) := by decide +kernel
theorem dX6_othersIn_52 : decode cX6_othersIn 52 = .ok (.istore 4, 2) := by decide +kernel
theorem dX6_othersIn_54 : decode cX6_othersIn 54 = .ok (.iinc 5 1, 3) := by decide +kernel
theorem dX6_othersIn_57 : decode cX6_othersIn 57 = .ok (.goto (-51), 3) := by decide +kernel
theorem dX6_othersIn_60 : decode cX6_othersIn 60 = .ok (.iload 4, 2) := by decide +kernel
theorem dX6_othersIn_62 : decode cX6_othersIn 62 = .ok (.ireturn, 1) := by decide +kernel
set_option maxRecDepth 20000 in
theorem ggX6_aim_X6_master : GoodIn wsX6_aim wsX6_master := goodIn_ids iaX6_aim iaX6_master haX6_aim haX6_master imX6_aim hmX6_aim (by decide +kernel) (by decide +kernel)
set_option maxRecDepth 20000 in
theorem gX6_aim_X6_master : GoodIn wsX6_aim (va_wsS RX6 156 yX6_master wsX6_master) := goodIn_app (goodIn_ids iaX6_aim [1046, 1047, 77] haX6_aim rfl imX6_aim hmX6_aim (by decide +kernel) (by decide +kernel)) ggX6_aim_X6_master
set_option maxRecDepth 20000 in
theorem ggX6_aim_X6_othersIn : GoodIn wsX6_aim wsX6_othersIn := goodIn_ids iaX6_aim iaX6_othersIn haX6_aim haX6_othersIn imX6_aim hmX6_aim (by decide +kernel) (by decide +kernel)
set_option maxRecDepth 20000 in
theorem gX6_aim_X6_othersIn : GoodIn wsX6_aim (va_wsS RX6 160 yX6_othersIn wsX6_othersIn) := goodIn_app (goodIn_ids iaX6_aim [1055, 1056, 77] haX6_aim rfl imX6_aim hmX6_aim (by decide +kernel) (by decide +kernel)) ggX6_aim_X6_othersIn
theorem dX6_aim_0 : decode cX6_aim 0 = .ok (.aload_n 0, 1) := by decide +kernel
theorem dX6_aim_1 : decode cX6_aim 1 = .ok (.bipush 36, 2) := by decide +kernel
theorem dX6_aim_3 : decode cX6_aim 3 = .ok (.iconst 3, 1) := by decide +kernel
theorem dX6_aim_4 : decode cX6_aim 4 = .ok (.iload_n 1, 1) := by decide +kernel
theorem dX6_aim_5 : decode cX6_aim 5 = .ok (.imul, 1) := by decide +kernel
theorem dX6_aim_6 : decode cX6_aim 6 = .ok (.iadd, 1) := by decide +kernel
theorem dX6_aim_7 : decode cX6_aim 7 = .ok (.iaload, 1) := by decide +kernel
theorem dX6_aim_8 : decode cX6_aim 8 = .ok (.istore_n 3, 1) := by decide +kernel
theorem dX6_aim_9 : decode cX6_aim 9 = .ok (.iload_n 3, 1) := by decide +kernel
theorem dX6_aim_10 : decode cX6_aim 10 = .ok (.iconst 3, 1) := by decide +kernel
theorem dX6_aim_11 : decode cX6_aim 11 = .ok (.if_icmp .gt 35, 3) := by decide +kernel
theorem dX6_aim_14 : decode cX6_aim 14 = .ok (.aload_n 0, 1) := by decide +kernel
theorem dX6_aim_15 : decode cX6_aim 15 = .ok (.iload_n 1, 1) := by decide +kernel
theorem dX6_aim_16 : decode cX6_aim 16 = .ok (.invokestatic 156, 3) := by decide +kernel
theorem dX6_aim_19 : decode cX6_aim 19 = .ok (.istore 4, 2) := by decide +kernel
theorem dX6_aim_21 : decode cX6_aim 21 = .ok (.iload 4, 2) := by decide +kernel
theorem dX6_aim_23 : decode cX6_aim 23 = .ok (.ldc 50, 2) := by decide +kernel
theorem dX6_aim_25 : decode cX6_aim 25 = .ok (.if_icmp .ne 8, 3) := by decide +kernel
theorem dX6_aim_28 : decode cX6_aim 28 = .ok (.ldc 50, 2) := by decide +kernel
theorem dX6_aim_30 : decode cX6_aim 30 = .ok (.goto 15, 3) := by decide +kernel
theorem dX6_aim_33 : decode cX6_aim 33 = .ok (.aload_n 0, 1) := by decide +kernel
theorem dX6_aim_34 : decode cX6_aim 34 = .ok (.bipush 6, 2) := by decide +kernel
theorem dX6_aim_36 : decode cX6_aim 36 = .ok (.bipush 6, 2) := by decide +kernel
theorem dX6_aim_38 : decode cX6_aim 38 = .ok (.iload 4, 2) := by decide +kernel
theorem dX6_aim_40 : decode cX6_aim 40 = .ok (.imul, 1) := by decide +kernel
theorem dX6_aim_41 : decode cX6_aim 41 = .ok (.iadd, 1) := by decide +kernel
theorem dX6_aim_42 : decode cX6_aim 42 = .ok (.iconst 4, 1) := by decide +kernel
theorem dX6_aim_43 : decode cX6_aim 43 = .ok (.iadd, 1) := by decide +kernel
theorem dX6_aim_44 : decode cX6_aim 44 = .ok (.iaload, 1) := by decide +kernel
theorem dX6_aim_45 : decode cX6_aim 45 = .ok (.ireturn, 1) := by decide +kernel
theorem dX6_aim_46 : decode cX6_aim 46 = .ok (.iconst 0, 1) := by decide +kernel
theorem dX6_aim_47 : decode cX6_aim 47 = .ok (.istore 4, 2) := by decide +kernel
theorem dX6_aim_49 : decode cX6_aim 49 = .ok (.iconst 1, 1) := by decide +kernel
theorem dX6_aim_50 : decode cX6_aim 50 = .ok (.istore 5, 2) := by decide +kernel
theorem dX6_aim_52 : decode cX6_aim 52 = .ok (.iload 5, 2) := by decide +kernel
theorem dX6_aim_54 : decode cX6_aim 54 = .ok (.aload_n 0, 1) := by decide +kernel
theorem dX6_aim_55 : decode cX6_aim 55 = .ok (.iconst 0, 1) := by decide +kernel
theorem dX6_aim_56 : decode cX6_aim 56 = .ok (.iaload, 1) := by decide +kernel
theorem dX6_aim_57 : decode cX6_aim 57 = .ok (.if_icmp .ge 57, 3) := by decide +kernel
theorem dX6_aim_60 : decode cX6_aim 60 = .ok (.aload_n 0, 1) := by decide +kernel
theorem dX6_aim_61 : decode cX6_aim 61 = .ok (.iload 5, 2) := by decide +kernel
theorem dX6_aim_63 : decode cX6_aim 63 = .ok (.iload_n 1, 1) := by decide +kernel
theorem dX6_aim_64 : decode cX6_aim 64 = .ok (.iload_n 2, 1) := by decide +kernel
theorem dX6_aim_65 : decode cX6_aim 65 = .ok (.invokestatic 160, 3) := by decide +kernel
theorem dX6_aim_68 : decode cX6_aim 68 = .ok (.aload_n 0, 1) := by decide +kernel
theorem dX6_aim_69 : decode cX6_aim 69 = .ok (.iload 4, 2) := by decide +kernel
theorem dX6_aim_71 : decode cX6_aim 71 = .ok (.iload_n 1, 1) := by decide +kernel
theorem dX6_aim_72 : decode cX6_aim 72 = .ok (.iload_n 2, 1) := by decide +kernel
theorem dX6_aim_73 : decode cX6_aim 73 = .ok (.invokestatic 160, 3) := by decide +kernel
theorem dX6_aim_76 : decode cX6_aim 76 = .ok (.isub, 1) := by decide +kernel
theorem dX6_aim_77 : decode cX6_aim 77 = .ok (.istore 6, 2) := by decide +kernel
theorem dX6_aim_79 : decode cX6_aim 79 = .ok (.iload_n 3, 1) := by decide +kernel
theorem dX6_aim_80 : decode cX6_aim 80 = .ok (.iconst 4, 1) := by decide +kernel
theorem dX6_aim_81 : decode cX6_aim 81 = .ok (.if_icmp .ne 8, 3) := by decide +kernel
theorem dX6_aim_84 : decode cX6_aim 84 = .ok (.iload 6, 2) := by decide +kernel
theorem dX6_aim_86 : decode cX6_aim 86 = .ok (.ifCond .gt 13, 3) := by decide +kernel
theorem dX6_aim_89 : decode cX6_aim 89 = .ok (.iload_n 3, 1) := by decide +kernel
theorem dX6_aim_90 : decode cX6_aim 90 = .ok (.iconst 5, 1) := by decide +kernel
theorem dX6_aim_91 : decode cX6_aim 91 = .ok (.if_icmp .ne 13, 3) := by decide +kernel
theorem dX6_aim_94 : decode cX6_aim 94 = .ok (.iload 6, 2) := by decide +kernel
theorem dX6_aim_96 : decode cX6_aim 96 = .ok (.ifCond .ge 8, 3) := by decide +kernel
theorem dX6_aim_99 : decode cX6_aim 99 = .ok (.iload 5, 2) := by decide +kernel
theorem dX6_aim_101 : decode cX6_aim 101 = .ok (.goto 5, 3) := by decide +kernel
theorem dX6_aim_104 : decode cX6_aim 104 = .ok (.iload 4, 2) := by decide +kernel
theorem dX6_aim_106 : decode cX6_aim 106 = .ok (.istore 4, 2) := by decide +kernel
theorem dX6_aim_108 : decode cX6_aim 108 = .ok (.iinc 5 1, 3) := by decide +kernel
theorem dX6_aim_111 : decode cX6_aim 111 = .ok (.goto (-59), 3) := by decide +kernel
theorem dX6_aim_114 : decode cX6_aim 114 = .ok (.iload_n 3, 1) := by decide +kernel
theorem dX6_aim_115 : decode cX6_aim 115 = .ok (.iconst 4, 1) := by decide +kernel
theorem dX6_aim_116 : decode cX6_aim 116 = .ok (.if_icmp .ne 19, 3) := by decide +kernel
theorem dX6_aim_119 : decode cX6_aim 119 = .ok (.aload_n 0, 1) := by decide +kernel
theorem dX6_aim_120 : decode cX6_aim 120 = .ok (.iload 4, 2) := by decide +kernel
theorem dX6_aim_122 : decode cX6_aim 122 = .ok (.iload_n 1, 1) := by decide +kernel
theorem dX6_aim_123 : decode cX6_aim 123 = .ok (.iload_n 2, 1) := by decide +kernel
theorem dX6_aim_124 : decode cX6_aim 124 = .ok (.invokestatic 160, 3) := by decide +kernel
theorem dX6_aim_127 : decode cX6_aim 127 = .ok (.ifCond .ne 8, 3) := by decide +kernel
theorem dX6_aim_130 : decode cX6_aim 130 = .ok (.ldc 50, 2) := by decide +kernel
theorem dX6_aim_132 : decode cX6_aim 132 = .ok (.goto 5, 3) := by decide +kernel
theorem dX6_aim_135 : decode cX6_aim 135 = .ok (.iload 4, 2) := by decide +kernel
theorem dX6_aim_137 : decode cX6_aim 137 = .ok (.ireturn, 1) := by decide +kernel
theorem dX6_goesOut_0 : decode cX6_goesOut 0 = .ok (.bipush 6, 2) := by decide +kernel
theorem dX6_goesOut_2 : decode cX6_goesOut 2 = .ok (.bipush 6, 2) := by decide +kernel
theorem dX6_goesOut_4 : decode cX6_goesOut 4 = .ok (.iload_n 1, 1) := by decide +kernel
theorem dX6_goesOut_5 : decode cX6_goesOut 5 = .ok (.imul, 1) := by decide +kernel
theorem dX6_goesOut_6 : decode cX6_goesOut 6 = .ok (.iadd, 1) := by decide +kernel
theorem dX6_goesOut_7 : decode cX6_goesOut 7 = .ok (.istore_n 2, 1) := by decide +kernel
theorem dX6_goesOut_8 : decode cX6_goesOut 8 = .ok (.aload_n 0, 1) := by decide +kernel
theorem dX6_goesOut_9 : decode cX6_goesOut 9 = .ok (.iload_n 2, 1) := by decide +kernel
theorem dX6_goesOut_10 : decode cX6_goesOut 10 = .ok (.iconst 2, 1) := by decide +kernel
theorem dX6_goesOut_11 : decode cX6_goesOut 11 = .ok (.iadd, 1) := by decide +kernel
theorem dX6_goesOut_12 : decode cX6_goesOut 12 = .ok (.iaload, 1) := by decide +kernel
theorem dX6_goesOut_13 : decode cX6_goesOut 13 = .ok (.iconst 1, 1) := by decide +kernel
theorem dX6_goesOut_14 : decode cX6_goesOut 14 = .ok (.if_icmp .ne 25, 3) := by decide +kernel
theorem dX6_goesOut_17 : decode cX6_goesOut 17 = .ok (.aload_n 0, 1) := by decide +kernel
theorem dX6_goesOut_18 : decode cX6_goesOut 18 = .ok (.iload_n 2, 1) := by decide +kernel
theorem dX6_goesOut_19 : decode cX6_goesOut 19 = .ok (.iconst 4, 1) := by decide +kernel
theorem dX6_goesOut_20 : decode cX6_goesOut 20 = .ok (.iadd, 1) := by decide +kernel
theorem dX6_goesOut_21 : decode cX6_goesOut 21 = .ok (.iaload, 1) := by decide +kernel
theorem dX6_goesOut_22 : decode cX6_goesOut 22 = .ok (.aload_n 0, 1) := by decide +kernel
theorem dX6_goesOut_23 : decode cX6_goesOut 23 = .ok (.iconst 0, 1) := by decide +kernel
theorem dX6_goesOut_24 : decode cX6_goesOut 24 = .ok (.iaload, 1) := by decide +kernel
theorem dX6_goesOut_25 : decode cX6_goesOut 25 = .ok (.iconst 1, 1) := by decide +kernel
theorem dX6_goesOut_26 : decode cX6_goesOut 26 = .ok (.isub, 1) := by decide +kernel
theorem dX6_goesOut_27 : decode cX6_goesOut 27 = .ok (.if_icmp .ne 12, 3) := by decide +kernel
theorem dX6_goesOut_30 : decode cX6_goesOut 30 = .ok (.aload_n 0, 1) := by decide +kernel
theorem dX6_goesOut_31 : decode cX6_goesOut 31 = .ok (.iload_n 2, 1) := by decide +kernel
theorem dX6_goesOut_32 : decode cX6_goesOut 32 = .ok (.iconst 2, 1) := by decide +kernel
theorem dX6_goesOut_33 : decode cX6_goesOut 33 = .ok (.iadd, 1) := by decide +kernel
theorem dX6_goesOut_34 : decode cX6_goesOut 34 = .ok (.iconst 2, 1) := by decide +kernel
theorem dX6_goesOut_35 : decode cX6_goesOut 35 = .ok (.iastore, 1) := by decide +kernel
theorem dX6_goesOut_36 : decode cX6_goesOut 36 = .ok (.goto 26, 3) := by decide +kernel
theorem dX6_goesOut_39 : decode cX6_goesOut 39 = .ok (.aload_n 0, 1) := by decide +kernel
theorem dX6_goesOut_40 : decode cX6_goesOut 40 = .ok (.iload_n 2, 1) := by decide +kernel
theorem dX6_goesOut_41 : decode cX6_goesOut 41 = .ok (.iconst 2, 1) := by decide +kernel
theorem dX6_goesOut_42 : decode cX6_goesOut 42 = .ok (.iadd, 1) := by decide +kernel
theorem dX6_goesOut_43 : decode cX6_goesOut 43 = .ok (.iaload, 1) := by decide +kernel
theorem dX6_goesOut_44 : decode cX6_goesOut 44 = .ok (.iconst 2, 1) := by decide +kernel
theorem dX6_goesOut_45 : decode cX6_goesOut 45 = .ok (.if_icmp .ne 17, 3) := by decide +kernel
theorem dX6_goesOut_48 : decode cX6_goesOut 48 = .ok (.aload_n 0, 1) := by decide +kernel
theorem dX6_goesOut_49 : decode cX6_goesOut 49 = .ok (.iload_n 2, 1) := by decide +kernel
theorem dX6_goesOut_50 : decode cX6_goesOut 50 = .ok (.iconst 4, 1) := by decide +kernel
theorem dX6_goesOut_51 : decode cX6_goesOut 51 = .ok (.iadd, 1) := by decide +kernel
theorem dX6_goesOut_52 : decode cX6_goesOut 52 = .ok (.iaload, 1) := by decide +kernel
theorem dX6_goesOut_53 : decode cX6_goesOut 53 = .ok (.ifCond .ne 9, 3) := by decide +kernel
theorem dX6_goesOut_56 : decode cX6_goesOut 56 = .ok (.aload_n 0, 1) := by decide +kernel
theorem dX6_goesOut_57 : decode cX6_goesOut 57 = .ok (.iload_n 2, 1) := by decide +kernel
theorem dX6_goesOut_58 : decode cX6_goesOut 58 = .ok (.iconst 2, 1) := by decide +kernel
theorem dX6_goesOut_59 : decode cX6_goesOut 59 = .ok (.iadd, 1) := by decide +kernel
theorem dX6_goesOut_60 : decode cX6_goesOut 60 = .ok (.iconst 1, 1) := by decide +kernel
theorem dX6_goesOut_61 : decode cX6_goesOut 61 = .ok (.iastore, 1) := by decide +kernel
theorem dX6_goesOut_62 : decode cX6_goesOut 62 = .ok (.aload_n 0, 1) := by decide +kernel
theorem dX6_goesOut_63 : decode cX6_goesOut 63 = .ok (.iload_n 2, 1) := by decide +kernel
theorem dX6_goesOut_64 : decode cX6_goesOut 64 = .ok (.iconst 4, 1) := by decide +kernel
theorem dX6_goesOut_65 : decode cX6_goesOut 65 = .ok (.iadd, 1) := by decide +kernel
theorem dX6_goesOut_66 : decode cX6_goesOut 66 = .ok (.dup2, 1) := by decide +kernel
theorem dX6_goesOut_67 : decode cX6_goesOut 67 = .ok (.iaload, 1) := by decide +kernel
theorem dX6_goesOut_68 : decode cX6_goesOut 68 = .ok (.aload_n 0, 1) := by decide +kernel
theorem dX6_goesOut_69 : decode cX6_goesOut 69 = .ok (.iload_n 2, 1) := by decide +kernel
theorem dX6_goesOut_70 : decode cX6_goesOut 70 = .ok (.iconst 2, 1) := by decide +kernel
theorem dX6_goesOut_71 : decode cX6_goesOut 71 = .ok (.iadd, 1) := by decide +kernel
theorem dX6_goesOut_72 : decode cX6_goesOut 72 = .ok (.iaload, 1) := by decide +kernel
theorem dX6_goesOut_73 : decode cX6_goesOut 73 = .ok (.iconst 1, 1) := by decide +kernel
theorem dX6_goesOut_74 : decode cX6_goesOut 74 = .ok (.if_icmp .ne 7, 3) := by decide +kernel
theorem dX6_goesOut_77 : decode cX6_goesOut 77 = .ok (.iconst 1, 1) := by decide +kernel
theorem dX6_goesOut_78 : decode cX6_goesOut 78 = .ok (.goto 17, 3) := by decide +kernel
theorem dX6_goesOut_81 : decode cX6_goesOut 81 = .ok (.aload_n 0, 1) := by decide +kernel
theorem dX6_goesOut_82 : decode cX6_goesOut 82 = .ok (.iload_n 2, 1) := by decide +kernel
theorem dX6_goesOut_83 : decode cX6_goesOut 83 = .ok (.iconst 2, 1) := by decide +kernel
theorem dX6_goesOut_84 : decode cX6_goesOut 84 = .ok (.iadd, 1) := by decide +kernel
theorem dX6_goesOut_85 : decode cX6_goesOut 85 = .ok (.iaload, 1) := by decide +kernel
theorem dX6_goesOut_86 : decode cX6_goesOut 86 = .ok (.iconst 2, 1) := by decide +kernel
theorem dX6_goesOut_87 : decode cX6_goesOut 87 = .ok (.if_icmp .ne 7, 3) := by decide +kernel
theorem dX6_goesOut_90 : decode cX6_goesOut 90 = .ok (.iconst (-1), 1) := by decide +kernel
theorem dX6_goesOut_91 : decode cX6_goesOut 91 = .ok (.goto 4, 3) := by decide +kernel
theorem dX6_goesOut_94 : decode cX6_goesOut 94 = .ok (.iconst 0, 1) := by decide +kernel
theorem dX6_goesOut_95 : decode cX6_goesOut 95 = .ok (.iadd, 1) := by decide +kernel
theorem dX6_goesOut_96 : decode cX6_goesOut 96 = .ok (.iastore, 1) := by decide +kernel
theorem dX6_goesOut_97 : decode cX6_goesOut 97 = .ok (.return_, 1) := by decide +kernel
set_option maxRecDepth 20000 in
theorem ggX6_steps_X6_goesOut : GoodIn wsX6_steps wsX6_goesOut := goodIn_ids iaX6_steps iaX6_goesOut haX6_steps haX6_goesOut imX6_steps hmX6_steps (by decide +kernel) (by decide +kernel)
set_option maxRecDepth 20000 in
theorem gX6_steps_X6_goesOut : GoodIn wsX6_steps (va_wsS RX6 164 yX6_goesOut wsX6_goesOut) := goodIn_app (goodIn_ids iaX6_steps [1040, 1041, 77] haX6_steps rfl imX6_steps hmX6_steps (by decide +kernel) (by decide +kernel)) ggX6_steps_X6_goesOut
set_option maxRecDepth 20000 in
theorem ggX6_steps_X6_aim : GoodIn wsX6_steps wsX6_aim := goodIn_ids iaX6_steps iaX6_aim haX6_steps haX6_aim imX6_steps hmX6_steps (by decide +kernel) (by decide +kernel)
set_option maxRecDepth 20000 in
theorem gX6_steps_X6_aim : GoodIn wsX6_steps (va_wsS RX6 168 yX6_aim wsX6_aim) := goodIn_app (goodIn_ids iaX6_steps [1043, 1044, 77] haX6_steps rfl imX6_steps hmX6_steps (by decide +kernel) (by decide +kernel)) ggX6_steps_X6_aim
set_option maxRecDepth 20000 in
theorem ggX6_steps_X6_has : GoodIn wsX6_steps wsX6_has := goodIn_ids iaX6_steps iaX6_has haX6_steps haX6_has imX6_steps hmX6_steps (by decide +kernel) (by decide +kernel)
set_option maxRecDepth 20000 in
theorem gX6_steps_X6_has : GoodIn wsX6_steps (va_wsS RX6 152 yX6_has wsX6_has) := goodIn_app (goodIn_ids iaX6_steps [1058, 1059, 77] haX6_steps rfl imX6_steps hmX6_steps (by decide +kernel) (by decide +kernel)) ggX6_steps_X6_has
theorem dX6_steps_0 : decode cX6_steps 0 = .ok (.iconst 0, 1) := by decide +kernel
theorem dX6_steps_1 : decode cX6_steps 1 = .ok (.istore 4, 2) := by decide +kernel
theorem dX6_steps_3 : decode cX6_steps 3 = .ok (.iload 4, 2) := by decide +kernel
theorem dX6_steps_5 : decode cX6_steps 5 = .ok (.aload_n 0, 1) := by decide +kernel
theorem dX6_steps_6 : decode cX6_steps 6 = .ok (.iconst 4, 1) := by decide +kernel
theorem dX6_steps_7 : decode cX6_steps 7 = .ok (.iaload, 1) := by decide +kernel
theorem dX6_steps_8 : decode cX6_steps 8 = .ok (.if_icmp .ge 15, 3) := by decide +kernel
theorem dX6_steps_11 : decode cX6_steps 11 = .ok (.aload_n 0, 1) := by decide +kernel
theorem dX6_steps_12 : decode cX6_steps 12 = .ok (.iload 4, 2) := by decide +kernel
theorem dX6_steps_14 : decode cX6_steps 14 = .ok (.invokestatic 164, 3) := by decide +kernel
theorem dX6_steps_17 : decode cX6_steps 17 = .ok (.iinc 4 1, 3) := by decide +kernel
theorem dX6_steps_20 : decode cX6_steps 20 = .ok (.goto (-17), 3) := by decide +kernel
theorem dX6_steps_23 : decode cX6_steps 23 = .ok (.iconst 0, 1) := by decide +kernel
theorem dX6_steps_24 : decode cX6_steps 24 = .ok (.istore 4, 2) := by decide +kernel
theorem dX6_steps_26 : decode cX6_steps 26 = .ok (.iload 4, 2) := by decide +kernel
theorem dX6_steps_28 : decode cX6_steps 28 = .ok (.aload_n 0, 1) := by decide +kernel
theorem dX6_steps_29 : decode cX6_steps 29 = .ok (.iconst 5, 1) := by decide +kernel
theorem dX6_steps_30 : decode cX6_steps 30 = .ok (.iaload, 1) := by decide +kernel
theorem dX6_steps_31 : decode cX6_steps 31 = .ok (.if_icmp .ge 139, 3) := by decide +kernel
theorem dX6_steps_34 : decode cX6_steps 34 = .ok (.bipush 36, 2) := by decide +kernel
theorem dX6_steps_36 : decode cX6_steps 36 = .ok (.iconst 3, 1) := by decide +kernel
theorem dX6_steps_37 : decode cX6_steps 37 = .ok (.iload 4, 2) := by decide +kernel
theorem dX6_steps_39 : decode cX6_steps 39 = .ok (.imul, 1) := by decide +kernel
theorem dX6_steps_40 : decode cX6_steps 40 = .ok (.iadd, 1) := by decide +kernel
theorem dX6_steps_41 : decode cX6_steps 41 = .ok (.iconst 2, 1) := by decide +kernel
theorem dX6_steps_42 : decode cX6_steps 42 = .ok (.iadd, 1) := by decide +kernel
theorem dX6_steps_43 : decode cX6_steps 43 = .ok (.istore 5, 2) := by decide +kernel
theorem dX6_steps_45 : decode cX6_steps 45 = .ok (.aload_n 0, 1) := by decide +kernel
theorem dX6_steps_46 : decode cX6_steps 46 = .ok (.iload 4, 2) := by decide +kernel
theorem dX6_steps_48 : decode cX6_steps 48 = .ok (.iload_n 1, 1) := by decide +kernel
theorem dX6_steps_49 : decode cX6_steps 49 = .ok (.invokestatic 168, 3) := by decide +kernel
theorem dX6_steps_52 : decode cX6_steps 52 = .ok (.istore 6, 2) := by decide +kernel
theorem dX6_steps_54 : decode cX6_steps 54 = .ok (.iload 6, 2) := by decide +kernel
theorem dX6_steps_56 : decode cX6_steps 56 = .ok (.ldc 50, 2) := by decide +kernel
theorem dX6_steps_58 : decode cX6_steps 58 = .ok (.if_icmp .eq 12, 3) := by decide +kernel
theorem dX6_steps_61 : decode cX6_steps 61 = .ok (.iload 6, 2) := by decide +kernel
theorem dX6_steps_63 : decode cX6_steps 63 = .ok (.aload_n 0, 1) := by decide +kernel
theorem dX6_steps_64 : decode cX6_steps 64 = .ok (.iload 5, 2) := by decide +kernel
theorem dX6_steps_66 : decode cX6_steps 66 = .ok (.iaload, 1) := by decide +kernel
theorem dX6_steps_67 : decode cX6_steps 67 = .ok (.if_icmp .ne 10, 3) := by decide +kernel
theorem dX6_steps_70 : decode cX6_steps 70 = .ok (.aload_n 0, 1) := by decide +kernel
theorem dX6_steps_71 : decode cX6_steps 71 = .ok (.iload 5, 2) := by decide +kernel
theorem dX6_steps_73 : decode cX6_steps 73 = .ok (.iaload, 1) := by decide +kernel
theorem dX6_steps_74 : decode cX6_steps 74 = .ok (.goto 27, 3) := by decide +kernel
theorem dX6_steps_77 : decode cX6_steps 77 = .ok (.iload 6, 2) := by decide +kernel
theorem dX6_steps_79 : decode cX6_steps 79 = .ok (.aload_n 0, 1) := by decide +kernel
theorem dX6_steps_80 : decode cX6_steps 80 = .ok (.iload 5, 2) := by decide +kernel
theorem dX6_steps_82 : decode cX6_steps 82 = .ok (.iaload, 1) := by decide +kernel
theorem dX6_steps_83 : decode cX6_steps 83 = .ok (.if_icmp .le 12, 3) := by decide +kernel
theorem dX6_steps_86 : decode cX6_steps 86 = .ok (.aload_n 0, 1) := by decide +kernel
theorem dX6_steps_87 : decode cX6_steps 87 = .ok (.iload 5, 2) := by decide +kernel
theorem dX6_steps_89 : decode cX6_steps 89 = .ok (.iaload, 1) := by decide +kernel
theorem dX6_steps_90 : decode cX6_steps 90 = .ok (.iconst 1, 1) := by decide +kernel
theorem dX6_steps_91 : decode cX6_steps 91 = .ok (.iadd, 1) := by decide +kernel
theorem dX6_steps_92 : decode cX6_steps 92 = .ok (.goto 9, 3) := by decide +kernel
theorem dX6_steps_95 : decode cX6_steps 95 = .ok (.aload_n 0, 1) := by decide +kernel
theorem dX6_steps_96 : decode cX6_steps 96 = .ok (.iload 5, 2) := by decide +kernel
theorem dX6_steps_98 : decode cX6_steps 98 = .ok (.iaload, 1) := by decide +kernel
theorem dX6_steps_99 : decode cX6_steps 99 = .ok (.iconst 1, 1) := by decide +kernel
theorem dX6_steps_100 : decode cX6_steps 100 = .ok (.isub, 1) := by decide +kernel
theorem dX6_steps_101 : decode cX6_steps 101 = .ok (.istore 7, 2) := by decide +kernel
theorem dX6_steps_103 : decode cX6_steps 103 = .ok (.iload_n 1, 1) := by decide +kernel
theorem dX6_steps_104 : decode cX6_steps 104 = .ok (.iload 4, 2) := by decide +kernel
theorem dX6_steps_106 : decode cX6_steps 106 = .ok (.invokestatic 152, 3) := by decide +kernel
theorem dX6_steps_109 : decode cX6_steps 109 = .ok (.ifCond .ne 34, 3) := by decide +kernel
theorem dX6_steps_112 : decode cX6_steps 112 = .ok (.iload_n 2, 1) := by decide +kernel
theorem dX6_steps_113 : decode cX6_steps 113 = .ok (.iload 4, 2) := by decide +kernel
theorem dX6_steps_115 : decode cX6_steps 115 = .ok (.invokestatic 152, 3) := by decide +kernel
theorem dX6_steps_118 : decode cX6_steps 118 = .ok (.ifCond .ne 25, 3) := by decide +kernel
theorem dX6_steps_121 : decode cX6_steps 121 = .ok (.iload 7, 2) := by decide +kernel
theorem dX6_steps_123 : decode cX6_steps 123 = .ok (.aload_n 0, 1) := by decide +kernel
theorem dX6_steps_124 : decode cX6_steps 124 = .ok (.iload 5, 2) := by decide +kernel
theorem dX6_steps_126 : decode cX6_steps 126 = .ok (.iaload, 1) := by decide +kernel
theorem dX6_steps_127 : decode cX6_steps 127 = .ok (.if_icmp .eq 12, 3) := by decide +kernel
theorem dX6_steps_130 : decode cX6_steps 130 = .ok (.iload_n 3, 1) := by decide +kernel
theorem dX6_steps_131 : decode cX6_steps 131 = .ok (.iload 7, 2) := by decide +kernel
theorem dX6_steps_133 : decode cX6_steps 133 = .ok (.invokestatic 152, 3) := by decide +kernel
theorem dX6_steps_136 : decode cX6_steps 136 = .ok (.ifCond .ne 7, 3) := by decide +kernel
theorem dX6_steps_139 : decode cX6_steps 139 = .ok (.iconst 1, 1) := by decide +kernel
theorem dX6_steps_140 : decode cX6_steps 140 = .ok (.goto 4, 3) := by decide +kernel
theorem dX6_steps_143 : decode cX6_steps 143 = .ok (.iconst 0, 1) := by decide +kernel
theorem dX6_steps_144 : decode cX6_steps 144 = .ok (.istore 8, 2) := by decide +kernel
theorem dX6_steps_146 : decode cX6_steps 146 = .ok (.aload_n 0, 1) := by decide +kernel
theorem dX6_steps_147 : decode cX6_steps 147 = .ok (.iload 5, 2) := by decide +kernel
theorem dX6_steps_149 : decode cX6_steps 149 = .ok (.iload 8, 2) := by decide +kernel
theorem dX6_steps_151 : decode cX6_steps 151 = .ok (.ifCond .eq 8, 3) := by decide +kernel
theorem dX6_steps_154 : decode cX6_steps 154 = .ok (.iload 7, 2) := by decide +kernel
theorem dX6_steps_156 : decode cX6_steps 156 = .ok (.goto 7, 3) := by decide +kernel
theorem dX6_steps_159 : decode cX6_steps 159 = .ok (.aload_n 0, 1) := by decide +kernel
theorem dX6_steps_160 : decode cX6_steps 160 = .ok (.iload 5, 2) := by decide +kernel
theorem dX6_steps_162 : decode cX6_steps 162 = .ok (.iaload, 1) := by decide +kernel
theorem dX6_steps_163 : decode cX6_steps 163 = .ok (.iastore, 1) := by decide +kernel
theorem dX6_steps_164 : decode cX6_steps 164 = .ok (.iinc 4 1, 3) := by decide +kernel
theorem dX6_steps_167 : decode cX6_steps 167 = .ok (.goto (-141), 3) := by decide +kernel
theorem dX6_steps_170 : decode cX6_steps 170 = .ok (.aload_n 0, 1) := by decide +kernel
theorem dX6_steps_171 : decode cX6_steps 171 = .ok (.iconst 3, 1) := by decide +kernel
theorem dX6_steps_172 : decode cX6_steps 172 = .ok (.dup2, 1) := by decide +kernel
theorem dX6_steps_173 : decode cX6_steps 173 = .ok (.iaload, 1) := by decide +kernel
theorem dX6_steps_174 : decode cX6_steps 174 = .ok (.iconst 1, 1) := by decide +kernel
theorem dX6_steps_175 : decode cX6_steps 175 = .ok (.iadd, 1) := by decide +kernel
theorem dX6_steps_176 : decode cX6_steps 176 = .ok (.iastore, 1) := by decide +kernel
theorem dX6_steps_177 : decode cX6_steps 177 = .ok (.return_, 1) := by decide +kernel
set_option maxRecDepth 20000 in
theorem ggX6_kingOf_X6_othersIn : GoodIn wsX6_kingOf wsX6_othersIn := goodIn_ids iaX6_kingOf iaX6_othersIn haX6_kingOf haX6_othersIn imX6_kingOf hmX6_kingOf (by decide +kernel) (by decide +kernel)
set_option maxRecDepth 20000 in
theorem gX6_kingOf_X6_othersIn : GoodIn wsX6_kingOf (va_wsS RX6 160 yX6_othersIn wsX6_othersIn) := goodIn_app (goodIn_ids iaX6_kingOf [1055, 1056, 77] haX6_kingOf rfl imX6_kingOf hmX6_kingOf (by decide +kernel) (by decide +kernel)) ggX6_kingOf_X6_othersIn
theorem dX6_kingOf_0 : decode cX6_kingOf 0 = .ok (.ldc 50, 2) := by decide +kernel
theorem dX6_kingOf_2 : decode cX6_kingOf 2 = .ok (.istore_n 2, 1) := by decide +kernel
theorem dX6_kingOf_3 : decode cX6_kingOf 3 = .ok (.iconst 0, 1) := by decide +kernel
theorem dX6_kingOf_4 : decode cX6_kingOf 4 = .ok (.istore_n 3, 1) := by decide +kernel
theorem dX6_kingOf_5 : decode cX6_kingOf 5 = .ok (.iconst 0, 1) := by decide +kernel
theorem dX6_kingOf_6 : decode cX6_kingOf 6 = .ok (.istore 4, 2) := by decide +kernel
theorem dX6_kingOf_8 : decode cX6_kingOf 8 = .ok (.iload 4, 2) := by decide +kernel
theorem dX6_kingOf_10 : decode cX6_kingOf 10 = .ok (.aload_n 0, 1) := by decide +kernel
theorem dX6_kingOf_11 : decode cX6_kingOf 11 = .ok (.iconst 4, 1) := by decide +kernel
theorem dX6_kingOf_12 : decode cX6_kingOf 12 = .ok (.iaload, 1) := by decide +kernel
theorem dX6_kingOf_13 : decode cX6_kingOf 13 = .ok (.if_icmp .ge 56, 3) := by decide +kernel
theorem dX6_kingOf_16 : decode cX6_kingOf 16 = .ok (.aload_n 0, 1) := by decide +kernel
theorem dX6_kingOf_17 : decode cX6_kingOf 17 = .ok (.aload_n 0, 1) := by decide +kernel
theorem dX6_kingOf_18 : decode cX6_kingOf 18 = .ok (.bipush 6, 2) := by decide +kernel
theorem dX6_kingOf_20 : decode cX6_kingOf 20 = .ok (.bipush 6, 2) := by decide +kernel
theorem dX6_kingOf_22 : decode cX6_kingOf 22 = .ok (.iload 4, 2) := by decide +kernel
theorem dX6_kingOf_24 : decode cX6_kingOf 24 = .ok (.imul, 1) := by decide +kernel
theorem dX6_kingOf_25 : decode cX6_kingOf 25 = .ok (.iadd, 1) := by decide +kernel
theorem dX6_kingOf_26 : decode cX6_kingOf 26 = .ok (.iconst 4, 1) := by decide +kernel
theorem dX6_kingOf_27 : decode cX6_kingOf 27 = .ok (.iadd, 1) := by decide +kernel
theorem dX6_kingOf_28 : decode cX6_kingOf 28 = .ok (.iaload, 1) := by decide +kernel
theorem dX6_kingOf_29 : decode cX6_kingOf 29 = .ok (.ldc 50, 2) := by decide +kernel
theorem dX6_kingOf_31 : decode cX6_kingOf 31 = .ok (.iload_n 1, 1) := by decide +kernel
theorem dX6_kingOf_32 : decode cX6_kingOf 32 = .ok (.invokestatic 160, 3) := by decide +kernel
theorem dX6_kingOf_35 : decode cX6_kingOf 35 = .ok (.istore 5, 2) := by decide +kernel
theorem dX6_kingOf_37 : decode cX6_kingOf 37 = .ok (.iload 5, 2) := by decide +kernel
theorem dX6_kingOf_39 : decode cX6_kingOf 39 = .ok (.iload_n 3, 1) := by decide +kernel
theorem dX6_kingOf_40 : decode cX6_kingOf 40 = .ok (.if_icmp .le 8, 3) := by decide +kernel
theorem dX6_kingOf_43 : decode cX6_kingOf 43 = .ok (.iload 4, 2) := by decide +kernel
theorem dX6_kingOf_45 : decode cX6_kingOf 45 = .ok (.goto 4, 3) := by decide +kernel
theorem dX6_kingOf_48 : decode cX6_kingOf 48 = .ok (.iload_n 2, 1) := by decide +kernel
theorem dX6_kingOf_49 : decode cX6_kingOf 49 = .ok (.istore_n 2, 1) := by decide +kernel
theorem dX6_kingOf_50 : decode cX6_kingOf 50 = .ok (.iload 5, 2) := by decide +kernel
theorem dX6_kingOf_52 : decode cX6_kingOf 52 = .ok (.iload_n 3, 1) := by decide +kernel
theorem dX6_kingOf_53 : decode cX6_kingOf 53 = .ok (.if_icmp .le 8, 3) := by decide +kernel
theorem dX6_kingOf_56 : decode cX6_kingOf 56 = .ok (.iload 5, 2) := by decide +kernel
theorem dX6_kingOf_58 : decode cX6_kingOf 58 = .ok (.goto 4, 3) := by decide +kernel
theorem dX6_kingOf_61 : decode cX6_kingOf 61 = .ok (.iload_n 3, 1) := by decide +kernel
theorem dX6_kingOf_62 : decode cX6_kingOf 62 = .ok (.istore_n 3, 1) := by decide +kernel
theorem dX6_kingOf_63 : decode cX6_kingOf 63 = .ok (.iinc 4 1, 3) := by decide +kernel
theorem dX6_kingOf_66 : decode cX6_kingOf 66 = .ok (.goto (-58), 3) := by decide +kernel
theorem dX6_kingOf_69 : decode cX6_kingOf 69 = .ok (.iload_n 2, 1) := by decide +kernel
theorem dX6_kingOf_70 : decode cX6_kingOf 70 = .ok (.ireturn, 1) := by decide +kernel
set_option maxRecDepth 20000 in
theorem ggX6_rings_X6_kingOf : GoodIn wsX6_rings wsX6_kingOf := goodIn_ids iaX6_rings iaX6_kingOf haX6_rings haX6_kingOf imX6_rings hmX6_rings (by decide +kernel) (by decide +kernel)
set_option maxRecDepth 20000 in
theorem gX6_rings_X6_kingOf : GoodIn wsX6_rings (va_wsS RX6 171 yX6_kingOf wsX6_kingOf) := goodIn_app (goodIn_ids iaX6_rings [1064, 1065, 77] haX6_rings rfl imX6_rings hmX6_rings (by decide +kernel) (by decide +kernel)) ggX6_rings_X6_kingOf
theorem dX6_rings_0 : decode cX6_rings 0 = .ok (.aload_n 0, 1) := by decide +kernel
theorem dX6_rings_1 : decode cX6_rings 1 = .ok (.iconst 0, 1) := by decide +kernel
theorem dX6_rings_2 : decode cX6_rings 2 = .ok (.invokestatic 171, 3) := by decide +kernel
theorem dX6_rings_5 : decode cX6_rings 5 = .ok (.istore_n 1, 1) := by decide +kernel
theorem dX6_rings_6 : decode cX6_rings 6 = .ok (.iload_n 1, 1) := by decide +kernel
theorem dX6_rings_7 : decode cX6_rings 7 = .ok (.ldc 50, 2) := by decide +kernel
theorem dX6_rings_9 : decode cX6_rings 9 = .ok (.if_icmp .eq 39, 3) := by decide +kernel
theorem dX6_rings_12 : decode cX6_rings 12 = .ok (.aload_n 0, 1) := by decide +kernel
theorem dX6_rings_13 : decode cX6_rings 13 = .ok (.bipush 6, 2) := by decide +kernel
theorem dX6_rings_15 : decode cX6_rings 15 = .ok (.bipush 6, 2) := by decide +kernel
theorem dX6_rings_17 : decode cX6_rings 17 = .ok (.iload_n 1, 1) := by decide +kernel
theorem dX6_rings_18 : decode cX6_rings 18 = .ok (.imul, 1) := by decide +kernel
theorem dX6_rings_19 : decode cX6_rings 19 = .ok (.iadd, 1) := by decide +kernel
theorem dX6_rings_20 : decode cX6_rings 20 = .ok (.iconst 5, 1) := by decide +kernel
theorem dX6_rings_21 : decode cX6_rings 21 = .ok (.iadd, 1) := by decide +kernel
theorem dX6_rings_22 : decode cX6_rings 22 = .ok (.dup2, 1) := by decide +kernel
theorem dX6_rings_23 : decode cX6_rings 23 = .ok (.iaload, 1) := by decide +kernel
theorem dX6_rings_24 : decode cX6_rings 24 = .ok (.aload_n 0, 1) := by decide +kernel
theorem dX6_rings_25 : decode cX6_rings 25 = .ok (.bipush 6, 2) := by decide +kernel
theorem dX6_rings_27 : decode cX6_rings 27 = .ok (.bipush 6, 2) := by decide +kernel
theorem dX6_rings_29 : decode cX6_rings 29 = .ok (.iload_n 1, 1) := by decide +kernel
theorem dX6_rings_30 : decode cX6_rings 30 = .ok (.imul, 1) := by decide +kernel
theorem dX6_rings_31 : decode cX6_rings 31 = .ok (.iadd, 1) := by decide +kernel
theorem dX6_rings_32 : decode cX6_rings 32 = .ok (.iconst 5, 1) := by decide +kernel
theorem dX6_rings_33 : decode cX6_rings 33 = .ok (.iadd, 1) := by decide +kernel
theorem dX6_rings_34 : decode cX6_rings 34 = .ok (.iaload, 1) := by decide +kernel
theorem dX6_rings_35 : decode cX6_rings 35 = .ok (.sipush 999, 3) := by decide +kernel
theorem dX6_rings_38 : decode cX6_rings 38 = .ok (.if_icmp .ge 7, 3) := by decide +kernel
theorem dX6_rings_41 : decode cX6_rings 41 = .ok (.iconst 1, 1) := by decide +kernel
theorem dX6_rings_42 : decode cX6_rings 42 = .ok (.goto 4, 3) := by decide +kernel
theorem dX6_rings_45 : decode cX6_rings 45 = .ok (.iconst 0, 1) := by decide +kernel
theorem dX6_rings_46 : decode cX6_rings 46 = .ok (.iadd, 1) := by decide +kernel
theorem dX6_rings_47 : decode cX6_rings 47 = .ok (.iastore, 1) := by decide +kernel
theorem dX6_rings_48 : decode cX6_rings 48 = .ok (.iconst 0, 1) := by decide +kernel
theorem dX6_rings_49 : decode cX6_rings 49 = .ok (.istore_n 2, 1) := by decide +kernel
theorem dX6_rings_50 : decode cX6_rings 50 = .ok (.iload_n 2, 1) := by decide +kernel
theorem dX6_rings_51 : decode cX6_rings 51 = .ok (.aload_n 0, 1) := by decide +kernel
theorem dX6_rings_52 : decode cX6_rings 52 = .ok (.iconst 4, 1) := by decide +kernel
theorem dX6_rings_53 : decode cX6_rings 53 = .ok (.iaload, 1) := by decide +kernel
theorem dX6_rings_54 : decode cX6_rings 54 = .ok (.if_icmp .ge 29, 3) := by decide +kernel
theorem dX6_rings_57 : decode cX6_rings 57 = .ok (.aload_n 0, 1) := by decide +kernel
theorem dX6_rings_58 : decode cX6_rings 58 = .ok (.bipush 6, 2) := by decide +kernel
theorem dX6_rings_60 : decode cX6_rings 60 = .ok (.bipush 6, 2) := by decide +kernel
theorem dX6_rings_62 : decode cX6_rings 62 = .ok (.iload_n 2, 1) := by decide +kernel
theorem dX6_rings_63 : decode cX6_rings 63 = .ok (.imul, 1) := by decide +kernel
theorem dX6_rings_64 : decode cX6_rings 64 = .ok (.iadd, 1) := by decide +kernel
theorem dX6_rings_65 : decode cX6_rings 65 = .ok (.iconst 4, 1) := by decide +kernel
theorem dX6_rings_66 : decode cX6_rings 66 = .ok (.iadd, 1) := by decide +kernel
theorem dX6_rings_67 : decode cX6_rings 67 = .ok (.aload_n 0, 1) := by decide +kernel
theorem dX6_rings_68 : decode cX6_rings 68 = .ok (.bipush 6, 2) := by decide +kernel
theorem dX6_rings_70 : decode cX6_rings 70 = .ok (.bipush 6, 2) := by decide +kernel
theorem dX6_rings_72 : decode cX6_rings 72 = .ok (.iload_n 2, 1) := by decide +kernel
theorem dX6_rings_73 : decode cX6_rings 73 = .ok (.imul, 1) := by decide +kernel
theorem dX6_rings_74 : decode cX6_rings 74 = .ok (.iadd, 1) := by decide +kernel
theorem dX6_rings_75 : decode cX6_rings 75 = .ok (.iaload, 1) := by decide +kernel
theorem dX6_rings_76 : decode cX6_rings 76 = .ok (.iastore, 1) := by decide +kernel
theorem dX6_rings_77 : decode cX6_rings 77 = .ok (.iinc 2 1, 3) := by decide +kernel
theorem dX6_rings_80 : decode cX6_rings 80 = .ok (.goto (-30), 3) := by decide +kernel
theorem dX6_rings_83 : decode cX6_rings 83 = .ok (.iconst 0, 1) := by decide +kernel
theorem dX6_rings_84 : decode cX6_rings 84 = .ok (.istore_n 2, 1) := by decide +kernel
theorem dX6_rings_85 : decode cX6_rings 85 = .ok (.iload_n 2, 1) := by decide +kernel
theorem dX6_rings_86 : decode cX6_rings 86 = .ok (.aload_n 0, 1) := by decide +kernel
theorem dX6_rings_87 : decode cX6_rings 87 = .ok (.iconst 5, 1) := by decide +kernel
theorem dX6_rings_88 : decode cX6_rings 88 = .ok (.iaload, 1) := by decide +kernel
theorem dX6_rings_89 : decode cX6_rings 89 = .ok (.if_icmp .ge 29, 3) := by decide +kernel
theorem dX6_rings_92 : decode cX6_rings 92 = .ok (.aload_n 0, 1) := by decide +kernel
theorem dX6_rings_93 : decode cX6_rings 93 = .ok (.bipush 36, 2) := by decide +kernel
theorem dX6_rings_95 : decode cX6_rings 95 = .ok (.iconst 3, 1) := by decide +kernel
theorem dX6_rings_96 : decode cX6_rings 96 = .ok (.iload_n 2, 1) := by decide +kernel
theorem dX6_rings_97 : decode cX6_rings 97 = .ok (.imul, 1) := by decide +kernel
theorem dX6_rings_98 : decode cX6_rings 98 = .ok (.iadd, 1) := by decide +kernel
theorem dX6_rings_99 : decode cX6_rings 99 = .ok (.iconst 2, 1) := by decide +kernel
theorem dX6_rings_100 : decode cX6_rings 100 = .ok (.iadd, 1) := by decide +kernel
theorem dX6_rings_101 : decode cX6_rings 101 = .ok (.aload_n 0, 1) := by decide +kernel
theorem dX6_rings_102 : decode cX6_rings 102 = .ok (.bipush 36, 2) := by decide +kernel
theorem dX6_rings_104 : decode cX6_rings 104 = .ok (.iconst 3, 1) := by decide +kernel
theorem dX6_rings_105 : decode cX6_rings 105 = .ok (.iload_n 2, 1) := by decide +kernel
theorem dX6_rings_106 : decode cX6_rings 106 = .ok (.imul, 1) := by decide +kernel
theorem dX6_rings_107 : decode cX6_rings 107 = .ok (.iadd, 1) := by decide +kernel
theorem dX6_rings_108 : decode cX6_rings 108 = .ok (.iconst 1, 1) := by decide +kernel
theorem dX6_rings_109 : decode cX6_rings 109 = .ok (.iadd, 1) := by decide +kernel
theorem dX6_rings_110 : decode cX6_rings 110 = .ok (.iaload, 1) := by decide +kernel
theorem dX6_rings_111 : decode cX6_rings 111 = .ok (.iastore, 1) := by decide +kernel
theorem dX6_rings_112 : decode cX6_rings 112 = .ok (.iinc 2 1, 3) := by decide +kernel
theorem dX6_rings_115 : decode cX6_rings 115 = .ok (.goto (-30), 3) := by decide +kernel
theorem dX6_rings_118 : decode cX6_rings 118 = .ok (.aload_n 0, 1) := by decide +kernel
theorem dX6_rings_119 : decode cX6_rings 119 = .ok (.iconst 3, 1) := by decide +kernel
theorem dX6_rings_120 : decode cX6_rings 120 = .ok (.iconst 0, 1) := by decide +kernel
theorem dX6_rings_121 : decode cX6_rings 121 = .ok (.iastore, 1) := by decide +kernel
theorem dX6_rings_122 : decode cX6_rings 122 = .ok (.aload_n 0, 1) := by decide +kernel
theorem dX6_rings_123 : decode cX6_rings 123 = .ok (.iconst 2, 1) := by decide +kernel
theorem dX6_rings_124 : decode cX6_rings 124 = .ok (.dup2, 1) := by decide +kernel
theorem dX6_rings_125 : decode cX6_rings 125 = .ok (.iaload, 1) := by decide +kernel
theorem dX6_rings_126 : decode cX6_rings 126 = .ok (.iconst 1, 1) := by decide +kernel
theorem dX6_rings_127 : decode cX6_rings 127 = .ok (.iadd, 1) := by decide +kernel
theorem dX6_rings_128 : decode cX6_rings 128 = .ok (.iastore, 1) := by decide +kernel
theorem dX6_rings_129 : decode cX6_rings 129 = .ok (.iload_n 1, 1) := by decide +kernel
theorem dX6_rings_130 : decode cX6_rings 130 = .ok (.ireturn, 1) := by decide +kernel
set_option maxRecDepth 20000 in
theorem ggX6_passes_X6_steps : GoodIn wsX6_passes wsX6_steps := goodIn_ids iaX6_passes iaX6_steps haX6_passes haX6_steps imX6_passes hmX6_passes (by decide +kernel) (by decide +kernel)
set_option maxRecDepth 20000 in
theorem gX6_passes_X6_steps : GoodIn wsX6_passes (va_wsS RX6 174 yX6_steps wsX6_steps) := goodIn_app (goodIn_ids iaX6_passes [1037, 1038, 77] haX6_passes rfl imX6_passes hmX6_passes (by decide +kernel) (by decide +kernel)) ggX6_passes_X6_steps
set_option maxRecDepth 20000 in
theorem ggX6_passes_X6_rings : GoodIn wsX6_passes wsX6_rings := goodIn_ids iaX6_passes iaX6_rings haX6_passes haX6_rings imX6_passes hmX6_passes (by decide +kernel) (by decide +kernel)
set_option maxRecDepth 20000 in
theorem gX6_passes_X6_rings : GoodIn wsX6_passes (va_wsS RX6 178 yX6_rings wsX6_rings) := goodIn_app (goodIn_ids iaX6_passes [1061, 1062, 77] haX6_passes rfl imX6_passes hmX6_passes (by decide +kernel) (by decide +kernel)) ggX6_passes_X6_rings
theorem dX6_passes_0 : decode cX6_passes 0 = .ok (.aload_n 0, 1) := by decide +kernel
theorem dX6_passes_1 : decode cX6_passes 1 = .ok (.iconst 0, 1) := by decide +kernel
theorem dX6_passes_2 : decode cX6_passes 2 = .ok (.iconst 0, 1) := by decide +kernel
theorem dX6_passes_3 : decode cX6_passes 3 = .ok (.iconst 0, 1) := by decide +kernel
theorem dX6_passes_4 : decode cX6_passes 4 = .ok (.invokestatic 174, 3) := by decide +kernel
theorem dX6_passes_7 : decode cX6_passes 7 = .ok (.aload_n 0, 1) := by decide +kernel
theorem dX6_passes_8 : decode cX6_passes 8 = .ok (.iconst 3, 1) := by decide +kernel
theorem dX6_passes_9 : decode cX6_passes 9 = .ok (.iaload, 1) := by decide +kernel
theorem dX6_passes_10 : decode cX6_passes 10 = .ok (.aload_n 0, 1) := by decide +kernel
theorem dX6_passes_11 : decode cX6_passes 11 = .ok (.iconst 1, 1) := by decide +kernel
theorem dX6_passes_12 : decode cX6_passes 12 = .ok (.iaload, 1) := by decide +kernel
theorem dX6_passes_13 : decode cX6_passes 13 = .ok (.if_icmp .ne 8, 3) := by decide +kernel
theorem dX6_passes_16 : decode cX6_passes 16 = .ok (.aload_n 0, 1) := by decide +kernel
theorem dX6_passes_17 : decode cX6_passes 17 = .ok (.invokestatic 178, 3) := by decide +kernel
theorem dX6_passes_20 : decode cX6_passes 20 = .ok (.pop, 1) := by decide +kernel
theorem dX6_passes_21 : decode cX6_passes 21 = .ok (.return_, 1) := by decide +kernel
set_option maxRecDepth 20000 in
theorem ggX6_notes_X6_copies : GoodIn wsX6_notes wsX6_copies := goodIn_ids iaX6_notes iaX6_copies haX6_notes haX6_copies imX6_notes hmX6_notes (by decide +kernel) (by decide +kernel)
set_option maxRecDepth 20000 in
theorem gX6_notes_X6_copies : GoodIn wsX6_notes (va_wsS RX6 138 yX6_copies wsX6_copies) := goodIn_app (goodIn_ids iaX6_notes [1014, 1015, 77] haX6_notes rfl imX6_notes hmX6_notes (by decide +kernel) (by decide +kernel)) ggX6_notes_X6_copies
theorem dX6_notes_0 : decode cX6_notes 0 = .ok (.aload_n 0, 1) := by decide +kernel
theorem dX6_notes_1 : decode cX6_notes 1 = .ok (.getfield 142, 3) := by decide +kernel
theorem dX6_notes_4 : decode cX6_notes 4 = .ok (.bipush 24, 2) := by decide +kernel
theorem dX6_notes_6 : decode cX6_notes 6 = .ok (.if_icmp .ne 43, 3) := by decide +kernel
theorem dX6_notes_9 : decode cX6_notes 9 = .ok (.iconst 0, 1) := by decide +kernel
theorem dX6_notes_10 : decode cX6_notes 10 = .ok (.istore_n 1, 1) := by decide +kernel
theorem dX6_notes_11 : decode cX6_notes 11 = .ok (.iload_n 1, 1) := by decide +kernel
theorem dX6_notes_12 : decode cX6_notes 12 = .ok (.sipush 1242, 3) := by decide +kernel
theorem dX6_notes_15 : decode cX6_notes 15 = .ok (.if_icmp .ge 24, 3) := by decide +kernel
theorem dX6_notes_18 : decode cX6_notes 18 = .ok (.aload_n 0, 1) := by decide +kernel
theorem dX6_notes_19 : decode cX6_notes 19 = .ok (.getfield 34, 3) := by decide +kernel
theorem dX6_notes_22 : decode cX6_notes 22 = .ok (.iload_n 1, 1) := by decide +kernel
theorem dX6_notes_23 : decode cX6_notes 23 = .ok (.aload_n 0, 1) := by decide +kernel
theorem dX6_notes_24 : decode cX6_notes 24 = .ok (.getfield 34, 3) := by decide +kernel
theorem dX6_notes_27 : decode cX6_notes 27 = .ok (.iload_n 1, 1) := by decide +kernel
theorem dX6_notes_28 : decode cX6_notes 28 = .ok (.bipush 54, 2) := by decide +kernel
theorem dX6_notes_30 : decode cX6_notes 30 = .ok (.iadd, 1) := by decide +kernel
theorem dX6_notes_31 : decode cX6_notes 31 = .ok (.iaload, 1) := by decide +kernel
theorem dX6_notes_32 : decode cX6_notes 32 = .ok (.iastore, 1) := by decide +kernel
theorem dX6_notes_33 : decode cX6_notes 33 = .ok (.iinc 1 1, 3) := by decide +kernel
theorem dX6_notes_36 : decode cX6_notes 36 = .ok (.goto (-25), 3) := by decide +kernel
theorem dX6_notes_39 : decode cX6_notes 39 = .ok (.aload_n 0, 1) := by decide +kernel
theorem dX6_notes_40 : decode cX6_notes 40 = .ok (.dup, 1) := by decide +kernel
theorem dX6_notes_41 : decode cX6_notes 41 = .ok (.getfield 142, 3) := by decide +kernel
theorem dX6_notes_44 : decode cX6_notes 44 = .ok (.iconst 1, 1) := by decide +kernel
theorem dX6_notes_45 : decode cX6_notes 45 = .ok (.isub, 1) := by decide +kernel
theorem dX6_notes_46 : decode cX6_notes 46 = .ok (.putfield 142, 3) := by decide +kernel
theorem dX6_notes_49 : decode cX6_notes 49 = .ok (.aload_n 0, 1) := by decide +kernel
theorem dX6_notes_50 : decode cX6_notes 50 = .ok (.getfield 25, 3) := by decide +kernel
theorem dX6_notes_53 : decode cX6_notes 53 = .ok (.iconst 0, 1) := by decide +kernel
theorem dX6_notes_54 : decode cX6_notes 54 = .ok (.aload_n 0, 1) := by decide +kernel
theorem dX6_notes_55 : decode cX6_notes 55 = .ok (.getfield 34, 3) := by decide +kernel
theorem dX6_notes_58 : decode cX6_notes 58 = .ok (.bipush 54, 2) := by decide +kernel
theorem dX6_notes_60 : decode cX6_notes 60 = .ok (.aload_n 0, 1) := by decide +kernel
theorem dX6_notes_61 : decode cX6_notes 61 = .ok (.getfield 142, 3) := by decide +kernel
theorem dX6_notes_64 : decode cX6_notes 64 = .ok (.imul, 1) := by decide +kernel
theorem dX6_notes_65 : decode cX6_notes 65 = .ok (.invokestatic 138, 3) := by decide +kernel
theorem dX6_notes_68 : decode cX6_notes 68 = .ok (.aload_n 0, 1) := by decide +kernel
theorem dX6_notes_69 : decode cX6_notes 69 = .ok (.dup, 1) := by decide +kernel
theorem dX6_notes_70 : decode cX6_notes 70 = .ok (.getfield 142, 3) := by decide +kernel
theorem dX6_notes_73 : decode cX6_notes 73 = .ok (.iconst 1, 1) := by decide +kernel
theorem dX6_notes_74 : decode cX6_notes 74 = .ok (.iadd, 1) := by decide +kernel
theorem dX6_notes_75 : decode cX6_notes 75 = .ok (.putfield 142, 3) := by decide +kernel
theorem dX6_notes_78 : decode cX6_notes 78 = .ok (.return_, 1) := by decide +kernel
set_option maxRecDepth 20000 in
theorem ggX6_minutes_X6_isTown : GoodIn wsX6_minutes wsX6_isTown := goodIn_ids iaX6_minutes iaX6_isTown haX6_minutes haX6_isTown imX6_minutes hmX6_minutes (by decide +kernel) (by decide +kernel)
set_option maxRecDepth 20000 in
theorem gX6_minutes_X6_isTown : GoodIn wsX6_minutes (wsV RX6 182 RX6 yX6_isTown wsX6_isTown) := goodIn_app (goodIn_ids iaX6_minutes [1025, 1027, 50, 77] haX6_minutes rfl imX6_minutes hmX6_minutes (by decide +kernel) (by decide +kernel)) ggX6_minutes_X6_isTown
set_option maxRecDepth 20000 in
theorem ggX6_minutes_X6_in : GoodIn wsX6_minutes wsX6_in := goodIn_ids iaX6_minutes iaX6_in haX6_minutes haX6_in imX6_minutes hmX6_minutes (by decide +kernel) (by decide +kernel)
set_option maxRecDepth 20000 in
theorem gX6_minutes_X6_in : GoodIn wsX6_minutes (va_wsS RX6 56 yX6_in wsX6_in) := goodIn_app (goodIn_ids iaX6_minutes [929, 930, 77] haX6_minutes rfl imX6_minutes hmX6_minutes (by decide +kernel) (by decide +kernel)) ggX6_minutes_X6_in
set_option maxRecDepth 20000 in
theorem ggX6_minutes_X6_notes : GoodIn wsX6_minutes wsX6_notes := goodIn_ids iaX6_minutes iaX6_notes haX6_minutes haX6_notes imX6_minutes hmX6_minutes (by decide +kernel) (by decide +kernel)
set_option maxRecDepth 20000 in
theorem gX6_minutes_X6_notes : GoodIn wsX6_minutes (wsV RX6 186 RX6 yX6_notes wsX6_notes) := goodIn_app (goodIn_ids iaX6_minutes [1030, 1032, 51, 77] haX6_minutes rfl imX6_minutes hmX6_minutes (by decide +kernel) (by decide +kernel)) ggX6_minutes_X6_notes
set_option maxRecDepth 20000 in
theorem ggX6_minutes_X6_passes : GoodIn wsX6_minutes wsX6_passes := goodIn_ids iaX6_minutes iaX6_passes haX6_minutes haX6_passes imX6_minutes hmX6_minutes (by decide +kernel) (by decide +kernel)
set_option maxRecDepth 20000 in
theorem gX6_minutes_X6_passes : GoodIn wsX6_minutes (va_wsS RX6 189 yX6_passes wsX6_passes) := goodIn_app (goodIn_ids iaX6_minutes [1034, 1035, 77] haX6_minutes rfl imX6_minutes hmX6_minutes (by decide +kernel) (by decide +kernel)) ggX6_minutes_X6_passes
theorem dX6_minutes_0 : decode cX6_minutes 0 = .ok (.aload_n 0, 1) := by decide +kernel
theorem dX6_minutes_1 : decode cX6_minutes 1 = .ok (.invokevirtual 182, 3) := by decide +kernel
theorem dX6_minutes_4 : decode cX6_minutes 4 = .ok (.ifCond .ne 6, 3) := by decide +kernel
theorem dX6_minutes_7 : decode cX6_minutes 7 = .ok (.ldc 185, 2) := by decide +kernel
theorem dX6_minutes_9 : decode cX6_minutes 9 = .ok (.ireturn, 1) := by decide +kernel
theorem dX6_minutes_10 : decode cX6_minutes 10 = .ok (.iload_n 1, 1) := by decide +kernel
theorem dX6_minutes_11 : decode cX6_minutes 11 = .ok (.iconst 1, 1) := by decide +kernel
theorem dX6_minutes_12 : decode cX6_minutes 12 = .ok (.bipush 24, 2) := by decide +kernel
theorem dX6_minutes_14 : decode cX6_minutes 14 = .ok (.invokestatic 56, 3) := by decide +kernel
theorem dX6_minutes_17 : decode cX6_minutes 17 = .ok (.ifCond .ne 6, 3) := by decide +kernel
theorem dX6_minutes_20 : decode cX6_minutes 20 = .ok (.ldc 64, 2) := by decide +kernel
theorem dX6_minutes_22 : decode cX6_minutes 22 = .ok (.ireturn, 1) := by decide +kernel
theorem dX6_minutes_23 : decode cX6_minutes 23 = .ok (.aload_n 0, 1) := by decide +kernel
theorem dX6_minutes_24 : decode cX6_minutes 24 = .ok (.getfield 25, 3) := by decide +kernel
theorem dX6_minutes_27 : decode cX6_minutes 27 = .ok (.iconst 2, 1) := by decide +kernel
theorem dX6_minutes_28 : decode cX6_minutes 28 = .ok (.iaload, 1) := by decide +kernel
theorem dX6_minutes_29 : decode cX6_minutes 29 = .ok (.sipush 999, 3) := by decide +kernel
theorem dX6_minutes_32 : decode cX6_minutes 32 = .ok (.if_icmp .lt 6, 3) := by decide +kernel
theorem dX6_minutes_35 : decode cX6_minutes 35 = .ok (.ldc 85, 2) := by decide +kernel
theorem dX6_minutes_37 : decode cX6_minutes 37 = .ok (.ireturn, 1) := by decide +kernel
theorem dX6_minutes_38 : decode cX6_minutes 38 = .ok (.iconst 0, 1) := by decide +kernel
theorem dX6_minutes_39 : decode cX6_minutes 39 = .ok (.istore_n 2, 1) := by decide +kernel
theorem dX6_minutes_40 : decode cX6_minutes 40 = .ok (.iload_n 2, 1) := by decide +kernel
theorem dX6_minutes_41 : decode cX6_minutes 41 = .ok (.iload_n 1, 1) := by decide +kernel
theorem dX6_minutes_42 : decode cX6_minutes 42 = .ok (.if_icmp .ge 20, 3) := by decide +kernel
theorem dX6_minutes_45 : decode cX6_minutes 45 = .ok (.aload_n 0, 1) := by decide +kernel
theorem dX6_minutes_46 : decode cX6_minutes 46 = .ok (.invokevirtual 186, 3) := by decide +kernel
theorem dX6_minutes_49 : decode cX6_minutes 49 = .ok (.aload_n 0, 1) := by decide +kernel
theorem dX6_minutes_50 : decode cX6_minutes 50 = .ok (.getfield 25, 3) := by decide +kernel
theorem dX6_minutes_53 : decode cX6_minutes 53 = .ok (.invokestatic 189, 3) := by decide +kernel
theorem dX6_minutes_56 : decode cX6_minutes 56 = .ok (.iinc 2 1, 3) := by decide +kernel
theorem dX6_minutes_59 : decode cX6_minutes 59 = .ok (.goto (-19), 3) := by decide +kernel
theorem dX6_minutes_62 : decode cX6_minutes 62 = .ok (.aload_n 0, 1) := by decide +kernel
theorem dX6_minutes_63 : decode cX6_minutes 63 = .ok (.getfield 25, 3) := by decide +kernel
theorem dX6_minutes_66 : decode cX6_minutes 66 = .ok (.iconst 2, 1) := by decide +kernel
theorem dX6_minutes_67 : decode cX6_minutes 67 = .ok (.iaload, 1) := by decide +kernel
theorem dX6_minutes_68 : decode cX6_minutes 68 = .ok (.ireturn, 1) := by decide +kernel
set_option maxRecDepth 20000 in
theorem ggX6_bones_X6_isPerson : GoodIn wsX6_bones wsX6_isPerson := goodIn_ids iaX6_bones iaX6_isPerson haX6_bones haX6_isPerson imX6_bones hmX6_bones (by decide +kernel) (by decide +kernel)
set_option maxRecDepth 20000 in
theorem gX6_bones_X6_isPerson : GoodIn wsX6_bones (wsV RX6 193 RX6 yX6_isPerson wsX6_isPerson) := goodIn_app (goodIn_ids iaX6_bones [1071, 1073, 52, 77] haX6_bones rfl imX6_bones hmX6_bones (by decide +kernel) (by decide +kernel)) ggX6_bones_X6_isPerson
set_option maxRecDepth 20000 in
theorem ggX6_bones_X6_in : GoodIn wsX6_bones wsX6_in := goodIn_ids iaX6_bones iaX6_in haX6_bones haX6_in imX6_bones hmX6_bones (by decide +kernel) (by decide +kernel)
set_option maxRecDepth 20000 in
theorem gX6_bones_X6_in : GoodIn wsX6_bones (va_wsS RX6 56 yX6_in wsX6_in) := goodIn_app (goodIn_ids iaX6_bones [929, 930, 77] haX6_bones rfl imX6_bones hmX6_bones (by decide +kernel) (by decide +kernel)) ggX6_bones_X6_in
set_option maxRecDepth 20000 in
theorem ggX6_bones_X6_notes : GoodIn wsX6_bones wsX6_notes := goodIn_ids iaX6_bones iaX6_notes haX6_bones haX6_notes imX6_bones hmX6_bones (by decide +kernel) (by decide +kernel)
set_option maxRecDepth 20000 in
theorem gX6_bones_X6_notes : GoodIn wsX6_bones (wsV RX6 186 RX6 yX6_notes wsX6_notes) := goodIn_app (goodIn_ids iaX6_bones [1030, 1032, 51, 77] haX6_bones rfl imX6_bones hmX6_bones (by decide +kernel) (by decide +kernel)) ggX6_bones_X6_notes
theorem dX6_bones_0 : decode cX6_bones 0 = .ok (.aload_n 0, 1) := by decide +kernel
theorem dX6_bones_1 : decode cX6_bones 1 = .ok (.iload_n 1, 1) := by decide +kernel
theorem dX6_bones_2 : decode cX6_bones 2 = .ok (.invokevirtual 193, 3) := by decide +kernel
theorem dX6_bones_5 : decode cX6_bones 5 = .ok (.ifCond .eq 13, 3) := by decide +kernel
theorem dX6_bones_8 : decode cX6_bones 8 = .ok (.iload_n 2, 1) := by decide +kernel
theorem dX6_bones_9 : decode cX6_bones 9 = .ok (.iconst 0, 1) := by decide +kernel
theorem dX6_bones_10 : decode cX6_bones 10 = .ok (.bipush 9, 2) := by decide +kernel
theorem dX6_bones_12 : decode cX6_bones 12 = .ok (.invokestatic 56, 3) := by decide +kernel
theorem dX6_bones_15 : decode cX6_bones 15 = .ok (.ifCond .ne 6, 3) := by decide +kernel
theorem dX6_bones_18 : decode cX6_bones 18 = .ok (.ldc 64, 2) := by decide +kernel
theorem dX6_bones_20 : decode cX6_bones 20 = .ok (.ireturn, 1) := by decide +kernel
theorem dX6_bones_21 : decode cX6_bones 21 = .ok (.aload_n 0, 1) := by decide +kernel
theorem dX6_bones_22 : decode cX6_bones 22 = .ok (.invokevirtual 186, 3) := by decide +kernel
theorem dX6_bones_25 : decode cX6_bones 25 = .ok (.aload_n 0, 1) := by decide +kernel
theorem dX6_bones_26 : decode cX6_bones 26 = .ok (.getfield 25, 3) := by decide +kernel
theorem dX6_bones_29 : decode cX6_bones 29 = .ok (.bipush 6, 2) := by decide +kernel
theorem dX6_bones_31 : decode cX6_bones 31 = .ok (.bipush 6, 2) := by decide +kernel
theorem dX6_bones_33 : decode cX6_bones 33 = .ok (.iload_n 1, 1) := by decide +kernel
theorem dX6_bones_34 : decode cX6_bones 34 = .ok (.imul, 1) := by decide +kernel
theorem dX6_bones_35 : decode cX6_bones 35 = .ok (.iadd, 1) := by decide +kernel
theorem dX6_bones_36 : decode cX6_bones 36 = .ok (.iconst 3, 1) := by decide +kernel
theorem dX6_bones_37 : decode cX6_bones 37 = .ok (.iadd, 1) := by decide +kernel
theorem dX6_bones_38 : decode cX6_bones 38 = .ok (.iaload, 1) := by decide +kernel
theorem dX6_bones_39 : decode cX6_bones 39 = .ok (.istore_n 3, 1) := by decide +kernel
theorem dX6_bones_40 : decode cX6_bones 40 = .ok (.aload_n 0, 1) := by decide +kernel
theorem dX6_bones_41 : decode cX6_bones 41 = .ok (.getfield 25, 3) := by decide +kernel
theorem dX6_bones_44 : decode cX6_bones 44 = .ok (.bipush 6, 2) := by decide +kernel
theorem dX6_bones_46 : decode cX6_bones 46 = .ok (.bipush 6, 2) := by decide +kernel
theorem dX6_bones_48 : decode cX6_bones 48 = .ok (.iload_n 1, 1) := by decide +kernel
theorem dX6_bones_49 : decode cX6_bones 49 = .ok (.imul, 1) := by decide +kernel
theorem dX6_bones_50 : decode cX6_bones 50 = .ok (.iadd, 1) := by decide +kernel
theorem dX6_bones_51 : decode cX6_bones 51 = .ok (.iconst 3, 1) := by decide +kernel
theorem dX6_bones_52 : decode cX6_bones 52 = .ok (.iadd, 1) := by decide +kernel
theorem dX6_bones_53 : decode cX6_bones 53 = .ok (.iload_n 2, 1) := by decide +kernel
theorem dX6_bones_54 : decode cX6_bones 54 = .ok (.iastore, 1) := by decide +kernel
theorem dX6_bones_55 : decode cX6_bones 55 = .ok (.iload_n 3, 1) := by decide +kernel
theorem dX6_bones_56 : decode cX6_bones 56 = .ok (.ireturn, 1) := by decide +kernel
set_option maxRecDepth 20000 in
theorem ggX6_walk_X6_isPerson : GoodIn wsX6_walk wsX6_isPerson := goodIn_ids iaX6_walk iaX6_isPerson haX6_walk haX6_isPerson imX6_walk hmX6_walk (by decide +kernel) (by decide +kernel)
set_option maxRecDepth 20000 in
theorem gX6_walk_X6_isPerson : GoodIn wsX6_walk (wsV RX6 193 RX6 yX6_isPerson wsX6_isPerson) := goodIn_app (goodIn_ids iaX6_walk [1071, 1073, 52, 77] haX6_walk rfl imX6_walk hmX6_walk (by decide +kernel) (by decide +kernel)) ggX6_walk_X6_isPerson
set_option maxRecDepth 20000 in
theorem ggX6_walk_X6_in : GoodIn wsX6_walk wsX6_in := goodIn_ids iaX6_walk iaX6_in haX6_walk haX6_in imX6_walk hmX6_walk (by decide +kernel) (by decide +kernel)
set_option maxRecDepth 20000 in
theorem gX6_walk_X6_in : GoodIn wsX6_walk (va_wsS RX6 56 yX6_in wsX6_in) := goodIn_app (goodIn_ids iaX6_walk [929, 930, 77] haX6_walk rfl imX6_walk hmX6_walk (by decide +kernel) (by decide +kernel)) ggX6_walk_X6_in
set_option maxRecDepth 20000 in
theorem ggX6_walk_X6_notes : GoodIn wsX6_walk wsX6_notes := goodIn_ids iaX6_walk iaX6_notes haX6_walk haX6_notes imX6_walk hmX6_walk (by decide +kernel) (by decide +kernel)
set_option maxRecDepth 20000 in
theorem gX6_walk_X6_notes : GoodIn wsX6_walk (wsV RX6 186 RX6 yX6_notes wsX6_notes) := goodIn_app (goodIn_ids iaX6_walk [1030, 1032, 51, 77] haX6_walk rfl imX6_walk hmX6_walk (by decide +kernel) (by decide +kernel)) ggX6_walk_X6_notes
theorem dX6_walk_0 : decode cX6_walk 0 = .ok (.aload_n 0, 1) := by decide +kernel
theorem dX6_walk_1 : decode cX6_walk 1 = .ok (.iload_n 1, 1) := by decide +kernel
theorem dX6_walk_2 : decode cX6_walk 2 = .ok (.invokevirtual 193, 3) := by decide +kernel
theorem dX6_walk_5 : decode cX6_walk 5 = .ok (.ifCond .eq 12, 3) := by decide +kernel
theorem dX6_walk_8 : decode cX6_walk 8 = .ok (.iload_n 2, 1) := by decide +kernel
theorem dX6_walk_9 : decode cX6_walk 9 = .ok (.iconst 0, 1) := by decide +kernel
theorem dX6_walk_10 : decode cX6_walk 10 = .ok (.iconst 2, 1) := by decide +kernel
theorem dX6_walk_11 : decode cX6_walk 11 = .ok (.invokestatic 56, 3) := by decide +kernel
theorem dX6_walk_14 : decode cX6_walk 14 = .ok (.ifCond .ne 6, 3) := by decide +kernel
theorem dX6_walk_17 : decode cX6_walk 17 = .ok (.ldc 64, 2) := by decide +kernel
theorem dX6_walk_19 : decode cX6_walk 19 = .ok (.ireturn, 1) := by decide +kernel
theorem dX6_walk_20 : decode cX6_walk 20 = .ok (.aload_n 0, 1) := by decide +kernel
theorem dX6_walk_21 : decode cX6_walk 21 = .ok (.invokevirtual 186, 3) := by decide +kernel
theorem dX6_walk_24 : decode cX6_walk 24 = .ok (.aload_n 0, 1) := by decide +kernel
theorem dX6_walk_25 : decode cX6_walk 25 = .ok (.getfield 25, 3) := by decide +kernel
theorem dX6_walk_28 : decode cX6_walk 28 = .ok (.bipush 6, 2) := by decide +kernel
theorem dX6_walk_30 : decode cX6_walk 30 = .ok (.bipush 6, 2) := by decide +kernel
theorem dX6_walk_32 : decode cX6_walk 32 = .ok (.iload_n 1, 1) := by decide +kernel
theorem dX6_walk_33 : decode cX6_walk 33 = .ok (.imul, 1) := by decide +kernel
theorem dX6_walk_34 : decode cX6_walk 34 = .ok (.iadd, 1) := by decide +kernel
theorem dX6_walk_35 : decode cX6_walk 35 = .ok (.iconst 2, 1) := by decide +kernel
theorem dX6_walk_36 : decode cX6_walk 36 = .ok (.iadd, 1) := by decide +kernel
theorem dX6_walk_37 : decode cX6_walk 37 = .ok (.iaload, 1) := by decide +kernel
theorem dX6_walk_38 : decode cX6_walk 38 = .ok (.istore_n 3, 1) := by decide +kernel
theorem dX6_walk_39 : decode cX6_walk 39 = .ok (.aload_n 0, 1) := by decide +kernel
theorem dX6_walk_40 : decode cX6_walk 40 = .ok (.getfield 25, 3) := by decide +kernel
theorem dX6_walk_43 : decode cX6_walk 43 = .ok (.bipush 6, 2) := by decide +kernel
theorem dX6_walk_45 : decode cX6_walk 45 = .ok (.bipush 6, 2) := by decide +kernel
theorem dX6_walk_47 : decode cX6_walk 47 = .ok (.iload_n 1, 1) := by decide +kernel
theorem dX6_walk_48 : decode cX6_walk 48 = .ok (.imul, 1) := by decide +kernel
theorem dX6_walk_49 : decode cX6_walk 49 = .ok (.iadd, 1) := by decide +kernel
theorem dX6_walk_50 : decode cX6_walk 50 = .ok (.iconst 2, 1) := by decide +kernel
theorem dX6_walk_51 : decode cX6_walk 51 = .ok (.iadd, 1) := by decide +kernel
theorem dX6_walk_52 : decode cX6_walk 52 = .ok (.iload_n 2, 1) := by decide +kernel
theorem dX6_walk_53 : decode cX6_walk 53 = .ok (.iastore, 1) := by decide +kernel
theorem dX6_walk_54 : decode cX6_walk 54 = .ok (.iload_n 3, 1) := by decide +kernel
theorem dX6_walk_55 : decode cX6_walk 55 = .ok (.ireturn, 1) := by decide +kernel
set_option maxRecDepth 20000 in
theorem ggX6_put_X6_isDog : GoodIn wsX6_put wsX6_isDog := goodIn_ids iaX6_put iaX6_isDog haX6_put haX6_isDog imX6_put hmX6_put (by decide +kernel) (by decide +kernel)
set_option maxRecDepth 20000 in
theorem gX6_put_X6_isDog : GoodIn wsX6_put (wsV RX6 196 RX6 yX6_isDog wsX6_isDog) := goodIn_app (goodIn_ids iaX6_put [1083, 1085, 53, 77] haX6_put rfl imX6_put hmX6_put (by decide +kernel) (by decide +kernel)) ggX6_put_X6_isDog
set_option maxRecDepth 20000 in
theorem ggX6_put_X6_isStreet : GoodIn wsX6_put wsX6_isStreet := goodIn_ids iaX6_put iaX6_isStreet haX6_put haX6_isStreet imX6_put hmX6_put (by decide +kernel) (by decide +kernel)
set_option maxRecDepth 20000 in
theorem gX6_put_X6_isStreet : GoodIn wsX6_put (wsV RX6 199 RX6 yX6_isStreet wsX6_isStreet) := goodIn_app (goodIn_ids iaX6_put [1087, 1089, 54, 77] haX6_put rfl imX6_put hmX6_put (by decide +kernel) (by decide +kernel)) ggX6_put_X6_isStreet
set_option maxRecDepth 20000 in
theorem ggX6_put_X6_notes : GoodIn wsX6_put wsX6_notes := goodIn_ids iaX6_put iaX6_notes haX6_put haX6_notes imX6_put hmX6_put (by decide +kernel) (by decide +kernel)
set_option maxRecDepth 20000 in
theorem gX6_put_X6_notes : GoodIn wsX6_put (wsV RX6 186 RX6 yX6_notes wsX6_notes) := goodIn_app (goodIn_ids iaX6_put [1030, 1032, 51, 77] haX6_put rfl imX6_put hmX6_put (by decide +kernel) (by decide +kernel)) ggX6_put_X6_notes
theorem dX6_put_0 : decode cX6_put 0 = .ok (.aload_n 0, 1) := by decide +kernel
theorem dX6_put_1 : decode cX6_put 1 = .ok (.iload_n 1, 1) := by decide +kernel
theorem dX6_put_2 : decode cX6_put 2 = .ok (.invokevirtual 196, 3) := by decide +kernel
theorem dX6_put_5 : decode cX6_put 5 = .ok (.ifCond .eq 11, 3) := by decide +kernel
theorem dX6_put_8 : decode cX6_put 8 = .ok (.aload_n 0, 1) := by decide +kernel
theorem dX6_put_9 : decode cX6_put 9 = .ok (.iload_n 2, 1) := by decide +kernel
theorem dX6_put_10 : decode cX6_put 10 = .ok (.invokevirtual 199, 3) := by decide +kernel
theorem dX6_put_13 : decode cX6_put 13 = .ok (.ifCond .ne 6, 3) := by decide +kernel
theorem dX6_put_16 : decode cX6_put 16 = .ok (.ldc 64, 2) := by decide +kernel
theorem dX6_put_18 : decode cX6_put 18 = .ok (.ireturn, 1) := by decide +kernel
theorem dX6_put_19 : decode cX6_put 19 = .ok (.aload_n 0, 1) := by decide +kernel
theorem dX6_put_20 : decode cX6_put 20 = .ok (.getfield 25, 3) := by decide +kernel
theorem dX6_put_23 : decode cX6_put 23 = .ok (.bipush 36, 2) := by decide +kernel
theorem dX6_put_25 : decode cX6_put 25 = .ok (.iconst 3, 1) := by decide +kernel
theorem dX6_put_26 : decode cX6_put 26 = .ok (.iload_n 1, 1) := by decide +kernel
theorem dX6_put_27 : decode cX6_put 27 = .ok (.imul, 1) := by decide +kernel
theorem dX6_put_28 : decode cX6_put 28 = .ok (.iadd, 1) := by decide +kernel
theorem dX6_put_29 : decode cX6_put 29 = .ok (.iconst 2, 1) := by decide +kernel
theorem dX6_put_30 : decode cX6_put 30 = .ok (.iadd, 1) := by decide +kernel
theorem dX6_put_31 : decode cX6_put 31 = .ok (.iaload, 1) := by decide +kernel
theorem dX6_put_32 : decode cX6_put 32 = .ok (.istore_n 3, 1) := by decide +kernel
theorem dX6_put_33 : decode cX6_put 33 = .ok (.iload_n 3, 1) := by decide +kernel
theorem dX6_put_34 : decode cX6_put 34 = .ok (.iload_n 2, 1) := by decide +kernel
theorem dX6_put_35 : decode cX6_put 35 = .ok (.if_icmp .ne 6, 3) := by decide +kernel
theorem dX6_put_38 : decode cX6_put 38 = .ok (.ldc 185, 2) := by decide +kernel
theorem dX6_put_40 : decode cX6_put 40 = .ok (.ireturn, 1) := by decide +kernel
theorem dX6_put_41 : decode cX6_put 41 = .ok (.aload_n 0, 1) := by decide +kernel
theorem dX6_put_42 : decode cX6_put 42 = .ok (.invokevirtual 186, 3) := by decide +kernel
theorem dX6_put_45 : decode cX6_put 45 = .ok (.aload_n 0, 1) := by decide +kernel
theorem dX6_put_46 : decode cX6_put 46 = .ok (.getfield 25, 3) := by decide +kernel
theorem dX6_put_49 : decode cX6_put 49 = .ok (.bipush 36, 2) := by decide +kernel
theorem dX6_put_51 : decode cX6_put 51 = .ok (.iconst 3, 1) := by decide +kernel
theorem dX6_put_52 : decode cX6_put 52 = .ok (.iload_n 1, 1) := by decide +kernel
theorem dX6_put_53 : decode cX6_put 53 = .ok (.imul, 1) := by decide +kernel
theorem dX6_put_54 : decode cX6_put 54 = .ok (.iadd, 1) := by decide +kernel
theorem dX6_put_55 : decode cX6_put 55 = .ok (.iconst 2, 1) := by decide +kernel
theorem dX6_put_56 : decode cX6_put 56 = .ok (.iadd, 1) := by decide +kernel
theorem dX6_put_57 : decode cX6_put 57 = .ok (.iload_n 2, 1) := by decide +kernel
theorem dX6_put_58 : decode cX6_put 58 = .ok (.iastore, 1) := by decide +kernel
theorem dX6_put_59 : decode cX6_put 59 = .ok (.iload_n 3, 1) := by decide +kernel
theorem dX6_put_60 : decode cX6_put 60 = .ok (.ireturn, 1) := by decide +kernel
set_option maxRecDepth 20000 in
theorem ggX6_undo_X6_copies : GoodIn wsX6_undo wsX6_copies := goodIn_ids iaX6_undo iaX6_copies haX6_undo haX6_copies imX6_undo hmX6_undo (by decide +kernel) (by decide +kernel)
set_option maxRecDepth 20000 in
theorem gX6_undo_X6_copies : GoodIn wsX6_undo (va_wsS RX6 138 yX6_copies wsX6_copies) := goodIn_app (goodIn_ids iaX6_undo [1014, 1015, 77] haX6_undo rfl imX6_undo hmX6_undo (by decide +kernel) (by decide +kernel)) ggX6_undo_X6_copies
theorem dX6_undo_0 : decode cX6_undo 0 = .ok (.aload_n 0, 1) := by decide +kernel
theorem dX6_undo_1 : decode cX6_undo 1 = .ok (.getfield 142, 3) := by decide +kernel
theorem dX6_undo_4 : decode cX6_undo 4 = .ok (.ifCond .ne 6, 3) := by decide +kernel
theorem dX6_undo_7 : decode cX6_undo 7 = .ok (.ldc 185, 2) := by decide +kernel
theorem dX6_undo_9 : decode cX6_undo 9 = .ok (.ireturn, 1) := by decide +kernel
theorem dX6_undo_10 : decode cX6_undo 10 = .ok (.aload_n 0, 1) := by decide +kernel
theorem dX6_undo_11 : decode cX6_undo 11 = .ok (.dup, 1) := by decide +kernel
theorem dX6_undo_12 : decode cX6_undo 12 = .ok (.getfield 142, 3) := by decide +kernel
theorem dX6_undo_15 : decode cX6_undo 15 = .ok (.iconst 1, 1) := by decide +kernel
theorem dX6_undo_16 : decode cX6_undo 16 = .ok (.isub, 1) := by decide +kernel
theorem dX6_undo_17 : decode cX6_undo 17 = .ok (.putfield 142, 3) := by decide +kernel
theorem dX6_undo_20 : decode cX6_undo 20 = .ok (.aload_n 0, 1) := by decide +kernel
theorem dX6_undo_21 : decode cX6_undo 21 = .ok (.getfield 34, 3) := by decide +kernel
theorem dX6_undo_24 : decode cX6_undo 24 = .ok (.bipush 54, 2) := by decide +kernel
theorem dX6_undo_26 : decode cX6_undo 26 = .ok (.aload_n 0, 1) := by decide +kernel
theorem dX6_undo_27 : decode cX6_undo 27 = .ok (.getfield 142, 3) := by decide +kernel
theorem dX6_undo_30 : decode cX6_undo 30 = .ok (.imul, 1) := by decide +kernel
theorem dX6_undo_31 : decode cX6_undo 31 = .ok (.aload_n 0, 1) := by decide +kernel
theorem dX6_undo_32 : decode cX6_undo 32 = .ok (.getfield 25, 3) := by decide +kernel
theorem dX6_undo_35 : decode cX6_undo 35 = .ok (.iconst 0, 1) := by decide +kernel
theorem dX6_undo_36 : decode cX6_undo 36 = .ok (.invokestatic 138, 3) := by decide +kernel
theorem dX6_undo_39 : decode cX6_undo 39 = .ok (.aload_n 0, 1) := by decide +kernel
theorem dX6_undo_40 : decode cX6_undo 40 = .ok (.getfield 142, 3) := by decide +kernel
theorem dX6_undo_43 : decode cX6_undo 43 = .ok (.ireturn, 1) := by decide +kernel
set_option maxRecDepth 20000 in
theorem ggX6_dog_X6_isDog : GoodIn wsX6_dog wsX6_isDog := goodIn_ids iaX6_dog iaX6_isDog haX6_dog haX6_isDog imX6_dog hmX6_dog (by decide +kernel) (by decide +kernel)
set_option maxRecDepth 20000 in
theorem gX6_dog_X6_isDog : GoodIn wsX6_dog (wsV RX6 196 RX6 yX6_isDog wsX6_isDog) := goodIn_app (goodIn_ids iaX6_dog [1083, 1085, 53, 77] haX6_dog rfl imX6_dog hmX6_dog (by decide +kernel) (by decide +kernel)) ggX6_dog_X6_isDog
set_option maxRecDepth 20000 in
theorem ggX6_dog_X6_master : GoodIn wsX6_dog wsX6_master := goodIn_ids iaX6_dog iaX6_master haX6_dog haX6_master imX6_dog hmX6_dog (by decide +kernel) (by decide +kernel)
set_option maxRecDepth 20000 in
theorem gX6_dog_X6_master : GoodIn wsX6_dog (va_wsS RX6 156 yX6_master wsX6_master) := goodIn_app (goodIn_ids iaX6_dog [1046, 1047, 77] haX6_dog rfl imX6_dog hmX6_dog (by decide +kernel) (by decide +kernel)) ggX6_dog_X6_master
set_option maxRecDepth 20000 in
theorem ggX6_dog_X6_aim : GoodIn wsX6_dog wsX6_aim := goodIn_ids iaX6_dog iaX6_aim haX6_dog haX6_aim imX6_dog hmX6_dog (by decide +kernel) (by decide +kernel)
set_option maxRecDepth 20000 in
theorem gX6_dog_X6_aim : GoodIn wsX6_dog (va_wsS RX6 168 yX6_aim wsX6_aim) := goodIn_app (goodIn_ids iaX6_dog [1043, 1044, 77] haX6_dog rfl imX6_dog hmX6_dog (by decide +kernel) (by decide +kernel)) ggX6_dog_X6_aim
theorem dX6_dog_0 : decode cX6_dog 0 = .ok (.aload_n 0, 1) := by decide +kernel
theorem dX6_dog_1 : decode cX6_dog 1 = .ok (.iload_n 1, 1) := by decide +kernel
theorem dX6_dog_2 : decode cX6_dog 2 = .ok (.invokevirtual 196, 3) := by decide +kernel
theorem dX6_dog_5 : decode cX6_dog 5 = .ok (.ifCond .ne 6, 3) := by decide +kernel
theorem dX6_dog_8 : decode cX6_dog 8 = .ok (.ldc 64, 2) := by decide +kernel
theorem dX6_dog_10 : decode cX6_dog 10 = .ok (.ireturn, 1) := by decide +kernel
theorem dX6_dog_11 : decode cX6_dog 11 = .ok (.iload_n 2, 1) := by decide +kernel
theorem dX6_dog_12 : decode cX6_dog 12 = .ok (.tableswitch 79 0 3 #[32, 46, 60, 69], 32) := by decide +kernel
theorem dX6_dog_44 : decode cX6_dog 44 = .ok (.aload_n 0, 1) := by decide +kernel
theorem dX6_dog_45 : decode cX6_dog 45 = .ok (.getfield 25, 3) := by decide +kernel
theorem dX6_dog_48 : decode cX6_dog 48 = .ok (.bipush 36, 2) := by decide +kernel
theorem dX6_dog_50 : decode cX6_dog 50 = .ok (.iconst 3, 1) := by decide +kernel
theorem dX6_dog_51 : decode cX6_dog 51 = .ok (.iload_n 1, 1) := by decide +kernel
theorem dX6_dog_52 : decode cX6_dog 52 = .ok (.imul, 1) := by decide +kernel
theorem dX6_dog_53 : decode cX6_dog 53 = .ok (.iadd, 1) := by decide +kernel
theorem dX6_dog_54 : decode cX6_dog 54 = .ok (.iconst 2, 1) := by decide +kernel
theorem dX6_dog_55 : decode cX6_dog 55 = .ok (.iadd, 1) := by decide +kernel
theorem dX6_dog_56 : decode cX6_dog 56 = .ok (.iaload, 1) := by decide +kernel
theorem dX6_dog_57 : decode cX6_dog 57 = .ok (.ireturn, 1) := by decide +kernel
theorem dX6_dog_58 : decode cX6_dog 58 = .ok (.aload_n 0, 1) := by decide +kernel
theorem dX6_dog_59 : decode cX6_dog 59 = .ok (.getfield 25, 3) := by decide +kernel
theorem dX6_dog_62 : decode cX6_dog 62 = .ok (.bipush 36, 2) := by decide +kernel
theorem dX6_dog_64 : decode cX6_dog 64 = .ok (.iconst 3, 1) := by decide +kernel
theorem dX6_dog_65 : decode cX6_dog 65 = .ok (.iload_n 1, 1) := by decide +kernel
theorem dX6_dog_66 : decode cX6_dog 66 = .ok (.imul, 1) := by decide +kernel
theorem dX6_dog_67 : decode cX6_dog 67 = .ok (.iadd, 1) := by decide +kernel
theorem dX6_dog_68 : decode cX6_dog 68 = .ok (.iconst 1, 1) := by decide +kernel
theorem dX6_dog_69 : decode cX6_dog 69 = .ok (.iadd, 1) := by decide +kernel
theorem dX6_dog_70 : decode cX6_dog 70 = .ok (.iaload, 1) := by decide +kernel
theorem dX6_dog_71 : decode cX6_dog 71 = .ok (.ireturn, 1) := by decide +kernel
theorem dX6_dog_72 : decode cX6_dog 72 = .ok (.aload_n 0, 1) := by decide +kernel
theorem dX6_dog_73 : decode cX6_dog 73 = .ok (.getfield 25, 3) := by decide +kernel
theorem dX6_dog_76 : decode cX6_dog 76 = .ok (.iload_n 1, 1) := by decide +kernel
theorem dX6_dog_77 : decode cX6_dog 77 = .ok (.invokestatic 156, 3) := by decide +kernel
theorem dX6_dog_80 : decode cX6_dog 80 = .ok (.ireturn, 1) := by decide +kernel
theorem dX6_dog_81 : decode cX6_dog 81 = .ok (.aload_n 0, 1) := by decide +kernel
theorem dX6_dog_82 : decode cX6_dog 82 = .ok (.getfield 25, 3) := by decide +kernel
theorem dX6_dog_85 : decode cX6_dog 85 = .ok (.iload_n 1, 1) := by decide +kernel
theorem dX6_dog_86 : decode cX6_dog 86 = .ok (.iconst 0, 1) := by decide +kernel
theorem dX6_dog_87 : decode cX6_dog 87 = .ok (.invokestatic 168, 3) := by decide +kernel
theorem dX6_dog_90 : decode cX6_dog 90 = .ok (.ireturn, 1) := by decide +kernel
theorem dX6_dog_91 : decode cX6_dog 91 = .ok (.ldc 64, 2) := by decide +kernel
theorem dX6_dog_93 : decode cX6_dog 93 = .ok (.ireturn, 1) := by decide +kernel
theorem dX6_dogsIn_0 : decode cX6_dogsIn 0 = .ok (.iconst 0, 1) := by decide +kernel
theorem dX6_dogsIn_1 : decode cX6_dogsIn 1 = .ok (.istore_n 2, 1) := by decide +kernel
theorem dX6_dogsIn_2 : decode cX6_dogsIn 2 = .ok (.iconst 0, 1) := by decide +kernel
theorem dX6_dogsIn_3 : decode cX6_dogsIn 3 = .ok (.istore_n 3, 1) := by decide +kernel
theorem dX6_dogsIn_4 : decode cX6_dogsIn 4 = .ok (.iload_n 3, 1) := by decide +kernel
theorem dX6_dogsIn_5 : decode cX6_dogsIn 5 = .ok (.aload_n 0, 1) := by decide +kernel
theorem dX6_dogsIn_6 : decode cX6_dogsIn 6 = .ok (.getfield 25, 3) := by decide +kernel
theorem dX6_dogsIn_9 : decode cX6_dogsIn 9 = .ok (.iconst 5, 1) := by decide +kernel
theorem dX6_dogsIn_10 : decode cX6_dogsIn 10 = .ok (.iaload, 1) := by decide +kernel
theorem dX6_dogsIn_11 : decode cX6_dogsIn 11 = .ok (.if_icmp .ge 36, 3) := by decide +kernel
theorem dX6_dogsIn_14 : decode cX6_dogsIn 14 = .ok (.iload_n 2, 1) := by decide +kernel
theorem dX6_dogsIn_15 : decode cX6_dogsIn 15 = .ok (.aload_n 0, 1) := by decide +kernel
theorem dX6_dogsIn_16 : decode cX6_dogsIn 16 = .ok (.getfield 25, 3) := by decide +kernel
theorem dX6_dogsIn_19 : decode cX6_dogsIn 19 = .ok (.bipush 36, 2) := by decide +kernel
theorem dX6_dogsIn_21 : decode cX6_dogsIn 21 = .ok (.iconst 3, 1) := by decide +kernel
theorem dX6_dogsIn_22 : decode cX6_dogsIn 22 = .ok (.iload_n 3, 1) := by decide +kernel
theorem dX6_dogsIn_23 : decode cX6_dogsIn 23 = .ok (.imul, 1) := by decide +kernel
theorem dX6_dogsIn_24 : decode cX6_dogsIn 24 = .ok (.iadd, 1) := by decide +kernel
theorem dX6_dogsIn_25 : decode cX6_dogsIn 25 = .ok (.iconst 2, 1) := by decide +kernel
theorem dX6_dogsIn_26 : decode cX6_dogsIn 26 = .ok (.iadd, 1) := by decide +kernel
theorem dX6_dogsIn_27 : decode cX6_dogsIn 27 = .ok (.iaload, 1) := by decide +kernel
theorem dX6_dogsIn_28 : decode cX6_dogsIn 28 = .ok (.iload_n 1, 1) := by decide +kernel
theorem dX6_dogsIn_29 : decode cX6_dogsIn 29 = .ok (.if_icmp .ne 9, 3) := by decide +kernel
theorem dX6_dogsIn_32 : decode cX6_dogsIn 32 = .ok (.iconst 1, 1) := by decide +kernel
theorem dX6_dogsIn_33 : decode cX6_dogsIn 33 = .ok (.iload_n 3, 1) := by decide +kernel
theorem dX6_dogsIn_34 : decode cX6_dogsIn 34 = .ok (.ishl, 1) := by decide +kernel
theorem dX6_dogsIn_35 : decode cX6_dogsIn 35 = .ok (.goto 4, 3) := by decide +kernel
theorem dX6_dogsIn_38 : decode cX6_dogsIn 38 = .ok (.iconst 0, 1) := by decide +kernel
theorem dX6_dogsIn_39 : decode cX6_dogsIn 39 = .ok (.ior, 1) := by decide +kernel
theorem dX6_dogsIn_40 : decode cX6_dogsIn 40 = .ok (.istore_n 2, 1) := by decide +kernel
theorem dX6_dogsIn_41 : decode cX6_dogsIn 41 = .ok (.iinc 3 1, 3) := by decide +kernel
theorem dX6_dogsIn_44 : decode cX6_dogsIn 44 = .ok (.goto (-40), 3) := by decide +kernel
theorem dX6_dogsIn_47 : decode cX6_dogsIn 47 = .ok (.iload_n 2, 1) := by decide +kernel
theorem dX6_dogsIn_48 : decode cX6_dogsIn 48 = .ok (.ireturn, 1) := by decide +kernel
set_option maxRecDepth 20000 in
theorem ggX6_person_X6_isPerson : GoodIn wsX6_person wsX6_isPerson := goodIn_ids iaX6_person iaX6_isPerson haX6_person haX6_isPerson imX6_person hmX6_person (by decide +kernel) (by decide +kernel)
set_option maxRecDepth 20000 in
theorem gX6_person_X6_isPerson : GoodIn wsX6_person (wsV RX6 193 RX6 yX6_isPerson wsX6_isPerson) := goodIn_app (goodIn_ids iaX6_person [1071, 1073, 52, 77] haX6_person rfl imX6_person hmX6_person (by decide +kernel) (by decide +kernel)) ggX6_person_X6_isPerson
set_option maxRecDepth 20000 in
theorem ggX6_person_X6_dogsIn : GoodIn wsX6_person wsX6_dogsIn := goodIn_ids iaX6_person iaX6_dogsIn haX6_person haX6_dogsIn imX6_person hmX6_person (by decide +kernel) (by decide +kernel)
set_option maxRecDepth 20000 in
theorem gX6_person_X6_dogsIn : GoodIn wsX6_person (wsV RX6 202 RX6 yX6_dogsIn wsX6_dogsIn) := goodIn_app (goodIn_ids iaX6_person [1103, 1105, 55, 77] haX6_person rfl imX6_person hmX6_person (by decide +kernel) (by decide +kernel)) ggX6_person_X6_dogsIn
theorem dX6_person_0 : decode cX6_person 0 = .ok (.aload_n 0, 1) := by decide +kernel
theorem dX6_person_1 : decode cX6_person 1 = .ok (.iload_n 1, 1) := by decide +kernel
theorem dX6_person_2 : decode cX6_person 2 = .ok (.invokevirtual 193, 3) := by decide +kernel
theorem dX6_person_5 : decode cX6_person 5 = .ok (.ifCond .ne 6, 3) := by decide +kernel
theorem dX6_person_8 : decode cX6_person 8 = .ok (.ldc 64, 2) := by decide +kernel
theorem dX6_person_10 : decode cX6_person 10 = .ok (.ireturn, 1) := by decide +kernel
theorem dX6_person_11 : decode cX6_person 11 = .ok (.bipush 6, 2) := by decide +kernel
theorem dX6_person_13 : decode cX6_person 13 = .ok (.bipush 6, 2) := by decide +kernel
theorem dX6_person_15 : decode cX6_person 15 = .ok (.iload_n 1, 1) := by decide +kernel
theorem dX6_person_16 : decode cX6_person 16 = .ok (.imul, 1) := by decide +kernel
theorem dX6_person_17 : decode cX6_person 17 = .ok (.iadd, 1) := by decide +kernel
theorem dX6_person_18 : decode cX6_person 18 = .ok (.istore_n 3, 1) := by decide +kernel
theorem dX6_person_19 : decode cX6_person 19 = .ok (.iload_n 2, 1) := by decide +kernel
theorem dX6_person_20 : decode cX6_person 20 = .ok (.tableswitch 109 0 6 #[44, 53, 60, 69, 78, 87, 96], 44) := by decide +kernel
theorem dX6_person_64 : decode cX6_person 64 = .ok (.aload_n 0, 1) := by decide +kernel
theorem dX6_person_65 : decode cX6_person 65 = .ok (.getfield 25, 3) := by decide +kernel
theorem dX6_person_68 : decode cX6_person 68 = .ok (.iload_n 3, 1) := by decide +kernel
theorem dX6_person_69 : decode cX6_person 69 = .ok (.iconst 4, 1) := by decide +kernel
theorem dX6_person_70 : decode cX6_person 70 = .ok (.iadd, 1) := by decide +kernel
theorem dX6_person_71 : decode cX6_person 71 = .ok (.iaload, 1) := by decide +kernel
theorem dX6_person_72 : decode cX6_person 72 = .ok (.ireturn, 1) := by decide +kernel
theorem dX6_person_73 : decode cX6_person 73 = .ok (.aload_n 0, 1) := by decide +kernel
theorem dX6_person_74 : decode cX6_person 74 = .ok (.getfield 25, 3) := by decide +kernel
theorem dX6_person_77 : decode cX6_person 77 = .ok (.iload_n 3, 1) := by decide +kernel
theorem dX6_person_78 : decode cX6_person 78 = .ok (.iaload, 1) := by decide +kernel
theorem dX6_person_79 : decode cX6_person 79 = .ok (.ireturn, 1) := by decide +kernel
theorem dX6_person_80 : decode cX6_person 80 = .ok (.aload_n 0, 1) := by decide +kernel
theorem dX6_person_81 : decode cX6_person 81 = .ok (.getfield 25, 3) := by decide +kernel
theorem dX6_person_84 : decode cX6_person 84 = .ok (.iload_n 3, 1) := by decide +kernel
theorem dX6_person_85 : decode cX6_person 85 = .ok (.iconst 1, 1) := by decide +kernel
theorem dX6_person_86 : decode cX6_person 86 = .ok (.iadd, 1) := by decide +kernel
theorem dX6_person_87 : decode cX6_person 87 = .ok (.iaload, 1) := by decide +kernel
theorem dX6_person_88 : decode cX6_person 88 = .ok (.ireturn, 1) := by decide +kernel
theorem dX6_person_89 : decode cX6_person 89 = .ok (.aload_n 0, 1) := by decide +kernel
theorem dX6_person_90 : decode cX6_person 90 = .ok (.getfield 25, 3) := by decide +kernel
theorem dX6_person_93 : decode cX6_person 93 = .ok (.iload_n 3, 1) := by decide +kernel
theorem dX6_person_94 : decode cX6_person 94 = .ok (.iconst 3, 1) := by decide +kernel
theorem dX6_person_95 : decode cX6_person 95 = .ok (.iadd, 1) := by decide +kernel
theorem dX6_person_96 : decode cX6_person 96 = .ok (.iaload, 1) := by decide +kernel
theorem dX6_person_97 : decode cX6_person 97 = .ok (.ireturn, 1) := by decide +kernel
theorem dX6_person_98 : decode cX6_person 98 = .ok (.aload_n 0, 1) := by decide +kernel
theorem dX6_person_99 : decode cX6_person 99 = .ok (.getfield 25, 3) := by decide +kernel
theorem dX6_person_102 : decode cX6_person 102 = .ok (.iload_n 3, 1) := by decide +kernel
theorem dX6_person_103 : decode cX6_person 103 = .ok (.iconst 2, 1) := by decide +kernel
theorem dX6_person_104 : decode cX6_person 104 = .ok (.iadd, 1) := by decide +kernel
theorem dX6_person_105 : decode cX6_person 105 = .ok (.iaload, 1) := by decide +kernel
theorem dX6_person_106 : decode cX6_person 106 = .ok (.ireturn, 1) := by decide +kernel
theorem dX6_person_107 : decode cX6_person 107 = .ok (.aload_n 0, 1) := by decide +kernel
theorem dX6_person_108 : decode cX6_person 108 = .ok (.getfield 25, 3) := by decide +kernel
theorem dX6_person_111 : decode cX6_person 111 = .ok (.iload_n 3, 1) := by decide +kernel
theorem dX6_person_112 : decode cX6_person 112 = .ok (.iconst 5, 1) := by decide +kernel
theorem dX6_person_113 : decode cX6_person 113 = .ok (.iadd, 1) := by decide +kernel
theorem dX6_person_114 : decode cX6_person 114 = .ok (.iaload, 1) := by decide +kernel
theorem dX6_person_115 : decode cX6_person 115 = .ok (.ireturn, 1) := by decide +kernel
theorem dX6_person_116 : decode cX6_person 116 = .ok (.aload_n 0, 1) := by decide +kernel
theorem dX6_person_117 : decode cX6_person 117 = .ok (.aload_n 0, 1) := by decide +kernel
theorem dX6_person_118 : decode cX6_person 118 = .ok (.getfield 25, 3) := by decide +kernel
theorem dX6_person_121 : decode cX6_person 121 = .ok (.iload_n 3, 1) := by decide +kernel
theorem dX6_person_122 : decode cX6_person 122 = .ok (.iconst 4, 1) := by decide +kernel
theorem dX6_person_123 : decode cX6_person 123 = .ok (.iadd, 1) := by decide +kernel
theorem dX6_person_124 : decode cX6_person 124 = .ok (.iaload, 1) := by decide +kernel
theorem dX6_person_125 : decode cX6_person 125 = .ok (.invokevirtual 202, 3) := by decide +kernel
theorem dX6_person_128 : decode cX6_person 128 = .ok (.ireturn, 1) := by decide +kernel
theorem dX6_person_129 : decode cX6_person 129 = .ok (.ldc 64, 2) := by decide +kernel
theorem dX6_person_131 : decode cX6_person 131 = .ok (.ireturn, 1) := by decide +kernel
set_option maxRecDepth 20000 in
theorem ggX6_goesOn_X6_passes : GoodIn wsX6_goesOn wsX6_passes := goodIn_ids iaX6_goesOn iaX6_passes haX6_goesOn haX6_passes imX6_goesOn hmX6_goesOn (by decide +kernel) (by decide +kernel)
set_option maxRecDepth 20000 in
theorem gX6_goesOn_X6_passes : GoodIn wsX6_goesOn (va_wsS RX6 189 yX6_passes wsX6_passes) := goodIn_app (goodIn_ids iaX6_goesOn [1034, 1035, 77] haX6_goesOn rfl imX6_goesOn hmX6_goesOn (by decide +kernel) (by decide +kernel)) ggX6_goesOn_X6_passes
theorem dX6_goesOn_0 : decode cX6_goesOn 0 = .ok (.iconst 0, 1) := by decide +kernel
theorem dX6_goesOn_1 : decode cX6_goesOn 1 = .ok (.istore_n 2, 1) := by decide +kernel
theorem dX6_goesOn_2 : decode cX6_goesOn 2 = .ok (.iload_n 2, 1) := by decide +kernel
theorem dX6_goesOn_3 : decode cX6_goesOn 3 = .ok (.iload_n 1, 1) := by decide +kernel
theorem dX6_goesOn_4 : decode cX6_goesOn 4 = .ok (.if_icmp .ge 16, 3) := by decide +kernel
theorem dX6_goesOn_7 : decode cX6_goesOn 7 = .ok (.aload_n 0, 1) := by decide +kernel
theorem dX6_goesOn_8 : decode cX6_goesOn 8 = .ok (.getfield 31, 3) := by decide +kernel
theorem dX6_goesOn_11 : decode cX6_goesOn 11 = .ok (.invokestatic 189, 3) := by decide +kernel
theorem dX6_goesOn_14 : decode cX6_goesOn 14 = .ok (.iinc 2 1, 3) := by decide +kernel
theorem dX6_goesOn_17 : decode cX6_goesOn 17 = .ok (.goto (-15), 3) := by decide +kernel
theorem dX6_goesOn_20 : decode cX6_goesOn 20 = .ok (.return_, 1) := by decide +kernel
set_option maxRecDepth 20000 in
theorem ggX6_ahead_X6_isDog : GoodIn wsX6_ahead wsX6_isDog := goodIn_ids iaX6_ahead iaX6_isDog haX6_ahead haX6_isDog imX6_ahead hmX6_ahead (by decide +kernel) (by decide +kernel)
set_option maxRecDepth 20000 in
theorem gX6_ahead_X6_isDog : GoodIn wsX6_ahead (wsV RX6 196 RX6 yX6_isDog wsX6_isDog) := goodIn_app (goodIn_ids iaX6_ahead [1083, 1085, 53, 77] haX6_ahead rfl imX6_ahead hmX6_ahead (by decide +kernel) (by decide +kernel)) ggX6_ahead_X6_isDog
set_option maxRecDepth 20000 in
theorem ggX6_ahead_X6_in : GoodIn wsX6_ahead wsX6_in := goodIn_ids iaX6_ahead iaX6_in haX6_ahead haX6_in imX6_ahead hmX6_ahead (by decide +kernel) (by decide +kernel)
set_option maxRecDepth 20000 in
theorem gX6_ahead_X6_in : GoodIn wsX6_ahead (va_wsS RX6 56 yX6_in wsX6_in) := goodIn_app (goodIn_ids iaX6_ahead [929, 930, 77] haX6_ahead rfl imX6_ahead hmX6_ahead (by decide +kernel) (by decide +kernel)) ggX6_ahead_X6_in
set_option maxRecDepth 20000 in
theorem ggX6_ahead_X6_copies : GoodIn wsX6_ahead wsX6_copies := goodIn_ids iaX6_ahead iaX6_copies haX6_ahead haX6_copies imX6_ahead hmX6_ahead (by decide +kernel) (by decide +kernel)
set_option maxRecDepth 20000 in
theorem gX6_ahead_X6_copies : GoodIn wsX6_ahead (va_wsS RX6 138 yX6_copies wsX6_copies) := goodIn_app (goodIn_ids iaX6_ahead [1014, 1015, 77] haX6_ahead rfl imX6_ahead hmX6_ahead (by decide +kernel) (by decide +kernel)) ggX6_ahead_X6_copies
set_option maxRecDepth 20000 in
theorem ggX6_ahead_X6_goesOn : GoodIn wsX6_ahead wsX6_goesOn := goodIn_ids iaX6_ahead iaX6_goesOn haX6_ahead haX6_goesOn imX6_ahead hmX6_ahead (by decide +kernel) (by decide +kernel)
set_option maxRecDepth 20000 in
theorem gX6_ahead_X6_goesOn : GoodIn wsX6_ahead (wsV RX6 205 RX6 yX6_goesOn wsX6_goesOn) := goodIn_app (goodIn_ids iaX6_ahead [1111, 1113, 56, 77] haX6_ahead rfl imX6_ahead hmX6_ahead (by decide +kernel) (by decide +kernel)) ggX6_ahead_X6_goesOn
theorem dX6_ahead_0 : decode cX6_ahead 0 = .ok (.aload_n 0, 1) := by decide +kernel
theorem dX6_ahead_1 : decode cX6_ahead 1 = .ok (.iload_n 1, 1) := by decide +kernel
theorem dX6_ahead_2 : decode cX6_ahead 2 = .ok (.invokevirtual 196, 3) := by decide +kernel
theorem dX6_ahead_5 : decode cX6_ahead 5 = .ok (.ifCond .eq 13, 3) := by decide +kernel
theorem dX6_ahead_8 : decode cX6_ahead 8 = .ok (.iload_n 2, 1) := by decide +kernel
theorem dX6_ahead_9 : decode cX6_ahead 9 = .ok (.iconst 0, 1) := by decide +kernel
theorem dX6_ahead_10 : decode cX6_ahead 10 = .ok (.bipush 60, 2) := by decide +kernel
theorem dX6_ahead_12 : decode cX6_ahead 12 = .ok (.invokestatic 56, 3) := by decide +kernel
theorem dX6_ahead_15 : decode cX6_ahead 15 = .ok (.ifCond .ne 6, 3) := by decide +kernel
theorem dX6_ahead_18 : decode cX6_ahead 18 = .ok (.ldc 64, 2) := by decide +kernel
theorem dX6_ahead_20 : decode cX6_ahead 20 = .ok (.ireturn, 1) := by decide +kernel
theorem dX6_ahead_21 : decode cX6_ahead 21 = .ok (.aload_n 0, 1) := by decide +kernel
theorem dX6_ahead_22 : decode cX6_ahead 22 = .ok (.getfield 25, 3) := by decide +kernel
theorem dX6_ahead_25 : decode cX6_ahead 25 = .ok (.iconst 0, 1) := by decide +kernel
theorem dX6_ahead_26 : decode cX6_ahead 26 = .ok (.aload_n 0, 1) := by decide +kernel
theorem dX6_ahead_27 : decode cX6_ahead 27 = .ok (.getfield 31, 3) := by decide +kernel
theorem dX6_ahead_30 : decode cX6_ahead 30 = .ok (.iconst 0, 1) := by decide +kernel
theorem dX6_ahead_31 : decode cX6_ahead 31 = .ok (.invokestatic 138, 3) := by decide +kernel
theorem dX6_ahead_34 : decode cX6_ahead 34 = .ok (.aload_n 0, 1) := by decide +kernel
theorem dX6_ahead_35 : decode cX6_ahead 35 = .ok (.iload_n 2, 1) := by decide +kernel
theorem dX6_ahead_36 : decode cX6_ahead 36 = .ok (.invokevirtual 205, 3) := by decide +kernel
theorem dX6_ahead_39 : decode cX6_ahead 39 = .ok (.aload_n 0, 1) := by decide +kernel
theorem dX6_ahead_40 : decode cX6_ahead 40 = .ok (.getfield 31, 3) := by decide +kernel
theorem dX6_ahead_43 : decode cX6_ahead 43 = .ok (.bipush 36, 2) := by decide +kernel
theorem dX6_ahead_45 : decode cX6_ahead 45 = .ok (.iconst 3, 1) := by decide +kernel
theorem dX6_ahead_46 : decode cX6_ahead 46 = .ok (.iload_n 1, 1) := by decide +kernel
theorem dX6_ahead_47 : decode cX6_ahead 47 = .ok (.imul, 1) := by decide +kernel
theorem dX6_ahead_48 : decode cX6_ahead 48 = .ok (.iadd, 1) := by decide +kernel
theorem dX6_ahead_49 : decode cX6_ahead 49 = .ok (.iconst 2, 1) := by decide +kernel
theorem dX6_ahead_50 : decode cX6_ahead 50 = .ok (.iadd, 1) := by decide +kernel
theorem dX6_ahead_51 : decode cX6_ahead 51 = .ok (.iaload, 1) := by decide +kernel
theorem dX6_ahead_52 : decode cX6_ahead 52 = .ok (.ireturn, 1) := by decide +kernel
set_option maxRecDepth 20000 in
theorem ggX6_goes_X6_isPerson : GoodIn wsX6_goes wsX6_isPerson := goodIn_ids iaX6_goes iaX6_isPerson haX6_goes haX6_isPerson imX6_goes hmX6_goes (by decide +kernel) (by decide +kernel)
set_option maxRecDepth 20000 in
theorem gX6_goes_X6_isPerson : GoodIn wsX6_goes (wsV RX6 193 RX6 yX6_isPerson wsX6_isPerson) := goodIn_app (goodIn_ids iaX6_goes [1071, 1073, 52, 77] haX6_goes rfl imX6_goes hmX6_goes (by decide +kernel) (by decide +kernel)) ggX6_goes_X6_isPerson
set_option maxRecDepth 20000 in
theorem ggX6_goes_X6_in : GoodIn wsX6_goes wsX6_in := goodIn_ids iaX6_goes iaX6_in haX6_goes haX6_in imX6_goes hmX6_goes (by decide +kernel) (by decide +kernel)
set_option maxRecDepth 20000 in
theorem gX6_goes_X6_in : GoodIn wsX6_goes (va_wsS RX6 56 yX6_in wsX6_in) := goodIn_app (goodIn_ids iaX6_goes [929, 930, 77] haX6_goes rfl imX6_goes hmX6_goes (by decide +kernel) (by decide +kernel)) ggX6_goes_X6_in
set_option maxRecDepth 20000 in
theorem ggX6_goes_X6_copies : GoodIn wsX6_goes wsX6_copies := goodIn_ids iaX6_goes iaX6_copies haX6_goes haX6_copies imX6_goes hmX6_goes (by decide +kernel) (by decide +kernel)
set_option maxRecDepth 20000 in
theorem gX6_goes_X6_copies : GoodIn wsX6_goes (va_wsS RX6 138 yX6_copies wsX6_copies) := goodIn_app (goodIn_ids iaX6_goes [1014, 1015, 77] haX6_goes rfl imX6_goes hmX6_goes (by decide +kernel) (by decide +kernel)) ggX6_goes_X6_copies
set_option maxRecDepth 20000 in
theorem ggX6_goes_X6_goesOn : GoodIn wsX6_goes wsX6_goesOn := goodIn_ids iaX6_goes iaX6_goesOn haX6_goes haX6_goesOn imX6_goes hmX6_goes (by decide +kernel) (by decide +kernel)
set_option maxRecDepth 20000 in
theorem gX6_goes_X6_goesOn : GoodIn wsX6_goes (wsV RX6 205 RX6 yX6_goesOn wsX6_goesOn) := goodIn_app (goodIn_ids iaX6_goes [1111, 1113, 56, 77] haX6_goes rfl imX6_goes hmX6_goes (by decide +kernel) (by decide +kernel)) ggX6_goes_X6_goesOn
theorem dX6_goes_0 : decode cX6_goes 0 = .ok (.aload_n 0, 1) := by decide +kernel
theorem dX6_goes_1 : decode cX6_goes 1 = .ok (.iload_n 1, 1) := by decide +kernel
theorem dX6_goes_2 : decode cX6_goes 2 = .ok (.invokevirtual 193, 3) := by decide +kernel
theorem dX6_goes_5 : decode cX6_goes 5 = .ok (.ifCond .eq 13, 3) := by decide +kernel
theorem dX6_goes_8 : decode cX6_goes 8 = .ok (.iload_n 2, 1) := by decide +kernel
theorem dX6_goes_9 : decode cX6_goes 9 = .ok (.iconst 0, 1) := by decide +kernel
theorem dX6_goes_10 : decode cX6_goes 10 = .ok (.bipush 60, 2) := by decide +kernel
theorem dX6_goes_12 : decode cX6_goes 12 = .ok (.invokestatic 56, 3) := by decide +kernel
theorem dX6_goes_15 : decode cX6_goes 15 = .ok (.ifCond .ne 6, 3) := by decide +kernel
theorem dX6_goes_18 : decode cX6_goes 18 = .ok (.ldc 64, 2) := by decide +kernel
theorem dX6_goes_20 : decode cX6_goes 20 = .ok (.ireturn, 1) := by decide +kernel
theorem dX6_goes_21 : decode cX6_goes 21 = .ok (.aload_n 0, 1) := by decide +kernel
theorem dX6_goes_22 : decode cX6_goes 22 = .ok (.getfield 25, 3) := by decide +kernel
theorem dX6_goes_25 : decode cX6_goes 25 = .ok (.iconst 0, 1) := by decide +kernel
theorem dX6_goes_26 : decode cX6_goes 26 = .ok (.aload_n 0, 1) := by decide +kernel
theorem dX6_goes_27 : decode cX6_goes 27 = .ok (.getfield 31, 3) := by decide +kernel
theorem dX6_goes_30 : decode cX6_goes 30 = .ok (.iconst 0, 1) := by decide +kernel
theorem dX6_goes_31 : decode cX6_goes 31 = .ok (.invokestatic 138, 3) := by decide +kernel
theorem dX6_goes_34 : decode cX6_goes 34 = .ok (.aload_n 0, 1) := by decide +kernel
theorem dX6_goes_35 : decode cX6_goes 35 = .ok (.iload_n 2, 1) := by decide +kernel
theorem dX6_goes_36 : decode cX6_goes 36 = .ok (.invokevirtual 205, 3) := by decide +kernel
theorem dX6_goes_39 : decode cX6_goes 39 = .ok (.aload_n 0, 1) := by decide +kernel
theorem dX6_goes_40 : decode cX6_goes 40 = .ok (.getfield 31, 3) := by decide +kernel
theorem dX6_goes_43 : decode cX6_goes 43 = .ok (.bipush 6, 2) := by decide +kernel
theorem dX6_goes_45 : decode cX6_goes 45 = .ok (.bipush 6, 2) := by decide +kernel
theorem dX6_goes_47 : decode cX6_goes 47 = .ok (.iload_n 1, 1) := by decide +kernel
theorem dX6_goes_48 : decode cX6_goes 48 = .ok (.imul, 1) := by decide +kernel
theorem dX6_goes_49 : decode cX6_goes 49 = .ok (.iadd, 1) := by decide +kernel
theorem dX6_goes_50 : decode cX6_goes 50 = .ok (.iconst 4, 1) := by decide +kernel
theorem dX6_goes_51 : decode cX6_goes 51 = .ok (.iadd, 1) := by decide +kernel
theorem dX6_goes_52 : decode cX6_goes 52 = .ok (.iaload, 1) := by decide +kernel
theorem dX6_goes_53 : decode cX6_goes 53 = .ok (.ireturn, 1) := by decide +kernel
set_option maxRecDepth 20000 in
theorem ggX6_toBell_X6_steps : GoodIn wsX6_toBell wsX6_steps := goodIn_ids iaX6_toBell iaX6_steps haX6_toBell haX6_steps imX6_toBell hmX6_toBell (by decide +kernel) (by decide +kernel)
set_option maxRecDepth 20000 in
theorem gX6_toBell_X6_steps : GoodIn wsX6_toBell (va_wsS RX6 174 yX6_steps wsX6_steps) := goodIn_app (goodIn_ids iaX6_toBell [1037, 1038, 77] haX6_toBell rfl imX6_toBell hmX6_toBell (by decide +kernel) (by decide +kernel)) ggX6_toBell_X6_steps
theorem dX6_toBell_0 : decode cX6_toBell 0 = .ok (.aload_n 0, 1) := by decide +kernel
theorem dX6_toBell_1 : decode cX6_toBell 1 = .ok (.getfield 31, 3) := by decide +kernel
theorem dX6_toBell_4 : decode cX6_toBell 4 = .ok (.iconst 3, 1) := by decide +kernel
theorem dX6_toBell_5 : decode cX6_toBell 5 = .ok (.iaload, 1) := by decide +kernel
theorem dX6_toBell_6 : decode cX6_toBell 6 = .ok (.aload_n 0, 1) := by decide +kernel
theorem dX6_toBell_7 : decode cX6_toBell 7 = .ok (.getfield 31, 3) := by decide +kernel
theorem dX6_toBell_10 : decode cX6_toBell 10 = .ok (.iconst 1, 1) := by decide +kernel
theorem dX6_toBell_11 : decode cX6_toBell 11 = .ok (.iaload, 1) := by decide +kernel
theorem dX6_toBell_12 : decode cX6_toBell 12 = .ok (.if_icmp .ge 25, 3) := by decide +kernel
theorem dX6_toBell_15 : decode cX6_toBell 15 = .ok (.aload_n 0, 1) := by decide +kernel
theorem dX6_toBell_16 : decode cX6_toBell 16 = .ok (.getfield 31, 3) := by decide +kernel
theorem dX6_toBell_19 : decode cX6_toBell 19 = .ok (.aload_n 0, 1) := by decide +kernel
theorem dX6_toBell_20 : decode cX6_toBell 20 = .ok (.getfield 209, 3) := by decide +kernel
theorem dX6_toBell_23 : decode cX6_toBell 23 = .ok (.aload_n 0, 1) := by decide +kernel
theorem dX6_toBell_24 : decode cX6_toBell 24 = .ok (.getfield 212, 3) := by decide +kernel
theorem dX6_toBell_27 : decode cX6_toBell 27 = .ok (.aload_n 0, 1) := by decide +kernel
theorem dX6_toBell_28 : decode cX6_toBell 28 = .ok (.getfield 215, 3) := by decide +kernel
theorem dX6_toBell_31 : decode cX6_toBell 31 = .ok (.invokestatic 174, 3) := by decide +kernel
theorem dX6_toBell_34 : decode cX6_toBell 34 = .ok (.goto (-34), 3) := by decide +kernel
theorem dX6_toBell_37 : decode cX6_toBell 37 = .ok (.return_, 1) := by decide +kernel
set_option maxRecDepth 20000 in
theorem ggX6_tries_X6_copies : GoodIn wsX6_tries wsX6_copies := goodIn_ids iaX6_tries iaX6_copies haX6_tries haX6_copies imX6_tries hmX6_tries (by decide +kernel) (by decide +kernel)
set_option maxRecDepth 20000 in
theorem gX6_tries_X6_copies : GoodIn wsX6_tries (va_wsS RX6 138 yX6_copies wsX6_copies) := goodIn_app (goodIn_ids iaX6_tries [1014, 1015, 77] haX6_tries rfl imX6_tries hmX6_tries (by decide +kernel) (by decide +kernel)) ggX6_tries_X6_copies
theorem dX6_tries_0 : decode cX6_tries 0 = .ok (.aload_n 0, 1) := by decide +kernel
theorem dX6_tries_1 : decode cX6_tries 1 = .ok (.getfield 25, 3) := by decide +kernel
theorem dX6_tries_4 : decode cX6_tries 4 = .ok (.iconst 0, 1) := by decide +kernel
theorem dX6_tries_5 : decode cX6_tries 5 = .ok (.aload_n 0, 1) := by decide +kernel
theorem dX6_tries_6 : decode cX6_tries 6 = .ok (.getfield 31, 3) := by decide +kernel
theorem dX6_tries_9 : decode cX6_tries 9 = .ok (.iconst 0, 1) := by decide +kernel
theorem dX6_tries_10 : decode cX6_tries 10 = .ok (.invokestatic 138, 3) := by decide +kernel
theorem dX6_tries_13 : decode cX6_tries 13 = .ok (.aload_n 0, 1) := by decide +kernel
theorem dX6_tries_14 : decode cX6_tries 14 = .ok (.iconst 0, 1) := by decide +kernel
theorem dX6_tries_15 : decode cX6_tries 15 = .ok (.putfield 209, 3) := by decide +kernel
theorem dX6_tries_18 : decode cX6_tries 18 = .ok (.aload_n 0, 1) := by decide +kernel
theorem dX6_tries_19 : decode cX6_tries 19 = .ok (.iconst 0, 1) := by decide +kernel
theorem dX6_tries_20 : decode cX6_tries 20 = .ok (.putfield 212, 3) := by decide +kernel
theorem dX6_tries_23 : decode cX6_tries 23 = .ok (.aload_n 0, 1) := by decide +kernel
theorem dX6_tries_24 : decode cX6_tries 24 = .ok (.iconst 0, 1) := by decide +kernel
theorem dX6_tries_25 : decode cX6_tries 25 = .ok (.putfield 215, 3) := by decide +kernel
theorem dX6_tries_28 : decode cX6_tries 28 = .ok (.return_, 1) := by decide +kernel
set_option maxRecDepth 20000 in
theorem ggX6_nextKing_X6_toBell : GoodIn wsX6_nextKing wsX6_toBell := goodIn_ids iaX6_nextKing iaX6_toBell haX6_nextKing haX6_toBell imX6_nextKing hmX6_nextKing (by decide +kernel) (by decide +kernel)
set_option maxRecDepth 20000 in
theorem gX6_nextKing_X6_toBell : GoodIn wsX6_nextKing (wsV RX6 218 RX6 yX6_toBell wsX6_toBell) := goodIn_app (goodIn_ids iaX6_nextKing [1127, 1129, 58, 77] haX6_nextKing rfl imX6_nextKing hmX6_nextKing (by decide +kernel) (by decide +kernel)) ggX6_nextKing_X6_toBell
set_option maxRecDepth 20000 in
theorem ggX6_nextKing_X6_kingOf : GoodIn wsX6_nextKing wsX6_kingOf := goodIn_ids iaX6_nextKing iaX6_kingOf haX6_nextKing haX6_kingOf imX6_nextKing hmX6_nextKing (by decide +kernel) (by decide +kernel)
set_option maxRecDepth 20000 in
theorem gX6_nextKing_X6_kingOf : GoodIn wsX6_nextKing (va_wsS RX6 171 yX6_kingOf wsX6_kingOf) := goodIn_app (goodIn_ids iaX6_nextKing [1064, 1065, 77] haX6_nextKing rfl imX6_nextKing hmX6_nextKing (by decide +kernel) (by decide +kernel)) ggX6_nextKing_X6_kingOf
theorem dX6_nextKing_0 : decode cX6_nextKing 0 = .ok (.aload_n 0, 1) := by decide +kernel
theorem dX6_nextKing_1 : decode cX6_nextKing 1 = .ok (.invokevirtual 218, 3) := by decide +kernel
theorem dX6_nextKing_4 : decode cX6_nextKing 4 = .ok (.aload_n 0, 1) := by decide +kernel
theorem dX6_nextKing_5 : decode cX6_nextKing 5 = .ok (.getfield 31, 3) := by decide +kernel
theorem dX6_nextKing_8 : decode cX6_nextKing 8 = .ok (.aload_n 0, 1) := by decide +kernel
theorem dX6_nextKing_9 : decode cX6_nextKing 9 = .ok (.getfield 209, 3) := by decide +kernel
theorem dX6_nextKing_12 : decode cX6_nextKing 12 = .ok (.invokestatic 171, 3) := by decide +kernel
theorem dX6_nextKing_15 : decode cX6_nextKing 15 = .ok (.ireturn, 1) := by decide +kernel
set_option maxRecDepth 20000 in
theorem ggX6_crowned_X6_isTown : GoodIn wsX6_crowned wsX6_isTown := goodIn_ids iaX6_crowned iaX6_isTown haX6_crowned haX6_isTown imX6_crowned hmX6_crowned (by decide +kernel) (by decide +kernel)
set_option maxRecDepth 20000 in
theorem gX6_crowned_X6_isTown : GoodIn wsX6_crowned (wsV RX6 182 RX6 yX6_isTown wsX6_isTown) := goodIn_app (goodIn_ids iaX6_crowned [1025, 1027, 50, 77] haX6_crowned rfl imX6_crowned hmX6_crowned (by decide +kernel) (by decide +kernel)) ggX6_crowned_X6_isTown
set_option maxRecDepth 20000 in
theorem ggX6_crowned_X6_in : GoodIn wsX6_crowned wsX6_in := goodIn_ids iaX6_crowned iaX6_in haX6_crowned haX6_in imX6_crowned hmX6_crowned (by decide +kernel) (by decide +kernel)
set_option maxRecDepth 20000 in
theorem gX6_crowned_X6_in : GoodIn wsX6_crowned (va_wsS RX6 56 yX6_in wsX6_in) := goodIn_app (goodIn_ids iaX6_crowned [929, 930, 77] haX6_crowned rfl imX6_crowned hmX6_crowned (by decide +kernel) (by decide +kernel)) ggX6_crowned_X6_in
set_option maxRecDepth 20000 in
theorem ggX6_crowned_X6_tries : GoodIn wsX6_crowned wsX6_tries := goodIn_ids iaX6_crowned iaX6_tries haX6_crowned haX6_tries imX6_crowned hmX6_crowned (by decide +kernel) (by decide +kernel)
set_option maxRecDepth 20000 in
theorem gX6_crowned_X6_tries : GoodIn wsX6_crowned (wsV RX6 221 RX6 yX6_tries wsX6_tries) := goodIn_app (goodIn_ids iaX6_crowned [1123, 1125, 57, 77] haX6_crowned rfl imX6_crowned hmX6_crowned (by decide +kernel) (by decide +kernel)) ggX6_crowned_X6_tries
set_option maxRecDepth 20000 in
theorem ggX6_crowned_X6_toBell : GoodIn wsX6_crowned wsX6_toBell := goodIn_ids iaX6_crowned iaX6_toBell haX6_crowned haX6_toBell imX6_crowned hmX6_crowned (by decide +kernel) (by decide +kernel)
set_option maxRecDepth 20000 in
theorem gX6_crowned_X6_toBell : GoodIn wsX6_crowned (wsV RX6 218 RX6 yX6_toBell wsX6_toBell) := goodIn_app (goodIn_ids iaX6_crowned [1127, 1129, 58, 77] haX6_crowned rfl imX6_crowned hmX6_crowned (by decide +kernel) (by decide +kernel)) ggX6_crowned_X6_toBell
set_option maxRecDepth 20000 in
theorem ggX6_crowned_X6_rings : GoodIn wsX6_crowned wsX6_rings := goodIn_ids iaX6_crowned iaX6_rings haX6_crowned haX6_rings imX6_crowned hmX6_crowned (by decide +kernel) (by decide +kernel)
set_option maxRecDepth 20000 in
theorem gX6_crowned_X6_rings : GoodIn wsX6_crowned (va_wsS RX6 178 yX6_rings wsX6_rings) := goodIn_app (goodIn_ids iaX6_crowned [1061, 1062, 77] haX6_crowned rfl imX6_crowned hmX6_crowned (by decide +kernel) (by decide +kernel)) ggX6_crowned_X6_rings
theorem dX6_crowned_0 : decode cX6_crowned 0 = .ok (.aload_n 0, 1) := by decide +kernel
theorem dX6_crowned_1 : decode cX6_crowned 1 = .ok (.invokevirtual 182, 3) := by decide +kernel
theorem dX6_crowned_4 : decode cX6_crowned 4 = .ok (.ifCond .ne 6, 3) := by decide +kernel
theorem dX6_crowned_7 : decode cX6_crowned 7 = .ok (.ldc 185, 2) := by decide +kernel
theorem dX6_crowned_9 : decode cX6_crowned 9 = .ok (.ireturn, 1) := by decide +kernel
theorem dX6_crowned_10 : decode cX6_crowned 10 = .ok (.iload_n 1, 1) := by decide +kernel
theorem dX6_crowned_11 : decode cX6_crowned 11 = .ok (.iconst 1, 1) := by decide +kernel
theorem dX6_crowned_12 : decode cX6_crowned 12 = .ok (.bipush 9, 2) := by decide +kernel
theorem dX6_crowned_14 : decode cX6_crowned 14 = .ok (.invokestatic 56, 3) := by decide +kernel
theorem dX6_crowned_17 : decode cX6_crowned 17 = .ok (.ifCond .ne 6, 3) := by decide +kernel
theorem dX6_crowned_20 : decode cX6_crowned 20 = .ok (.ldc 64, 2) := by decide +kernel
theorem dX6_crowned_22 : decode cX6_crowned 22 = .ok (.ireturn, 1) := by decide +kernel
theorem dX6_crowned_23 : decode cX6_crowned 23 = .ok (.aload_n 0, 1) := by decide +kernel
theorem dX6_crowned_24 : decode cX6_crowned 24 = .ok (.invokevirtual 221, 3) := by decide +kernel
theorem dX6_crowned_27 : decode cX6_crowned 27 = .ok (.ldc 50, 2) := by decide +kernel
theorem dX6_crowned_29 : decode cX6_crowned 29 = .ok (.istore_n 2, 1) := by decide +kernel
theorem dX6_crowned_30 : decode cX6_crowned 30 = .ok (.iconst 0, 1) := by decide +kernel
theorem dX6_crowned_31 : decode cX6_crowned 31 = .ok (.istore_n 3, 1) := by decide +kernel
theorem dX6_crowned_32 : decode cX6_crowned 32 = .ok (.iload_n 3, 1) := by decide +kernel
theorem dX6_crowned_33 : decode cX6_crowned 33 = .ok (.iload_n 1, 1) := by decide +kernel
theorem dX6_crowned_34 : decode cX6_crowned 34 = .ok (.if_icmp .ge 21, 3) := by decide +kernel
theorem dX6_crowned_37 : decode cX6_crowned 37 = .ok (.aload_n 0, 1) := by decide +kernel
theorem dX6_crowned_38 : decode cX6_crowned 38 = .ok (.invokevirtual 218, 3) := by decide +kernel
theorem dX6_crowned_41 : decode cX6_crowned 41 = .ok (.aload_n 0, 1) := by decide +kernel
theorem dX6_crowned_42 : decode cX6_crowned 42 = .ok (.getfield 31, 3) := by decide +kernel
theorem dX6_crowned_45 : decode cX6_crowned 45 = .ok (.invokestatic 178, 3) := by decide +kernel
theorem dX6_crowned_48 : decode cX6_crowned 48 = .ok (.istore_n 2, 1) := by decide +kernel
theorem dX6_crowned_49 : decode cX6_crowned 49 = .ok (.iinc 3 1, 3) := by decide +kernel
theorem dX6_crowned_52 : decode cX6_crowned 52 = .ok (.goto (-20), 3) := by decide +kernel
theorem dX6_crowned_55 : decode cX6_crowned 55 = .ok (.iload_n 2, 1) := by decide +kernel
theorem dX6_crowned_56 : decode cX6_crowned 56 = .ok (.ireturn, 1) := by decide +kernel
set_option maxRecDepth 20000 in
theorem ggX6_heir_X6_isPerson : GoodIn wsX6_heir wsX6_isPerson := goodIn_ids iaX6_heir iaX6_isPerson haX6_heir haX6_isPerson imX6_heir hmX6_heir (by decide +kernel) (by decide +kernel)
set_option maxRecDepth 20000 in
theorem gX6_heir_X6_isPerson : GoodIn wsX6_heir (wsV RX6 193 RX6 yX6_isPerson wsX6_isPerson) := goodIn_app (goodIn_ids iaX6_heir [1071, 1073, 52, 77] haX6_heir rfl imX6_heir hmX6_heir (by decide +kernel) (by decide +kernel)) ggX6_heir_X6_isPerson
set_option maxRecDepth 20000 in
theorem ggX6_heir_X6_tries : GoodIn wsX6_heir wsX6_tries := goodIn_ids iaX6_heir iaX6_tries haX6_heir haX6_tries imX6_heir hmX6_heir (by decide +kernel) (by decide +kernel)
set_option maxRecDepth 20000 in
theorem gX6_heir_X6_tries : GoodIn wsX6_heir (wsV RX6 221 RX6 yX6_tries wsX6_tries) := goodIn_app (goodIn_ids iaX6_heir [1123, 1125, 57, 77] haX6_heir rfl imX6_heir hmX6_heir (by decide +kernel) (by decide +kernel)) ggX6_heir_X6_tries
set_option maxRecDepth 20000 in
theorem ggX6_heir_X6_steps : GoodIn wsX6_heir wsX6_steps := goodIn_ids iaX6_heir iaX6_steps haX6_heir haX6_steps imX6_heir hmX6_heir (by decide +kernel) (by decide +kernel)
set_option maxRecDepth 20000 in
theorem gX6_heir_X6_steps : GoodIn wsX6_heir (va_wsS RX6 174 yX6_steps wsX6_steps) := goodIn_app (goodIn_ids iaX6_heir [1037, 1038, 77] haX6_heir rfl imX6_heir hmX6_heir (by decide +kernel) (by decide +kernel)) ggX6_heir_X6_steps
set_option maxRecDepth 20000 in
theorem ggX6_heir_X6_rings : GoodIn wsX6_heir wsX6_rings := goodIn_ids iaX6_heir iaX6_rings haX6_heir haX6_rings imX6_heir hmX6_heir (by decide +kernel) (by decide +kernel)
set_option maxRecDepth 20000 in
theorem gX6_heir_X6_rings : GoodIn wsX6_heir (va_wsS RX6 178 yX6_rings wsX6_rings) := goodIn_app (goodIn_ids iaX6_heir [1061, 1062, 77] haX6_heir rfl imX6_heir hmX6_heir (by decide +kernel) (by decide +kernel)) ggX6_heir_X6_rings
theorem dX6_heir_0 : decode cX6_heir 0 = .ok (.aload_n 0, 1) := by decide +kernel
theorem dX6_heir_1 : decode cX6_heir 1 = .ok (.iload_n 1, 1) := by decide +kernel
theorem dX6_heir_2 : decode cX6_heir 2 = .ok (.invokevirtual 193, 3) := by decide +kernel
theorem dX6_heir_5 : decode cX6_heir 5 = .ok (.ifCond .ne 6, 3) := by decide +kernel
theorem dX6_heir_8 : decode cX6_heir 8 = .ok (.ldc 64, 2) := by decide +kernel
theorem dX6_heir_10 : decode cX6_heir 10 = .ok (.ireturn, 1) := by decide +kernel
theorem dX6_heir_11 : decode cX6_heir 11 = .ok (.aload_n 0, 1) := by decide +kernel
theorem dX6_heir_12 : decode cX6_heir 12 = .ok (.invokevirtual 221, 3) := by decide +kernel
theorem dX6_heir_15 : decode cX6_heir 15 = .ok (.iconst 1, 1) := by decide +kernel
theorem dX6_heir_16 : decode cX6_heir 16 = .ok (.istore_n 2, 1) := by decide +kernel
theorem dX6_heir_17 : decode cX6_heir 17 = .ok (.iload_n 2, 1) := by decide +kernel
theorem dX6_heir_18 : decode cX6_heir 18 = .ok (.bipush 61, 2) := by decide +kernel
theorem dX6_heir_20 : decode cX6_heir 20 = .ok (.if_icmp .ge 47, 3) := by decide +kernel
theorem dX6_heir_23 : decode cX6_heir 23 = .ok (.aload_n 0, 1) := by decide +kernel
theorem dX6_heir_24 : decode cX6_heir 24 = .ok (.getfield 31, 3) := by decide +kernel
theorem dX6_heir_27 : decode cX6_heir 27 = .ok (.iconst 0, 1) := by decide +kernel
theorem dX6_heir_28 : decode cX6_heir 28 = .ok (.iconst 0, 1) := by decide +kernel
theorem dX6_heir_29 : decode cX6_heir 29 = .ok (.iconst 0, 1) := by decide +kernel
theorem dX6_heir_30 : decode cX6_heir 30 = .ok (.invokestatic 174, 3) := by decide +kernel
theorem dX6_heir_33 : decode cX6_heir 33 = .ok (.aload_n 0, 1) := by decide +kernel
theorem dX6_heir_34 : decode cX6_heir 34 = .ok (.getfield 31, 3) := by decide +kernel
theorem dX6_heir_37 : decode cX6_heir 37 = .ok (.iconst 3, 1) := by decide +kernel
theorem dX6_heir_38 : decode cX6_heir 38 = .ok (.iaload, 1) := by decide +kernel
theorem dX6_heir_39 : decode cX6_heir 39 = .ok (.aload_n 0, 1) := by decide +kernel
theorem dX6_heir_40 : decode cX6_heir 40 = .ok (.getfield 31, 3) := by decide +kernel
theorem dX6_heir_43 : decode cX6_heir 43 = .ok (.iconst 1, 1) := by decide +kernel
theorem dX6_heir_44 : decode cX6_heir 44 = .ok (.iaload, 1) := by decide +kernel
theorem dX6_heir_45 : decode cX6_heir 45 = .ok (.if_icmp .ne 16, 3) := by decide +kernel
theorem dX6_heir_48 : decode cX6_heir 48 = .ok (.aload_n 0, 1) := by decide +kernel
theorem dX6_heir_49 : decode cX6_heir 49 = .ok (.getfield 31, 3) := by decide +kernel
theorem dX6_heir_52 : decode cX6_heir 52 = .ok (.invokestatic 178, 3) := by decide +kernel
theorem dX6_heir_55 : decode cX6_heir 55 = .ok (.iload_n 1, 1) := by decide +kernel
theorem dX6_heir_56 : decode cX6_heir 56 = .ok (.if_icmp .ne 5, 3) := by decide +kernel
theorem dX6_heir_59 : decode cX6_heir 59 = .ok (.iload_n 2, 1) := by decide +kernel
theorem dX6_heir_60 : decode cX6_heir 60 = .ok (.ireturn, 1) := by decide +kernel
theorem dX6_heir_61 : decode cX6_heir 61 = .ok (.iinc 2 1, 3) := by decide +kernel
theorem dX6_heir_64 : decode cX6_heir 64 = .ok (.goto (-47), 3) := by decide +kernel
theorem dX6_heir_67 : decode cX6_heir 67 = .ok (.ldc 50, 2) := by decide +kernel
theorem dX6_heir_69 : decode cX6_heir 69 = .ok (.ireturn, 1) := by decide +kernel
set_option maxRecDepth 20000 in
theorem ggX6_least_X6_isPerson : GoodIn wsX6_least wsX6_isPerson := goodIn_ids iaX6_least iaX6_isPerson haX6_least haX6_isPerson imX6_least hmX6_least (by decide +kernel) (by decide +kernel)
set_option maxRecDepth 20000 in
theorem gX6_least_X6_isPerson : GoodIn wsX6_least (wsV RX6 193 RX6 yX6_isPerson wsX6_isPerson) := goodIn_app (goodIn_ids iaX6_least [1071, 1073, 52, 77] haX6_least rfl imX6_least hmX6_least (by decide +kernel) (by decide +kernel)) ggX6_least_X6_isPerson
set_option maxRecDepth 20000 in
theorem ggX6_least_X6_tries : GoodIn wsX6_least wsX6_tries := goodIn_ids iaX6_least iaX6_tries haX6_least haX6_tries imX6_least hmX6_least (by decide +kernel) (by decide +kernel)
set_option maxRecDepth 20000 in
theorem gX6_least_X6_tries : GoodIn wsX6_least (wsV RX6 221 RX6 yX6_tries wsX6_tries) := goodIn_app (goodIn_ids iaX6_least [1123, 1125, 57, 77] haX6_least rfl imX6_least hmX6_least (by decide +kernel) (by decide +kernel)) ggX6_least_X6_tries
set_option maxRecDepth 20000 in
theorem ggX6_least_X6_nextKing : GoodIn wsX6_least wsX6_nextKing := goodIn_ids iaX6_least iaX6_nextKing haX6_least haX6_nextKing imX6_least hmX6_least (by decide +kernel) (by decide +kernel)
set_option maxRecDepth 20000 in
theorem gX6_least_X6_nextKing : GoodIn wsX6_least (wsV RX6 224 RX6 yX6_nextKing wsX6_nextKing) := goodIn_app (goodIn_ids iaX6_least [1139, 1141, 59, 77] haX6_least rfl imX6_least hmX6_least (by decide +kernel) (by decide +kernel)) ggX6_least_X6_nextKing
theorem dX6_least_0 : decode cX6_least 0 = .ok (.aload_n 0, 1) := by decide +kernel
theorem dX6_least_1 : decode cX6_least 1 = .ok (.iload_n 1, 1) := by decide +kernel
theorem dX6_least_2 : decode cX6_least 2 = .ok (.invokevirtual 193, 3) := by decide +kernel
theorem dX6_least_5 : decode cX6_least 5 = .ok (.ifCond .ne 6, 3) := by decide +kernel
theorem dX6_least_8 : decode cX6_least 8 = .ok (.ldc 64, 2) := by decide +kernel
theorem dX6_least_10 : decode cX6_least 10 = .ok (.ireturn, 1) := by decide +kernel
theorem dX6_least_11 : decode cX6_least 11 = .ok (.iconst 0, 1) := by decide +kernel
theorem dX6_least_12 : decode cX6_least 12 = .ok (.istore_n 2, 1) := by decide +kernel
theorem dX6_least_13 : decode cX6_least 13 = .ok (.iload_n 2, 1) := by decide +kernel
theorem dX6_least_14 : decode cX6_least 14 = .ok (.bipush 10, 2) := by decide +kernel
theorem dX6_least_16 : decode cX6_least 16 = .ok (.if_icmp .ge 38, 3) := by decide +kernel
theorem dX6_least_19 : decode cX6_least 19 = .ok (.aload_n 0, 1) := by decide +kernel
theorem dX6_least_20 : decode cX6_least 20 = .ok (.invokevirtual 221, 3) := by decide +kernel
theorem dX6_least_23 : decode cX6_least 23 = .ok (.aload_n 0, 1) := by decide +kernel
theorem dX6_least_24 : decode cX6_least 24 = .ok (.getfield 31, 3) := by decide +kernel
theorem dX6_least_27 : decode cX6_least 27 = .ok (.bipush 6, 2) := by decide +kernel
theorem dX6_least_29 : decode cX6_least 29 = .ok (.bipush 6, 2) := by decide +kernel
theorem dX6_least_31 : decode cX6_least 31 = .ok (.iload_n 1, 1) := by decide +kernel
theorem dX6_least_32 : decode cX6_least 32 = .ok (.imul, 1) := by decide +kernel
theorem dX6_least_33 : decode cX6_least 33 = .ok (.iadd, 1) := by decide +kernel
theorem dX6_least_34 : decode cX6_least 34 = .ok (.iconst 3, 1) := by decide +kernel
theorem dX6_least_35 : decode cX6_least 35 = .ok (.iadd, 1) := by decide +kernel
theorem dX6_least_36 : decode cX6_least 36 = .ok (.iload_n 2, 1) := by decide +kernel
theorem dX6_least_37 : decode cX6_least 37 = .ok (.iastore, 1) := by decide +kernel
theorem dX6_least_38 : decode cX6_least 38 = .ok (.aload_n 0, 1) := by decide +kernel
theorem dX6_least_39 : decode cX6_least 39 = .ok (.invokevirtual 224, 3) := by decide +kernel
theorem dX6_least_42 : decode cX6_least 42 = .ok (.iload_n 1, 1) := by decide +kernel
theorem dX6_least_43 : decode cX6_least 43 = .ok (.if_icmp .ne 5, 3) := by decide +kernel
theorem dX6_least_46 : decode cX6_least 46 = .ok (.iload_n 2, 1) := by decide +kernel
theorem dX6_least_47 : decode cX6_least 47 = .ok (.ireturn, 1) := by decide +kernel
theorem dX6_least_48 : decode cX6_least 48 = .ok (.iinc 2 1, 3) := by decide +kernel
theorem dX6_least_51 : decode cX6_least 51 = .ok (.goto (-38), 3) := by decide +kernel
theorem dX6_least_54 : decode cX6_least 54 = .ok (.ldc 50, 2) := by decide +kernel
theorem dX6_least_56 : decode cX6_least 56 = .ok (.ireturn, 1) := by decide +kernel
set_option maxRecDepth 20000 in
theorem ggX6_walks_X6_isPerson : GoodIn wsX6_walks wsX6_isPerson := goodIn_ids iaX6_walks iaX6_isPerson haX6_walks haX6_isPerson imX6_walks hmX6_walks (by decide +kernel) (by decide +kernel)
set_option maxRecDepth 20000 in
theorem gX6_walks_X6_isPerson : GoodIn wsX6_walks (wsV RX6 193 RX6 yX6_isPerson wsX6_isPerson) := goodIn_app (goodIn_ids iaX6_walks [1071, 1073, 52, 77] haX6_walks rfl imX6_walks hmX6_walks (by decide +kernel) (by decide +kernel)) ggX6_walks_X6_isPerson
set_option maxRecDepth 20000 in
theorem ggX6_walks_X6_tries : GoodIn wsX6_walks wsX6_tries := goodIn_ids iaX6_walks iaX6_tries haX6_walks haX6_tries imX6_walks hmX6_walks (by decide +kernel) (by decide +kernel)
set_option maxRecDepth 20000 in
theorem gX6_walks_X6_tries : GoodIn wsX6_walks (wsV RX6 221 RX6 yX6_tries wsX6_tries) := goodIn_app (goodIn_ids iaX6_walks [1123, 1125, 57, 77] haX6_walks rfl imX6_walks hmX6_walks (by decide +kernel) (by decide +kernel)) ggX6_walks_X6_tries
set_option maxRecDepth 20000 in
theorem ggX6_walks_X6_nextKing : GoodIn wsX6_walks wsX6_nextKing := goodIn_ids iaX6_walks iaX6_nextKing haX6_walks haX6_nextKing imX6_walks hmX6_walks (by decide +kernel) (by decide +kernel)
set_option maxRecDepth 20000 in
theorem gX6_walks_X6_nextKing : GoodIn wsX6_walks (wsV RX6 224 RX6 yX6_nextKing wsX6_nextKing) := goodIn_app (goodIn_ids iaX6_walks [1139, 1141, 59, 77] haX6_walks rfl imX6_walks hmX6_walks (by decide +kernel) (by decide +kernel)) ggX6_walks_X6_nextKing
theorem dX6_walks_0 : decode cX6_walks 0 = .ok (.aload_n 0, 1) := by decide +kernel
theorem dX6_walks_1 : decode cX6_walks 1 = .ok (.iload_n 1, 1) := by decide +kernel
theorem dX6_walks_2 : decode cX6_walks 2 = .ok (.invokevirtual 193, 3) := by decide +kernel
theorem dX6_walks_5 : decode cX6_walks 5 = .ok (.ifCond .ne 6, 3) := by decide +kernel
theorem dX6_walks_8 : decode cX6_walks 8 = .ok (.ldc 64, 2) := by decide +kernel
theorem dX6_walks_10 : decode cX6_walks 10 = .ok (.ireturn, 1) := by decide +kernel
theorem dX6_walks_11 : decode cX6_walks 11 = .ok (.iconst 0, 1) := by decide +kernel
theorem dX6_walks_12 : decode cX6_walks 12 = .ok (.istore_n 2, 1) := by decide +kernel
theorem dX6_walks_13 : decode cX6_walks 13 = .ok (.iconst 0, 1) := by decide +kernel
theorem dX6_walks_14 : decode cX6_walks 14 = .ok (.istore_n 3, 1) := by decide +kernel
theorem dX6_walks_15 : decode cX6_walks 15 = .ok (.iload_n 3, 1) := by decide +kernel
theorem dX6_walks_16 : decode cX6_walks 16 = .ok (.iconst 3, 1) := by decide +kernel
theorem dX6_walks_17 : decode cX6_walks 17 = .ok (.if_icmp .ge 46, 3) := by decide +kernel
theorem dX6_walks_20 : decode cX6_walks 20 = .ok (.aload_n 0, 1) := by decide +kernel
theorem dX6_walks_21 : decode cX6_walks 21 = .ok (.invokevirtual 221, 3) := by decide +kernel
theorem dX6_walks_24 : decode cX6_walks 24 = .ok (.aload_n 0, 1) := by decide +kernel
theorem dX6_walks_25 : decode cX6_walks 25 = .ok (.getfield 31, 3) := by decide +kernel
theorem dX6_walks_28 : decode cX6_walks 28 = .ok (.bipush 6, 2) := by decide +kernel
theorem dX6_walks_30 : decode cX6_walks 30 = .ok (.bipush 6, 2) := by decide +kernel
theorem dX6_walks_32 : decode cX6_walks 32 = .ok (.iload_n 1, 1) := by decide +kernel
theorem dX6_walks_33 : decode cX6_walks 33 = .ok (.imul, 1) := by decide +kernel
theorem dX6_walks_34 : decode cX6_walks 34 = .ok (.iadd, 1) := by decide +kernel
theorem dX6_walks_35 : decode cX6_walks 35 = .ok (.iconst 2, 1) := by decide +kernel
theorem dX6_walks_36 : decode cX6_walks 36 = .ok (.iadd, 1) := by decide +kernel
theorem dX6_walks_37 : decode cX6_walks 37 = .ok (.iload_n 3, 1) := by decide +kernel
theorem dX6_walks_38 : decode cX6_walks 38 = .ok (.iastore, 1) := by decide +kernel
theorem dX6_walks_39 : decode cX6_walks 39 = .ok (.iload_n 2, 1) := by decide +kernel
theorem dX6_walks_40 : decode cX6_walks 40 = .ok (.aload_n 0, 1) := by decide +kernel
theorem dX6_walks_41 : decode cX6_walks 41 = .ok (.invokevirtual 224, 3) := by decide +kernel
theorem dX6_walks_44 : decode cX6_walks 44 = .ok (.iload_n 1, 1) := by decide +kernel
theorem dX6_walks_45 : decode cX6_walks 45 = .ok (.if_icmp .ne 9, 3) := by decide +kernel
theorem dX6_walks_48 : decode cX6_walks 48 = .ok (.iconst 1, 1) := by decide +kernel
theorem dX6_walks_49 : decode cX6_walks 49 = .ok (.iload_n 3, 1) := by decide +kernel
theorem dX6_walks_50 : decode cX6_walks 50 = .ok (.ishl, 1) := by decide +kernel
theorem dX6_walks_51 : decode cX6_walks 51 = .ok (.goto 4, 3) := by decide +kernel
theorem dX6_walks_54 : decode cX6_walks 54 = .ok (.iconst 0, 1) := by decide +kernel
theorem dX6_walks_55 : decode cX6_walks 55 = .ok (.ior, 1) := by decide +kernel
theorem dX6_walks_56 : decode cX6_walks 56 = .ok (.istore_n 2, 1) := by decide +kernel
theorem dX6_walks_57 : decode cX6_walks 57 = .ok (.iinc 3 1, 3) := by decide +kernel
theorem dX6_walks_60 : decode cX6_walks 60 = .ok (.goto (-45), 3) := by decide +kernel
theorem dX6_walks_63 : decode cX6_walks 63 = .ok (.iload_n 2, 1) := by decide +kernel
theorem dX6_walks_64 : decode cX6_walks 64 = .ok (.ireturn, 1) := by decide +kernel
set_option maxRecDepth 20000 in
theorem ggX6_cats_X6_isStreet : GoodIn wsX6_cats wsX6_isStreet := goodIn_ids iaX6_cats iaX6_isStreet haX6_cats haX6_isStreet imX6_cats hmX6_cats (by decide +kernel) (by decide +kernel)
set_option maxRecDepth 20000 in
theorem gX6_cats_X6_isStreet : GoodIn wsX6_cats (wsV RX6 199 RX6 yX6_isStreet wsX6_isStreet) := goodIn_app (goodIn_ids iaX6_cats [1087, 1089, 54, 77] haX6_cats rfl imX6_cats hmX6_cats (by decide +kernel) (by decide +kernel)) ggX6_cats_X6_isStreet
set_option maxRecDepth 20000 in
theorem ggX6_cats_X6_in : GoodIn wsX6_cats wsX6_in := goodIn_ids iaX6_cats iaX6_in haX6_cats haX6_in imX6_cats hmX6_cats (by decide +kernel) (by decide +kernel)
set_option maxRecDepth 20000 in
theorem gX6_cats_X6_in : GoodIn wsX6_cats (va_wsS RX6 56 yX6_in wsX6_in) := goodIn_app (goodIn_ids iaX6_cats [929, 930, 77] haX6_cats rfl imX6_cats hmX6_cats (by decide +kernel) (by decide +kernel)) ggX6_cats_X6_in
set_option maxRecDepth 20000 in
theorem ggX6_cats_X6_has : GoodIn wsX6_cats wsX6_has := goodIn_ids iaX6_cats iaX6_has haX6_cats haX6_has imX6_cats hmX6_cats (by decide +kernel) (by decide +kernel)
set_option maxRecDepth 20000 in
theorem gX6_cats_X6_has : GoodIn wsX6_cats (va_wsS RX6 152 yX6_has wsX6_has) := goodIn_app (goodIn_ids iaX6_cats [1058, 1059, 77] haX6_cats rfl imX6_cats hmX6_cats (by decide +kernel) (by decide +kernel)) ggX6_cats_X6_has
set_option maxRecDepth 20000 in
theorem ggX6_cats_X6_ones : GoodIn wsX6_cats wsX6_ones := goodIn_ids iaX6_cats iaX6_ones haX6_cats haX6_ones imX6_cats hmX6_cats (by decide +kernel) (by decide +kernel)
set_option maxRecDepth 20000 in
theorem gX6_cats_X6_ones : GoodIn wsX6_cats (va_wsS RX6 228 yX6_ones wsX6_ones) := goodIn_app (goodIn_ids iaX6_cats [1151, 1152, 77] haX6_cats rfl imX6_cats hmX6_cats (by decide +kernel) (by decide +kernel)) ggX6_cats_X6_ones
set_option maxRecDepth 20000 in
theorem ggX6_cats_X6_tries : GoodIn wsX6_cats wsX6_tries := goodIn_ids iaX6_cats iaX6_tries haX6_cats haX6_tries imX6_cats hmX6_cats (by decide +kernel) (by decide +kernel)
set_option maxRecDepth 20000 in
theorem gX6_cats_X6_tries : GoodIn wsX6_cats (wsV RX6 221 RX6 yX6_tries wsX6_tries) := goodIn_app (goodIn_ids iaX6_cats [1123, 1125, 57, 77] haX6_cats rfl imX6_cats hmX6_cats (by decide +kernel) (by decide +kernel)) ggX6_cats_X6_tries
set_option maxRecDepth 20000 in
theorem ggX6_cats_X6_toBell : GoodIn wsX6_cats wsX6_toBell := goodIn_ids iaX6_cats iaX6_toBell haX6_cats haX6_toBell imX6_cats hmX6_cats (by decide +kernel) (by decide +kernel)
set_option maxRecDepth 20000 in
theorem gX6_cats_X6_toBell : GoodIn wsX6_cats (wsV RX6 218 RX6 yX6_toBell wsX6_toBell) := goodIn_app (goodIn_ids iaX6_cats [1127, 1129, 58, 77] haX6_cats rfl imX6_cats hmX6_cats (by decide +kernel) (by decide +kernel)) ggX6_cats_X6_toBell
set_option maxRecDepth 20000 in
theorem ggX6_cats_X6_othersIn : GoodIn wsX6_cats wsX6_othersIn := goodIn_ids iaX6_cats iaX6_othersIn haX6_cats haX6_othersIn imX6_cats hmX6_cats (by decide +kernel) (by decide +kernel)
set_option maxRecDepth 20000 in
theorem gX6_cats_X6_othersIn : GoodIn wsX6_cats (va_wsS RX6 160 yX6_othersIn wsX6_othersIn) := goodIn_app (goodIn_ids iaX6_cats [1055, 1056, 77] haX6_cats rfl imX6_cats hmX6_cats (by decide +kernel) (by decide +kernel)) ggX6_cats_X6_othersIn
theorem dX6_cats_0 : decode cX6_cats 0 = .ok (.aload_n 0, 1) := by decide +kernel
theorem dX6_cats_1 : decode cX6_cats 1 = .ok (.iload_n 1, 1) := by decide +kernel
theorem dX6_cats_2 : decode cX6_cats 2 = .ok (.invokevirtual 199, 3) := by decide +kernel
theorem dX6_cats_5 : decode cX6_cats 5 = .ok (.ifCond .eq 12, 3) := by decide +kernel
theorem dX6_cats_8 : decode cX6_cats 8 = .ok (.iload_n 2, 1) := by decide +kernel
theorem dX6_cats_9 : decode cX6_cats 9 = .ok (.iconst 0, 1) := by decide +kernel
theorem dX6_cats_10 : decode cX6_cats 10 = .ok (.iconst 1, 1) := by decide +kernel
theorem dX6_cats_11 : decode cX6_cats 11 = .ok (.invokestatic 56, 3) := by decide +kernel
theorem dX6_cats_14 : decode cX6_cats 14 = .ok (.ifCond .ne 6, 3) := by decide +kernel
theorem dX6_cats_17 : decode cX6_cats 17 = .ok (.ldc 64, 2) := by decide +kernel
theorem dX6_cats_19 : decode cX6_cats 19 = .ok (.ireturn, 1) := by decide +kernel
theorem dX6_cats_20 : decode cX6_cats 20 = .ok (.ldc 50, 2) := by decide +kernel
theorem dX6_cats_22 : decode cX6_cats 22 = .ok (.istore_n 3, 1) := by decide +kernel
theorem dX6_cats_23 : decode cX6_cats 23 = .ok (.iconst 0, 1) := by decide +kernel
theorem dX6_cats_24 : decode cX6_cats 24 = .ok (.istore 4, 2) := by decide +kernel
theorem dX6_cats_26 : decode cX6_cats 26 = .ok (.iload 4, 2) := by decide +kernel
theorem dX6_cats_28 : decode cX6_cats 28 = .ok (.iconst 1, 1) := by decide +kernel
theorem dX6_cats_29 : decode cX6_cats 29 = .ok (.aload_n 0, 1) := by decide +kernel
theorem dX6_cats_30 : decode cX6_cats 30 = .ok (.getfield 25, 3) := by decide +kernel
theorem dX6_cats_33 : decode cX6_cats 33 = .ok (.iconst 0, 1) := by decide +kernel
theorem dX6_cats_34 : decode cX6_cats 34 = .ok (.iaload, 1) := by decide +kernel
theorem dX6_cats_35 : decode cX6_cats 35 = .ok (.ishl, 1) := by decide +kernel
theorem dX6_cats_36 : decode cX6_cats 36 = .ok (.if_icmp .ge 83, 3) := by decide +kernel
theorem dX6_cats_39 : decode cX6_cats 39 = .ok (.iload 4, 2) := by decide +kernel
theorem dX6_cats_41 : decode cX6_cats 41 = .ok (.iload_n 1, 1) := by decide +kernel
theorem dX6_cats_42 : decode cX6_cats 42 = .ok (.invokestatic 152, 3) := by decide +kernel
theorem dX6_cats_45 : decode cX6_cats 45 = .ok (.ifCond .ne 25, 3) := by decide +kernel
