theorem dX6_cats_48 : decode cX6_cats 48 = .ok (.iload_n 3, 1) := by decide +kernel
theorem dX6_cats_49 : decode cX6_cats 49 = .ok (.ldc 50, 2) := by decide +kernel
theorem dX6_cats_51 : decode cX6_cats 51 = .ok (.if_icmp .eq 15, 3) := by decide +kernel
theorem dX6_cats_54 : decode cX6_cats 54 = .ok (.iload 4, 2) := by decide +kernel
theorem dX6_cats_56 : decode cX6_cats 56 = .ok (.invokestatic 228, 3) := by decide +kernel
theorem dX6_cats_59 : decode cX6_cats 59 = .ok (.iload_n 3, 1) := by decide +kernel
theorem dX6_cats_60 : decode cX6_cats 60 = .ok (.invokestatic 228, 3) := by decide +kernel
theorem dX6_cats_63 : decode cX6_cats 63 = .ok (.if_icmp .ge 7, 3) := by decide +kernel
theorem dX6_cats_66 : decode cX6_cats 66 = .ok (.iconst 1, 1) := by decide +kernel
theorem dX6_cats_67 : decode cX6_cats 67 = .ok (.goto 4, 3) := by decide +kernel
theorem dX6_cats_70 : decode cX6_cats 70 = .ok (.iconst 0, 1) := by decide +kernel
theorem dX6_cats_71 : decode cX6_cats 71 = .ok (.istore 5, 2) := by decide +kernel
theorem dX6_cats_73 : decode cX6_cats 73 = .ok (.iload 5, 2) := by decide +kernel
theorem dX6_cats_75 : decode cX6_cats 75 = .ok (.ifCond .eq 38, 3) := by decide +kernel
theorem dX6_cats_78 : decode cX6_cats 78 = .ok (.aload_n 0, 1) := by decide +kernel
theorem dX6_cats_79 : decode cX6_cats 79 = .ok (.invokevirtual 221, 3) := by decide +kernel
theorem dX6_cats_82 : decode cX6_cats 82 = .ok (.aload_n 0, 1) := by decide +kernel
theorem dX6_cats_83 : decode cX6_cats 83 = .ok (.iload 4, 2) := by decide +kernel
theorem dX6_cats_85 : decode cX6_cats 85 = .ok (.putfield 215, 3) := by decide +kernel
theorem dX6_cats_88 : decode cX6_cats 88 = .ok (.aload_n 0, 1) := by decide +kernel
theorem dX6_cats_89 : decode cX6_cats 89 = .ok (.invokevirtual 218, 3) := by decide +kernel
theorem dX6_cats_92 : decode cX6_cats 92 = .ok (.aload_n 0, 1) := by decide +kernel
theorem dX6_cats_93 : decode cX6_cats 93 = .ok (.getfield 31, 3) := by decide +kernel
theorem dX6_cats_96 : decode cX6_cats 96 = .ok (.iload_n 1, 1) := by decide +kernel
theorem dX6_cats_97 : decode cX6_cats 97 = .ok (.ldc 50, 2) := by decide +kernel
theorem dX6_cats_99 : decode cX6_cats 99 = .ok (.iconst 0, 1) := by decide +kernel
theorem dX6_cats_100 : decode cX6_cats 100 = .ok (.invokestatic 160, 3) := by decide +kernel
theorem dX6_cats_103 : decode cX6_cats 103 = .ok (.ifCond .ne 8, 3) := by decide +kernel
theorem dX6_cats_106 : decode cX6_cats 106 = .ok (.iload 4, 2) := by decide +kernel
theorem dX6_cats_108 : decode cX6_cats 108 = .ok (.goto 4, 3) := by decide +kernel
theorem dX6_cats_111 : decode cX6_cats 111 = .ok (.iload_n 3, 1) := by decide +kernel
theorem dX6_cats_112 : decode cX6_cats 112 = .ok (.istore_n 3, 1) := by decide +kernel
theorem dX6_cats_113 : decode cX6_cats 113 = .ok (.iinc 4 1, 3) := by decide +kernel
theorem dX6_cats_116 : decode cX6_cats 116 = .ok (.goto (-90), 3) := by decide +kernel
theorem dX6_cats_119 : decode cX6_cats 119 = .ok (.iload_n 3, 1) := by decide +kernel
theorem dX6_cats_120 : decode cX6_cats 120 = .ok (.ldc 50, 2) := by decide +kernel
theorem dX6_cats_122 : decode cX6_cats 122 = .ok (.if_icmp .eq 8, 3) := by decide +kernel
theorem dX6_cats_125 : decode cX6_cats 125 = .ok (.iload_n 2, 1) := by decide +kernel
theorem dX6_cats_126 : decode cX6_cats 126 = .ok (.iconst 1, 1) := by decide +kernel
theorem dX6_cats_127 : decode cX6_cats 127 = .ok (.if_icmp .ne 7, 3) := by decide +kernel
theorem dX6_cats_130 : decode cX6_cats 130 = .ok (.iload_n 3, 1) := by decide +kernel
theorem dX6_cats_131 : decode cX6_cats 131 = .ok (.goto 7, 3) := by decide +kernel
theorem dX6_cats_134 : decode cX6_cats 134 = .ok (.iload_n 3, 1) := by decide +kernel
theorem dX6_cats_135 : decode cX6_cats 135 = .ok (.invokestatic 228, 3) := by decide +kernel
theorem dX6_cats_138 : decode cX6_cats 138 = .ok (.ireturn, 1) := by decide +kernel
set_option maxRecDepth 20000 in
theorem ggX6_showing_X6_tries : GoodIn wsX6_showing wsX6_tries := goodIn_ids iaX6_showing iaX6_tries haX6_showing haX6_tries imX6_showing hmX6_showing (by decide +kernel) (by decide +kernel)
set_option maxRecDepth 20000 in
theorem gX6_showing_X6_tries : GoodIn wsX6_showing (wsV RX6 221 RX6 yX6_tries wsX6_tries) := goodIn_app (goodIn_ids iaX6_showing [1123, 1125, 57, 77] haX6_showing rfl imX6_showing hmX6_showing (by decide +kernel) (by decide +kernel)) ggX6_showing_X6_tries
set_option maxRecDepth 20000 in
theorem ggX6_showing_X6_has : GoodIn wsX6_showing wsX6_has := goodIn_ids iaX6_showing iaX6_has haX6_showing haX6_has imX6_showing hmX6_showing (by decide +kernel) (by decide +kernel)
set_option maxRecDepth 20000 in
theorem gX6_showing_X6_has : GoodIn wsX6_showing (va_wsS RX6 152 yX6_has wsX6_has) := goodIn_app (goodIn_ids iaX6_showing [1058, 1059, 77] haX6_showing rfl imX6_showing hmX6_showing (by decide +kernel) (by decide +kernel)) ggX6_showing_X6_has
set_option maxRecDepth 20000 in
theorem ggX6_showing_X6_toBell : GoodIn wsX6_showing wsX6_toBell := goodIn_ids iaX6_showing iaX6_toBell haX6_showing haX6_toBell imX6_showing hmX6_showing (by decide +kernel) (by decide +kernel)
set_option maxRecDepth 20000 in
theorem gX6_showing_X6_toBell : GoodIn wsX6_showing (wsV RX6 218 RX6 yX6_toBell wsX6_toBell) := goodIn_app (goodIn_ids iaX6_showing [1127, 1129, 58, 77] haX6_showing rfl imX6_showing hmX6_showing (by decide +kernel) (by decide +kernel)) ggX6_showing_X6_toBell
set_option maxRecDepth 20000 in
theorem ggX6_showing_X6_othersIn : GoodIn wsX6_showing wsX6_othersIn := goodIn_ids iaX6_showing iaX6_othersIn haX6_showing haX6_othersIn imX6_showing hmX6_showing (by decide +kernel) (by decide +kernel)
set_option maxRecDepth 20000 in
theorem gX6_showing_X6_othersIn : GoodIn wsX6_showing (va_wsS RX6 160 yX6_othersIn wsX6_othersIn) := goodIn_app (goodIn_ids iaX6_showing [1055, 1056, 77] haX6_showing rfl imX6_showing hmX6_showing (by decide +kernel) (by decide +kernel)) ggX6_showing_X6_othersIn
theorem dX6_showing_0 : decode cX6_showing 0 = .ok (.aload_n 0, 1) := by decide +kernel
theorem dX6_showing_1 : decode cX6_showing 1 = .ok (.invokevirtual 221, 3) := by decide +kernel
theorem dX6_showing_4 : decode cX6_showing 4 = .ok (.iconst 0, 1) := by decide +kernel
theorem dX6_showing_5 : decode cX6_showing 5 = .ok (.istore 5, 2) := by decide +kernel
theorem dX6_showing_7 : decode cX6_showing 7 = .ok (.iload 5, 2) := by decide +kernel
theorem dX6_showing_9 : decode cX6_showing 9 = .ok (.iconst 2, 1) := by decide +kernel
theorem dX6_showing_10 : decode cX6_showing 10 = .ok (.iload_n 3, 1) := by decide +kernel
theorem dX6_showing_11 : decode cX6_showing 11 = .ok (.imul, 1) := by decide +kernel
theorem dX6_showing_12 : decode cX6_showing 12 = .ok (.if_icmp .ge 68, 3) := by decide +kernel
theorem dX6_showing_15 : decode cX6_showing 15 = .ok (.bipush 6, 2) := by decide +kernel
theorem dX6_showing_17 : decode cX6_showing 17 = .ok (.bipush 6, 2) := by decide +kernel
theorem dX6_showing_19 : decode cX6_showing 19 = .ok (.iload 5, 2) := by decide +kernel
theorem dX6_showing_21 : decode cX6_showing 21 = .ok (.iconst 2, 1) := by decide +kernel
theorem dX6_showing_22 : decode cX6_showing 22 = .ok (.irem, 1) := by decide +kernel
theorem dX6_showing_23 : decode cX6_showing 23 = .ok (.ifCond .ne 7, 3) := by decide +kernel
theorem dX6_showing_26 : decode cX6_showing 26 = .ok (.iload_n 1, 1) := by decide +kernel
theorem dX6_showing_27 : decode cX6_showing 27 = .ok (.goto 4, 3) := by decide +kernel
theorem dX6_showing_30 : decode cX6_showing 30 = .ok (.iload_n 2, 1) := by decide +kernel
theorem dX6_showing_31 : decode cX6_showing 31 = .ok (.imul, 1) := by decide +kernel
theorem dX6_showing_32 : decode cX6_showing 32 = .ok (.iadd, 1) := by decide +kernel
theorem dX6_showing_33 : decode cX6_showing 33 = .ok (.iconst 3, 1) := by decide +kernel
theorem dX6_showing_34 : decode cX6_showing 34 = .ok (.iadd, 1) := by decide +kernel
theorem dX6_showing_35 : decode cX6_showing 35 = .ok (.istore 6, 2) := by decide +kernel
theorem dX6_showing_37 : decode cX6_showing 37 = .ok (.aload_n 0, 1) := by decide +kernel
theorem dX6_showing_38 : decode cX6_showing 38 = .ok (.getfield 31, 3) := by decide +kernel
theorem dX6_showing_41 : decode cX6_showing 41 = .ok (.iload 6, 2) := by decide +kernel
theorem dX6_showing_43 : decode cX6_showing 43 = .ok (.dup2, 1) := by decide +kernel
theorem dX6_showing_44 : decode cX6_showing 44 = .ok (.iaload, 1) := by decide +kernel
theorem dX6_showing_45 : decode cX6_showing 45 = .ok (.iload 4, 2) := by decide +kernel
theorem dX6_showing_47 : decode cX6_showing 47 = .ok (.iload 5, 2) := by decide +kernel
theorem dX6_showing_49 : decode cX6_showing 49 = .ok (.invokestatic 152, 3) := by decide +kernel
theorem dX6_showing_52 : decode cX6_showing 52 = .ok (.ifCond .eq 19, 3) := by decide +kernel
theorem dX6_showing_55 : decode cX6_showing 55 = .ok (.aload_n 0, 1) := by decide +kernel
theorem dX6_showing_56 : decode cX6_showing 56 = .ok (.getfield 31, 3) := by decide +kernel
theorem dX6_showing_59 : decode cX6_showing 59 = .ok (.iload 6, 2) := by decide +kernel
theorem dX6_showing_61 : decode cX6_showing 61 = .ok (.iaload, 1) := by decide +kernel
theorem dX6_showing_62 : decode cX6_showing 62 = .ok (.bipush 9, 2) := by decide +kernel
theorem dX6_showing_64 : decode cX6_showing 64 = .ok (.if_icmp .ge 7, 3) := by decide +kernel
theorem dX6_showing_67 : decode cX6_showing 67 = .ok (.iconst 1, 1) := by decide +kernel
theorem dX6_showing_68 : decode cX6_showing 68 = .ok (.goto 4, 3) := by decide +kernel
theorem dX6_showing_71 : decode cX6_showing 71 = .ok (.iconst 0, 1) := by decide +kernel
theorem dX6_showing_72 : decode cX6_showing 72 = .ok (.iadd, 1) := by decide +kernel
theorem dX6_showing_73 : decode cX6_showing 73 = .ok (.iastore, 1) := by decide +kernel
theorem dX6_showing_74 : decode cX6_showing 74 = .ok (.iinc 5 1, 3) := by decide +kernel
theorem dX6_showing_77 : decode cX6_showing 77 = .ok (.goto (-70), 3) := by decide +kernel
theorem dX6_showing_80 : decode cX6_showing 80 = .ok (.aload_n 0, 1) := by decide +kernel
theorem dX6_showing_81 : decode cX6_showing 81 = .ok (.invokevirtual 218, 3) := by decide +kernel
theorem dX6_showing_84 : decode cX6_showing 84 = .ok (.aload_n 0, 1) := by decide +kernel
theorem dX6_showing_85 : decode cX6_showing 85 = .ok (.getfield 31, 3) := by decide +kernel
theorem dX6_showing_88 : decode cX6_showing 88 = .ok (.aload_n 0, 1) := by decide +kernel
theorem dX6_showing_89 : decode cX6_showing 89 = .ok (.getfield 31, 3) := by decide +kernel
theorem dX6_showing_92 : decode cX6_showing 92 = .ok (.bipush 6, 2) := by decide +kernel
theorem dX6_showing_94 : decode cX6_showing 94 = .ok (.bipush 6, 2) := by decide +kernel
theorem dX6_showing_96 : decode cX6_showing 96 = .ok (.iload_n 1, 1) := by decide +kernel
theorem dX6_showing_97 : decode cX6_showing 97 = .ok (.imul, 1) := by decide +kernel
theorem dX6_showing_98 : decode cX6_showing 98 = .ok (.iadd, 1) := by decide +kernel
theorem dX6_showing_99 : decode cX6_showing 99 = .ok (.iconst 4, 1) := by decide +kernel
theorem dX6_showing_100 : decode cX6_showing 100 = .ok (.iadd, 1) := by decide +kernel
theorem dX6_showing_101 : decode cX6_showing 101 = .ok (.iaload, 1) := by decide +kernel
theorem dX6_showing_102 : decode cX6_showing 102 = .ok (.ldc 50, 2) := by decide +kernel
theorem dX6_showing_104 : decode cX6_showing 104 = .ok (.iconst 0, 1) := by decide +kernel
theorem dX6_showing_105 : decode cX6_showing 105 = .ok (.invokestatic 160, 3) := by decide +kernel
theorem dX6_showing_108 : decode cX6_showing 108 = .ok (.aload_n 0, 1) := by decide +kernel
theorem dX6_showing_109 : decode cX6_showing 109 = .ok (.getfield 31, 3) := by decide +kernel
theorem dX6_showing_112 : decode cX6_showing 112 = .ok (.aload_n 0, 1) := by decide +kernel
theorem dX6_showing_113 : decode cX6_showing 113 = .ok (.getfield 31, 3) := by decide +kernel
theorem dX6_showing_116 : decode cX6_showing 116 = .ok (.bipush 6, 2) := by decide +kernel
theorem dX6_showing_118 : decode cX6_showing 118 = .ok (.bipush 6, 2) := by decide +kernel
theorem dX6_showing_120 : decode cX6_showing 120 = .ok (.iload_n 2, 1) := by decide +kernel
theorem dX6_showing_121 : decode cX6_showing 121 = .ok (.imul, 1) := by decide +kernel
theorem dX6_showing_122 : decode cX6_showing 122 = .ok (.iadd, 1) := by decide +kernel
theorem dX6_showing_123 : decode cX6_showing 123 = .ok (.iconst 4, 1) := by decide +kernel
theorem dX6_showing_124 : decode cX6_showing 124 = .ok (.iadd, 1) := by decide +kernel
theorem dX6_showing_125 : decode cX6_showing 125 = .ok (.iaload, 1) := by decide +kernel
theorem dX6_showing_126 : decode cX6_showing 126 = .ok (.ldc 50, 2) := by decide +kernel
theorem dX6_showing_128 : decode cX6_showing 128 = .ok (.iconst 0, 1) := by decide +kernel
theorem dX6_showing_129 : decode cX6_showing 129 = .ok (.invokestatic 160, 3) := by decide +kernel
theorem dX6_showing_132 : decode cX6_showing 132 = .ok (.isub, 1) := by decide +kernel
theorem dX6_showing_133 : decode cX6_showing 133 = .ok (.ireturn, 1) := by decide +kernel
set_option maxRecDepth 20000 in
theorem ggX6_shows_X6_isPerson : GoodIn wsX6_shows wsX6_isPerson := goodIn_ids iaX6_shows iaX6_isPerson haX6_shows haX6_isPerson imX6_shows hmX6_shows (by decide +kernel) (by decide +kernel)
set_option maxRecDepth 20000 in
theorem gX6_shows_X6_isPerson : GoodIn wsX6_shows (wsV RX6 193 RX6 yX6_isPerson wsX6_isPerson) := goodIn_app (goodIn_ids iaX6_shows [1071, 1073, 52, 77] haX6_shows rfl imX6_shows hmX6_shows (by decide +kernel) (by decide +kernel)) ggX6_shows_X6_isPerson
set_option maxRecDepth 20000 in
theorem ggX6_shows_X6_in : GoodIn wsX6_shows wsX6_in := goodIn_ids iaX6_shows iaX6_in haX6_shows haX6_in imX6_shows hmX6_shows (by decide +kernel) (by decide +kernel)
set_option maxRecDepth 20000 in
theorem gX6_shows_X6_in : GoodIn wsX6_shows (va_wsS RX6 56 yX6_in wsX6_in) := goodIn_app (goodIn_ids iaX6_shows [929, 930, 77] haX6_shows rfl imX6_shows hmX6_shows (by decide +kernel) (by decide +kernel)) ggX6_shows_X6_in
set_option maxRecDepth 20000 in
theorem ggX6_shows_X6_showing : GoodIn wsX6_shows wsX6_showing := goodIn_ids iaX6_shows iaX6_showing haX6_shows haX6_showing imX6_shows hmX6_shows (by decide +kernel) (by decide +kernel)
set_option maxRecDepth 20000 in
theorem gX6_shows_X6_showing : GoodIn wsX6_shows (wsV RX6 231 RX6 yX6_showing wsX6_showing) := goodIn_app (goodIn_ids iaX6_shows [1158, 1160, 60, 77] haX6_shows rfl imX6_shows hmX6_shows (by decide +kernel) (by decide +kernel)) ggX6_shows_X6_showing
theorem dX6_shows_0 : decode cX6_shows 0 = .ok (.aload_n 0, 1) := by decide +kernel
theorem dX6_shows_1 : decode cX6_shows 1 = .ok (.iload_n 1, 1) := by decide +kernel
theorem dX6_shows_2 : decode cX6_shows 2 = .ok (.invokevirtual 193, 3) := by decide +kernel
theorem dX6_shows_5 : decode cX6_shows 5 = .ok (.ifCond .eq 25, 3) := by decide +kernel
theorem dX6_shows_8 : decode cX6_shows 8 = .ok (.aload_n 0, 1) := by decide +kernel
theorem dX6_shows_9 : decode cX6_shows 9 = .ok (.iload_n 2, 1) := by decide +kernel
theorem dX6_shows_10 : decode cX6_shows 10 = .ok (.invokevirtual 193, 3) := by decide +kernel
theorem dX6_shows_13 : decode cX6_shows 13 = .ok (.ifCond .eq 17, 3) := by decide +kernel
theorem dX6_shows_16 : decode cX6_shows 16 = .ok (.iload_n 1, 1) := by decide +kernel
theorem dX6_shows_17 : decode cX6_shows 17 = .ok (.iload_n 2, 1) := by decide +kernel
theorem dX6_shows_18 : decode cX6_shows 18 = .ok (.if_icmp .eq 12, 3) := by decide +kernel
theorem dX6_shows_21 : decode cX6_shows 21 = .ok (.iload_n 3, 1) := by decide +kernel
theorem dX6_shows_22 : decode cX6_shows 22 = .ok (.iconst 0, 1) := by decide +kernel
theorem dX6_shows_23 : decode cX6_shows 23 = .ok (.iconst 2, 1) := by decide +kernel
theorem dX6_shows_24 : decode cX6_shows 24 = .ok (.invokestatic 56, 3) := by decide +kernel
theorem dX6_shows_27 : decode cX6_shows 27 = .ok (.ifCond .ne 6, 3) := by decide +kernel
theorem dX6_shows_30 : decode cX6_shows 30 = .ok (.ldc 64, 2) := by decide +kernel
theorem dX6_shows_32 : decode cX6_shows 32 = .ok (.ireturn, 1) := by decide +kernel
theorem dX6_shows_33 : decode cX6_shows 33 = .ok (.iload_n 3, 1) := by decide +kernel
theorem dX6_shows_34 : decode cX6_shows 34 = .ok (.ifCond .ne 12, 3) := by decide +kernel
theorem dX6_shows_37 : decode cX6_shows 37 = .ok (.aload_n 0, 1) := by decide +kernel
theorem dX6_shows_38 : decode cX6_shows 38 = .ok (.iload_n 1, 1) := by decide +kernel
theorem dX6_shows_39 : decode cX6_shows 39 = .ok (.iload_n 2, 1) := by decide +kernel
theorem dX6_shows_40 : decode cX6_shows 40 = .ok (.iconst 0, 1) := by decide +kernel
theorem dX6_shows_41 : decode cX6_shows 41 = .ok (.iconst 0, 1) := by decide +kernel
theorem dX6_shows_42 : decode cX6_shows 42 = .ok (.invokevirtual 231, 3) := by decide +kernel
theorem dX6_shows_45 : decode cX6_shows 45 = .ok (.ireturn, 1) := by decide +kernel
theorem dX6_shows_46 : decode cX6_shows 46 = .ok (.iconst 1, 1) := by decide +kernel
theorem dX6_shows_47 : decode cX6_shows 47 = .ok (.iconst 2, 1) := by decide +kernel
theorem dX6_shows_48 : decode cX6_shows 48 = .ok (.iload_n 3, 1) := by decide +kernel
theorem dX6_shows_49 : decode cX6_shows 49 = .ok (.iconst 1, 1) := by decide +kernel
theorem dX6_shows_50 : decode cX6_shows 50 = .ok (.isub, 1) := by decide +kernel
theorem dX6_shows_51 : decode cX6_shows 51 = .ok (.imul, 1) := by decide +kernel
theorem dX6_shows_52 : decode cX6_shows 52 = .ok (.ishl, 1) := by decide +kernel
theorem dX6_shows_53 : decode cX6_shows 53 = .ok (.istore 4, 2) := by decide +kernel
theorem dX6_shows_55 : decode cX6_shows 55 = .ok (.iconst 0, 1) := by decide +kernel
theorem dX6_shows_56 : decode cX6_shows 56 = .ok (.istore 5, 2) := by decide +kernel
theorem dX6_shows_58 : decode cX6_shows 58 = .ok (.iconst 0, 1) := by decide +kernel
theorem dX6_shows_59 : decode cX6_shows 59 = .ok (.istore 6, 2) := by decide +kernel
theorem dX6_shows_61 : decode cX6_shows 61 = .ok (.iload 6, 2) := by decide +kernel
theorem dX6_shows_63 : decode cX6_shows 63 = .ok (.iconst 2, 1) := by decide +kernel
theorem dX6_shows_64 : decode cX6_shows 64 = .ok (.if_icmp .ge 193, 3) := by decide +kernel
theorem dX6_shows_67 : decode cX6_shows 67 = .ok (.iconst 0, 1) := by decide +kernel
theorem dX6_shows_68 : decode cX6_shows 68 = .ok (.istore 7, 2) := by decide +kernel
theorem dX6_shows_70 : decode cX6_shows 70 = .ok (.iconst 0, 1) := by decide +kernel
theorem dX6_shows_71 : decode cX6_shows 71 = .ok (.istore 8, 2) := by decide +kernel
theorem dX6_shows_73 : decode cX6_shows 73 = .ok (.iload 8, 2) := by decide +kernel
theorem dX6_shows_75 : decode cX6_shows 75 = .ok (.iconst 2, 1) := by decide +kernel
theorem dX6_shows_76 : decode cX6_shows 76 = .ok (.if_icmp .ge 154, 3) := by decide +kernel
theorem dX6_shows_79 : decode cX6_shows 79 = .ok (.iconst 0, 1) := by decide +kernel
theorem dX6_shows_80 : decode cX6_shows 80 = .ok (.istore 9, 2) := by decide +kernel
theorem dX6_shows_82 : decode cX6_shows 82 = .ok (.iconst 0, 1) := by decide +kernel
theorem dX6_shows_83 : decode cX6_shows 83 = .ok (.istore 10, 2) := by decide +kernel
theorem dX6_shows_85 : decode cX6_shows 85 = .ok (.iload 10, 2) := by decide +kernel
theorem dX6_shows_87 : decode cX6_shows 87 = .ok (.iload 4, 2) := by decide +kernel
theorem dX6_shows_89 : decode cX6_shows 89 = .ok (.iconst 1, 1) := by decide +kernel
theorem dX6_shows_90 : decode cX6_shows 90 = .ok (.if_icmp .le 7, 3) := by decide +kernel
theorem dX6_shows_93 : decode cX6_shows 93 = .ok (.iconst 2, 1) := by decide +kernel
theorem dX6_shows_94 : decode cX6_shows 94 = .ok (.goto 4, 3) := by decide +kernel
theorem dX6_shows_97 : decode cX6_shows 97 = .ok (.iconst 1, 1) := by decide +kernel
theorem dX6_shows_98 : decode cX6_shows 98 = .ok (.if_icmp .ge 105, 3) := by decide +kernel
theorem dX6_shows_101 : decode cX6_shows 101 = .ok (.iconst 0, 1) := by decide +kernel
theorem dX6_shows_102 : decode cX6_shows 102 = .ok (.istore 11, 2) := by decide +kernel
theorem dX6_shows_104 : decode cX6_shows 104 = .ok (.iconst 0, 1) := by decide +kernel
theorem dX6_shows_105 : decode cX6_shows 105 = .ok (.istore 12, 2) := by decide +kernel
theorem dX6_shows_107 : decode cX6_shows 107 = .ok (.iload 12, 2) := by decide +kernel
theorem dX6_shows_109 : decode cX6_shows 109 = .ok (.iload 4, 2) := by decide +kernel
theorem dX6_shows_111 : decode cX6_shows 111 = .ok (.iconst 1, 1) := by decide +kernel
theorem dX6_shows_112 : decode cX6_shows 112 = .ok (.if_icmp .le 7, 3) := by decide +kernel
theorem dX6_shows_115 : decode cX6_shows 115 = .ok (.iconst 2, 1) := by decide +kernel
theorem dX6_shows_116 : decode cX6_shows 116 = .ok (.goto 4, 3) := by decide +kernel
theorem dX6_shows_119 : decode cX6_shows 119 = .ok (.iconst 1, 1) := by decide +kernel
theorem dX6_shows_120 : decode cX6_shows 120 = .ok (.if_icmp .ge 56, 3) := by decide +kernel
theorem dX6_shows_123 : decode cX6_shows 123 = .ok (.aload_n 0, 1) := by decide +kernel
theorem dX6_shows_124 : decode cX6_shows 124 = .ok (.iload_n 1, 1) := by decide +kernel
theorem dX6_shows_125 : decode cX6_shows 125 = .ok (.iload_n 2, 1) := by decide +kernel
theorem dX6_shows_126 : decode cX6_shows 126 = .ok (.iload_n 3, 1) := by decide +kernel
theorem dX6_shows_127 : decode cX6_shows 127 = .ok (.iload 6, 2) := by decide +kernel
theorem dX6_shows_129 : decode cX6_shows 129 = .ok (.iload 8, 2) := by decide +kernel
theorem dX6_shows_131 : decode cX6_shows 131 = .ok (.iconst 1, 1) := by decide +kernel
theorem dX6_shows_132 : decode cX6_shows 132 = .ok (.ishl, 1) := by decide +kernel
theorem dX6_shows_133 : decode cX6_shows 133 = .ok (.ior, 1) := by decide +kernel
theorem dX6_shows_134 : decode cX6_shows 134 = .ok (.iload 10, 2) := by decide +kernel
theorem dX6_shows_136 : decode cX6_shows 136 = .ok (.iconst 2, 1) := by decide +kernel
theorem dX6_shows_137 : decode cX6_shows 137 = .ok (.ishl, 1) := by decide +kernel
theorem dX6_shows_138 : decode cX6_shows 138 = .ok (.ior, 1) := by decide +kernel
theorem dX6_shows_139 : decode cX6_shows 139 = .ok (.iload 12, 2) := by decide +kernel
theorem dX6_shows_141 : decode cX6_shows 141 = .ok (.iconst 3, 1) := by decide +kernel
theorem dX6_shows_142 : decode cX6_shows 142 = .ok (.ishl, 1) := by decide +kernel
theorem dX6_shows_143 : decode cX6_shows 143 = .ok (.ior, 1) := by decide +kernel
theorem dX6_shows_144 : decode cX6_shows 144 = .ok (.invokevirtual 231, 3) := by decide +kernel
theorem dX6_shows_147 : decode cX6_shows 147 = .ok (.istore 13, 2) := by decide +kernel
theorem dX6_shows_149 : decode cX6_shows 149 = .ok (.iload 12, 2) := by decide +kernel
theorem dX6_shows_151 : decode cX6_shows 151 = .ok (.ifCond .eq 10, 3) := by decide +kernel
theorem dX6_shows_154 : decode cX6_shows 154 = .ok (.iload 13, 2) := by decide +kernel
theorem dX6_shows_156 : decode cX6_shows 156 = .ok (.iload 11, 2) := by decide +kernel
theorem dX6_shows_158 : decode cX6_shows 158 = .ok (.if_icmp .ge 8, 3) := by decide +kernel
theorem dX6_shows_161 : decode cX6_shows 161 = .ok (.iload 13, 2) := by decide +kernel
theorem dX6_shows_163 : decode cX6_shows 163 = .ok (.goto 5, 3) := by decide +kernel
theorem dX6_shows_166 : decode cX6_shows 166 = .ok (.iload 11, 2) := by decide +kernel
theorem dX6_shows_168 : decode cX6_shows 168 = .ok (.istore 11, 2) := by decide +kernel
theorem dX6_shows_170 : decode cX6_shows 170 = .ok (.iinc 12 1, 3) := by decide +kernel
theorem dX6_shows_173 : decode cX6_shows 173 = .ok (.goto (-66), 3) := by decide +kernel
theorem dX6_shows_176 : decode cX6_shows 176 = .ok (.iload 10, 2) := by decide +kernel
theorem dX6_shows_178 : decode cX6_shows 178 = .ok (.ifCond .eq 10, 3) := by decide +kernel
theorem dX6_shows_181 : decode cX6_shows 181 = .ok (.iload 11, 2) := by decide +kernel
theorem dX6_shows_183 : decode cX6_shows 183 = .ok (.iload 9, 2) := by decide +kernel
theorem dX6_shows_185 : decode cX6_shows 185 = .ok (.if_icmp .le 8, 3) := by decide +kernel
theorem dX6_shows_188 : decode cX6_shows 188 = .ok (.iload 11, 2) := by decide +kernel
theorem dX6_shows_190 : decode cX6_shows 190 = .ok (.goto 5, 3) := by decide +kernel
theorem dX6_shows_193 : decode cX6_shows 193 = .ok (.iload 9, 2) := by decide +kernel
theorem dX6_shows_195 : decode cX6_shows 195 = .ok (.istore 9, 2) := by decide +kernel
theorem dX6_shows_197 : decode cX6_shows 197 = .ok (.iinc 10 1, 3) := by decide +kernel
theorem dX6_shows_200 : decode cX6_shows 200 = .ok (.goto (-115), 3) := by decide +kernel
theorem dX6_shows_203 : decode cX6_shows 203 = .ok (.iload 8, 2) := by decide +kernel
theorem dX6_shows_205 : decode cX6_shows 205 = .ok (.ifCond .eq 10, 3) := by decide +kernel
theorem dX6_shows_208 : decode cX6_shows 208 = .ok (.iload 9, 2) := by decide +kernel
theorem dX6_shows_210 : decode cX6_shows 210 = .ok (.iload 7, 2) := by decide +kernel
theorem dX6_shows_212 : decode cX6_shows 212 = .ok (.if_icmp .ge 8, 3) := by decide +kernel
theorem dX6_shows_215 : decode cX6_shows 215 = .ok (.iload 9, 2) := by decide +kernel
theorem dX6_shows_217 : decode cX6_shows 217 = .ok (.goto 5, 3) := by decide +kernel
theorem dX6_shows_220 : decode cX6_shows 220 = .ok (.iload 7, 2) := by decide +kernel
theorem dX6_shows_222 : decode cX6_shows 222 = .ok (.istore 7, 2) := by decide +kernel
theorem dX6_shows_224 : decode cX6_shows 224 = .ok (.iinc 8 1, 3) := by decide +kernel
theorem dX6_shows_227 : decode cX6_shows 227 = .ok (.goto (-154), 3) := by decide +kernel
theorem dX6_shows_230 : decode cX6_shows 230 = .ok (.iload 6, 2) := by decide +kernel
theorem dX6_shows_232 : decode cX6_shows 232 = .ok (.ifCond .eq 10, 3) := by decide +kernel
theorem dX6_shows_235 : decode cX6_shows 235 = .ok (.iload 7, 2) := by decide +kernel
theorem dX6_shows_237 : decode cX6_shows 237 = .ok (.iload 5, 2) := by decide +kernel
theorem dX6_shows_239 : decode cX6_shows 239 = .ok (.if_icmp .le 8, 3) := by decide +kernel
theorem dX6_shows_242 : decode cX6_shows 242 = .ok (.iload 7, 2) := by decide +kernel
theorem dX6_shows_244 : decode cX6_shows 244 = .ok (.goto 5, 3) := by decide +kernel
theorem dX6_shows_247 : decode cX6_shows 247 = .ok (.iload 5, 2) := by decide +kernel
theorem dX6_shows_249 : decode cX6_shows 249 = .ok (.istore 5, 2) := by decide +kernel
theorem dX6_shows_251 : decode cX6_shows 251 = .ok (.iinc 6 1, 3) := by decide +kernel
theorem dX6_shows_254 : decode cX6_shows 254 = .ok (.goto (-193), 3) := by decide +kernel
theorem dX6_shows_257 : decode cX6_shows 257 = .ok (.iload 5, 2) := by decide +kernel
theorem dX6_shows_259 : decode cX6_shows 259 = .ok (.ireturn, 1) := by decide +kernel
set_option maxRecDepth 20000 in
theorem ggX6_packs_X6_isPerson : GoodIn wsX6_packs wsX6_isPerson := goodIn_ids iaX6_packs iaX6_isPerson haX6_packs haX6_isPerson imX6_packs hmX6_packs (by decide +kernel) (by decide +kernel)
set_option maxRecDepth 20000 in
theorem gX6_packs_X6_isPerson : GoodIn wsX6_packs (wsV RX6 193 RX6 yX6_isPerson wsX6_isPerson) := goodIn_app (goodIn_ids iaX6_packs [1071, 1073, 52, 77] haX6_packs rfl imX6_packs hmX6_packs (by decide +kernel) (by decide +kernel)) ggX6_packs_X6_isPerson
set_option maxRecDepth 20000 in
theorem ggX6_packs_X6_tries : GoodIn wsX6_packs wsX6_tries := goodIn_ids iaX6_packs iaX6_tries haX6_packs haX6_tries imX6_packs hmX6_packs (by decide +kernel) (by decide +kernel)
set_option maxRecDepth 20000 in
theorem gX6_packs_X6_tries : GoodIn wsX6_packs (wsV RX6 221 RX6 yX6_tries wsX6_tries) := goodIn_app (goodIn_ids iaX6_packs [1123, 1125, 57, 77] haX6_packs rfl imX6_packs hmX6_packs (by decide +kernel) (by decide +kernel)) ggX6_packs_X6_tries
set_option maxRecDepth 20000 in
theorem ggX6_packs_X6_nextKing : GoodIn wsX6_packs wsX6_nextKing := goodIn_ids iaX6_packs iaX6_nextKing haX6_packs haX6_nextKing imX6_packs hmX6_packs (by decide +kernel) (by decide +kernel)
set_option maxRecDepth 20000 in
theorem gX6_packs_X6_nextKing : GoodIn wsX6_packs (wsV RX6 224 RX6 yX6_nextKing wsX6_nextKing) := goodIn_app (goodIn_ids iaX6_packs [1139, 1141, 59, 77] haX6_packs rfl imX6_packs hmX6_packs (by decide +kernel) (by decide +kernel)) ggX6_packs_X6_nextKing
theorem dX6_packs_0 : decode cX6_packs 0 = .ok (.aload_n 0, 1) := by decide +kernel
theorem dX6_packs_1 : decode cX6_packs 1 = .ok (.iload_n 1, 1) := by decide +kernel
theorem dX6_packs_2 : decode cX6_packs 2 = .ok (.invokevirtual 193, 3) := by decide +kernel
theorem dX6_packs_5 : decode cX6_packs 5 = .ok (.ifCond .ne 6, 3) := by decide +kernel
theorem dX6_packs_8 : decode cX6_packs 8 = .ok (.ldc 64, 2) := by decide +kernel
theorem dX6_packs_10 : decode cX6_packs 10 = .ok (.ireturn, 1) := by decide +kernel
theorem dX6_packs_11 : decode cX6_packs 11 = .ok (.iconst 0, 1) := by decide +kernel
theorem dX6_packs_12 : decode cX6_packs 12 = .ok (.istore_n 2, 1) := by decide +kernel
theorem dX6_packs_13 : decode cX6_packs 13 = .ok (.iconst 0, 1) := by decide +kernel
theorem dX6_packs_14 : decode cX6_packs 14 = .ok (.istore_n 3, 1) := by decide +kernel
theorem dX6_packs_15 : decode cX6_packs 15 = .ok (.iload_n 3, 1) := by decide +kernel
theorem dX6_packs_16 : decode cX6_packs 16 = .ok (.iconst 1, 1) := by decide +kernel
theorem dX6_packs_17 : decode cX6_packs 17 = .ok (.aload_n 0, 1) := by decide +kernel
theorem dX6_packs_18 : decode cX6_packs 18 = .ok (.getfield 25, 3) := by decide +kernel
theorem dX6_packs_21 : decode cX6_packs 21 = .ok (.iconst 5, 1) := by decide +kernel
theorem dX6_packs_22 : decode cX6_packs 22 = .ok (.iaload, 1) := by decide +kernel
theorem dX6_packs_23 : decode cX6_packs 23 = .ok (.ishl, 1) := by decide +kernel
theorem dX6_packs_24 : decode cX6_packs 24 = .ok (.if_icmp .ge 34, 3) := by decide +kernel
theorem dX6_packs_27 : decode cX6_packs 27 = .ok (.aload_n 0, 1) := by decide +kernel
theorem dX6_packs_28 : decode cX6_packs 28 = .ok (.invokevirtual 221, 3) := by decide +kernel
theorem dX6_packs_31 : decode cX6_packs 31 = .ok (.aload_n 0, 1) := by decide +kernel
theorem dX6_packs_32 : decode cX6_packs 32 = .ok (.iload_n 3, 1) := by decide +kernel
theorem dX6_packs_33 : decode cX6_packs 33 = .ok (.putfield 209, 3) := by decide +kernel
theorem dX6_packs_36 : decode cX6_packs 36 = .ok (.iload_n 2, 1) := by decide +kernel
theorem dX6_packs_37 : decode cX6_packs 37 = .ok (.aload_n 0, 1) := by decide +kernel
theorem dX6_packs_38 : decode cX6_packs 38 = .ok (.invokevirtual 224, 3) := by decide +kernel
theorem dX6_packs_41 : decode cX6_packs 41 = .ok (.iload_n 1, 1) := by decide +kernel
theorem dX6_packs_42 : decode cX6_packs 42 = .ok (.if_icmp .ne 7, 3) := by decide +kernel
theorem dX6_packs_45 : decode cX6_packs 45 = .ok (.iconst 1, 1) := by decide +kernel
theorem dX6_packs_46 : decode cX6_packs 46 = .ok (.goto 4, 3) := by decide +kernel
theorem dX6_packs_49 : decode cX6_packs 49 = .ok (.iconst 0, 1) := by decide +kernel
theorem dX6_packs_50 : decode cX6_packs 50 = .ok (.iadd, 1) := by decide +kernel
theorem dX6_packs_51 : decode cX6_packs 51 = .ok (.istore_n 2, 1) := by decide +kernel
theorem dX6_packs_52 : decode cX6_packs 52 = .ok (.iinc 3 1, 3) := by decide +kernel
theorem dX6_packs_55 : decode cX6_packs 55 = .ok (.goto (-40), 3) := by decide +kernel
theorem dX6_packs_58 : decode cX6_packs 58 = .ok (.iload_n 2, 1) := by decide +kernel
theorem dX6_packs_59 : decode cX6_packs 59 = .ok (.ireturn, 1) := by decide +kernel
set_option maxRecDepth 20000 in
theorem ggX6_hangs_X6_isTown : GoodIn wsX6_hangs wsX6_isTown := goodIn_ids iaX6_hangs iaX6_isTown haX6_hangs haX6_isTown imX6_hangs hmX6_hangs (by decide +kernel) (by decide +kernel)
set_option maxRecDepth 20000 in
theorem gX6_hangs_X6_isTown : GoodIn wsX6_hangs (wsV RX6 182 RX6 yX6_isTown wsX6_isTown) := goodIn_app (goodIn_ids iaX6_hangs [1025, 1027, 50, 77] haX6_hangs rfl imX6_hangs hmX6_hangs (by decide +kernel) (by decide +kernel)) ggX6_hangs_X6_isTown
set_option maxRecDepth 20000 in
theorem ggX6_hangs_X6_tries : GoodIn wsX6_hangs wsX6_tries := goodIn_ids iaX6_hangs iaX6_tries haX6_hangs haX6_tries imX6_hangs hmX6_hangs (by decide +kernel) (by decide +kernel)
set_option maxRecDepth 20000 in
theorem gX6_hangs_X6_tries : GoodIn wsX6_hangs (wsV RX6 221 RX6 yX6_tries wsX6_tries) := goodIn_app (goodIn_ids iaX6_hangs [1123, 1125, 57, 77] haX6_hangs rfl imX6_hangs hmX6_hangs (by decide +kernel) (by decide +kernel)) ggX6_hangs_X6_tries
set_option maxRecDepth 20000 in
theorem ggX6_hangs_X6_nextKing : GoodIn wsX6_hangs wsX6_nextKing := goodIn_ids iaX6_hangs iaX6_nextKing haX6_hangs haX6_nextKing imX6_hangs hmX6_hangs (by decide +kernel) (by decide +kernel)
set_option maxRecDepth 20000 in
theorem gX6_hangs_X6_nextKing : GoodIn wsX6_hangs (wsV RX6 224 RX6 yX6_nextKing wsX6_nextKing) := goodIn_app (goodIn_ids iaX6_hangs [1139, 1141, 59, 77] haX6_hangs rfl imX6_hangs hmX6_hangs (by decide +kernel) (by decide +kernel)) ggX6_hangs_X6_nextKing
theorem dX6_hangs_0 : decode cX6_hangs 0 = .ok (.aload_n 0, 1) := by decide +kernel
theorem dX6_hangs_1 : decode cX6_hangs 1 = .ok (.invokevirtual 182, 3) := by decide +kernel
theorem dX6_hangs_4 : decode cX6_hangs 4 = .ok (.ifCond .ne 6, 3) := by decide +kernel
theorem dX6_hangs_7 : decode cX6_hangs 7 = .ok (.ldc 185, 2) := by decide +kernel
theorem dX6_hangs_9 : decode cX6_hangs 9 = .ok (.ireturn, 1) := by decide +kernel
theorem dX6_hangs_10 : decode cX6_hangs 10 = .ok (.aload_n 0, 1) := by decide +kernel
theorem dX6_hangs_11 : decode cX6_hangs 11 = .ok (.invokevirtual 221, 3) := by decide +kernel
theorem dX6_hangs_14 : decode cX6_hangs 14 = .ok (.aload_n 0, 1) := by decide +kernel
theorem dX6_hangs_15 : decode cX6_hangs 15 = .ok (.invokevirtual 224, 3) := by decide +kernel
theorem dX6_hangs_18 : decode cX6_hangs 18 = .ok (.istore_n 1, 1) := by decide +kernel
theorem dX6_hangs_19 : decode cX6_hangs 19 = .ok (.iconst 0, 1) := by decide +kernel
theorem dX6_hangs_20 : decode cX6_hangs 20 = .ok (.istore_n 2, 1) := by decide +kernel
theorem dX6_hangs_21 : decode cX6_hangs 21 = .ok (.iconst 0, 1) := by decide +kernel
theorem dX6_hangs_22 : decode cX6_hangs 22 = .ok (.istore_n 3, 1) := by decide +kernel
theorem dX6_hangs_23 : decode cX6_hangs 23 = .ok (.iload_n 3, 1) := by decide +kernel
theorem dX6_hangs_24 : decode cX6_hangs 24 = .ok (.aload_n 0, 1) := by decide +kernel
theorem dX6_hangs_25 : decode cX6_hangs 25 = .ok (.getfield 25, 3) := by decide +kernel
theorem dX6_hangs_28 : decode cX6_hangs 28 = .ok (.iconst 5, 1) := by decide +kernel
theorem dX6_hangs_29 : decode cX6_hangs 29 = .ok (.iaload, 1) := by decide +kernel
theorem dX6_hangs_30 : decode cX6_hangs 30 = .ok (.if_icmp .ge 38, 3) := by decide +kernel
theorem dX6_hangs_33 : decode cX6_hangs 33 = .ok (.aload_n 0, 1) := by decide +kernel
theorem dX6_hangs_34 : decode cX6_hangs 34 = .ok (.invokevirtual 221, 3) := by decide +kernel
theorem dX6_hangs_37 : decode cX6_hangs 37 = .ok (.aload_n 0, 1) := by decide +kernel
theorem dX6_hangs_38 : decode cX6_hangs 38 = .ok (.iconst 1, 1) := by decide +kernel
theorem dX6_hangs_39 : decode cX6_hangs 39 = .ok (.iload_n 3, 1) := by decide +kernel
theorem dX6_hangs_40 : decode cX6_hangs 40 = .ok (.ishl, 1) := by decide +kernel
theorem dX6_hangs_41 : decode cX6_hangs 41 = .ok (.putfield 209, 3) := by decide +kernel
theorem dX6_hangs_44 : decode cX6_hangs 44 = .ok (.iload_n 2, 1) := by decide +kernel
theorem dX6_hangs_45 : decode cX6_hangs 45 = .ok (.aload_n 0, 1) := by decide +kernel
theorem dX6_hangs_46 : decode cX6_hangs 46 = .ok (.invokevirtual 224, 3) := by decide +kernel
theorem dX6_hangs_49 : decode cX6_hangs 49 = .ok (.iload_n 1, 1) := by decide +kernel
theorem dX6_hangs_50 : decode cX6_hangs 50 = .ok (.if_icmp .ne 7, 3) := by decide +kernel
theorem dX6_hangs_53 : decode cX6_hangs 53 = .ok (.iconst 0, 1) := by decide +kernel
theorem dX6_hangs_54 : decode cX6_hangs 54 = .ok (.goto 6, 3) := by decide +kernel
theorem dX6_hangs_57 : decode cX6_hangs 57 = .ok (.iconst 1, 1) := by decide +kernel
theorem dX6_hangs_58 : decode cX6_hangs 58 = .ok (.iload_n 3, 1) := by decide +kernel
theorem dX6_hangs_59 : decode cX6_hangs 59 = .ok (.ishl, 1) := by decide +kernel
theorem dX6_hangs_60 : decode cX6_hangs 60 = .ok (.ior, 1) := by decide +kernel
theorem dX6_hangs_61 : decode cX6_hangs 61 = .ok (.istore_n 2, 1) := by decide +kernel
theorem dX6_hangs_62 : decode cX6_hangs 62 = .ok (.iinc 3 1, 3) := by decide +kernel
theorem dX6_hangs_65 : decode cX6_hangs 65 = .ok (.goto (-42), 3) := by decide +kernel
theorem dX6_hangs_68 : decode cX6_hangs 68 = .ok (.iload_n 2, 1) := by decide +kernel
theorem dX6_hangs_69 : decode cX6_hangs 69 = .ok (.ireturn, 1) := by decide +kernel
set_option maxRecDepth 20000 in
theorem ggX6_isSeen_X6_passes : GoodIn wsX6_isSeen wsX6_passes := goodIn_ids iaX6_isSeen iaX6_passes haX6_isSeen haX6_passes imX6_isSeen hmX6_isSeen (by decide +kernel) (by decide +kernel)
set_option maxRecDepth 20000 in
theorem gX6_isSeen_X6_passes : GoodIn wsX6_isSeen (va_wsS RX6 189 yX6_passes wsX6_passes) := goodIn_app (goodIn_ids iaX6_isSeen [1034, 1035, 77] haX6_isSeen rfl imX6_isSeen hmX6_isSeen (by decide +kernel) (by decide +kernel)) ggX6_isSeen_X6_passes
theorem dX6_isSeen_0 : decode cX6_isSeen 0 = .ok (.iconst 1, 1) := by decide +kernel
theorem dX6_isSeen_1 : decode cX6_isSeen 1 = .ok (.istore 4, 2) := by decide +kernel
theorem dX6_isSeen_3 : decode cX6_isSeen 3 = .ok (.iconst 0, 1) := by decide +kernel
theorem dX6_isSeen_4 : decode cX6_isSeen 4 = .ok (.istore 5, 2) := by decide +kernel
theorem dX6_isSeen_6 : decode cX6_isSeen 6 = .ok (.iload 5, 2) := by decide +kernel
theorem dX6_isSeen_8 : decode cX6_isSeen 8 = .ok (.iload_n 3, 1) := by decide +kernel
theorem dX6_isSeen_9 : decode cX6_isSeen 9 = .ok (.if_icmp .ge 53, 3) := by decide +kernel
theorem dX6_isSeen_12 : decode cX6_isSeen 12 = .ok (.aload_n 0, 1) := by decide +kernel
theorem dX6_isSeen_13 : decode cX6_isSeen 13 = .ok (.getfield 31, 3) := by decide +kernel
theorem dX6_isSeen_16 : decode cX6_isSeen 16 = .ok (.invokestatic 189, 3) := by decide +kernel
theorem dX6_isSeen_19 : decode cX6_isSeen 19 = .ok (.iload 4, 2) := by decide +kernel
theorem dX6_isSeen_21 : decode cX6_isSeen 21 = .ok (.ifCond .eq 32, 3) := by decide +kernel
theorem dX6_isSeen_24 : decode cX6_isSeen 24 = .ok (.aload_n 0, 1) := by decide +kernel
theorem dX6_isSeen_25 : decode cX6_isSeen 25 = .ok (.getfield 31, 3) := by decide +kernel
theorem dX6_isSeen_28 : decode cX6_isSeen 28 = .ok (.bipush 36, 2) := by decide +kernel
theorem dX6_isSeen_30 : decode cX6_isSeen 30 = .ok (.iconst 3, 1) := by decide +kernel
theorem dX6_isSeen_31 : decode cX6_isSeen 31 = .ok (.iload_n 1, 1) := by decide +kernel
theorem dX6_isSeen_32 : decode cX6_isSeen 32 = .ok (.imul, 1) := by decide +kernel
theorem dX6_isSeen_33 : decode cX6_isSeen 33 = .ok (.iadd, 1) := by decide +kernel
theorem dX6_isSeen_34 : decode cX6_isSeen 34 = .ok (.iconst 2, 1) := by decide +kernel
theorem dX6_isSeen_35 : decode cX6_isSeen 35 = .ok (.iadd, 1) := by decide +kernel
theorem dX6_isSeen_36 : decode cX6_isSeen 36 = .ok (.iaload, 1) := by decide +kernel
theorem dX6_isSeen_37 : decode cX6_isSeen 37 = .ok (.aload_n 0, 1) := by decide +kernel
theorem dX6_isSeen_38 : decode cX6_isSeen 38 = .ok (.getfield 16, 3) := by decide +kernel
theorem dX6_isSeen_41 : decode cX6_isSeen 41 = .ok (.iload_n 2, 1) := by decide +kernel
theorem dX6_isSeen_42 : decode cX6_isSeen 42 = .ok (.iload 5, 2) := by decide +kernel
theorem dX6_isSeen_44 : decode cX6_isSeen 44 = .ok (.iadd, 1) := by decide +kernel
theorem dX6_isSeen_45 : decode cX6_isSeen 45 = .ok (.iaload, 1) := by decide +kernel
theorem dX6_isSeen_46 : decode cX6_isSeen 46 = .ok (.if_icmp .ne 7, 3) := by decide +kernel
theorem dX6_isSeen_49 : decode cX6_isSeen 49 = .ok (.iconst 1, 1) := by decide +kernel
theorem dX6_isSeen_50 : decode cX6_isSeen 50 = .ok (.goto 4, 3) := by decide +kernel
theorem dX6_isSeen_53 : decode cX6_isSeen 53 = .ok (.iconst 0, 1) := by decide +kernel
theorem dX6_isSeen_54 : decode cX6_isSeen 54 = .ok (.istore 4, 2) := by decide +kernel
theorem dX6_isSeen_56 : decode cX6_isSeen 56 = .ok (.iinc 5 1, 3) := by decide +kernel
theorem dX6_isSeen_59 : decode cX6_isSeen 59 = .ok (.goto (-53), 3) := by decide +kernel
theorem dX6_isSeen_62 : decode cX6_isSeen 62 = .ok (.iload 4, 2) := by decide +kernel
theorem dX6_isSeen_64 : decode cX6_isSeen 64 = .ok (.ireturn, 1) := by decide +kernel
set_option maxRecDepth 20000 in
theorem ggX6_seenBy_X6_copies : GoodIn wsX6_seenBy wsX6_copies := goodIn_ids iaX6_seenBy iaX6_copies haX6_seenBy haX6_copies imX6_seenBy hmX6_seenBy (by decide +kernel) (by decide +kernel)
set_option maxRecDepth 20000 in
theorem gX6_seenBy_X6_copies : GoodIn wsX6_seenBy (va_wsS RX6 138 yX6_copies wsX6_copies) := goodIn_app (goodIn_ids iaX6_seenBy [1014, 1015, 77] haX6_seenBy rfl imX6_seenBy hmX6_seenBy (by decide +kernel) (by decide +kernel)) ggX6_seenBy_X6_copies
set_option maxRecDepth 20000 in
theorem ggX6_seenBy_X6_isSeen : GoodIn wsX6_seenBy wsX6_isSeen := goodIn_ids iaX6_seenBy iaX6_isSeen haX6_seenBy haX6_isSeen imX6_seenBy hmX6_seenBy (by decide +kernel) (by decide +kernel)
set_option maxRecDepth 20000 in
theorem gX6_seenBy_X6_isSeen : GoodIn wsX6_seenBy (wsV RX6 235 RX6 yX6_isSeen wsX6_isSeen) := goodIn_app (goodIn_ids iaX6_seenBy [1178, 1180, 62, 77] haX6_seenBy rfl imX6_seenBy hmX6_seenBy (by decide +kernel) (by decide +kernel)) ggX6_seenBy_X6_isSeen
theorem dX6_seenBy_0 : decode cX6_seenBy 0 = .ok (.iconst 0, 1) := by decide +kernel
theorem dX6_seenBy_1 : decode cX6_seenBy 1 = .ok (.istore 7, 2) := by decide +kernel
theorem dX6_seenBy_3 : decode cX6_seenBy 3 = .ok (.iload 5, 2) := by decide +kernel
theorem dX6_seenBy_5 : decode cX6_seenBy 5 = .ok (.istore 8, 2) := by decide +kernel
theorem dX6_seenBy_7 : decode cX6_seenBy 7 = .ok (.iload 8, 2) := by decide +kernel
theorem dX6_seenBy_9 : decode cX6_seenBy 9 = .ok (.iload 6, 2) := by decide +kernel
theorem dX6_seenBy_11 : decode cX6_seenBy 11 = .ok (.if_icmp .gt 54, 3) := by decide +kernel
theorem dX6_seenBy_14 : decode cX6_seenBy 14 = .ok (.aload_n 0, 1) := by decide +kernel
theorem dX6_seenBy_15 : decode cX6_seenBy 15 = .ok (.getfield 25, 3) := by decide +kernel
theorem dX6_seenBy_18 : decode cX6_seenBy 18 = .ok (.iconst 0, 1) := by decide +kernel
theorem dX6_seenBy_19 : decode cX6_seenBy 19 = .ok (.aload_n 0, 1) := by decide +kernel
theorem dX6_seenBy_20 : decode cX6_seenBy 20 = .ok (.getfield 31, 3) := by decide +kernel
theorem dX6_seenBy_23 : decode cX6_seenBy 23 = .ok (.iconst 0, 1) := by decide +kernel
theorem dX6_seenBy_24 : decode cX6_seenBy 24 = .ok (.invokestatic 138, 3) := by decide +kernel
theorem dX6_seenBy_27 : decode cX6_seenBy 27 = .ok (.aload_n 0, 1) := by decide +kernel
theorem dX6_seenBy_28 : decode cX6_seenBy 28 = .ok (.getfield 31, 3) := by decide +kernel
theorem dX6_seenBy_31 : decode cX6_seenBy 31 = .ok (.iload 4, 2) := by decide +kernel
theorem dX6_seenBy_33 : decode cX6_seenBy 33 = .ok (.iload 8, 2) := by decide +kernel
theorem dX6_seenBy_35 : decode cX6_seenBy 35 = .ok (.iastore, 1) := by decide +kernel
theorem dX6_seenBy_36 : decode cX6_seenBy 36 = .ok (.iload 7, 2) := by decide +kernel
theorem dX6_seenBy_38 : decode cX6_seenBy 38 = .ok (.aload_n 0, 1) := by decide +kernel
theorem dX6_seenBy_39 : decode cX6_seenBy 39 = .ok (.iload_n 1, 1) := by decide +kernel
theorem dX6_seenBy_40 : decode cX6_seenBy 40 = .ok (.iload_n 2, 1) := by decide +kernel
theorem dX6_seenBy_41 : decode cX6_seenBy 41 = .ok (.iload_n 3, 1) := by decide +kernel
theorem dX6_seenBy_42 : decode cX6_seenBy 42 = .ok (.invokevirtual 235, 3) := by decide +kernel
theorem dX6_seenBy_45 : decode cX6_seenBy 45 = .ok (.ifCond .eq 10, 3) := by decide +kernel
theorem dX6_seenBy_48 : decode cX6_seenBy 48 = .ok (.iconst 1, 1) := by decide +kernel
theorem dX6_seenBy_49 : decode cX6_seenBy 49 = .ok (.iload 8, 2) := by decide +kernel
theorem dX6_seenBy_51 : decode cX6_seenBy 51 = .ok (.ishl, 1) := by decide +kernel
theorem dX6_seenBy_52 : decode cX6_seenBy 52 = .ok (.goto 4, 3) := by decide +kernel
theorem dX6_seenBy_55 : decode cX6_seenBy 55 = .ok (.iconst 0, 1) := by decide +kernel
theorem dX6_seenBy_56 : decode cX6_seenBy 56 = .ok (.ior, 1) := by decide +kernel
theorem dX6_seenBy_57 : decode cX6_seenBy 57 = .ok (.istore 7, 2) := by decide +kernel
theorem dX6_seenBy_59 : decode cX6_seenBy 59 = .ok (.iinc 8 1, 3) := by decide +kernel
theorem dX6_seenBy_62 : decode cX6_seenBy 62 = .ok (.goto (-55), 3) := by decide +kernel
theorem dX6_seenBy_65 : decode cX6_seenBy 65 = .ok (.iload 7, 2) := by decide +kernel
theorem dX6_seenBy_67 : decode cX6_seenBy 67 = .ok (.ireturn, 1) := by decide +kernel
set_option maxRecDepth 20000 in
theorem ggX6_fits_X6_isDog : GoodIn wsX6_fits wsX6_isDog := goodIn_ids iaX6_fits iaX6_isDog haX6_fits haX6_isDog imX6_fits hmX6_fits (by decide +kernel) (by decide +kernel)
set_option maxRecDepth 20000 in
theorem gX6_fits_X6_isDog : GoodIn wsX6_fits (wsV RX6 196 RX6 yX6_isDog wsX6_isDog) := goodIn_app (goodIn_ids iaX6_fits [1083, 1085, 53, 77] haX6_fits rfl imX6_fits hmX6_fits (by decide +kernel) (by decide +kernel)) ggX6_fits_X6_isDog
set_option maxRecDepth 20000 in
theorem ggX6_fits_X6_isRow : GoodIn wsX6_fits wsX6_isRow := goodIn_ids iaX6_fits iaX6_isRow haX6_fits haX6_isRow imX6_fits hmX6_fits (by decide +kernel) (by decide +kernel)
set_option maxRecDepth 20000 in
theorem gX6_fits_X6_isRow : GoodIn wsX6_fits (va_wsS RX6 60 yX6_isRow wsX6_isRow) := goodIn_app (goodIn_ids iaX6_fits [926, 927, 77] haX6_fits rfl imX6_fits hmX6_fits (by decide +kernel) (by decide +kernel)) ggX6_fits_X6_isRow
set_option maxRecDepth 20000 in
theorem ggX6_fits_X6_in : GoodIn wsX6_fits wsX6_in := goodIn_ids iaX6_fits iaX6_in haX6_fits haX6_in imX6_fits hmX6_fits (by decide +kernel) (by decide +kernel)
set_option maxRecDepth 20000 in
theorem gX6_fits_X6_in : GoodIn wsX6_fits (va_wsS RX6 56 yX6_in wsX6_in) := goodIn_app (goodIn_ids iaX6_fits [929, 930, 77] haX6_fits rfl imX6_fits hmX6_fits (by decide +kernel) (by decide +kernel)) ggX6_fits_X6_in
set_option maxRecDepth 20000 in
theorem ggX6_fits_X6_isMissing : GoodIn wsX6_fits wsX6_isMissing := goodIn_ids iaX6_fits iaX6_isMissing haX6_fits haX6_isMissing imX6_fits hmX6_fits (by decide +kernel) (by decide +kernel)
set_option maxRecDepth 20000 in
theorem gX6_fits_X6_isMissing : GoodIn wsX6_fits (wsV RX6 72 RX6 yX6_isMissing wsX6_isMissing) := goodIn_app (goodIn_ids iaX6_fits [946, 948, 39, 77] haX6_fits rfl imX6_fits hmX6_fits (by decide +kernel) (by decide +kernel)) ggX6_fits_X6_isMissing
set_option maxRecDepth 20000 in
theorem ggX6_fits_X6_found : GoodIn wsX6_fits wsX6_found := goodIn_ids iaX6_fits iaX6_found haX6_fits haX6_found imX6_fits hmX6_fits (by decide +kernel) (by decide +kernel)
set_option maxRecDepth 20000 in
theorem gX6_fits_X6_found : GoodIn wsX6_fits (wsV RX6 65 RX6 yX6_found wsX6_found) := goodIn_app (goodIn_ids iaX6_fits [933, 935, 37, 77] haX6_fits rfl imX6_fits hmX6_fits (by decide +kernel) (by decide +kernel)) ggX6_fits_X6_found
set_option maxRecDepth 20000 in
theorem ggX6_fits_X6_isPart : GoodIn wsX6_fits wsX6_isPart := goodIn_ids iaX6_fits iaX6_isPart haX6_fits haX6_isPart imX6_fits hmX6_fits (by decide +kernel) (by decide +kernel)
set_option maxRecDepth 20000 in
theorem gX6_fits_X6_isPart : GoodIn wsX6_fits (wsV RX6 79 RX6 yX6_isPart wsX6_isPart) := goodIn_app (goodIn_ids iaX6_fits [957, 959, 40, 77] haX6_fits rfl imX6_fits hmX6_fits (by decide +kernel) (by decide +kernel)) ggX6_fits_X6_isPart
set_option maxRecDepth 20000 in
theorem ggX6_fits_X6_seenBy : GoodIn wsX6_fits wsX6_seenBy := goodIn_ids iaX6_fits iaX6_seenBy haX6_fits haX6_seenBy imX6_fits hmX6_fits (by decide +kernel) (by decide +kernel)
set_option maxRecDepth 20000 in
theorem gX6_fits_X6_seenBy : GoodIn wsX6_fits (wsV RX6 238 RX6 yX6_seenBy wsX6_seenBy) := goodIn_app (goodIn_ids iaX6_fits [1174, 1176, 61, 77] haX6_fits rfl imX6_fits hmX6_fits (by decide +kernel) (by decide +kernel)) ggX6_fits_X6_seenBy
set_option maxRecDepth 20000 in
theorem ggX6_fits_X6_well : GoodIn wsX6_fits wsX6_well := goodIn_ids iaX6_fits iaX6_well haX6_fits haX6_well imX6_fits hmX6_fits (by decide +kernel) (by decide +kernel)
set_option maxRecDepth 20000 in
theorem gX6_fits_X6_well : GoodIn wsX6_fits (wsV RX6 69 RX6 yX6_well wsX6_well) := goodIn_app (goodIn_ids iaX6_fits [938, 940, 38, 77] haX6_fits rfl imX6_fits hmX6_fits (by decide +kernel) (by decide +kernel)) ggX6_fits_X6_well
theorem dX6_fits_0 : decode cX6_fits 0 = .ok (.aload_n 0, 1) := by decide +kernel
theorem dX6_fits_1 : decode cX6_fits 1 = .ok (.iload_n 1, 1) := by decide +kernel
theorem dX6_fits_2 : decode cX6_fits 2 = .ok (.invokevirtual 196, 3) := by decide +kernel
theorem dX6_fits_5 : decode cX6_fits 5 = .ok (.ifCond .eq 31, 3) := by decide +kernel
theorem dX6_fits_8 : decode cX6_fits 8 = .ok (.iload_n 2, 1) := by decide +kernel
theorem dX6_fits_9 : decode cX6_fits 9 = .ok (.invokestatic 60, 3) := by decide +kernel
theorem dX6_fits_12 : decode cX6_fits 12 = .ok (.ifCond .eq 24, 3) := by decide +kernel
theorem dX6_fits_15 : decode cX6_fits 15 = .ok (.iload 4, 2) := by decide +kernel
theorem dX6_fits_17 : decode cX6_fits 17 = .ok (.iconst 1, 1) := by decide +kernel
theorem dX6_fits_18 : decode cX6_fits 18 = .ok (.bipush 12, 2) := by decide +kernel
theorem dX6_fits_20 : decode cX6_fits 20 = .ok (.invokestatic 56, 3) := by decide +kernel
theorem dX6_fits_23 : decode cX6_fits 23 = .ok (.ifCond .eq 13, 3) := by decide +kernel
theorem dX6_fits_26 : decode cX6_fits 26 = .ok (.iload 5, 2) := by decide +kernel
theorem dX6_fits_28 : decode cX6_fits 28 = .ok (.iconst 0, 1) := by decide +kernel
theorem dX6_fits_29 : decode cX6_fits 29 = .ok (.iconst 1, 1) := by decide +kernel
theorem dX6_fits_30 : decode cX6_fits 30 = .ok (.invokestatic 56, 3) := by decide +kernel
theorem dX6_fits_33 : decode cX6_fits 33 = .ok (.ifCond .ne 6, 3) := by decide +kernel
theorem dX6_fits_36 : decode cX6_fits 36 = .ok (.ldc 64, 2) := by decide +kernel
theorem dX6_fits_38 : decode cX6_fits 38 = .ok (.ireturn, 1) := by decide +kernel
theorem dX6_fits_39 : decode cX6_fits 39 = .ok (.aload_n 0, 1) := by decide +kernel
theorem dX6_fits_40 : decode cX6_fits 40 = .ok (.iload_n 2, 1) := by decide +kernel
theorem dX6_fits_41 : decode cX6_fits 41 = .ok (.invokevirtual 72, 3) := by decide +kernel
theorem dX6_fits_44 : decode cX6_fits 44 = .ok (.ifCond .eq 9, 3) := by decide +kernel
theorem dX6_fits_47 : decode cX6_fits 47 = .ok (.aload_n 0, 1) := by decide +kernel
theorem dX6_fits_48 : decode cX6_fits 48 = .ok (.iconst 1, 1) := by decide +kernel
theorem dX6_fits_49 : decode cX6_fits 49 = .ok (.invokevirtual 65, 3) := by decide +kernel
theorem dX6_fits_52 : decode cX6_fits 52 = .ok (.ireturn, 1) := by decide +kernel
theorem dX6_fits_53 : decode cX6_fits 53 = .ok (.aload_n 0, 1) := by decide +kernel
theorem dX6_fits_54 : decode cX6_fits 54 = .ok (.iload_n 2, 1) := by decide +kernel
theorem dX6_fits_55 : decode cX6_fits 55 = .ok (.iload_n 3, 1) := by decide +kernel
theorem dX6_fits_56 : decode cX6_fits 56 = .ok (.iload 4, 2) := by decide +kernel
theorem dX6_fits_58 : decode cX6_fits 58 = .ok (.invokevirtual 79, 3) := by decide +kernel
theorem dX6_fits_61 : decode cX6_fits 61 = .ok (.ifCond .ne 9, 3) := by decide +kernel
theorem dX6_fits_64 : decode cX6_fits 64 = .ok (.aload_n 0, 1) := by decide +kernel
theorem dX6_fits_65 : decode cX6_fits 65 = .ok (.iconst 2, 1) := by decide +kernel
theorem dX6_fits_66 : decode cX6_fits 66 = .ok (.invokevirtual 65, 3) := by decide +kernel
theorem dX6_fits_69 : decode cX6_fits 69 = .ok (.ireturn, 1) := by decide +kernel
theorem dX6_fits_70 : decode cX6_fits 70 = .ok (.bipush 36, 2) := by decide +kernel
theorem dX6_fits_72 : decode cX6_fits 72 = .ok (.iconst 3, 1) := by decide +kernel
theorem dX6_fits_73 : decode cX6_fits 73 = .ok (.iload_n 1, 1) := by decide +kernel
theorem dX6_fits_74 : decode cX6_fits 74 = .ok (.imul, 1) := by decide +kernel
theorem dX6_fits_75 : decode cX6_fits 75 = .ok (.iadd, 1) := by decide +kernel
theorem dX6_fits_76 : decode cX6_fits 76 = .ok (.istore 6, 2) := by decide +kernel
theorem dX6_fits_78 : decode cX6_fits 78 = .ok (.aload_n 0, 1) := by decide +kernel
theorem dX6_fits_79 : decode cX6_fits 79 = .ok (.iload 5, 2) := by decide +kernel
theorem dX6_fits_81 : decode cX6_fits 81 = .ok (.ifCond .ne 23, 3) := by decide +kernel
theorem dX6_fits_84 : decode cX6_fits 84 = .ok (.aload_n 0, 1) := by decide +kernel
theorem dX6_fits_85 : decode cX6_fits 85 = .ok (.iload_n 1, 1) := by decide +kernel
theorem dX6_fits_86 : decode cX6_fits 86 = .ok (.bipush 40, 2) := by decide +kernel
theorem dX6_fits_88 : decode cX6_fits 88 = .ok (.iload_n 2, 1) := by decide +kernel
theorem dX6_fits_89 : decode cX6_fits 89 = .ok (.imul, 1) := by decide +kernel
theorem dX6_fits_90 : decode cX6_fits 90 = .ok (.iload_n 3, 1) := by decide +kernel
theorem dX6_fits_91 : decode cX6_fits 91 = .ok (.iadd, 1) := by decide +kernel
theorem dX6_fits_92 : decode cX6_fits 92 = .ok (.iload 4, 2) := by decide +kernel
theorem dX6_fits_94 : decode cX6_fits 94 = .ok (.iload 6, 2) := by decide +kernel
theorem dX6_fits_96 : decode cX6_fits 96 = .ok (.iconst 1, 1) := by decide +kernel
theorem dX6_fits_97 : decode cX6_fits 97 = .ok (.iconst 5, 1) := by decide +kernel
theorem dX6_fits_98 : decode cX6_fits 98 = .ok (.invokevirtual 238, 3) := by decide +kernel
theorem dX6_fits_101 : decode cX6_fits 101 = .ok (.goto 29, 3) := by decide +kernel
theorem dX6_fits_104 : decode cX6_fits 104 = .ok (.aload_n 0, 1) := by decide +kernel
theorem dX6_fits_105 : decode cX6_fits 105 = .ok (.iload_n 1, 1) := by decide +kernel
theorem dX6_fits_106 : decode cX6_fits 106 = .ok (.bipush 40, 2) := by decide +kernel
theorem dX6_fits_108 : decode cX6_fits 108 = .ok (.iload_n 2, 1) := by decide +kernel
theorem dX6_fits_109 : decode cX6_fits 109 = .ok (.imul, 1) := by decide +kernel
theorem dX6_fits_110 : decode cX6_fits 110 = .ok (.iload_n 3, 1) := by decide +kernel
theorem dX6_fits_111 : decode cX6_fits 111 = .ok (.iadd, 1) := by decide +kernel
theorem dX6_fits_112 : decode cX6_fits 112 = .ok (.iload 4, 2) := by decide +kernel
theorem dX6_fits_114 : decode cX6_fits 114 = .ok (.iload 6, 2) := by decide +kernel
theorem dX6_fits_116 : decode cX6_fits 116 = .ok (.iconst 2, 1) := by decide +kernel
theorem dX6_fits_117 : decode cX6_fits 117 = .ok (.iadd, 1) := by decide +kernel
theorem dX6_fits_118 : decode cX6_fits 118 = .ok (.iconst 0, 1) := by decide +kernel
theorem dX6_fits_119 : decode cX6_fits 119 = .ok (.aload_n 0, 1) := by decide +kernel
theorem dX6_fits_120 : decode cX6_fits 120 = .ok (.getfield 25, 3) := by decide +kernel
theorem dX6_fits_123 : decode cX6_fits 123 = .ok (.iconst 0, 1) := by decide +kernel
theorem dX6_fits_124 : decode cX6_fits 124 = .ok (.iaload, 1) := by decide +kernel
theorem dX6_fits_125 : decode cX6_fits 125 = .ok (.iconst 1, 1) := by decide +kernel
theorem dX6_fits_126 : decode cX6_fits 126 = .ok (.isub, 1) := by decide +kernel
theorem dX6_fits_127 : decode cX6_fits 127 = .ok (.invokevirtual 238, 3) := by decide +kernel
theorem dX6_fits_130 : decode cX6_fits 130 = .ok (.invokevirtual 69, 3) := by decide +kernel
theorem dX6_fits_133 : decode cX6_fits 133 = .ok (.ireturn, 1) := by decide +kernel
set_option maxRecDepth 20000 in
theorem ggX6_suits_X6_isPerson : GoodIn wsX6_suits wsX6_isPerson := goodIn_ids iaX6_suits iaX6_isPerson haX6_suits haX6_isPerson imX6_suits hmX6_suits (by decide +kernel) (by decide +kernel)
set_option maxRecDepth 20000 in
theorem gX6_suits_X6_isPerson : GoodIn wsX6_suits (wsV RX6 193 RX6 yX6_isPerson wsX6_isPerson) := goodIn_app (goodIn_ids iaX6_suits [1071, 1073, 52, 77] haX6_suits rfl imX6_suits hmX6_suits (by decide +kernel) (by decide +kernel)) ggX6_suits_X6_isPerson
set_option maxRecDepth 20000 in
theorem ggX6_suits_X6_isDog : GoodIn wsX6_suits wsX6_isDog := goodIn_ids iaX6_suits iaX6_isDog haX6_suits haX6_isDog imX6_suits hmX6_suits (by decide +kernel) (by decide +kernel)
set_option maxRecDepth 20000 in
theorem gX6_suits_X6_isDog : GoodIn wsX6_suits (wsV RX6 196 RX6 yX6_isDog wsX6_isDog) := goodIn_app (goodIn_ids iaX6_suits [1083, 1085, 53, 77] haX6_suits rfl imX6_suits hmX6_suits (by decide +kernel) (by decide +kernel)) ggX6_suits_X6_isDog
set_option maxRecDepth 20000 in
theorem ggX6_suits_X6_isRow : GoodIn wsX6_suits wsX6_isRow := goodIn_ids iaX6_suits iaX6_isRow haX6_suits haX6_isRow imX6_suits hmX6_suits (by decide +kernel) (by decide +kernel)
set_option maxRecDepth 20000 in
theorem gX6_suits_X6_isRow : GoodIn wsX6_suits (va_wsS RX6 60 yX6_isRow wsX6_isRow) := goodIn_app (goodIn_ids iaX6_suits [926, 927, 77] haX6_suits rfl imX6_suits hmX6_suits (by decide +kernel) (by decide +kernel)) ggX6_suits_X6_isRow
set_option maxRecDepth 20000 in
theorem ggX6_suits_X6_in : GoodIn wsX6_suits wsX6_in := goodIn_ids iaX6_suits iaX6_in haX6_suits haX6_in imX6_suits hmX6_suits (by decide +kernel) (by decide +kernel)
set_option maxRecDepth 20000 in
theorem gX6_suits_X6_in : GoodIn wsX6_suits (va_wsS RX6 56 yX6_in wsX6_in) := goodIn_app (goodIn_ids iaX6_suits [929, 930, 77] haX6_suits rfl imX6_suits hmX6_suits (by decide +kernel) (by decide +kernel)) ggX6_suits_X6_in
set_option maxRecDepth 20000 in
theorem ggX6_suits_X6_isMissing : GoodIn wsX6_suits wsX6_isMissing := goodIn_ids iaX6_suits iaX6_isMissing haX6_suits haX6_isMissing imX6_suits hmX6_suits (by decide +kernel) (by decide +kernel)
set_option maxRecDepth 20000 in
theorem gX6_suits_X6_isMissing : GoodIn wsX6_suits (wsV RX6 72 RX6 yX6_isMissing wsX6_isMissing) := goodIn_app (goodIn_ids iaX6_suits [946, 948, 39, 77] haX6_suits rfl imX6_suits hmX6_suits (by decide +kernel) (by decide +kernel)) ggX6_suits_X6_isMissing
set_option maxRecDepth 20000 in
theorem ggX6_suits_X6_found : GoodIn wsX6_suits wsX6_found := goodIn_ids iaX6_suits iaX6_found haX6_suits haX6_found imX6_suits hmX6_suits (by decide +kernel) (by decide +kernel)
set_option maxRecDepth 20000 in
theorem gX6_suits_X6_found : GoodIn wsX6_suits (wsV RX6 65 RX6 yX6_found wsX6_found) := goodIn_app (goodIn_ids iaX6_suits [933, 935, 37, 77] haX6_suits rfl imX6_suits hmX6_suits (by decide +kernel) (by decide +kernel)) ggX6_suits_X6_found
set_option maxRecDepth 20000 in
theorem ggX6_suits_X6_isPart : GoodIn wsX6_suits wsX6_isPart := goodIn_ids iaX6_suits iaX6_isPart haX6_suits haX6_isPart imX6_suits hmX6_suits (by decide +kernel) (by decide +kernel)
set_option maxRecDepth 20000 in
theorem gX6_suits_X6_isPart : GoodIn wsX6_suits (wsV RX6 79 RX6 yX6_isPart wsX6_isPart) := goodIn_app (goodIn_ids iaX6_suits [957, 959, 40, 77] haX6_suits rfl imX6_suits hmX6_suits (by decide +kernel) (by decide +kernel)) ggX6_suits_X6_isPart
set_option maxRecDepth 20000 in
theorem ggX6_suits_X6_seenBy : GoodIn wsX6_suits wsX6_seenBy := goodIn_ids iaX6_suits iaX6_seenBy haX6_suits haX6_seenBy imX6_suits hmX6_suits (by decide +kernel) (by decide +kernel)
set_option maxRecDepth 20000 in
theorem gX6_suits_X6_seenBy : GoodIn wsX6_suits (wsV RX6 238 RX6 yX6_seenBy wsX6_seenBy) := goodIn_app (goodIn_ids iaX6_suits [1174, 1176, 61, 77] haX6_suits rfl imX6_suits hmX6_suits (by decide +kernel) (by decide +kernel)) ggX6_suits_X6_seenBy
set_option maxRecDepth 20000 in
theorem ggX6_suits_X6_well : GoodIn wsX6_suits wsX6_well := goodIn_ids iaX6_suits iaX6_well haX6_suits haX6_well imX6_suits hmX6_suits (by decide +kernel) (by decide +kernel)
set_option maxRecDepth 20000 in
theorem gX6_suits_X6_well : GoodIn wsX6_suits (wsV RX6 69 RX6 yX6_well wsX6_well) := goodIn_app (goodIn_ids iaX6_suits [938, 940, 38, 77] haX6_suits rfl imX6_suits hmX6_suits (by decide +kernel) (by decide +kernel)) ggX6_suits_X6_well
theorem dX6_suits_0 : decode cX6_suits 0 = .ok (.aload_n 0, 1) := by decide +kernel
theorem dX6_suits_1 : decode cX6_suits 1 = .ok (.iload_n 1, 1) := by decide +kernel
theorem dX6_suits_2 : decode cX6_suits 2 = .ok (.invokevirtual 193, 3) := by decide +kernel
theorem dX6_suits_5 : decode cX6_suits 5 = .ok (.ifCond .eq 39, 3) := by decide +kernel
theorem dX6_suits_8 : decode cX6_suits 8 = .ok (.aload_n 0, 1) := by decide +kernel
theorem dX6_suits_9 : decode cX6_suits 9 = .ok (.iload_n 2, 1) := by decide +kernel
theorem dX6_suits_10 : decode cX6_suits 10 = .ok (.invokevirtual 196, 3) := by decide +kernel
theorem dX6_suits_13 : decode cX6_suits 13 = .ok (.ifCond .eq 31, 3) := by decide +kernel
theorem dX6_suits_16 : decode cX6_suits 16 = .ok (.iload_n 3, 1) := by decide +kernel
theorem dX6_suits_17 : decode cX6_suits 17 = .ok (.invokestatic 60, 3) := by decide +kernel
theorem dX6_suits_20 : decode cX6_suits 20 = .ok (.ifCond .eq 24, 3) := by decide +kernel
theorem dX6_suits_23 : decode cX6_suits 23 = .ok (.iload 5, 2) := by decide +kernel
theorem dX6_suits_25 : decode cX6_suits 25 = .ok (.iconst 1, 1) := by decide +kernel
theorem dX6_suits_26 : decode cX6_suits 26 = .ok (.bipush 12, 2) := by decide +kernel
theorem dX6_suits_28 : decode cX6_suits 28 = .ok (.invokestatic 56, 3) := by decide +kernel
theorem dX6_suits_31 : decode cX6_suits 31 = .ok (.ifCond .eq 13, 3) := by decide +kernel
theorem dX6_suits_34 : decode cX6_suits 34 = .ok (.iload 6, 2) := by decide +kernel
theorem dX6_suits_36 : decode cX6_suits 36 = .ok (.iconst 0, 1) := by decide +kernel
theorem dX6_suits_37 : decode cX6_suits 37 = .ok (.iconst 1, 1) := by decide +kernel
theorem dX6_suits_38 : decode cX6_suits 38 = .ok (.invokestatic 56, 3) := by decide +kernel
theorem dX6_suits_41 : decode cX6_suits 41 = .ok (.ifCond .ne 6, 3) := by decide +kernel
theorem dX6_suits_44 : decode cX6_suits 44 = .ok (.ldc 64, 2) := by decide +kernel
theorem dX6_suits_46 : decode cX6_suits 46 = .ok (.ireturn, 1) := by decide +kernel
theorem dX6_suits_47 : decode cX6_suits 47 = .ok (.aload_n 0, 1) := by decide +kernel
theorem dX6_suits_48 : decode cX6_suits 48 = .ok (.iload_n 3, 1) := by decide +kernel
theorem dX6_suits_49 : decode cX6_suits 49 = .ok (.invokevirtual 72, 3) := by decide +kernel
theorem dX6_suits_52 : decode cX6_suits 52 = .ok (.ifCond .eq 9, 3) := by decide +kernel
theorem dX6_suits_55 : decode cX6_suits 55 = .ok (.aload_n 0, 1) := by decide +kernel
theorem dX6_suits_56 : decode cX6_suits 56 = .ok (.iconst 1, 1) := by decide +kernel
theorem dX6_suits_57 : decode cX6_suits 57 = .ok (.invokevirtual 65, 3) := by decide +kernel
theorem dX6_suits_60 : decode cX6_suits 60 = .ok (.ireturn, 1) := by decide +kernel
theorem dX6_suits_61 : decode cX6_suits 61 = .ok (.aload_n 0, 1) := by decide +kernel
theorem dX6_suits_62 : decode cX6_suits 62 = .ok (.iload_n 3, 1) := by decide +kernel
theorem dX6_suits_63 : decode cX6_suits 63 = .ok (.iload 4, 2) := by decide +kernel
theorem dX6_suits_65 : decode cX6_suits 65 = .ok (.iload 5, 2) := by decide +kernel
theorem dX6_suits_67 : decode cX6_suits 67 = .ok (.invokevirtual 79, 3) := by decide +kernel
theorem dX6_suits_70 : decode cX6_suits 70 = .ok (.ifCond .ne 9, 3) := by decide +kernel
theorem dX6_suits_73 : decode cX6_suits 73 = .ok (.aload_n 0, 1) := by decide +kernel
theorem dX6_suits_74 : decode cX6_suits 74 = .ok (.iconst 2, 1) := by decide +kernel
theorem dX6_suits_75 : decode cX6_suits 75 = .ok (.invokevirtual 65, 3) := by decide +kernel
theorem dX6_suits_78 : decode cX6_suits 78 = .ok (.ireturn, 1) := by decide +kernel
theorem dX6_suits_79 : decode cX6_suits 79 = .ok (.aload_n 0, 1) := by decide +kernel
theorem dX6_suits_80 : decode cX6_suits 80 = .ok (.aload_n 0, 1) := by decide +kernel
theorem dX6_suits_81 : decode cX6_suits 81 = .ok (.iload_n 2, 1) := by decide +kernel
theorem dX6_suits_82 : decode cX6_suits 82 = .ok (.bipush 40, 2) := by decide +kernel
theorem dX6_suits_84 : decode cX6_suits 84 = .ok (.iload_n 3, 1) := by decide +kernel
theorem dX6_suits_85 : decode cX6_suits 85 = .ok (.imul, 1) := by decide +kernel
theorem dX6_suits_86 : decode cX6_suits 86 = .ok (.iload 4, 2) := by decide +kernel
theorem dX6_suits_88 : decode cX6_suits 88 = .ok (.iadd, 1) := by decide +kernel
theorem dX6_suits_89 : decode cX6_suits 89 = .ok (.iload 5, 2) := by decide +kernel
theorem dX6_suits_91 : decode cX6_suits 91 = .ok (.bipush 6, 2) := by decide +kernel
theorem dX6_suits_93 : decode cX6_suits 93 = .ok (.bipush 6, 2) := by decide +kernel
theorem dX6_suits_95 : decode cX6_suits 95 = .ok (.iload_n 1, 1) := by decide +kernel
theorem dX6_suits_96 : decode cX6_suits 96 = .ok (.imul, 1) := by decide +kernel
theorem dX6_suits_97 : decode cX6_suits 97 = .ok (.iadd, 1) := by decide +kernel
theorem dX6_suits_98 : decode cX6_suits 98 = .ok (.iload 6, 2) := by decide +kernel
theorem dX6_suits_100 : decode cX6_suits 100 = .ok (.ifCond .ne 7, 3) := by decide +kernel
theorem dX6_suits_103 : decode cX6_suits 103 = .ok (.iconst 1, 1) := by decide +kernel
theorem dX6_suits_104 : decode cX6_suits 104 = .ok (.goto 4, 3) := by decide +kernel
theorem dX6_suits_107 : decode cX6_suits 107 = .ok (.iconst 2, 1) := by decide +kernel
theorem dX6_suits_108 : decode cX6_suits 108 = .ok (.iadd, 1) := by decide +kernel
theorem dX6_suits_109 : decode cX6_suits 109 = .ok (.iconst 0, 1) := by decide +kernel
theorem dX6_suits_110 : decode cX6_suits 110 = .ok (.iload 6, 2) := by decide +kernel
theorem dX6_suits_112 : decode cX6_suits 112 = .ok (.ifCond .ne 8, 3) := by decide +kernel
theorem dX6_suits_115 : decode cX6_suits 115 = .ok (.bipush 9, 2) := by decide +kernel
theorem dX6_suits_117 : decode cX6_suits 117 = .ok (.goto 4, 3) := by decide +kernel
theorem dX6_suits_120 : decode cX6_suits 120 = .ok (.iconst 2, 1) := by decide +kernel
theorem dX6_suits_121 : decode cX6_suits 121 = .ok (.invokevirtual 238, 3) := by decide +kernel
theorem dX6_suits_124 : decode cX6_suits 124 = .ok (.invokevirtual 69, 3) := by decide +kernel
theorem dX6_suits_127 : decode cX6_suits 127 = .ok (.ireturn, 1) := by decide +kernel
set_option maxRecDepth 20000 in
theorem ggX6_asleep_X6_isPerson : GoodIn wsX6_asleep wsX6_isPerson := goodIn_ids iaX6_asleep iaX6_isPerson haX6_asleep haX6_isPerson imX6_asleep hmX6_asleep (by decide +kernel) (by decide +kernel)
set_option maxRecDepth 20000 in
theorem gX6_asleep_X6_isPerson : GoodIn wsX6_asleep (wsV RX6 193 RX6 yX6_isPerson wsX6_isPerson) := goodIn_app (goodIn_ids iaX6_asleep [1071, 1073, 52, 77] haX6_asleep rfl imX6_asleep hmX6_asleep (by decide +kernel) (by decide +kernel)) ggX6_asleep_X6_isPerson
set_option maxRecDepth 20000 in
theorem ggX6_asleep_X6_in : GoodIn wsX6_asleep wsX6_in := goodIn_ids iaX6_asleep iaX6_in haX6_asleep haX6_in imX6_asleep hmX6_asleep (by decide +kernel) (by decide +kernel)
set_option maxRecDepth 20000 in
theorem gX6_asleep_X6_in : GoodIn wsX6_asleep (va_wsS RX6 56 yX6_in wsX6_in) := goodIn_app (goodIn_ids iaX6_asleep [929, 930, 77] haX6_asleep rfl imX6_asleep hmX6_asleep (by decide +kernel) (by decide +kernel)) ggX6_asleep_X6_in
set_option maxRecDepth 20000 in
theorem ggX6_asleep_X6_has : GoodIn wsX6_asleep wsX6_has := goodIn_ids iaX6_asleep iaX6_has haX6_asleep haX6_has imX6_asleep hmX6_asleep (by decide +kernel) (by decide +kernel)
set_option maxRecDepth 20000 in
theorem gX6_asleep_X6_has : GoodIn wsX6_asleep (va_wsS RX6 152 yX6_has wsX6_has) := goodIn_app (goodIn_ids iaX6_asleep [1058, 1059, 77] haX6_asleep rfl imX6_asleep hmX6_asleep (by decide +kernel) (by decide +kernel)) ggX6_asleep_X6_has
set_option maxRecDepth 20000 in
theorem ggX6_asleep_X6_tries : GoodIn wsX6_asleep wsX6_tries := goodIn_ids iaX6_asleep iaX6_tries haX6_asleep haX6_tries imX6_asleep hmX6_asleep (by decide +kernel) (by decide +kernel)
set_option maxRecDepth 20000 in
theorem gX6_asleep_X6_tries : GoodIn wsX6_asleep (wsV RX6 221 RX6 yX6_tries wsX6_tries) := goodIn_app (goodIn_ids iaX6_asleep [1123, 1125, 57, 77] haX6_asleep rfl imX6_asleep hmX6_asleep (by decide +kernel) (by decide +kernel)) ggX6_asleep_X6_tries
set_option maxRecDepth 20000 in
theorem ggX6_asleep_X6_nextKing : GoodIn wsX6_asleep wsX6_nextKing := goodIn_ids iaX6_asleep iaX6_nextKing haX6_asleep haX6_nextKing imX6_asleep hmX6_asleep (by decide +kernel) (by decide +kernel)
set_option maxRecDepth 20000 in
theorem gX6_asleep_X6_nextKing : GoodIn wsX6_asleep (wsV RX6 224 RX6 yX6_nextKing wsX6_nextKing) := goodIn_app (goodIn_ids iaX6_asleep [1139, 1141, 59, 77] haX6_asleep rfl imX6_asleep hmX6_asleep (by decide +kernel) (by decide +kernel)) ggX6_asleep_X6_nextKing
theorem dX6_asleep_0 : decode cX6_asleep 0 = .ok (.aload_n 0, 1) := by decide +kernel
theorem dX6_asleep_1 : decode cX6_asleep 1 = .ok (.iload_n 1, 1) := by decide +kernel
theorem dX6_asleep_2 : decode cX6_asleep 2 = .ok (.invokevirtual 193, 3) := by decide +kernel
theorem dX6_asleep_5 : decode cX6_asleep 5 = .ok (.ifCond .eq 22, 3) := by decide +kernel
theorem dX6_asleep_8 : decode cX6_asleep 8 = .ok (.iload_n 2, 1) := by decide +kernel
theorem dX6_asleep_9 : decode cX6_asleep 9 = .ok (.iconst 0, 1) := by decide +kernel
theorem dX6_asleep_10 : decode cX6_asleep 10 = .ok (.bipush 10, 2) := by decide +kernel
theorem dX6_asleep_12 : decode cX6_asleep 12 = .ok (.invokestatic 56, 3) := by decide +kernel
theorem dX6_asleep_15 : decode cX6_asleep 15 = .ok (.ifCond .eq 12, 3) := by decide +kernel
theorem dX6_asleep_18 : decode cX6_asleep 18 = .ok (.iload_n 3, 1) := by decide +kernel
theorem dX6_asleep_19 : decode cX6_asleep 19 = .ok (.iconst 0, 1) := by decide +kernel
theorem dX6_asleep_20 : decode cX6_asleep 20 = .ok (.iconst 1, 1) := by decide +kernel
theorem dX6_asleep_21 : decode cX6_asleep 21 = .ok (.invokestatic 56, 3) := by decide +kernel
theorem dX6_asleep_24 : decode cX6_asleep 24 = .ok (.ifCond .ne 6, 3) := by decide +kernel
theorem dX6_asleep_27 : decode cX6_asleep 27 = .ok (.ldc 64, 2) := by decide +kernel
theorem dX6_asleep_29 : decode cX6_asleep 29 = .ok (.ireturn, 1) := by decide +kernel
theorem dX6_asleep_30 : decode cX6_asleep 30 = .ok (.iconst 0, 1) := by decide +kernel
theorem dX6_asleep_31 : decode cX6_asleep 31 = .ok (.istore 4, 2) := by decide +kernel
theorem dX6_asleep_33 : decode cX6_asleep 33 = .ok (.iconst 1, 1) := by decide +kernel
theorem dX6_asleep_34 : decode cX6_asleep 34 = .ok (.istore 5, 2) := by decide +kernel
theorem dX6_asleep_36 : decode cX6_asleep 36 = .ok (.iconst 0, 1) := by decide +kernel
theorem dX6_asleep_37 : decode cX6_asleep 37 = .ok (.istore 6, 2) := by decide +kernel
theorem dX6_asleep_39 : decode cX6_asleep 39 = .ok (.iload 6, 2) := by decide +kernel
theorem dX6_asleep_41 : decode cX6_asleep 41 = .ok (.aload_n 0, 1) := by decide +kernel
theorem dX6_asleep_42 : decode cX6_asleep 42 = .ok (.getfield 25, 3) := by decide +kernel
theorem dX6_asleep_45 : decode cX6_asleep 45 = .ok (.iconst 5, 1) := by decide +kernel
theorem dX6_asleep_46 : decode cX6_asleep 46 = .ok (.iaload, 1) := by decide +kernel
theorem dX6_asleep_47 : decode cX6_asleep 47 = .ok (.if_icmp .ge 16, 3) := by decide +kernel
theorem dX6_asleep_50 : decode cX6_asleep 50 = .ok (.iload 5, 2) := by decide +kernel
theorem dX6_asleep_52 : decode cX6_asleep 52 = .ok (.bipush 10, 2) := by decide +kernel
theorem dX6_asleep_54 : decode cX6_asleep 54 = .ok (.imul, 1) := by decide +kernel
theorem dX6_asleep_55 : decode cX6_asleep 55 = .ok (.istore 5, 2) := by decide +kernel
theorem dX6_asleep_57 : decode cX6_asleep 57 = .ok (.iinc 6 1, 3) := by decide +kernel
theorem dX6_asleep_60 : decode cX6_asleep 60 = .ok (.goto (-21), 3) := by decide +kernel
theorem dX6_asleep_63 : decode cX6_asleep 63 = .ok (.iconst 0, 1) := by decide +kernel
theorem dX6_asleep_64 : decode cX6_asleep 64 = .ok (.istore 6, 2) := by decide +kernel
theorem dX6_asleep_66 : decode cX6_asleep 66 = .ok (.iload 6, 2) := by decide +kernel
theorem dX6_asleep_68 : decode cX6_asleep 68 = .ok (.iconst 1, 1) := by decide +kernel
theorem dX6_asleep_69 : decode cX6_asleep 69 = .ok (.aload_n 0, 1) := by decide +kernel
theorem dX6_asleep_70 : decode cX6_asleep 70 = .ok (.getfield 25, 3) := by decide +kernel
theorem dX6_asleep_73 : decode cX6_asleep 73 = .ok (.iconst 5, 1) := by decide +kernel
theorem dX6_asleep_74 : decode cX6_asleep 74 = .ok (.iaload, 1) := by decide +kernel
theorem dX6_asleep_75 : decode cX6_asleep 75 = .ok (.ishl, 1) := by decide +kernel
theorem dX6_asleep_76 : decode cX6_asleep 76 = .ok (.if_icmp .ge 84, 3) := by decide +kernel
theorem dX6_asleep_79 : decode cX6_asleep 79 = .ok (.iconst 1, 1) := by decide +kernel
theorem dX6_asleep_80 : decode cX6_asleep 80 = .ok (.istore 7, 2) := by decide +kernel
theorem dX6_asleep_82 : decode cX6_asleep 82 = .ok (.iconst 0, 1) := by decide +kernel
theorem dX6_asleep_83 : decode cX6_asleep 83 = .ok (.istore 8, 2) := by decide +kernel
theorem dX6_asleep_85 : decode cX6_asleep 85 = .ok (.iload 8, 2) := by decide +kernel
theorem dX6_asleep_87 : decode cX6_asleep 87 = .ok (.aload_n 0, 1) := by decide +kernel
theorem dX6_asleep_88 : decode cX6_asleep 88 = .ok (.getfield 25, 3) := by decide +kernel
theorem dX6_asleep_91 : decode cX6_asleep 91 = .ok (.iconst 5, 1) := by decide +kernel
theorem dX6_asleep_92 : decode cX6_asleep 92 = .ok (.iaload, 1) := by decide +kernel
theorem dX6_asleep_93 : decode cX6_asleep 93 = .ok (.if_icmp .ge 32, 3) := by decide +kernel
theorem dX6_asleep_96 : decode cX6_asleep 96 = .ok (.iload 7, 2) := by decide +kernel
theorem dX6_asleep_98 : decode cX6_asleep 98 = .ok (.iload 6, 2) := by decide +kernel
theorem dX6_asleep_100 : decode cX6_asleep 100 = .ok (.iload 8, 2) := by decide +kernel
theorem dX6_asleep_102 : decode cX6_asleep 102 = .ok (.invokestatic 152, 3) := by decide +kernel
theorem dX6_asleep_105 : decode cX6_asleep 105 = .ok (.ifCond .eq 7, 3) := by decide +kernel
theorem dX6_asleep_108 : decode cX6_asleep 108 = .ok (.iload_n 2, 1) := by decide +kernel
theorem dX6_asleep_109 : decode cX6_asleep 109 = .ok (.goto 7, 3) := by decide +kernel
theorem dX6_asleep_112 : decode cX6_asleep 112 = .ok (.bipush 10, 2) := by decide +kernel
theorem dX6_asleep_114 : decode cX6_asleep 114 = .ok (.iload_n 2, 1) := by decide +kernel
theorem dX6_asleep_115 : decode cX6_asleep 115 = .ok (.isub, 1) := by decide +kernel
theorem dX6_asleep_116 : decode cX6_asleep 116 = .ok (.imul, 1) := by decide +kernel
theorem dX6_asleep_117 : decode cX6_asleep 117 = .ok (.istore 7, 2) := by decide +kernel
theorem dX6_asleep_119 : decode cX6_asleep 119 = .ok (.iinc 8 1, 3) := by decide +kernel
theorem dX6_asleep_122 : decode cX6_asleep 122 = .ok (.goto (-37), 3) := by decide +kernel
theorem dX6_asleep_125 : decode cX6_asleep 125 = .ok (.aload_n 0, 1) := by decide +kernel
theorem dX6_asleep_126 : decode cX6_asleep 126 = .ok (.invokevirtual 221, 3) := by decide +kernel
theorem dX6_asleep_129 : decode cX6_asleep 129 = .ok (.aload_n 0, 1) := by decide +kernel
theorem dX6_asleep_130 : decode cX6_asleep 130 = .ok (.iload 6, 2) := by decide +kernel
theorem dX6_asleep_132 : decode cX6_asleep 132 = .ok (.putfield 212, 3) := by decide +kernel
theorem dX6_asleep_135 : decode cX6_asleep 135 = .ok (.iload 4, 2) := by decide +kernel
theorem dX6_asleep_137 : decode cX6_asleep 137 = .ok (.aload_n 0, 1) := by decide +kernel
theorem dX6_asleep_138 : decode cX6_asleep 138 = .ok (.invokevirtual 224, 3) := by decide +kernel
theorem dX6_asleep_141 : decode cX6_asleep 141 = .ok (.iload_n 1, 1) := by decide +kernel
theorem dX6_asleep_142 : decode cX6_asleep 142 = .ok (.if_icmp .ne 8, 3) := by decide +kernel
theorem dX6_asleep_145 : decode cX6_asleep 145 = .ok (.iload 7, 2) := by decide +kernel
theorem dX6_asleep_147 : decode cX6_asleep 147 = .ok (.goto 4, 3) := by decide +kernel
theorem dX6_asleep_150 : decode cX6_asleep 150 = .ok (.iconst 0, 1) := by decide +kernel
theorem dX6_asleep_151 : decode cX6_asleep 151 = .ok (.iadd, 1) := by decide +kernel
theorem dX6_asleep_152 : decode cX6_asleep 152 = .ok (.istore 4, 2) := by decide +kernel
theorem dX6_asleep_154 : decode cX6_asleep 154 = .ok (.iinc 6 1, 3) := by decide +kernel
theorem dX6_asleep_157 : decode cX6_asleep 157 = .ok (.goto (-91), 3) := by decide +kernel
theorem dX6_asleep_160 : decode cX6_asleep 160 = .ok (.iload 4, 2) := by decide +kernel
theorem dX6_asleep_162 : decode cX6_asleep 162 = .ok (.istore 6, 2) := by decide +kernel
theorem dX6_asleep_164 : decode cX6_asleep 164 = .ok (.iload 5, 2) := by decide +kernel
theorem dX6_asleep_166 : decode cX6_asleep 166 = .ok (.istore 7, 2) := by decide +kernel
theorem dX6_asleep_168 : decode cX6_asleep 168 = .ok (.iload 7, 2) := by decide +kernel
theorem dX6_asleep_170 : decode cX6_asleep 170 = .ok (.ifCond .eq 21, 3) := by decide +kernel
theorem dX6_asleep_173 : decode cX6_asleep 173 = .ok (.iload 6, 2) := by decide +kernel
theorem dX6_asleep_175 : decode cX6_asleep 175 = .ok (.iload 7, 2) := by decide +kernel
theorem dX6_asleep_177 : decode cX6_asleep 177 = .ok (.irem, 1) := by decide +kernel
theorem dX6_asleep_178 : decode cX6_asleep 178 = .ok (.istore 8, 2) := by decide +kernel
theorem dX6_asleep_180 : decode cX6_asleep 180 = .ok (.iload 7, 2) := by decide +kernel
theorem dX6_asleep_182 : decode cX6_asleep 182 = .ok (.istore 6, 2) := by decide +kernel
theorem dX6_asleep_184 : decode cX6_asleep 184 = .ok (.iload 8, 2) := by decide +kernel
theorem dX6_asleep_186 : decode cX6_asleep 186 = .ok (.istore 7, 2) := by decide +kernel
theorem dX6_asleep_188 : decode cX6_asleep 188 = .ok (.goto (-20), 3) := by decide +kernel
theorem dX6_asleep_191 : decode cX6_asleep 191 = .ok (.iload_n 3, 1) := by decide +kernel
theorem dX6_asleep_192 : decode cX6_asleep 192 = .ok (.ifCond .ne 8, 3) := by decide +kernel
theorem dX6_asleep_195 : decode cX6_asleep 195 = .ok (.iload 4, 2) := by decide +kernel
theorem dX6_asleep_197 : decode cX6_asleep 197 = .ok (.goto 5, 3) := by decide +kernel
theorem dX6_asleep_200 : decode cX6_asleep 200 = .ok (.iload 5, 2) := by decide +kernel
theorem dX6_asleep_202 : decode cX6_asleep 202 = .ok (.iload 6, 2) := by decide +kernel
theorem dX6_asleep_204 : decode cX6_asleep 204 = .ok (.idiv, 1) := by decide +kernel
theorem dX6_asleep_205 : decode cX6_asleep 205 = .ok (.ireturn, 1) := by decide +kernel
set_option maxRecDepth 20000 in
theorem ggX6_drawn_X6_isTown : GoodIn wsX6_drawn wsX6_isTown := goodIn_ids iaX6_drawn iaX6_isTown haX6_drawn haX6_isTown imX6_drawn hmX6_drawn (by decide +kernel) (by decide +kernel)
set_option maxRecDepth 20000 in
theorem gX6_drawn_X6_isTown : GoodIn wsX6_drawn (wsV RX6 182 RX6 yX6_isTown wsX6_isTown) := goodIn_app (goodIn_ids iaX6_drawn [1025, 1027, 50, 77] haX6_drawn rfl imX6_drawn hmX6_drawn (by decide +kernel) (by decide +kernel)) ggX6_drawn_X6_isTown
set_option maxRecDepth 20000 in
theorem ggX6_drawn_X6_in : GoodIn wsX6_drawn wsX6_in := goodIn_ids iaX6_drawn iaX6_in haX6_drawn haX6_in imX6_drawn hmX6_drawn (by decide +kernel) (by decide +kernel)
set_option maxRecDepth 20000 in
theorem gX6_drawn_X6_in : GoodIn wsX6_drawn (va_wsS RX6 56 yX6_in wsX6_in) := goodIn_app (goodIn_ids iaX6_drawn [929, 930, 77] haX6_drawn rfl imX6_drawn hmX6_drawn (by decide +kernel) (by decide +kernel)) ggX6_drawn_X6_in
set_option maxRecDepth 20000 in
theorem ggX6_drawn_X6_tries : GoodIn wsX6_drawn wsX6_tries := goodIn_ids iaX6_drawn iaX6_tries haX6_drawn haX6_tries imX6_drawn hmX6_drawn (by decide +kernel) (by decide +kernel)
set_option maxRecDepth 20000 in
theorem gX6_drawn_X6_tries : GoodIn wsX6_drawn (wsV RX6 221 RX6 yX6_tries wsX6_tries) := goodIn_app (goodIn_ids iaX6_drawn [1123, 1125, 57, 77] haX6_drawn rfl imX6_drawn hmX6_drawn (by decide +kernel) (by decide +kernel)) ggX6_drawn_X6_tries
set_option maxRecDepth 20000 in
theorem ggX6_drawn_X6_steps : GoodIn wsX6_drawn wsX6_steps := goodIn_ids iaX6_drawn iaX6_steps haX6_drawn haX6_steps imX6_drawn hmX6_drawn (by decide +kernel) (by decide +kernel)
set_option maxRecDepth 20000 in
theorem gX6_drawn_X6_steps : GoodIn wsX6_drawn (va_wsS RX6 174 yX6_steps wsX6_steps) := goodIn_app (goodIn_ids iaX6_drawn [1037, 1038, 77] haX6_drawn rfl imX6_drawn hmX6_drawn (by decide +kernel) (by decide +kernel)) ggX6_drawn_X6_steps
set_option maxRecDepth 20000 in
theorem ggX6_drawn_X6_rings : GoodIn wsX6_drawn wsX6_rings := goodIn_ids iaX6_drawn iaX6_rings haX6_drawn haX6_rings imX6_drawn hmX6_drawn (by decide +kernel) (by decide +kernel)
set_option maxRecDepth 20000 in
theorem gX6_drawn_X6_rings : GoodIn wsX6_drawn (va_wsS RX6 178 yX6_rings wsX6_rings) := goodIn_app (goodIn_ids iaX6_drawn [1061, 1062, 77] haX6_drawn rfl imX6_drawn hmX6_drawn (by decide +kernel) (by decide +kernel)) ggX6_drawn_X6_rings
theorem dX6_drawn_0 : decode cX6_drawn 0 = .ok (.aload_n 0, 1) := by decide +kernel
theorem dX6_drawn_1 : decode cX6_drawn 1 = .ok (.invokevirtual 182, 3) := by decide +kernel
theorem dX6_drawn_4 : decode cX6_drawn 4 = .ok (.ifCond .ne 6, 3) := by decide +kernel
theorem dX6_drawn_7 : decode cX6_drawn 7 = .ok (.ldc 185, 2) := by decide +kernel
theorem dX6_drawn_9 : decode cX6_drawn 9 = .ok (.ireturn, 1) := by decide +kernel
theorem dX6_drawn_10 : decode cX6_drawn 10 = .ok (.iload_n 1, 1) := by decide +kernel
theorem dX6_drawn_11 : decode cX6_drawn 11 = .ok (.iconst 0, 1) := by decide +kernel
theorem dX6_drawn_12 : decode cX6_drawn 12 = .ok (.bipush 9, 2) := by decide +kernel
theorem dX6_drawn_14 : decode cX6_drawn 14 = .ok (.invokestatic 56, 3) := by decide +kernel
theorem dX6_drawn_17 : decode cX6_drawn 17 = .ok (.ifCond .eq 22, 3) := by decide +kernel
theorem dX6_drawn_20 : decode cX6_drawn 20 = .ok (.iload_n 2, 1) := by decide +kernel
theorem dX6_drawn_21 : decode cX6_drawn 21 = .ok (.iconst 1, 1) := by decide +kernel
theorem dX6_drawn_22 : decode cX6_drawn 22 = .ok (.ldc 242, 2) := by decide +kernel
theorem dX6_drawn_24 : decode cX6_drawn 24 = .ok (.invokestatic 56, 3) := by decide +kernel
theorem dX6_drawn_27 : decode cX6_drawn 27 = .ok (.ifCond .eq 12, 3) := by decide +kernel
theorem dX6_drawn_30 : decode cX6_drawn 30 = .ok (.iload_n 3, 1) := by decide +kernel
theorem dX6_drawn_31 : decode cX6_drawn 31 = .ok (.iconst 0, 1) := by decide +kernel
theorem dX6_drawn_32 : decode cX6_drawn 32 = .ok (.iconst 1, 1) := by decide +kernel
theorem dX6_drawn_33 : decode cX6_drawn 33 = .ok (.invokestatic 56, 3) := by decide +kernel
theorem dX6_drawn_36 : decode cX6_drawn 36 = .ok (.ifCond .ne 6, 3) := by decide +kernel
theorem dX6_drawn_39 : decode cX6_drawn 39 = .ok (.ldc 64, 2) := by decide +kernel
theorem dX6_drawn_41 : decode cX6_drawn 41 = .ok (.ireturn, 1) := by decide +kernel
theorem dX6_drawn_42 : decode cX6_drawn 42 = .ok (.aload_n 0, 1) := by decide +kernel
theorem dX6_drawn_43 : decode cX6_drawn 43 = .ok (.invokevirtual 221, 3) := by decide +kernel
theorem dX6_drawn_46 : decode cX6_drawn 46 = .ok (.iconst 0, 1) := by decide +kernel
theorem dX6_drawn_47 : decode cX6_drawn 47 = .ok (.istore 4, 2) := by decide +kernel
theorem dX6_drawn_49 : decode cX6_drawn 49 = .ok (.iload 4, 2) := by decide +kernel
theorem dX6_drawn_51 : decode cX6_drawn 51 = .ok (.iconst 5, 1) := by decide +kernel
theorem dX6_drawn_52 : decode cX6_drawn 52 = .ok (.if_icmp .ge 17, 3) := by decide +kernel
theorem dX6_drawn_55 : decode cX6_drawn 55 = .ok (.aload_n 0, 1) := by decide +kernel
theorem dX6_drawn_56 : decode cX6_drawn 56 = .ok (.getfield 44, 3) := by decide +kernel
theorem dX6_drawn_59 : decode cX6_drawn 59 = .ok (.iload 4, 2) := by decide +kernel
theorem dX6_drawn_61 : decode cX6_drawn 61 = .ok (.iconst 0, 1) := by decide +kernel
theorem dX6_drawn_62 : decode cX6_drawn 62 = .ok (.iastore, 1) := by decide +kernel
theorem dX6_drawn_63 : decode cX6_drawn 63 = .ok (.iinc 4 1, 3) := by decide +kernel
theorem dX6_drawn_66 : decode cX6_drawn 66 = .ok (.goto (-17), 3) := by decide +kernel
theorem dX6_drawn_69 : decode cX6_drawn 69 = .ok (.iload_n 2, 1) := by decide +kernel
theorem dX6_drawn_70 : decode cX6_drawn 70 = .ok (.i2l, 1) := by decide +kernel
theorem dX6_drawn_71 : decode cX6_drawn 71 = .ok (.lstore 4, 2) := by decide +kernel
theorem dX6_drawn_73 : decode cX6_drawn 73 = .ok (.iconst 0, 1) := by decide +kernel
theorem dX6_drawn_74 : decode cX6_drawn 74 = .ok (.istore 6, 2) := by decide +kernel
theorem dX6_drawn_76 : decode cX6_drawn 76 = .ok (.iconst 0, 1) := by decide +kernel
theorem dX6_drawn_77 : decode cX6_drawn 77 = .ok (.istore 7, 2) := by decide +kernel
theorem dX6_drawn_79 : decode cX6_drawn 79 = .ok (.iload 7, 2) := by decide +kernel
theorem dX6_drawn_81 : decode cX6_drawn 81 = .ok (.iload_n 1, 1) := by decide +kernel
theorem dX6_drawn_82 : decode cX6_drawn 82 = .ok (.if_icmp .ge 136, 3) := by decide +kernel
theorem dX6_drawn_85 : decode cX6_drawn 85 = .ok (.lload 4, 2) := by decide +kernel
theorem dX6_drawn_87 : decode cX6_drawn 87 = .ok (.ldc2_w 243, 3) := by decide +kernel
theorem dX6_drawn_90 : decode cX6_drawn 90 = .ok (.lmul, 1) := by decide +kernel
theorem dX6_drawn_91 : decode cX6_drawn 91 = .ok (.ldc2_w 245, 3) := by decide +kernel
theorem dX6_drawn_94 : decode cX6_drawn 94 = .ok (.lrem, 1) := by decide +kernel
theorem dX6_drawn_95 : decode cX6_drawn 95 = .ok (.lstore 4, 2) := by decide +kernel
theorem dX6_drawn_97 : decode cX6_drawn 97 = .ok (.aload_n 0, 1) := by decide +kernel
theorem dX6_drawn_98 : decode cX6_drawn 98 = .ok (.getfield 31, 3) := by decide +kernel
theorem dX6_drawn_101 : decode cX6_drawn 101 = .ok (.bipush 6, 2) := by decide +kernel
theorem dX6_drawn_103 : decode cX6_drawn 103 = .ok (.bipush 6, 2) := by decide +kernel
theorem dX6_drawn_105 : decode cX6_drawn 105 = .ok (.lload 4, 2) := by decide +kernel
theorem dX6_drawn_107 : decode cX6_drawn 107 = .ok (.aload_n 0, 1) := by decide +kernel
theorem dX6_drawn_108 : decode cX6_drawn 108 = .ok (.getfield 25, 3) := by decide +kernel
theorem dX6_drawn_111 : decode cX6_drawn 111 = .ok (.iconst 4, 1) := by decide +kernel
theorem dX6_drawn_112 : decode cX6_drawn 112 = .ok (.iaload, 1) := by decide +kernel
theorem dX6_drawn_113 : decode cX6_drawn 113 = .ok (.i2l, 1) := by decide +kernel
theorem dX6_drawn_114 : decode cX6_drawn 114 = .ok (.lrem, 1) := by decide +kernel
theorem dX6_drawn_115 : decode cX6_drawn 115 = .ok (.l2i, 1) := by decide +kernel
theorem dX6_drawn_116 : decode cX6_drawn 116 = .ok (.imul, 1) := by decide +kernel
theorem dX6_drawn_117 : decode cX6_drawn 117 = .ok (.iadd, 1) := by decide +kernel
theorem dX6_drawn_118 : decode cX6_drawn 118 = .ok (.iconst 3, 1) := by decide +kernel
theorem dX6_drawn_119 : decode cX6_drawn 119 = .ok (.iadd, 1) := by decide +kernel
theorem dX6_drawn_120 : decode cX6_drawn 120 = .ok (.lload 4, 2) := by decide +kernel
theorem dX6_drawn_122 : decode cX6_drawn 122 = .ok (.ldc2_w 247, 3) := by decide +kernel
theorem dX6_drawn_125 : decode cX6_drawn 125 = .ok (.lrem, 1) := by decide +kernel
theorem dX6_drawn_126 : decode cX6_drawn 126 = .ok (.l2i, 1) := by decide +kernel
theorem dX6_drawn_127 : decode cX6_drawn 127 = .ok (.iastore, 1) := by decide +kernel
theorem dX6_drawn_128 : decode cX6_drawn 128 = .ok (.aload_n 0, 1) := by decide +kernel
theorem dX6_drawn_129 : decode cX6_drawn 129 = .ok (.getfield 31, 3) := by decide +kernel
theorem dX6_drawn_132 : decode cX6_drawn 132 = .ok (.iconst 0, 1) := by decide +kernel
theorem dX6_drawn_133 : decode cX6_drawn 133 = .ok (.iconst 0, 1) := by decide +kernel
theorem dX6_drawn_134 : decode cX6_drawn 134 = .ok (.iconst 0, 1) := by decide +kernel
theorem dX6_drawn_135 : decode cX6_drawn 135 = .ok (.invokestatic 174, 3) := by decide +kernel
theorem dX6_drawn_138 : decode cX6_drawn 138 = .ok (.aload_n 0, 1) := by decide +kernel
theorem dX6_drawn_139 : decode cX6_drawn 139 = .ok (.getfield 31, 3) := by decide +kernel
theorem dX6_drawn_142 : decode cX6_drawn 142 = .ok (.iconst 3, 1) := by decide +kernel
theorem dX6_drawn_143 : decode cX6_drawn 143 = .ok (.iaload, 1) := by decide +kernel
theorem dX6_drawn_144 : decode cX6_drawn 144 = .ok (.aload_n 0, 1) := by decide +kernel
theorem dX6_drawn_145 : decode cX6_drawn 145 = .ok (.getfield 31, 3) := by decide +kernel
theorem dX6_drawn_148 : decode cX6_drawn 148 = .ok (.iconst 1, 1) := by decide +kernel
theorem dX6_drawn_149 : decode cX6_drawn 149 = .ok (.iaload, 1) := by decide +kernel
theorem dX6_drawn_150 : decode cX6_drawn 150 = .ok (.if_icmp .ne (-71), 3) := by decide +kernel
theorem dX6_drawn_153 : decode cX6_drawn 153 = .ok (.aload_n 0, 1) := by decide +kernel
theorem dX6_drawn_154 : decode cX6_drawn 154 = .ok (.getfield 31, 3) := by decide +kernel
theorem dX6_drawn_157 : decode cX6_drawn 157 = .ok (.invokestatic 178, 3) := by decide +kernel
theorem dX6_drawn_160 : decode cX6_drawn 160 = .ok (.istore 8, 2) := by decide +kernel
theorem dX6_drawn_162 : decode cX6_drawn 162 = .ok (.iload 6, 2) := by decide +kernel
theorem dX6_drawn_164 : decode cX6_drawn 164 = .ok (.iload 8, 2) := by decide +kernel
theorem dX6_drawn_166 : decode cX6_drawn 166 = .ok (.ldc 50, 2) := by decide +kernel
theorem dX6_drawn_168 : decode cX6_drawn 168 = .ok (.if_icmp .ne 7, 3) := by decide +kernel
theorem dX6_drawn_171 : decode cX6_drawn 171 = .ok (.iconst 1, 1) := by decide +kernel
theorem dX6_drawn_172 : decode cX6_drawn 172 = .ok (.goto 4, 3) := by decide +kernel
theorem dX6_drawn_175 : decode cX6_drawn 175 = .ok (.iconst 0, 1) := by decide +kernel
theorem dX6_drawn_176 : decode cX6_drawn 176 = .ok (.iadd, 1) := by decide +kernel
theorem dX6_drawn_177 : decode cX6_drawn 177 = .ok (.istore 6, 2) := by decide +kernel
theorem dX6_drawn_179 : decode cX6_drawn 179 = .ok (.aload_n 0, 1) := by decide +kernel
theorem dX6_drawn_180 : decode cX6_drawn 180 = .ok (.getfield 44, 3) := by decide +kernel
theorem dX6_drawn_183 : decode cX6_drawn 183 = .ok (.iload 8, 2) := by decide +kernel
theorem dX6_drawn_185 : decode cX6_drawn 185 = .ok (.ldc 50, 2) := by decide +kernel
theorem dX6_drawn_187 : decode cX6_drawn 187 = .ok (.if_icmp .ne 7, 3) := by decide +kernel
theorem dX6_drawn_190 : decode cX6_drawn 190 = .ok (.iconst 0, 1) := by decide +kernel
theorem dX6_drawn_191 : decode cX6_drawn 191 = .ok (.goto 5, 3) := by decide +kernel
theorem dX6_drawn_194 : decode cX6_drawn 194 = .ok (.iload 8, 2) := by decide +kernel
theorem dX6_drawn_196 : decode cX6_drawn 196 = .ok (.dup2, 1) := by decide +kernel
theorem dX6_drawn_197 : decode cX6_drawn 197 = .ok (.iaload, 1) := by decide +kernel
theorem dX6_drawn_198 : decode cX6_drawn 198 = .ok (.iload 8, 2) := by decide +kernel
theorem dX6_drawn_200 : decode cX6_drawn 200 = .ok (.ldc 50, 2) := by decide +kernel
theorem dX6_drawn_202 : decode cX6_drawn 202 = .ok (.if_icmp .ne 7, 3) := by decide +kernel
theorem dX6_drawn_205 : decode cX6_drawn 205 = .ok (.iconst 0, 1) := by decide +kernel
theorem dX6_drawn_206 : decode cX6_drawn 206 = .ok (.goto 4, 3) := by decide +kernel
theorem dX6_drawn_209 : decode cX6_drawn 209 = .ok (.iconst 1, 1) := by decide +kernel
theorem dX6_drawn_210 : decode cX6_drawn 210 = .ok (.iadd, 1) := by decide +kernel
theorem dX6_drawn_211 : decode cX6_drawn 211 = .ok (.iastore, 1) := by decide +kernel
theorem dX6_drawn_212 : decode cX6_drawn 212 = .ok (.iinc 7 1, 3) := by decide +kernel
theorem dX6_drawn_215 : decode cX6_drawn 215 = .ok (.goto (-136), 3) := by decide +kernel
theorem dX6_drawn_218 : decode cX6_drawn 218 = .ok (.ldc 50, 2) := by decide +kernel
theorem dX6_drawn_220 : decode cX6_drawn 220 = .ok (.istore 8, 2) := by decide +kernel
theorem dX6_drawn_222 : decode cX6_drawn 222 = .ok (.iconst 0, 1) := by decide +kernel
theorem dX6_drawn_223 : decode cX6_drawn 223 = .ok (.istore 9, 2) := by decide +kernel
theorem dX6_drawn_225 : decode cX6_drawn 225 = .ok (.iload 9, 2) := by decide +kernel
theorem dX6_drawn_227 : decode cX6_drawn 227 = .ok (.iconst 5, 1) := by decide +kernel
theorem dX6_drawn_228 : decode cX6_drawn 228 = .ok (.if_icmp .ge 46, 3) := by decide +kernel
theorem dX6_drawn_231 : decode cX6_drawn 231 = .ok (.aload_n 0, 1) := by decide +kernel
theorem dX6_drawn_232 : decode cX6_drawn 232 = .ok (.getfield 44, 3) := by decide +kernel
theorem dX6_drawn_235 : decode cX6_drawn 235 = .ok (.iload 9, 2) := by decide +kernel
theorem dX6_drawn_237 : decode cX6_drawn 237 = .ok (.iaload, 1) := by decide +kernel
theorem dX6_drawn_238 : decode cX6_drawn 238 = .ok (.iload 8, 2) := by decide +kernel
theorem dX6_drawn_240 : decode cX6_drawn 240 = .ok (.ldc 50, 2) := by decide +kernel
theorem dX6_drawn_242 : decode cX6_drawn 242 = .ok (.if_icmp .ne 7, 3) := by decide +kernel
theorem dX6_drawn_245 : decode cX6_drawn 245 = .ok (.iconst 0, 1) := by decide +kernel
theorem dX6_drawn_246 : decode cX6_drawn 246 = .ok (.goto 10, 3) := by decide +kernel
theorem dX6_drawn_249 : decode cX6_drawn 249 = .ok (.aload_n 0, 1) := by decide +kernel
theorem dX6_drawn_250 : decode cX6_drawn 250 = .ok (.getfield 44, 3) := by decide +kernel
theorem dX6_drawn_253 : decode cX6_drawn 253 = .ok (.iload 8, 2) := by decide +kernel
theorem dX6_drawn_255 : decode cX6_drawn 255 = .ok (.iaload, 1) := by decide +kernel
theorem dX6_drawn_256 : decode cX6_drawn 256 = .ok (.if_icmp .le 8, 3) := by decide +kernel
theorem dX6_drawn_259 : decode cX6_drawn 259 = .ok (.iload 9, 2) := by decide +kernel
theorem dX6_drawn_261 : decode cX6_drawn 261 = .ok (.goto 5, 3) := by decide +kernel
theorem dX6_drawn_264 : decode cX6_drawn 264 = .ok (.iload 8, 2) := by decide +kernel
theorem dX6_drawn_266 : decode cX6_drawn 266 = .ok (.istore 8, 2) := by decide +kernel
theorem dX6_drawn_268 : decode cX6_drawn 268 = .ok (.iinc 9 1, 3) := by decide +kernel
theorem dX6_drawn_271 : decode cX6_drawn 271 = .ok (.goto (-46), 3) := by decide +kernel
theorem dX6_drawn_274 : decode cX6_drawn 274 = .ok (.iload_n 3, 1) := by decide +kernel
theorem dX6_drawn_275 : decode cX6_drawn 275 = .ok (.ifCond .ne 8, 3) := by decide +kernel
theorem dX6_drawn_278 : decode cX6_drawn 278 = .ok (.iload 6, 2) := by decide +kernel
theorem dX6_drawn_280 : decode cX6_drawn 280 = .ok (.goto 5, 3) := by decide +kernel
theorem dX6_drawn_283 : decode cX6_drawn 283 = .ok (.iload 8, 2) := by decide +kernel
theorem dX6_drawn_285 : decode cX6_drawn 285 = .ok (.ireturn, 1) := by decide +kernel
set_option maxRecDepth 20000 in
theorem ggX6_image_X6_in : GoodIn wsX6_image wsX6_in := goodIn_ids iaX6_image iaX6_in haX6_image haX6_in imX6_image hmX6_image (by decide +kernel) (by decide +kernel)
set_option maxRecDepth 20000 in
theorem gX6_image_X6_in : GoodIn wsX6_image (va_wsS RX6 56 yX6_in wsX6_in) := goodIn_app (goodIn_ids iaX6_image [929, 930, 77] haX6_image rfl imX6_image hmX6_image (by decide +kernel) (by decide +kernel)) ggX6_image_X6_in
set_option maxRecDepth 20000 in
theorem ggX6_image_X6_isTown : GoodIn wsX6_image wsX6_isTown := goodIn_ids iaX6_image iaX6_isTown haX6_image haX6_isTown imX6_image hmX6_image (by decide +kernel) (by decide +kernel)
set_option maxRecDepth 20000 in
theorem gX6_image_X6_isTown : GoodIn wsX6_image (wsV RX6 182 RX6 yX6_isTown wsX6_isTown) := goodIn_app (goodIn_ids iaX6_image [1025, 1027, 50, 77] haX6_image rfl imX6_image hmX6_image (by decide +kernel) (by decide +kernel)) ggX6_image_X6_isTown
set_option maxRecDepth 20000 in
theorem ggX6_image_X6_copies : GoodIn wsX6_image wsX6_copies := goodIn_ids iaX6_image iaX6_copies haX6_image haX6_copies imX6_image hmX6_image (by decide +kernel) (by decide +kernel)
set_option maxRecDepth 20000 in
theorem gX6_image_X6_copies : GoodIn wsX6_image (va_wsS RX6 138 yX6_copies wsX6_copies) := goodIn_app (goodIn_ids iaX6_image [1014, 1015, 77] haX6_image rfl imX6_image hmX6_image (by decide +kernel) (by decide +kernel)) ggX6_image_X6_copies
theorem dX6_image_0 : decode cX6_image 0 = .ok (.iload_n 1, 1) := by decide +kernel
theorem dX6_image_1 : decode cX6_image 1 = .ok (.iconst 0, 1) := by decide +kernel
theorem dX6_image_2 : decode cX6_image 2 = .ok (.iconst 1, 1) := by decide +kernel
theorem dX6_image_3 : decode cX6_image 3 = .ok (.invokestatic 56, 3) := by decide +kernel
theorem dX6_image_6 : decode cX6_image 6 = .ok (.ifCond .ne 6, 3) := by decide +kernel
theorem dX6_image_9 : decode cX6_image 9 = .ok (.ldc 64, 2) := by decide +kernel
theorem dX6_image_11 : decode cX6_image 11 = .ok (.ireturn, 1) := by decide +kernel
theorem dX6_image_12 : decode cX6_image 12 = .ok (.aload_n 0, 1) := by decide +kernel
theorem dX6_image_13 : decode cX6_image 13 = .ok (.invokevirtual 182, 3) := by decide +kernel
theorem dX6_image_16 : decode cX6_image 16 = .ok (.ifCond .ne 6, 3) := by decide +kernel
theorem dX6_image_19 : decode cX6_image 19 = .ok (.ldc 185, 2) := by decide +kernel
theorem dX6_image_21 : decode cX6_image 21 = .ok (.ireturn, 1) := by decide +kernel
theorem dX6_image_22 : decode cX6_image 22 = .ok (.aload_n 0, 1) := by decide +kernel
theorem dX6_image_23 : decode cX6_image 23 = .ok (.getfield 25, 3) := by decide +kernel
theorem dX6_image_26 : decode cX6_image 26 = .ok (.iconst 0, 1) := by decide +kernel
theorem dX6_image_27 : decode cX6_image 27 = .ok (.aload_n 0, 1) := by decide +kernel
theorem dX6_image_28 : decode cX6_image 28 = .ok (.getfield 37, 3) := by decide +kernel
theorem dX6_image_31 : decode cX6_image 31 = .ok (.bipush 54, 2) := by decide +kernel
theorem dX6_image_33 : decode cX6_image 33 = .ok (.iload_n 1, 1) := by decide +kernel
theorem dX6_image_34 : decode cX6_image 34 = .ok (.imul, 1) := by decide +kernel
theorem dX6_image_35 : decode cX6_image 35 = .ok (.invokestatic 138, 3) := by decide +kernel
theorem dX6_image_38 : decode cX6_image 38 = .ok (.aload_n 0, 1) := by decide +kernel
theorem dX6_image_39 : decode cX6_image 39 = .ok (.getfield 40, 3) := by decide +kernel
theorem dX6_image_42 : decode cX6_image 42 = .ok (.iload_n 1, 1) := by decide +kernel
theorem dX6_image_43 : decode cX6_image 43 = .ok (.iconst 1, 1) := by decide +kernel
theorem dX6_image_44 : decode cX6_image 44 = .ok (.bastore, 1) := by decide +kernel
theorem dX6_image_45 : decode cX6_image 45 = .ok (.iconst 1, 1) := by decide +kernel
theorem dX6_image_46 : decode cX6_image 46 = .ok (.ireturn, 1) := by decide +kernel
set_option maxRecDepth 20000 in
theorem ggX6_restore_X6_in : GoodIn wsX6_restore wsX6_in := goodIn_ids iaX6_restore iaX6_in haX6_restore haX6_in imX6_restore hmX6_restore (by decide +kernel) (by decide +kernel)
set_option maxRecDepth 20000 in
theorem gX6_restore_X6_in : GoodIn wsX6_restore (va_wsS RX6 56 yX6_in wsX6_in) := goodIn_app (goodIn_ids iaX6_restore [929, 930, 77] haX6_restore rfl imX6_restore hmX6_restore (by decide +kernel) (by decide +kernel)) ggX6_restore_X6_in
set_option maxRecDepth 20000 in
theorem ggX6_restore_X6_copies : GoodIn wsX6_restore wsX6_copies := goodIn_ids iaX6_restore iaX6_copies haX6_restore haX6_copies imX6_restore hmX6_restore (by decide +kernel) (by decide +kernel)
set_option maxRecDepth 20000 in
theorem gX6_restore_X6_copies : GoodIn wsX6_restore (va_wsS RX6 138 yX6_copies wsX6_copies) := goodIn_app (goodIn_ids iaX6_restore [1014, 1015, 77] haX6_restore rfl imX6_restore hmX6_restore (by decide +kernel) (by decide +kernel)) ggX6_restore_X6_copies
theorem dX6_restore_0 : decode cX6_restore 0 = .ok (.iload_n 1, 1) := by decide +kernel
theorem dX6_restore_1 : decode cX6_restore 1 = .ok (.iconst 0, 1) := by decide +kernel
theorem dX6_restore_2 : decode cX6_restore 2 = .ok (.iconst 1, 1) := by decide +kernel
theorem dX6_restore_3 : decode cX6_restore 3 = .ok (.invokestatic 56, 3) := by decide +kernel
theorem dX6_restore_6 : decode cX6_restore 6 = .ok (.ifCond .ne 6, 3) := by decide +kernel
theorem dX6_restore_9 : decode cX6_restore 9 = .ok (.ldc 64, 2) := by decide +kernel
theorem dX6_restore_11 : decode cX6_restore 11 = .ok (.ireturn, 1) := by decide +kernel
theorem dX6_restore_12 : decode cX6_restore 12 = .ok (.aload_n 0, 1) := by decide +kernel
theorem dX6_restore_13 : decode cX6_restore 13 = .ok (.getfield 40, 3) := by decide +kernel
theorem dX6_restore_16 : decode cX6_restore 16 = .ok (.iload_n 1, 1) := by decide +kernel
theorem dX6_restore_17 : decode cX6_restore 17 = .ok (.baload, 1) := by decide +kernel
theorem dX6_restore_18 : decode cX6_restore 18 = .ok (.ifCond .ne 6, 3) := by decide +kernel
theorem dX6_restore_21 : decode cX6_restore 21 = .ok (.ldc 185, 2) := by decide +kernel
theorem dX6_restore_23 : decode cX6_restore 23 = .ok (.ireturn, 1) := by decide +kernel
theorem dX6_restore_24 : decode cX6_restore 24 = .ok (.aload_n 0, 1) := by decide +kernel
theorem dX6_restore_25 : decode cX6_restore 25 = .ok (.getfield 37, 3) := by decide +kernel
theorem dX6_restore_28 : decode cX6_restore 28 = .ok (.bipush 54, 2) := by decide +kernel
theorem dX6_restore_30 : decode cX6_restore 30 = .ok (.iload_n 1, 1) := by decide +kernel
theorem dX6_restore_31 : decode cX6_restore 31 = .ok (.imul, 1) := by decide +kernel
theorem dX6_restore_32 : decode cX6_restore 32 = .ok (.aload_n 0, 1) := by decide +kernel
theorem dX6_restore_33 : decode cX6_restore 33 = .ok (.getfield 25, 3) := by decide +kernel
theorem dX6_restore_36 : decode cX6_restore 36 = .ok (.iconst 0, 1) := by decide +kernel
theorem dX6_restore_37 : decode cX6_restore 37 = .ok (.invokestatic 138, 3) := by decide +kernel
theorem dX6_restore_40 : decode cX6_restore 40 = .ok (.aload_n 0, 1) := by decide +kernel
theorem dX6_restore_41 : decode cX6_restore 41 = .ok (.iconst 0, 1) := by decide +kernel
theorem dX6_restore_42 : decode cX6_restore 42 = .ok (.putfield 142, 3) := by decide +kernel
theorem dX6_restore_45 : decode cX6_restore 45 = .ok (.iconst 1, 1) := by decide +kernel
theorem dX6_restore_46 : decode cX6_restore 46 = .ok (.ireturn, 1) := by decide +kernel
theorem dX6_kindIn_0 : decode cX6_kindIn 0 = .ok (.aload_n 0, 1) := by decide +kernel
theorem dX6_kindIn_1 : decode cX6_kindIn 1 = .ok (.getfield 25, 3) := by decide +kernel
theorem dX6_kindIn_4 : decode cX6_kindIn 4 = .ok (.bipush 36, 2) := by decide +kernel
theorem dX6_kindIn_6 : decode cX6_kindIn 6 = .ok (.iconst 3, 1) := by decide +kernel
theorem dX6_kindIn_7 : decode cX6_kindIn 7 = .ok (.iload_n 1, 1) := by decide +kernel
theorem dX6_kindIn_8 : decode cX6_kindIn 8 = .ok (.imul, 1) := by decide +kernel
theorem dX6_kindIn_9 : decode cX6_kindIn 9 = .ok (.iadd, 1) := by decide +kernel
theorem dX6_kindIn_10 : decode cX6_kindIn 10 = .ok (.iaload, 1) := by decide +kernel
theorem dX6_kindIn_11 : decode cX6_kindIn 11 = .ok (.ireturn, 1) := by decide +kernel
set_option maxRecDepth 20000 in
theorem ggX6_kind_X6_isDog : GoodIn wsX6_kind wsX6_isDog := goodIn_ids iaX6_kind iaX6_isDog haX6_kind haX6_isDog imX6_kind hmX6_kind (by decide +kernel) (by decide +kernel)
set_option maxRecDepth 20000 in
theorem gX6_kind_X6_isDog : GoodIn wsX6_kind (wsV RX6 196 RX6 yX6_isDog wsX6_isDog) := goodIn_app (goodIn_ids iaX6_kind [1083, 1085, 53, 77] haX6_kind rfl imX6_kind hmX6_kind (by decide +kernel) (by decide +kernel)) ggX6_kind_X6_isDog
set_option maxRecDepth 20000 in
theorem ggX6_kind_X6_kindIn : GoodIn wsX6_kind wsX6_kindIn := goodIn_ids iaX6_kind iaX6_kindIn haX6_kind haX6_kindIn imX6_kind hmX6_kind (by decide +kernel) (by decide +kernel)
set_option maxRecDepth 20000 in
theorem gX6_kind_X6_kindIn : GoodIn wsX6_kind (wsV RX6 249 RX6 yX6_kindIn wsX6_kindIn) := goodIn_app (goodIn_ids iaX6_kind [1210, 1212, 63, 77] haX6_kind rfl imX6_kind hmX6_kind (by decide +kernel) (by decide +kernel)) ggX6_kind_X6_kindIn
theorem dX6_kind_0 : decode cX6_kind 0 = .ok (.aload_n 0, 1) := by decide +kernel
theorem dX6_kind_1 : decode cX6_kind 1 = .ok (.iload_n 1, 1) := by decide +kernel
theorem dX6_kind_2 : decode cX6_kind 2 = .ok (.invokevirtual 196, 3) := by decide +kernel
theorem dX6_kind_5 : decode cX6_kind 5 = .ok (.ifCond .eq 11, 3) := by decide +kernel
theorem dX6_kind_8 : decode cX6_kind 8 = .ok (.aload_n 0, 1) := by decide +kernel
theorem dX6_kind_9 : decode cX6_kind 9 = .ok (.iload_n 1, 1) := by decide +kernel
theorem dX6_kind_10 : decode cX6_kind 10 = .ok (.invokevirtual 249, 3) := by decide +kernel
theorem dX6_kind_13 : decode cX6_kind 13 = .ok (.goto 5, 3) := by decide +kernel
theorem dX6_kind_16 : decode cX6_kind 16 = .ok (.ldc 64, 2) := by decide +kernel
theorem dX6_kind_18 : decode cX6_kind 18 = .ok (.ireturn, 1) := by decide +kernel
set_option maxRecDepth 20000 in
theorem ggX6_as_X6_isDog : GoodIn wsX6_as wsX6_isDog := goodIn_ids iaX6_as iaX6_isDog haX6_as haX6_isDog imX6_as hmX6_as (by decide +kernel) (by decide +kernel)
set_option maxRecDepth 20000 in
theorem gX6_as_X6_isDog : GoodIn wsX6_as (wsV RX6 196 RX6 yX6_isDog wsX6_isDog) := goodIn_app (goodIn_ids iaX6_as [1083, 1085, 53, 77] haX6_as rfl imX6_as hmX6_as (by decide +kernel) (by decide +kernel)) ggX6_as_X6_isDog
set_option maxRecDepth 20000 in
theorem ggX6_as_X6_in : GoodIn wsX6_as wsX6_in := goodIn_ids iaX6_as iaX6_in haX6_as haX6_in imX6_as hmX6_as (by decide +kernel) (by decide +kernel)
set_option maxRecDepth 20000 in
theorem gX6_as_X6_in : GoodIn wsX6_as (va_wsS RX6 56 yX6_in wsX6_in) := goodIn_app (goodIn_ids iaX6_as [929, 930, 77] haX6_as rfl imX6_as hmX6_as (by decide +kernel) (by decide +kernel)) ggX6_as_X6_in
set_option maxRecDepth 20000 in
theorem ggX6_as_X6_kindIn : GoodIn wsX6_as wsX6_kindIn := goodIn_ids iaX6_as iaX6_kindIn haX6_as haX6_kindIn imX6_as hmX6_as (by decide +kernel) (by decide +kernel)
set_option maxRecDepth 20000 in
theorem gX6_as_X6_kindIn : GoodIn wsX6_as (wsV RX6 249 RX6 yX6_kindIn wsX6_kindIn) := goodIn_app (goodIn_ids iaX6_as [1210, 1212, 63, 77] haX6_as rfl imX6_as hmX6_as (by decide +kernel) (by decide +kernel)) ggX6_as_X6_kindIn
set_option maxRecDepth 20000 in
theorem ggX6_as_X6_well : GoodIn wsX6_as wsX6_well := goodIn_ids iaX6_as iaX6_well haX6_as haX6_well imX6_as hmX6_as (by decide +kernel) (by decide +kernel)
set_option maxRecDepth 20000 in
theorem gX6_as_X6_well : GoodIn wsX6_as (wsV RX6 69 RX6 yX6_well wsX6_well) := goodIn_app (goodIn_ids iaX6_as [938, 940, 38, 77] haX6_as rfl imX6_as hmX6_as (by decide +kernel) (by decide +kernel)) ggX6_as_X6_well
set_option maxRecDepth 20000 in
theorem ggX6_as_X6_found : GoodIn wsX6_as wsX6_found := goodIn_ids iaX6_as iaX6_found haX6_as haX6_found imX6_as hmX6_as (by decide +kernel) (by decide +kernel)
set_option maxRecDepth 20000 in
theorem gX6_as_X6_found : GoodIn wsX6_as (wsV RX6 65 RX6 yX6_found wsX6_found) := goodIn_app (goodIn_ids iaX6_as [933, 935, 37, 77] haX6_as rfl imX6_as hmX6_as (by decide +kernel) (by decide +kernel)) ggX6_as_X6_found
theorem dX6_as_0 : decode cX6_as 0 = .ok (.aload_n 0, 1) := by decide +kernel
theorem dX6_as_1 : decode cX6_as 1 = .ok (.iload_n 1, 1) := by decide +kernel
theorem dX6_as_2 : decode cX6_as 2 = .ok (.invokevirtual 196, 3) := by decide +kernel
theorem dX6_as_5 : decode cX6_as 5 = .ok (.ifCond .eq 12, 3) := by decide +kernel
theorem dX6_as_8 : decode cX6_as 8 = .ok (.iload_n 2, 1) := by decide +kernel
theorem dX6_as_9 : decode cX6_as 9 = .ok (.iconst 0, 1) := by decide +kernel
theorem dX6_as_10 : decode cX6_as 10 = .ok (.iconst 5, 1) := by decide +kernel
theorem dX6_as_11 : decode cX6_as 11 = .ok (.invokestatic 56, 3) := by decide +kernel
theorem dX6_as_14 : decode cX6_as 14 = .ok (.ifCond .ne 6, 3) := by decide +kernel
theorem dX6_as_17 : decode cX6_as 17 = .ok (.ldc 64, 2) := by decide +kernel
theorem dX6_as_19 : decode cX6_as 19 = .ok (.ireturn, 1) := by decide +kernel
theorem dX6_as_20 : decode cX6_as 20 = .ok (.aload_n 0, 1) := by decide +kernel
theorem dX6_as_21 : decode cX6_as 21 = .ok (.iload_n 1, 1) := by decide +kernel
theorem dX6_as_22 : decode cX6_as 22 = .ok (.invokevirtual 249, 3) := by decide +kernel
theorem dX6_as_25 : decode cX6_as 25 = .ok (.istore_n 3, 1) := by decide +kernel
theorem dX6_as_26 : decode cX6_as 26 = .ok (.iload_n 2, 1) := by decide +kernel
theorem dX6_as_27 : decode cX6_as 27 = .ok (.ifCond .eq 28, 3) := by decide +kernel
theorem dX6_as_30 : decode cX6_as 30 = .ok (.iload_n 2, 1) := by decide +kernel
theorem dX6_as_31 : decode cX6_as 31 = .ok (.iload_n 3, 1) := by decide +kernel
theorem dX6_as_32 : decode cX6_as 32 = .ok (.if_icmp .eq 23, 3) := by decide +kernel
theorem dX6_as_35 : decode cX6_as 35 = .ok (.iload_n 2, 1) := by decide +kernel
theorem dX6_as_36 : decode cX6_as 36 = .ok (.iconst 1, 1) := by decide +kernel
theorem dX6_as_37 : decode cX6_as 37 = .ok (.if_icmp .ne 8, 3) := by decide +kernel
theorem dX6_as_40 : decode cX6_as 40 = .ok (.iload_n 3, 1) := by decide +kernel
theorem dX6_as_41 : decode cX6_as 41 = .ok (.iconst 4, 1) := by decide +kernel
theorem dX6_as_42 : decode cX6_as 42 = .ok (.if_icmp .lt 13, 3) := by decide +kernel
theorem dX6_as_45 : decode cX6_as 45 = .ok (.iload_n 2, 1) := by decide +kernel
theorem dX6_as_46 : decode cX6_as 46 = .ok (.iconst 4, 1) := by decide +kernel
theorem dX6_as_47 : decode cX6_as 47 = .ok (.if_icmp .ne 12, 3) := by decide +kernel
theorem dX6_as_50 : decode cX6_as 50 = .ok (.iload_n 3, 1) := by decide +kernel
theorem dX6_as_51 : decode cX6_as 51 = .ok (.iconst 5, 1) := by decide +kernel
theorem dX6_as_52 : decode cX6_as 52 = .ok (.if_icmp .ne 7, 3) := by decide +kernel
theorem dX6_as_55 : decode cX6_as 55 = .ok (.iconst 1, 1) := by decide +kernel
theorem dX6_as_56 : decode cX6_as 56 = .ok (.goto 4, 3) := by decide +kernel
theorem dX6_as_59 : decode cX6_as 59 = .ok (.iconst 0, 1) := by decide +kernel
theorem dX6_as_60 : decode cX6_as 60 = .ok (.istore 4, 2) := by decide +kernel
theorem dX6_as_62 : decode cX6_as 62 = .ok (.iload 4, 2) := by decide +kernel
theorem dX6_as_64 : decode cX6_as 64 = .ok (.ifCond .eq 11, 3) := by decide +kernel
theorem dX6_as_67 : decode cX6_as 67 = .ok (.aload_n 0, 1) := by decide +kernel
theorem dX6_as_68 : decode cX6_as 68 = .ok (.iload_n 1, 1) := by decide +kernel
theorem dX6_as_69 : decode cX6_as 69 = .ok (.invokevirtual 69, 3) := by decide +kernel
theorem dX6_as_72 : decode cX6_as 72 = .ok (.goto 8, 3) := by decide +kernel
theorem dX6_as_75 : decode cX6_as 75 = .ok (.aload_n 0, 1) := by decide +kernel
theorem dX6_as_76 : decode cX6_as 76 = .ok (.iconst 3, 1) := by decide +kernel
theorem dX6_as_77 : decode cX6_as 77 = .ok (.invokevirtual 65, 3) := by decide +kernel
theorem dX6_as_80 : decode cX6_as 80 = .ok (.ireturn, 1) := by decide +kernel
theorem dX6_begins_0 : decode cX6_begins 0 = .ok (.aload_n 0, 1) := by decide +kernel
theorem dX6_begins_1 : decode cX6_begins 1 = .ok (.getfield 252, 3) := by decide +kernel
theorem dX6_begins_4 : decode cX6_begins 4 = .ok (.bipush 16, 2) := by decide +kernel
theorem dX6_begins_6 : decode cX6_begins 6 = .ok (.if_icmp .ge 23, 3) := by decide +kernel
theorem dX6_begins_9 : decode cX6_begins 9 = .ok (.aload_n 0, 1) := by decide +kernel
theorem dX6_begins_10 : decode cX6_begins 10 = .ok (.getfield 47, 3) := by decide +kernel
theorem dX6_begins_13 : decode cX6_begins 13 = .ok (.aload_n 0, 1) := by decide +kernel
theorem dX6_begins_14 : decode cX6_begins 14 = .ok (.getfield 252, 3) := by decide +kernel
theorem dX6_begins_17 : decode cX6_begins 17 = .ok (.iload_n 1, 1) := by decide +kernel
theorem dX6_begins_18 : decode cX6_begins 18 = .ok (.iastore, 1) := by decide +kernel
theorem dX6_begins_19 : decode cX6_begins 19 = .ok (.aload_n 0, 1) := by decide +kernel
theorem dX6_begins_20 : decode cX6_begins 20 = .ok (.dup, 1) := by decide +kernel
theorem dX6_begins_21 : decode cX6_begins 21 = .ok (.getfield 252, 3) := by decide +kernel
theorem dX6_begins_24 : decode cX6_begins 24 = .ok (.iconst 1, 1) := by decide +kernel
theorem dX6_begins_25 : decode cX6_begins 25 = .ok (.iadd, 1) := by decide +kernel
theorem dX6_begins_26 : decode cX6_begins 26 = .ok (.putfield 252, 3) := by decide +kernel
theorem dX6_begins_29 : decode cX6_begins 29 = .ok (.return_, 1) := by decide +kernel
set_option maxRecDepth 20000 in
theorem ggX6_houndMark_X6_kindIn : GoodIn wsX6_houndMark wsX6_kindIn := goodIn_ids iaX6_houndMark iaX6_kindIn haX6_houndMark haX6_kindIn imX6_houndMark hmX6_houndMark (by decide +kernel) (by decide +kernel)
set_option maxRecDepth 20000 in
theorem gX6_houndMark_X6_kindIn : GoodIn wsX6_houndMark (wsV RX6 249 RX6 yX6_kindIn wsX6_kindIn) := goodIn_app (goodIn_ids iaX6_houndMark [1210, 1212, 63, 77] haX6_houndMark rfl imX6_houndMark hmX6_houndMark (by decide +kernel) (by decide +kernel)) ggX6_houndMark_X6_kindIn
set_option maxRecDepth 20000 in
theorem ggX6_houndMark_X6_begins : GoodIn wsX6_houndMark wsX6_begins := goodIn_ids iaX6_houndMark iaX6_begins haX6_houndMark haX6_begins imX6_houndMark hmX6_houndMark (by decide +kernel) (by decide +kernel)
set_option maxRecDepth 20000 in
theorem gX6_houndMark_X6_begins : GoodIn wsX6_houndMark (wsV RX6 255 RX6 yX6_begins wsX6_begins) := goodIn_app (goodIn_ids iaX6_houndMark [1226, 1228, 65, 77] haX6_houndMark rfl imX6_houndMark hmX6_houndMark (by decide +kernel) (by decide +kernel)) ggX6_houndMark_X6_begins
theorem dX6_houndMark_0 : decode cX6_houndMark 0 = .ok (.aload_n 0, 1) := by decide +kernel
theorem dX6_houndMark_1 : decode cX6_houndMark 1 = .ok (.iload_n 1, 1) := by decide +kernel
theorem dX6_houndMark_2 : decode cX6_houndMark 2 = .ok (.invokevirtual 249, 3) := by decide +kernel
theorem dX6_houndMark_5 : decode cX6_houndMark 5 = .ok (.istore_n 2, 1) := by decide +kernel
theorem dX6_houndMark_6 : decode cX6_houndMark 6 = .ok (.iload_n 2, 1) := by decide +kernel
theorem dX6_houndMark_7 : decode cX6_houndMark 7 = .ok (.iconst 1, 1) := by decide +kernel
theorem dX6_houndMark_8 : decode cX6_houndMark 8 = .ok (.if_icmp .eq 19, 3) := by decide +kernel
theorem dX6_houndMark_11 : decode cX6_houndMark 11 = .ok (.aload_n 0, 1) := by decide +kernel
theorem dX6_houndMark_12 : decode cX6_houndMark 12 = .ok (.iload_n 2, 1) := by decide +kernel
theorem dX6_houndMark_13 : decode cX6_houndMark 13 = .ok (.iconst 2, 1) := by decide +kernel
theorem dX6_houndMark_14 : decode cX6_houndMark 14 = .ok (.if_icmp .ne 8, 3) := by decide +kernel
theorem dX6_houndMark_17 : decode cX6_houndMark 17 = .ok (.bipush 24, 2) := by decide +kernel
theorem dX6_houndMark_19 : decode cX6_houndMark 19 = .ok (.goto 5, 3) := by decide +kernel
theorem dX6_houndMark_22 : decode cX6_houndMark 22 = .ok (.bipush 22, 2) := by decide +kernel
theorem dX6_houndMark_24 : decode cX6_houndMark 24 = .ok (.invokevirtual 255, 3) := by decide +kernel
theorem dX6_houndMark_27 : decode cX6_houndMark 27 = .ok (.aload_n 0, 1) := by decide +kernel
theorem dX6_houndMark_28 : decode cX6_houndMark 28 = .ok (.bipush 21, 2) := by decide +kernel
theorem dX6_houndMark_30 : decode cX6_houndMark 30 = .ok (.invokevirtual 255, 3) := by decide +kernel
theorem dX6_houndMark_33 : decode cX6_houndMark 33 = .ok (.aload_n 0, 1) := by decide +kernel
theorem dX6_houndMark_34 : decode cX6_houndMark 34 = .ok (.bipush 20, 2) := by decide +kernel
theorem dX6_houndMark_36 : decode cX6_houndMark 36 = .ok (.invokevirtual 255, 3) := by decide +kernel
theorem dX6_houndMark_39 : decode cX6_houndMark 39 = .ok (.iload_n 1, 1) := by decide +kernel
theorem dX6_houndMark_40 : decode cX6_houndMark 40 = .ok (.aload_n 0, 1) := by decide +kernel
theorem dX6_houndMark_41 : decode cX6_houndMark 41 = .ok (.getfield 25, 3) := by decide +kernel
theorem dX6_houndMark_44 : decode cX6_houndMark 44 = .ok (.bipush 36, 2) := by decide +kernel
theorem dX6_houndMark_46 : decode cX6_houndMark 46 = .ok (.iconst 3, 1) := by decide +kernel
theorem dX6_houndMark_47 : decode cX6_houndMark 47 = .ok (.iload_n 1, 1) := by decide +kernel
theorem dX6_houndMark_48 : decode cX6_houndMark 48 = .ok (.imul, 1) := by decide +kernel
theorem dX6_houndMark_49 : decode cX6_houndMark 49 = .ok (.iadd, 1) := by decide +kernel
theorem dX6_houndMark_50 : decode cX6_houndMark 50 = .ok (.iconst 2, 1) := by decide +kernel
theorem dX6_houndMark_51 : decode cX6_houndMark 51 = .ok (.iadd, 1) := by decide +kernel
theorem dX6_houndMark_52 : decode cX6_houndMark 52 = .ok (.iaload, 1) := by decide +kernel
theorem dX6_houndMark_53 : decode cX6_houndMark 53 = .ok (.iadd, 1) := by decide +kernel
theorem dX6_houndMark_54 : decode cX6_houndMark 54 = .ok (.istore_n 3, 1) := by decide +kernel
theorem dX6_houndMark_55 : decode cX6_houndMark 55 = .ok (.iload_n 2, 1) := by decide +kernel
theorem dX6_houndMark_56 : decode cX6_houndMark 56 = .ok (.iconst 2, 1) := by decide +kernel
theorem dX6_houndMark_57 : decode cX6_houndMark 57 = .ok (.if_icmp .ne 9, 3) := by decide +kernel
theorem dX6_houndMark_60 : decode cX6_houndMark 60 = .ok (.iconst 2, 1) := by decide +kernel
theorem dX6_houndMark_61 : decode cX6_houndMark 61 = .ok (.iload_n 3, 1) := by decide +kernel
theorem dX6_houndMark_62 : decode cX6_houndMark 62 = .ok (.imul, 1) := by decide +kernel
theorem dX6_houndMark_63 : decode cX6_houndMark 63 = .ok (.goto 17, 3) := by decide +kernel
theorem dX6_houndMark_66 : decode cX6_houndMark 66 = .ok (.iload_n 2, 1) := by decide +kernel
theorem dX6_houndMark_67 : decode cX6_houndMark 67 = .ok (.iconst 3, 1) := by decide +kernel
theorem dX6_houndMark_68 : decode cX6_houndMark 68 = .ok (.if_icmp .ne 11, 3) := by decide +kernel
theorem dX6_houndMark_71 : decode cX6_houndMark 71 = .ok (.iload_n 3, 1) := by decide +kernel
theorem dX6_houndMark_72 : decode cX6_houndMark 72 = .ok (.sipush 1000, 3) := by decide +kernel
theorem dX6_houndMark_75 : decode cX6_houndMark 75 = .ok (.isub, 1) := by decide +kernel
theorem dX6_houndMark_76 : decode cX6_houndMark 76 = .ok (.goto 4, 3) := by decide +kernel
theorem dX6_houndMark_79 : decode cX6_houndMark 79 = .ok (.iload_n 3, 1) := by decide +kernel
theorem dX6_houndMark_80 : decode cX6_houndMark 80 = .ok (.ireturn, 1) := by decide +kernel
set_option maxRecDepth 20000 in
theorem ggX6_packSize_X6_kindIn : GoodIn wsX6_packSize wsX6_kindIn := goodIn_ids iaX6_packSize iaX6_kindIn haX6_packSize haX6_kindIn imX6_packSize hmX6_packSize (by decide +kernel) (by decide +kernel)
set_option maxRecDepth 20000 in
theorem gX6_packSize_X6_kindIn : GoodIn wsX6_packSize (wsV RX6 249 RX6 yX6_kindIn wsX6_kindIn) := goodIn_app (goodIn_ids iaX6_packSize [1210, 1212, 63, 77] haX6_packSize rfl imX6_packSize hmX6_packSize (by decide +kernel) (by decide +kernel)) ggX6_packSize_X6_kindIn
set_option maxRecDepth 20000 in
theorem ggX6_packSize_X6_begins : GoodIn wsX6_packSize wsX6_begins := goodIn_ids iaX6_packSize iaX6_begins haX6_packSize haX6_begins imX6_packSize hmX6_packSize (by decide +kernel) (by decide +kernel)
set_option maxRecDepth 20000 in
theorem gX6_packSize_X6_begins : GoodIn wsX6_packSize (wsV RX6 255 RX6 yX6_begins wsX6_begins) := goodIn_app (goodIn_ids iaX6_packSize [1226, 1228, 65, 77] haX6_packSize rfl imX6_packSize hmX6_packSize (by decide +kernel) (by decide +kernel)) ggX6_packSize_X6_begins
theorem dX6_packSize_0 : decode cX6_packSize 0 = .ok (.aload_n 0, 1) := by decide +kernel
theorem dX6_packSize_1 : decode cX6_packSize 1 = .ok (.iload_n 1, 1) := by decide +kernel
theorem dX6_packSize_2 : decode cX6_packSize 2 = .ok (.invokevirtual 249, 3) := by decide +kernel
theorem dX6_packSize_5 : decode cX6_packSize 5 = .ok (.iconst 5, 1) := by decide +kernel
theorem dX6_packSize_6 : decode cX6_packSize 6 = .ok (.if_icmp .ne 7, 3) := by decide +kernel
theorem dX6_packSize_9 : decode cX6_packSize 9 = .ok (.iconst 1, 1) := by decide +kernel
theorem dX6_packSize_10 : decode cX6_packSize 10 = .ok (.goto 4, 3) := by decide +kernel
theorem dX6_packSize_13 : decode cX6_packSize 13 = .ok (.iconst 0, 1) := by decide +kernel
theorem dX6_packSize_14 : decode cX6_packSize 14 = .ok (.istore_n 2, 1) := by decide +kernel
theorem dX6_packSize_15 : decode cX6_packSize 15 = .ok (.iload_n 2, 1) := by decide +kernel
theorem dX6_packSize_16 : decode cX6_packSize 16 = .ok (.ifCond .eq 9, 3) := by decide +kernel
theorem dX6_packSize_19 : decode cX6_packSize 19 = .ok (.aload_n 0, 1) := by decide +kernel
theorem dX6_packSize_20 : decode cX6_packSize 20 = .ok (.bipush 14, 2) := by decide +kernel
theorem dX6_packSize_22 : decode cX6_packSize 22 = .ok (.invokevirtual 255, 3) := by decide +kernel
theorem dX6_packSize_25 : decode cX6_packSize 25 = .ok (.aload_n 0, 1) := by decide +kernel
theorem dX6_packSize_26 : decode cX6_packSize 26 = .ok (.bipush 13, 2) := by decide +kernel
theorem dX6_packSize_28 : decode cX6_packSize 28 = .ok (.invokevirtual 255, 3) := by decide +kernel
theorem dX6_packSize_31 : decode cX6_packSize 31 = .ok (.aload_n 0, 1) := by decide +kernel
theorem dX6_packSize_32 : decode cX6_packSize 32 = .ok (.bipush 10, 2) := by decide +kernel
theorem dX6_packSize_34 : decode cX6_packSize 34 = .ok (.invokevirtual 255, 3) := by decide +kernel
theorem dX6_packSize_37 : decode cX6_packSize 37 = .ok (.aload_n 0, 1) := by decide +kernel
theorem dX6_packSize_38 : decode cX6_packSize 38 = .ok (.getfield 25, 3) := by decide +kernel
theorem dX6_packSize_41 : decode cX6_packSize 41 = .ok (.bipush 36, 2) := by decide +kernel
theorem dX6_packSize_43 : decode cX6_packSize 43 = .ok (.iconst 3, 1) := by decide +kernel
theorem dX6_packSize_44 : decode cX6_packSize 44 = .ok (.iload_n 1, 1) := by decide +kernel
theorem dX6_packSize_45 : decode cX6_packSize 45 = .ok (.imul, 1) := by decide +kernel
theorem dX6_packSize_46 : decode cX6_packSize 46 = .ok (.iadd, 1) := by decide +kernel
theorem dX6_packSize_47 : decode cX6_packSize 47 = .ok (.iconst 1, 1) := by decide +kernel
theorem dX6_packSize_48 : decode cX6_packSize 48 = .ok (.iadd, 1) := by decide +kernel
theorem dX6_packSize_49 : decode cX6_packSize 49 = .ok (.iaload, 1) := by decide +kernel
theorem dX6_packSize_50 : decode cX6_packSize 50 = .ok (.bipush 100, 2) := by decide +kernel
theorem dX6_packSize_52 : decode cX6_packSize 52 = .ok (.isub, 1) := by decide +kernel
theorem dX6_packSize_53 : decode cX6_packSize 53 = .ok (.istore_n 3, 1) := by decide +kernel
theorem dX6_packSize_54 : decode cX6_packSize 54 = .ok (.iload_n 2, 1) := by decide +kernel
theorem dX6_packSize_55 : decode cX6_packSize 55 = .ok (.ifCond .eq 9, 3) := by decide +kernel
theorem dX6_packSize_58 : decode cX6_packSize 58 = .ok (.iconst 2, 1) := by decide +kernel
theorem dX6_packSize_59 : decode cX6_packSize 59 = .ok (.iload_n 3, 1) := by decide +kernel
theorem dX6_packSize_60 : decode cX6_packSize 60 = .ok (.imul, 1) := by decide +kernel
theorem dX6_packSize_61 : decode cX6_packSize 61 = .ok (.goto 4, 3) := by decide +kernel
theorem dX6_packSize_64 : decode cX6_packSize 64 = .ok (.iload_n 3, 1) := by decide +kernel
theorem dX6_packSize_65 : decode cX6_packSize 65 = .ok (.ireturn, 1) := by decide +kernel
set_option maxRecDepth 20000 in
theorem ggX6_houndSize_X6_kindIn : GoodIn wsX6_houndSize wsX6_kindIn := goodIn_ids iaX6_houndSize iaX6_kindIn haX6_houndSize haX6_kindIn imX6_houndSize hmX6_houndSize (by decide +kernel) (by decide +kernel)
set_option maxRecDepth 20000 in
theorem gX6_houndSize_X6_kindIn : GoodIn wsX6_houndSize (wsV RX6 249 RX6 yX6_kindIn wsX6_kindIn) := goodIn_app (goodIn_ids iaX6_houndSize [1210, 1212, 63, 77] haX6_houndSize rfl imX6_houndSize hmX6_houndSize (by decide +kernel) (by decide +kernel)) ggX6_houndSize_X6_kindIn
set_option maxRecDepth 20000 in
theorem ggX6_houndSize_X6_begins : GoodIn wsX6_houndSize wsX6_begins := goodIn_ids iaX6_houndSize iaX6_begins haX6_houndSize haX6_begins imX6_houndSize hmX6_houndSize (by decide +kernel) (by decide +kernel)
set_option maxRecDepth 20000 in
theorem gX6_houndSize_X6_begins : GoodIn wsX6_houndSize (wsV RX6 255 RX6 yX6_begins wsX6_begins) := goodIn_app (goodIn_ids iaX6_houndSize [1226, 1228, 65, 77] haX6_houndSize rfl imX6_houndSize hmX6_houndSize (by decide +kernel) (by decide +kernel)) ggX6_houndSize_X6_begins
set_option maxRecDepth 20000 in
theorem ggX6_houndSize_X6_houndMark : GoodIn wsX6_houndSize wsX6_houndMark := goodIn_ids iaX6_houndSize iaX6_houndMark haX6_houndSize haX6_houndMark imX6_houndSize hmX6_houndSize (by decide +kernel) (by decide +kernel)
set_option maxRecDepth 20000 in
theorem gX6_houndSize_X6_houndMark : GoodIn wsX6_houndSize (wsV RX6 258 RX6 yX6_houndMark wsX6_houndMark) := goodIn_app (goodIn_ids iaX6_houndSize [1234, 1236, 67, 77] haX6_houndSize rfl imX6_houndSize hmX6_houndSize (by decide +kernel) (by decide +kernel)) ggX6_houndSize_X6_houndMark
theorem dX6_houndSize_0 : decode cX6_houndSize 0 = .ok (.aload_n 0, 1) := by decide +kernel
theorem dX6_houndSize_1 : decode cX6_houndSize 1 = .ok (.iload_n 1, 1) := by decide +kernel
theorem dX6_houndSize_2 : decode cX6_houndSize 2 = .ok (.invokevirtual 249, 3) := by decide +kernel
theorem dX6_houndSize_5 : decode cX6_houndSize 5 = .ok (.iconst 2, 1) := by decide +kernel
theorem dX6_houndSize_6 : decode cX6_houndSize 6 = .ok (.if_icmp .ne 7, 3) := by decide +kernel
theorem dX6_houndSize_9 : decode cX6_houndSize 9 = .ok (.iconst 1, 1) := by decide +kernel
theorem dX6_houndSize_10 : decode cX6_houndSize 10 = .ok (.goto 4, 3) := by decide +kernel
theorem dX6_houndSize_13 : decode cX6_houndSize 13 = .ok (.iconst 0, 1) := by decide +kernel
theorem dX6_houndSize_14 : decode cX6_houndSize 14 = .ok (.istore_n 2, 1) := by decide +kernel
theorem dX6_houndSize_15 : decode cX6_houndSize 15 = .ok (.iload_n 2, 1) := by decide +kernel
theorem dX6_houndSize_16 : decode cX6_houndSize 16 = .ok (.ifCond .eq 9, 3) := by decide +kernel
theorem dX6_houndSize_19 : decode cX6_houndSize 19 = .ok (.aload_n 0, 1) := by decide +kernel
theorem dX6_houndSize_20 : decode cX6_houndSize 20 = .ok (.bipush 12, 2) := by decide +kernel
theorem dX6_houndSize_22 : decode cX6_houndSize 22 = .ok (.invokevirtual 255, 3) := by decide +kernel
theorem dX6_houndSize_25 : decode cX6_houndSize 25 = .ok (.aload_n 0, 1) := by decide +kernel
theorem dX6_houndSize_26 : decode cX6_houndSize 26 = .ok (.bipush 11, 2) := by decide +kernel
theorem dX6_houndSize_28 : decode cX6_houndSize 28 = .ok (.invokevirtual 255, 3) := by decide +kernel
theorem dX6_houndSize_31 : decode cX6_houndSize 31 = .ok (.aload_n 0, 1) := by decide +kernel
theorem dX6_houndSize_32 : decode cX6_houndSize 32 = .ok (.bipush 10, 2) := by decide +kernel
theorem dX6_houndSize_34 : decode cX6_houndSize 34 = .ok (.invokevirtual 255, 3) := by decide +kernel
theorem dX6_houndSize_37 : decode cX6_houndSize 37 = .ok (.aload_n 0, 1) := by decide +kernel
theorem dX6_houndSize_38 : decode cX6_houndSize 38 = .ok (.getfield 25, 3) := by decide +kernel
theorem dX6_houndSize_41 : decode cX6_houndSize 41 = .ok (.bipush 36, 2) := by decide +kernel
theorem dX6_houndSize_43 : decode cX6_houndSize 43 = .ok (.iconst 3, 1) := by decide +kernel
theorem dX6_houndSize_44 : decode cX6_houndSize 44 = .ok (.iload_n 1, 1) := by decide +kernel
theorem dX6_houndSize_45 : decode cX6_houndSize 45 = .ok (.imul, 1) := by decide +kernel
theorem dX6_houndSize_46 : decode cX6_houndSize 46 = .ok (.iadd, 1) := by decide +kernel
theorem dX6_houndSize_47 : decode cX6_houndSize 47 = .ok (.iconst 1, 1) := by decide +kernel
theorem dX6_houndSize_48 : decode cX6_houndSize 48 = .ok (.iadd, 1) := by decide +kernel
theorem dX6_houndSize_49 : decode cX6_houndSize 49 = .ok (.iaload, 1) := by decide +kernel
theorem dX6_houndSize_50 : decode cX6_houndSize 50 = .ok (.aload_n 0, 1) := by decide +kernel
theorem dX6_houndSize_51 : decode cX6_houndSize 51 = .ok (.iload_n 1, 1) := by decide +kernel
theorem dX6_houndSize_52 : decode cX6_houndSize 52 = .ok (.invokevirtual 258, 3) := by decide +kernel
theorem dX6_houndSize_55 : decode cX6_houndSize 55 = .ok (.iadd, 1) := by decide +kernel
theorem dX6_houndSize_56 : decode cX6_houndSize 56 = .ok (.istore_n 3, 1) := by decide +kernel
theorem dX6_houndSize_57 : decode cX6_houndSize 57 = .ok (.iload_n 2, 1) := by decide +kernel
theorem dX6_houndSize_58 : decode cX6_houndSize 58 = .ok (.ifCond .eq 8, 3) := by decide +kernel
theorem dX6_houndSize_61 : decode cX6_houndSize 61 = .ok (.iload_n 3, 1) := by decide +kernel
theorem dX6_houndSize_62 : decode cX6_houndSize 62 = .ok (.ineg, 1) := by decide +kernel
theorem dX6_houndSize_63 : decode cX6_houndSize 63 = .ok (.goto 4, 3) := by decide +kernel
theorem dX6_houndSize_66 : decode cX6_houndSize 66 = .ok (.iload_n 3, 1) := by decide +kernel
theorem dX6_houndSize_67 : decode cX6_houndSize 67 = .ok (.ireturn, 1) := by decide +kernel
set_option maxRecDepth 20000 in
theorem ggX6_packMark_X6_begins : GoodIn wsX6_packMark wsX6_begins := goodIn_ids iaX6_packMark iaX6_begins haX6_packMark haX6_begins imX6_packMark hmX6_packMark (by decide +kernel) (by decide +kernel)
set_option maxRecDepth 20000 in
theorem gX6_packMark_X6_begins : GoodIn wsX6_packMark (wsV RX6 255 RX6 yX6_begins wsX6_begins) := goodIn_app (goodIn_ids iaX6_packMark [1226, 1228, 65, 77] haX6_packMark rfl imX6_packMark hmX6_packMark (by decide +kernel) (by decide +kernel)) ggX6_packMark_X6_begins
set_option maxRecDepth 20000 in
theorem ggX6_packMark_X6_packSize : GoodIn wsX6_packMark wsX6_packSize := goodIn_ids iaX6_packMark iaX6_packSize haX6_packMark haX6_packSize imX6_packMark hmX6_packMark (by decide +kernel) (by decide +kernel)
set_option maxRecDepth 20000 in
theorem gX6_packMark_X6_packSize : GoodIn wsX6_packMark (wsV RX6 261 RX6 yX6_packSize wsX6_packSize) := goodIn_app (goodIn_ids iaX6_packMark [1222, 1224, 64, 77] haX6_packMark rfl imX6_packMark hmX6_packMark (by decide +kernel) (by decide +kernel)) ggX6_packMark_X6_packSize
theorem dX6_packMark_0 : decode cX6_packMark 0 = .ok (.aload_n 0, 1) := by decide +kernel
theorem dX6_packMark_1 : decode cX6_packMark 1 = .ok (.bipush 23, 2) := by decide +kernel
theorem dX6_packMark_3 : decode cX6_packMark 3 = .ok (.invokevirtual 255, 3) := by decide +kernel
theorem dX6_packMark_6 : decode cX6_packMark 6 = .ok (.aload_n 0, 1) := by decide +kernel
theorem dX6_packMark_7 : decode cX6_packMark 7 = .ok (.bipush 20, 2) := by decide +kernel
theorem dX6_packMark_9 : decode cX6_packMark 9 = .ok (.invokevirtual 255, 3) := by decide +kernel
theorem dX6_packMark_12 : decode cX6_packMark 12 = .ok (.iload_n 1, 1) := by decide +kernel
theorem dX6_packMark_13 : decode cX6_packMark 13 = .ok (.aload_n 0, 1) := by decide +kernel
theorem dX6_packMark_14 : decode cX6_packMark 14 = .ok (.iload_n 1, 1) := by decide +kernel
theorem dX6_packMark_15 : decode cX6_packMark 15 = .ok (.invokevirtual 261, 3) := by decide +kernel
theorem dX6_packMark_18 : decode cX6_packMark 18 = .ok (.isub, 1) := by decide +kernel
theorem dX6_packMark_19 : decode cX6_packMark 19 = .ok (.ireturn, 1) := by decide +kernel
set_option maxRecDepth 20000 in
theorem ggX6_ask_X6_isDog : GoodIn wsX6_ask wsX6_isDog := goodIn_ids iaX6_ask iaX6_isDog haX6_ask haX6_isDog imX6_ask hmX6_ask (by decide +kernel) (by decide +kernel)
set_option maxRecDepth 20000 in
theorem gX6_ask_X6_isDog : GoodIn wsX6_ask (wsV RX6 196 RX6 yX6_isDog wsX6_isDog) := goodIn_app (goodIn_ids iaX6_ask [1083, 1085, 53, 77] haX6_ask rfl imX6_ask hmX6_ask (by decide +kernel) (by decide +kernel)) ggX6_ask_X6_isDog
set_option maxRecDepth 20000 in
theorem ggX6_ask_X6_in : GoodIn wsX6_ask wsX6_in := goodIn_ids iaX6_ask iaX6_in haX6_ask haX6_in imX6_ask hmX6_ask (by decide +kernel) (by decide +kernel)
set_option maxRecDepth 20000 in
theorem gX6_ask_X6_in : GoodIn wsX6_ask (va_wsS RX6 56 yX6_in wsX6_in) := goodIn_app (goodIn_ids iaX6_ask [929, 930, 77] haX6_ask rfl imX6_ask hmX6_ask (by decide +kernel) (by decide +kernel)) ggX6_ask_X6_in
set_option maxRecDepth 20000 in
theorem ggX6_ask_X6_kindIn : GoodIn wsX6_ask wsX6_kindIn := goodIn_ids iaX6_ask iaX6_kindIn haX6_ask haX6_kindIn imX6_ask hmX6_ask (by decide +kernel) (by decide +kernel)
set_option maxRecDepth 20000 in
theorem gX6_ask_X6_kindIn : GoodIn wsX6_ask (wsV RX6 249 RX6 yX6_kindIn wsX6_kindIn) := goodIn_app (goodIn_ids iaX6_ask [1210, 1212, 63, 77] haX6_ask rfl imX6_ask hmX6_ask (by decide +kernel) (by decide +kernel)) ggX6_ask_X6_kindIn
set_option maxRecDepth 20000 in
theorem ggX6_ask_X6_packSize : GoodIn wsX6_ask wsX6_packSize := goodIn_ids iaX6_ask iaX6_packSize haX6_ask haX6_packSize imX6_ask hmX6_ask (by decide +kernel) (by decide +kernel)
set_option maxRecDepth 20000 in
theorem gX6_ask_X6_packSize : GoodIn wsX6_ask (wsV RX6 261 RX6 yX6_packSize wsX6_packSize) := goodIn_app (goodIn_ids iaX6_ask [1222, 1224, 64, 77] haX6_ask rfl imX6_ask hmX6_ask (by decide +kernel) (by decide +kernel)) ggX6_ask_X6_packSize
set_option maxRecDepth 20000 in
theorem ggX6_ask_X6_houndSize : GoodIn wsX6_ask wsX6_houndSize := goodIn_ids iaX6_ask iaX6_houndSize haX6_ask haX6_houndSize imX6_ask hmX6_ask (by decide +kernel) (by decide +kernel)
set_option maxRecDepth 20000 in
theorem gX6_ask_X6_houndSize : GoodIn wsX6_ask (wsV RX6 264 RX6 yX6_houndSize wsX6_houndSize) := goodIn_app (goodIn_ids iaX6_ask [1230, 1232, 66, 77] haX6_ask rfl imX6_ask hmX6_ask (by decide +kernel) (by decide +kernel)) ggX6_ask_X6_houndSize
set_option maxRecDepth 20000 in
theorem ggX6_ask_X6_packMark : GoodIn wsX6_ask wsX6_packMark := goodIn_ids iaX6_ask iaX6_packMark haX6_ask haX6_packMark imX6_ask hmX6_ask (by decide +kernel) (by decide +kernel)
set_option maxRecDepth 20000 in
theorem gX6_ask_X6_packMark : GoodIn wsX6_ask (wsV RX6 267 RX6 yX6_packMark wsX6_packMark) := goodIn_app (goodIn_ids iaX6_ask [1238, 1240, 68, 77] haX6_ask rfl imX6_ask hmX6_ask (by decide +kernel) (by decide +kernel)) ggX6_ask_X6_packMark
set_option maxRecDepth 20000 in
theorem ggX6_ask_X6_houndMark : GoodIn wsX6_ask wsX6_houndMark := goodIn_ids iaX6_ask iaX6_houndMark haX6_ask haX6_houndMark imX6_ask hmX6_ask (by decide +kernel) (by decide +kernel)
set_option maxRecDepth 20000 in
theorem gX6_ask_X6_houndMark : GoodIn wsX6_ask (wsV RX6 258 RX6 yX6_houndMark wsX6_houndMark) := goodIn_app (goodIn_ids iaX6_ask [1234, 1236, 67, 77] haX6_ask rfl imX6_ask hmX6_ask (by decide +kernel) (by decide +kernel)) ggX6_ask_X6_houndMark
theorem dX6_ask_0 : decode cX6_ask 0 = .ok (.aload_n 0, 1) := by decide +kernel
theorem dX6_ask_1 : decode cX6_ask 1 = .ok (.iload_n 1, 1) := by decide +kernel
theorem dX6_ask_2 : decode cX6_ask 2 = .ok (.invokevirtual 196, 3) := by decide +kernel
theorem dX6_ask_5 : decode cX6_ask 5 = .ok (.ifCond .eq 12, 3) := by decide +kernel
theorem dX6_ask_8 : decode cX6_ask 8 = .ok (.iload_n 2, 1) := by decide +kernel
theorem dX6_ask_9 : decode cX6_ask 9 = .ok (.iconst 0, 1) := by decide +kernel
theorem dX6_ask_10 : decode cX6_ask 10 = .ok (.iconst 1, 1) := by decide +kernel
theorem dX6_ask_11 : decode cX6_ask 11 = .ok (.invokestatic 56, 3) := by decide +kernel
theorem dX6_ask_14 : decode cX6_ask 14 = .ok (.ifCond .ne 6, 3) := by decide +kernel
theorem dX6_ask_17 : decode cX6_ask 17 = .ok (.ldc 64, 2) := by decide +kernel
theorem dX6_ask_19 : decode cX6_ask 19 = .ok (.ireturn, 1) := by decide +kernel
theorem dX6_ask_20 : decode cX6_ask 20 = .ok (.aload_n 0, 1) := by decide +kernel
theorem dX6_ask_21 : decode cX6_ask 21 = .ok (.iconst 0, 1) := by decide +kernel
theorem dX6_ask_22 : decode cX6_ask 22 = .ok (.putfield 252, 3) := by decide +kernel
theorem dX6_ask_25 : decode cX6_ask 25 = .ok (.aload_n 0, 1) := by decide +kernel
theorem dX6_ask_26 : decode cX6_ask 26 = .ok (.iload_n 1, 1) := by decide +kernel
theorem dX6_ask_27 : decode cX6_ask 27 = .ok (.invokevirtual 249, 3) := by decide +kernel
theorem dX6_ask_30 : decode cX6_ask 30 = .ok (.iconst 4, 1) := by decide +kernel
theorem dX6_ask_31 : decode cX6_ask 31 = .ok (.if_icmp .lt 7, 3) := by decide +kernel
theorem dX6_ask_34 : decode cX6_ask 34 = .ok (.iconst 1, 1) := by decide +kernel
theorem dX6_ask_35 : decode cX6_ask 35 = .ok (.goto 4, 3) := by decide +kernel
theorem dX6_ask_38 : decode cX6_ask 38 = .ok (.iconst 0, 1) := by decide +kernel
theorem dX6_ask_39 : decode cX6_ask 39 = .ok (.istore_n 3, 1) := by decide +kernel
