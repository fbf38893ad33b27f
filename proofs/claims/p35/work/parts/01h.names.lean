theorem dX5_set_30 : decode cX5_set 30 = .ok (.getfield 18, 3) := by decide +kernel
theorem dX5_set_33 : decode cX5_set 33 = .ok (.iload_n 1, 1) := by decide +kernel
theorem dX5_set_34 : decode cX5_set 34 = .ok (.iaload, 1) := by decide +kernel
theorem dX5_set_35 : decode cX5_set 35 = .ok (.if_icmp .lt 9, 3) := by decide +kernel
theorem dX5_set_38 : decode cX5_set 38 = .ok (.aload_n 0, 1) := by decide +kernel
theorem dX5_set_39 : decode cX5_set 39 = .ok (.iconst 2, 1) := by decide +kernel
theorem dX5_set_40 : decode cX5_set 40 = .ok (.invokevirtual 71, 3) := by decide +kernel
theorem dX5_set_43 : decode cX5_set 43 = .ok (.ireturn, 1) := by decide +kernel
theorem dX5_set_44 : decode cX5_set 44 = .ok (.aload_n 0, 1) := by decide +kernel
theorem dX5_set_45 : decode cX5_set 45 = .ok (.getfield 11, 3) := by decide +kernel
theorem dX5_set_48 : decode cX5_set 48 = .ok (.iload_n 1, 1) := by decide +kernel
theorem dX5_set_49 : decode cX5_set 49 = .ok (.aaload, 1) := by decide +kernel
theorem dX5_set_50 : decode cX5_set 50 = .ok (.iload_n 2, 1) := by decide +kernel
theorem dX5_set_51 : decode cX5_set 51 = .ok (.aload_n 0, 1) := by decide +kernel
theorem dX5_set_52 : decode cX5_set 52 = .ok (.getfield 14, 3) := by decide +kernel
theorem dX5_set_55 : decode cX5_set 55 = .ok (.iload_n 1, 1) := by decide +kernel
theorem dX5_set_56 : decode cX5_set 56 = .ok (.iaload, 1) := by decide +kernel
theorem dX5_set_57 : decode cX5_set 57 = .ok (.iload_n 3, 1) := by decide +kernel
theorem dX5_set_58 : decode cX5_set 58 = .ok (.invokestatic 81, 3) := by decide +kernel
theorem dX5_set_61 : decode cX5_set 61 = .ok (.iastore, 1) := by decide +kernel
theorem dX5_set_62 : decode cX5_set 62 = .ok (.aload_n 0, 1) := by decide +kernel
theorem dX5_set_63 : decode cX5_set 63 = .ok (.aload_n 0, 1) := by decide +kernel
theorem dX5_set_64 : decode cX5_set 64 = .ok (.getfield 11, 3) := by decide +kernel
theorem dX5_set_67 : decode cX5_set 67 = .ok (.iload_n 1, 1) := by decide +kernel
theorem dX5_set_68 : decode cX5_set 68 = .ok (.aaload, 1) := by decide +kernel
theorem dX5_set_69 : decode cX5_set 69 = .ok (.iload_n 2, 1) := by decide +kernel
theorem dX5_set_70 : decode cX5_set 70 = .ok (.iaload, 1) := by decide +kernel
theorem dX5_set_71 : decode cX5_set 71 = .ok (.invokevirtual 75, 3) := by decide +kernel
theorem dX5_set_74 : decode cX5_set 74 = .ok (.ireturn, 1) := by decide +kernel
set_option maxRecDepth 20000 in
theorem ggX5_copy_X5_isRow : GoodIn wsX5_copy wsX5_isRow := goodIn_ids iaX5_copy iaX5_isRow haX5_copy haX5_isRow imX5_copy hmX5_copy (by decide +kernel) (by decide +kernel)
set_option maxRecDepth 20000 in
theorem gX5_copy_X5_isRow : GoodIn wsX5_copy (va_wsS RX5 62 yX5_isRow wsX5_isRow) := goodIn_app (goodIn_ids iaX5_copy [312, 313, 71] haX5_copy rfl imX5_copy hmX5_copy (by decide +kernel) (by decide +kernel)) ggX5_copy_X5_isRow
set_option maxRecDepth 20000 in
theorem ggX5_copy_X5_isMissing : GoodIn wsX5_copy wsX5_isMissing := goodIn_ids iaX5_copy iaX5_isMissing haX5_copy haX5_isMissing imX5_copy hmX5_copy (by decide +kernel) (by decide +kernel)
set_option maxRecDepth 20000 in
theorem gX5_copy_X5_isMissing : GoodIn wsX5_copy (wsV RX5 78 RX5 yX5_isMissing wsX5_isMissing) := goodIn_app (goodIn_ids iaX5_copy [332, 334, 2, 71] haX5_copy rfl imX5_copy hmX5_copy (by decide +kernel) (by decide +kernel)) ggX5_copy_X5_isMissing
set_option maxRecDepth 20000 in
theorem ggX5_copy_X5_found : GoodIn wsX5_copy wsX5_found := goodIn_ids iaX5_copy iaX5_found haX5_copy haX5_found imX5_copy hmX5_copy (by decide +kernel) (by decide +kernel)
set_option maxRecDepth 20000 in
theorem gX5_copy_X5_found : GoodIn wsX5_copy (wsV RX5 71 RX5 yX5_found wsX5_found) := goodIn_app (goodIn_ids iaX5_copy [319, 321, 0, 71] haX5_copy rfl imX5_copy hmX5_copy (by decide +kernel) (by decide +kernel)) ggX5_copy_X5_found
set_option maxRecDepth 20000 in
theorem ggX5_copy_X5_hasItems : GoodIn wsX5_copy wsX5_hasItems := goodIn_ids iaX5_copy iaX5_hasItems haX5_copy haX5_hasItems imX5_copy hmX5_copy (by decide +kernel) (by decide +kernel)
set_option maxRecDepth 20000 in
theorem gX5_copy_X5_hasItems : GoodIn wsX5_copy (wsV RX5 85 RX5 yX5_hasItems wsX5_hasItems) := goodIn_app (goodIn_ids iaX5_copy [343, 345, 3, 71] haX5_copy rfl imX5_copy hmX5_copy (by decide +kernel) (by decide +kernel)) ggX5_copy_X5_hasItems
set_option maxRecDepth 20000 in
theorem ggX5_copy_X5_nothingFound : GoodIn wsX5_copy wsX5_nothingFound := goodIn_ids iaX5_copy iaX5_nothingFound haX5_copy haX5_nothingFound imX5_copy hmX5_copy (by decide +kernel) (by decide +kernel)
set_option maxRecDepth 20000 in
theorem gX5_copy_X5_nothingFound : GoodIn wsX5_copy (wsV RX5 75 RX5 yX5_nothingFound wsX5_nothingFound) := goodIn_app (goodIn_ids iaX5_copy [324, 326, 1, 71] haX5_copy rfl imX5_copy hmX5_copy (by decide +kernel) (by decide +kernel)) ggX5_copy_X5_nothingFound
theorem dX5_copy_0 : decode cX5_copy 0 = .ok (.iload_n 1, 1) := by decide +kernel
theorem dX5_copy_1 : decode cX5_copy 1 = .ok (.invokestatic 62, 3) := by decide +kernel
theorem dX5_copy_4 : decode cX5_copy 4 = .ok (.ifCond .eq 10, 3) := by decide +kernel
theorem dX5_copy_7 : decode cX5_copy 7 = .ok (.iload_n 3, 1) := by decide +kernel
theorem dX5_copy_8 : decode cX5_copy 8 = .ok (.invokestatic 62, 3) := by decide +kernel
theorem dX5_copy_11 : decode cX5_copy 11 = .ok (.ifCond .ne 6, 3) := by decide +kernel
theorem dX5_copy_14 : decode cX5_copy 14 = .ok (.ldc 70, 2) := by decide +kernel
theorem dX5_copy_16 : decode cX5_copy 16 = .ok (.ireturn, 1) := by decide +kernel
theorem dX5_copy_17 : decode cX5_copy 17 = .ok (.aload_n 0, 1) := by decide +kernel
theorem dX5_copy_18 : decode cX5_copy 18 = .ok (.iload_n 1, 1) := by decide +kernel
theorem dX5_copy_19 : decode cX5_copy 19 = .ok (.invokevirtual 78, 3) := by decide +kernel
theorem dX5_copy_22 : decode cX5_copy 22 = .ok (.ifCond .ne 11, 3) := by decide +kernel
theorem dX5_copy_25 : decode cX5_copy 25 = .ok (.aload_n 0, 1) := by decide +kernel
theorem dX5_copy_26 : decode cX5_copy 26 = .ok (.iload_n 3, 1) := by decide +kernel
theorem dX5_copy_27 : decode cX5_copy 27 = .ok (.invokevirtual 78, 3) := by decide +kernel
theorem dX5_copy_30 : decode cX5_copy 30 = .ok (.ifCond .eq 9, 3) := by decide +kernel
theorem dX5_copy_33 : decode cX5_copy 33 = .ok (.aload_n 0, 1) := by decide +kernel
theorem dX5_copy_34 : decode cX5_copy 34 = .ok (.iconst 1, 1) := by decide +kernel
theorem dX5_copy_35 : decode cX5_copy 35 = .ok (.invokevirtual 71, 3) := by decide +kernel
theorem dX5_copy_38 : decode cX5_copy 38 = .ok (.ireturn, 1) := by decide +kernel
theorem dX5_copy_39 : decode cX5_copy 39 = .ok (.aload_n 0, 1) := by decide +kernel
theorem dX5_copy_40 : decode cX5_copy 40 = .ok (.getfield 14, 3) := by decide +kernel
theorem dX5_copy_43 : decode cX5_copy 43 = .ok (.iload_n 1, 1) := by decide +kernel
theorem dX5_copy_44 : decode cX5_copy 44 = .ok (.iaload, 1) := by decide +kernel
theorem dX5_copy_45 : decode cX5_copy 45 = .ok (.aload_n 0, 1) := by decide +kernel
theorem dX5_copy_46 : decode cX5_copy 46 = .ok (.getfield 14, 3) := by decide +kernel
theorem dX5_copy_49 : decode cX5_copy 49 = .ok (.iload_n 3, 1) := by decide +kernel
theorem dX5_copy_50 : decode cX5_copy 50 = .ok (.iaload, 1) := by decide +kernel
theorem dX5_copy_51 : decode cX5_copy 51 = .ok (.if_icmp .eq 9, 3) := by decide +kernel
theorem dX5_copy_54 : decode cX5_copy 54 = .ok (.aload_n 0, 1) := by decide +kernel
theorem dX5_copy_55 : decode cX5_copy 55 = .ok (.iconst 5, 1) := by decide +kernel
theorem dX5_copy_56 : decode cX5_copy 56 = .ok (.invokevirtual 71, 3) := by decide +kernel
theorem dX5_copy_59 : decode cX5_copy 59 = .ok (.ireturn, 1) := by decide +kernel
theorem dX5_copy_60 : decode cX5_copy 60 = .ok (.aload_n 0, 1) := by decide +kernel
theorem dX5_copy_61 : decode cX5_copy 61 = .ok (.iload_n 1, 1) := by decide +kernel
theorem dX5_copy_62 : decode cX5_copy 62 = .ok (.iload_n 2, 1) := by decide +kernel
theorem dX5_copy_63 : decode cX5_copy 63 = .ok (.iload 5, 2) := by decide +kernel
theorem dX5_copy_65 : decode cX5_copy 65 = .ok (.invokevirtual 85, 3) := by decide +kernel
theorem dX5_copy_68 : decode cX5_copy 68 = .ok (.ifCond .eq 15, 3) := by decide +kernel
theorem dX5_copy_71 : decode cX5_copy 71 = .ok (.aload_n 0, 1) := by decide +kernel
theorem dX5_copy_72 : decode cX5_copy 72 = .ok (.iload_n 3, 1) := by decide +kernel
theorem dX5_copy_73 : decode cX5_copy 73 = .ok (.iload 4, 2) := by decide +kernel
theorem dX5_copy_75 : decode cX5_copy 75 = .ok (.iload 5, 2) := by decide +kernel
theorem dX5_copy_77 : decode cX5_copy 77 = .ok (.invokevirtual 85, 3) := by decide +kernel
theorem dX5_copy_80 : decode cX5_copy 80 = .ok (.ifCond .ne 9, 3) := by decide +kernel
theorem dX5_copy_83 : decode cX5_copy 83 = .ok (.aload_n 0, 1) := by decide +kernel
theorem dX5_copy_84 : decode cX5_copy 84 = .ok (.iconst 2, 1) := by decide +kernel
theorem dX5_copy_85 : decode cX5_copy 85 = .ok (.invokevirtual 71, 3) := by decide +kernel
theorem dX5_copy_88 : decode cX5_copy 88 = .ok (.ireturn, 1) := by decide +kernel
theorem dX5_copy_89 : decode cX5_copy 89 = .ok (.aload_n 0, 1) := by decide +kernel
theorem dX5_copy_90 : decode cX5_copy 90 = .ok (.getfield 11, 3) := by decide +kernel
theorem dX5_copy_93 : decode cX5_copy 93 = .ok (.iload_n 1, 1) := by decide +kernel
theorem dX5_copy_94 : decode cX5_copy 94 = .ok (.aaload, 1) := by decide +kernel
theorem dX5_copy_95 : decode cX5_copy 95 = .ok (.iload_n 2, 1) := by decide +kernel
theorem dX5_copy_96 : decode cX5_copy 96 = .ok (.aload_n 0, 1) := by decide +kernel
theorem dX5_copy_97 : decode cX5_copy 97 = .ok (.getfield 11, 3) := by decide +kernel
theorem dX5_copy_100 : decode cX5_copy 100 = .ok (.iload_n 3, 1) := by decide +kernel
theorem dX5_copy_101 : decode cX5_copy 101 = .ok (.aaload, 1) := by decide +kernel
theorem dX5_copy_102 : decode cX5_copy 102 = .ok (.iload 4, 2) := by decide +kernel
theorem dX5_copy_104 : decode cX5_copy 104 = .ok (.iload 5, 2) := by decide +kernel
theorem dX5_copy_106 : decode cX5_copy 106 = .ok (.invokestatic 89, 3) := by decide +kernel
theorem dX5_copy_109 : decode cX5_copy 109 = .ok (.aload_n 0, 1) := by decide +kernel
theorem dX5_copy_110 : decode cX5_copy 110 = .ok (.iload 5, 2) := by decide +kernel
theorem dX5_copy_112 : decode cX5_copy 112 = .ok (.invokevirtual 75, 3) := by decide +kernel
theorem dX5_copy_115 : decode cX5_copy 115 = .ok (.ireturn, 1) := by decide +kernel
set_option maxRecDepth 20000 in
theorem ggX5_drop_X5_isRow : GoodIn wsX5_drop wsX5_isRow := goodIn_ids iaX5_drop iaX5_isRow haX5_drop haX5_isRow imX5_drop hmX5_drop (by decide +kernel) (by decide +kernel)
set_option maxRecDepth 20000 in
theorem gX5_drop_X5_isRow : GoodIn wsX5_drop (va_wsS RX5 62 yX5_isRow wsX5_isRow) := goodIn_app (goodIn_ids iaX5_drop [312, 313, 71] haX5_drop rfl imX5_drop hmX5_drop (by decide +kernel) (by decide +kernel)) ggX5_drop_X5_isRow
set_option maxRecDepth 20000 in
theorem ggX5_drop_X5_isMissing : GoodIn wsX5_drop wsX5_isMissing := goodIn_ids iaX5_drop iaX5_isMissing haX5_drop haX5_isMissing imX5_drop hmX5_drop (by decide +kernel) (by decide +kernel)
set_option maxRecDepth 20000 in
theorem gX5_drop_X5_isMissing : GoodIn wsX5_drop (wsV RX5 78 RX5 yX5_isMissing wsX5_isMissing) := goodIn_app (goodIn_ids iaX5_drop [332, 334, 2, 71] haX5_drop rfl imX5_drop hmX5_drop (by decide +kernel) (by decide +kernel)) ggX5_drop_X5_isMissing
set_option maxRecDepth 20000 in
theorem ggX5_drop_X5_found : GoodIn wsX5_drop wsX5_found := goodIn_ids iaX5_drop iaX5_found haX5_drop haX5_found imX5_drop hmX5_drop (by decide +kernel) (by decide +kernel)
set_option maxRecDepth 20000 in
theorem gX5_drop_X5_found : GoodIn wsX5_drop (wsV RX5 71 RX5 yX5_found wsX5_found) := goodIn_app (goodIn_ids iaX5_drop [319, 321, 0, 71] haX5_drop rfl imX5_drop hmX5_drop (by decide +kernel) (by decide +kernel)) ggX5_drop_X5_found
set_option maxRecDepth 20000 in
theorem ggX5_drop_X5_nothingFound : GoodIn wsX5_drop wsX5_nothingFound := goodIn_ids iaX5_drop iaX5_nothingFound haX5_drop haX5_nothingFound imX5_drop hmX5_drop (by decide +kernel) (by decide +kernel)
set_option maxRecDepth 20000 in
theorem gX5_drop_X5_nothingFound : GoodIn wsX5_drop (wsV RX5 75 RX5 yX5_nothingFound wsX5_nothingFound) := goodIn_app (goodIn_ids iaX5_drop [324, 326, 1, 71] haX5_drop rfl imX5_drop hmX5_drop (by decide +kernel) (by decide +kernel)) ggX5_drop_X5_nothingFound
theorem dX5_drop_0 : decode cX5_drop 0 = .ok (.iload_n 1, 1) := by decide +kernel
theorem dX5_drop_1 : decode cX5_drop 1 = .ok (.invokestatic 62, 3) := by decide +kernel
theorem dX5_drop_4 : decode cX5_drop 4 = .ok (.ifCond .ne 6, 3) := by decide +kernel
theorem dX5_drop_7 : decode cX5_drop 7 = .ok (.ldc 70, 2) := by decide +kernel
theorem dX5_drop_9 : decode cX5_drop 9 = .ok (.ireturn, 1) := by decide +kernel
theorem dX5_drop_10 : decode cX5_drop 10 = .ok (.aload_n 0, 1) := by decide +kernel
theorem dX5_drop_11 : decode cX5_drop 11 = .ok (.iload_n 1, 1) := by decide +kernel
theorem dX5_drop_12 : decode cX5_drop 12 = .ok (.invokevirtual 78, 3) := by decide +kernel
theorem dX5_drop_15 : decode cX5_drop 15 = .ok (.ifCond .eq 9, 3) := by decide +kernel
theorem dX5_drop_18 : decode cX5_drop 18 = .ok (.aload_n 0, 1) := by decide +kernel
theorem dX5_drop_19 : decode cX5_drop 19 = .ok (.iconst 1, 1) := by decide +kernel
theorem dX5_drop_20 : decode cX5_drop 20 = .ok (.invokevirtual 71, 3) := by decide +kernel
theorem dX5_drop_23 : decode cX5_drop 23 = .ok (.ireturn, 1) := by decide +kernel
theorem dX5_drop_24 : decode cX5_drop 24 = .ok (.aload_n 0, 1) := by decide +kernel
theorem dX5_drop_25 : decode cX5_drop 25 = .ok (.getfield 18, 3) := by decide +kernel
theorem dX5_drop_28 : decode cX5_drop 28 = .ok (.iload_n 1, 1) := by decide +kernel
theorem dX5_drop_29 : decode cX5_drop 29 = .ok (.iaload, 1) := by decide +kernel
theorem dX5_drop_30 : decode cX5_drop 30 = .ok (.istore_n 2, 1) := by decide +kernel
theorem dX5_drop_31 : decode cX5_drop 31 = .ok (.aload_n 0, 1) := by decide +kernel
theorem dX5_drop_32 : decode cX5_drop 32 = .ok (.getfield 18, 3) := by decide +kernel
theorem dX5_drop_35 : decode cX5_drop 35 = .ok (.iload_n 1, 1) := by decide +kernel
theorem dX5_drop_36 : decode cX5_drop 36 = .ok (.iconst (-1), 1) := by decide +kernel
theorem dX5_drop_37 : decode cX5_drop 37 = .ok (.iastore, 1) := by decide +kernel
theorem dX5_drop_38 : decode cX5_drop 38 = .ok (.aload_n 0, 1) := by decide +kernel
theorem dX5_drop_39 : decode cX5_drop 39 = .ok (.iload_n 2, 1) := by decide +kernel
theorem dX5_drop_40 : decode cX5_drop 40 = .ok (.invokevirtual 75, 3) := by decide +kernel
theorem dX5_drop_43 : decode cX5_drop 43 = .ok (.ireturn, 1) := by decide +kernel
set_option maxRecDepth 20000 in
theorem ggX5_feed_X5_isUpTo : GoodIn wsX5_feed wsX5_isUpTo := goodIn_ids iaX5_feed iaX5_isUpTo haX5_feed haX5_isUpTo imX5_feed hmX5_feed (by decide +kernel) (by decide +kernel)
set_option maxRecDepth 20000 in
theorem gX5_feed_X5_isUpTo : GoodIn wsX5_feed (va_wsS RX5 66 yX5_isUpTo wsX5_isUpTo) := goodIn_app (goodIn_ids iaX5_feed [315, 316, 71] haX5_feed rfl imX5_feed hmX5_feed (by decide +kernel) (by decide +kernel)) ggX5_feed_X5_isUpTo
set_option maxRecDepth 20000 in
theorem ggX5_feed_X2_isFull : GoodIn wsX5_feed wsX2_isFull := goodIn_ids iaX5_feed iaX2_isFull haX5_feed haX2_isFull imX5_feed hmX5_feed (by decide +kernel) (by decide +kernel)
set_option maxRecDepth 20000 in
theorem gX5_feed_X2_isFull : GoodIn wsX5_feed (wsV RX5 95 RX2 yX2_isFull wsX2_isFull) := goodIn_app (goodIn_ids iaX5_feed [358, 359, 360, 72] haX5_feed rfl imX5_feed hmX5_feed (by decide +kernel) (by decide +kernel)) ggX5_feed_X2_isFull
set_option maxRecDepth 20000 in
theorem ggX5_feed_X2_append : GoodIn wsX5_feed wsX2_append := goodIn_ids iaX5_feed iaX2_append haX5_feed haX2_append imX5_feed hmX5_feed (by decide +kernel) (by decide +kernel)
set_option maxRecDepth 20000 in
theorem gX5_feed_X2_append : GoodIn wsX5_feed (wsV RX5 100 RX2 yX2_append wsX2_append) := goodIn_app (goodIn_ids iaX5_feed [363, 364, 365, 72] haX5_feed rfl imX5_feed hmX5_feed (by decide +kernel) (by decide +kernel)) ggX5_feed_X2_append
theorem dX5_feed_0 : decode cX5_feed 0 = .ok (.iload_n 1, 1) := by decide +kernel
theorem dX5_feed_1 : decode cX5_feed 1 = .ok (.sipush 255, 3) := by decide +kernel
theorem dX5_feed_4 : decode cX5_feed 4 = .ok (.invokestatic 66, 3) := by decide +kernel
theorem dX5_feed_7 : decode cX5_feed 7 = .ok (.ifCond .ne 6, 3) := by decide +kernel
theorem dX5_feed_10 : decode cX5_feed 10 = .ok (.ldc 70, 2) := by decide +kernel
theorem dX5_feed_12 : decode cX5_feed 12 = .ok (.ireturn, 1) := by decide +kernel
theorem dX5_feed_13 : decode cX5_feed 13 = .ok (.aload_n 0, 1) := by decide +kernel
theorem dX5_feed_14 : decode cX5_feed 14 = .ok (.getfield 24, 3) := by decide +kernel
theorem dX5_feed_17 : decode cX5_feed 17 = .ok (.invokevirtual 95, 3) := by decide +kernel
theorem dX5_feed_20 : decode cX5_feed 20 = .ok (.ifCond .eq 8, 3) := by decide +kernel
theorem dX5_feed_23 : decode cX5_feed 23 = .ok (.ldc 99, 2) := by decide +kernel
theorem dX5_feed_25 : decode cX5_feed 25 = .ok (.goto 11, 3) := by decide +kernel
theorem dX5_feed_28 : decode cX5_feed 28 = .ok (.aload_n 0, 1) := by decide +kernel
theorem dX5_feed_29 : decode cX5_feed 29 = .ok (.getfield 24, 3) := by decide +kernel
theorem dX5_feed_32 : decode cX5_feed 32 = .ok (.iload_n 1, 1) := by decide +kernel
theorem dX5_feed_33 : decode cX5_feed 33 = .ok (.invokevirtual 100, 3) := by decide +kernel
theorem dX5_feed_36 : decode cX5_feed 36 = .ok (.ireturn, 1) := by decide +kernel
set_option maxRecDepth 20000 in
theorem ggX5_town_X2_reads : GoodIn wsX5_town wsX2_reads := goodIn_ids iaX5_town iaX2_reads haX5_town haX2_reads imX5_town hmX5_town (by decide +kernel) (by decide +kernel)
set_option maxRecDepth 20000 in
theorem gX5_town_X2_reads : GoodIn wsX5_town (wsV RX5 103 RX2 yX2_reads wsX2_reads) := goodIn_app (goodIn_ids iaX5_town [372, 373, 374, 72] haX5_town rfl imX5_town hmX5_town (by decide +kernel) (by decide +kernel)) ggX5_town_X2_reads
set_option maxRecDepth 20000 in
theorem ggX5_town_X4_become : GoodIn wsX5_town wsX4_become := goodIn_ids iaX5_town iaX4_become haX5_town haX4_become imX5_town hmX5_town (by decide +kernel) (by decide +kernel)
set_option maxRecDepth 20000 in
theorem gX5_town_X4_become : GoodIn wsX5_town (wsV RX5 114 RX4 yX4_become wsX4_become) := goodIn_app (goodIn_ids iaX5_town [431, 432, 433, 73] haX5_town rfl imX5_town hmX5_town (by decide +kernel) (by decide +kernel)) ggX5_town_X4_become
set_option maxRecDepth 20000 in
theorem ggX5_town_X0_forget : GoodIn wsX5_town wsX0_forget := goodIn_ids iaX5_town iaX0_forget haX5_town haX0_forget imX5_town hmX5_town (by decide +kernel) (by decide +kernel)
set_option maxRecDepth 20000 in
theorem gX5_town_X0_forget : GoodIn wsX5_town (wsV RX5 117 RX0 yX0_forget wsX0_forget) := goodIn_app (goodIn_ids iaX5_town [435, 436, 437, 74] haX5_town rfl imX5_town hmX5_town (by decide +kernel) (by decide +kernel)) ggX5_town_X0_forget
theorem dX5_town_0 : decode cX5_town 0 = .ok (.aload_n 0, 1) := by decide +kernel
theorem dX5_town_1 : decode cX5_town 1 = .ok (.getfield 24, 3) := by decide +kernel
theorem dX5_town_4 : decode cX5_town 4 = .ok (.invokevirtual 103, 3) := by decide +kernel
theorem dX5_town_7 : decode cX5_town 7 = .ok (.ifCond .ne 14, 3) := by decide +kernel
theorem dX5_town_10 : decode cX5_town 10 = .ok (.ldc 106, 2) := by decide +kernel
theorem dX5_town_12 : decode cX5_town 12 = .ok (.aload_n 0, 1) := by decide +kernel
theorem dX5_town_13 : decode cX5_town 13 = .ok (.getfield 24, 3) := by decide +kernel
theorem dX5_town_16 : decode cX5_town 16 = .ok (.getfield 107, 3) := by decide +kernel
theorem dX5_town_19 : decode cX5_town 19 = .ok (.isub, 1) := by decide +kernel
theorem dX5_town_20 : decode cX5_town 20 = .ok (.ireturn, 1) := by decide +kernel
theorem dX5_town_21 : decode cX5_town 21 = .ok (.aload_n 0, 1) := by decide +kernel
theorem dX5_town_22 : decode cX5_town 22 = .ok (.getfield 31, 3) := by decide +kernel
theorem dX5_town_25 : decode cX5_town 25 = .ok (.aload_n 0, 1) := by decide +kernel
theorem dX5_town_26 : decode cX5_town 26 = .ok (.getfield 24, 3) := by decide +kernel
theorem dX5_town_29 : decode cX5_town 29 = .ok (.getfield 111, 3) := by decide +kernel
theorem dX5_town_32 : decode cX5_town 32 = .ok (.invokevirtual 114, 3) := by decide +kernel
theorem dX5_town_35 : decode cX5_town 35 = .ok (.aload_n 0, 1) := by decide +kernel
theorem dX5_town_36 : decode cX5_town 36 = .ok (.getfield 42, 3) := by decide +kernel
theorem dX5_town_39 : decode cX5_town 39 = .ok (.invokevirtual 117, 3) := by decide +kernel
theorem dX5_town_42 : decode cX5_town 42 = .ok (.aload_n 0, 1) := by decide +kernel
theorem dX5_town_43 : decode cX5_town 43 = .ok (.getfield 31, 3) := by decide +kernel
theorem dX5_town_46 : decode cX5_town 46 = .ok (.getfield 120, 3) := by decide +kernel
theorem dX5_town_49 : decode cX5_town 49 = .ok (.ireturn, 1) := by decide +kernel
theorem dX5_fault_0 : decode cX5_fault 0 = .ok (.aload_n 0, 1) := by decide +kernel
theorem dX5_fault_1 : decode cX5_fault 1 = .ok (.getfield 24, 3) := by decide +kernel
theorem dX5_fault_4 : decode cX5_fault 4 = .ok (.getfield 123, 3) := by decide +kernel
theorem dX5_fault_7 : decode cX5_fault 7 = .ok (.ireturn, 1) := by decide +kernel
set_option maxRecDepth 20000 in
theorem ggX5_minutes_X4_stands : GoodIn wsX5_minutes wsX4_stands := goodIn_ids iaX5_minutes iaX4_stands haX5_minutes haX4_stands imX5_minutes hmX5_minutes (by decide +kernel) (by decide +kernel)
set_option maxRecDepth 20000 in
theorem gX5_minutes_X4_stands : GoodIn wsX5_minutes (wsV RX5 126 RX4 yX4_stands wsX4_stands) := goodIn_app (goodIn_ids iaX5_minutes [447, 448, 449, 73] haX5_minutes rfl imX5_minutes hmX5_minutes (by decide +kernel) (by decide +kernel)) ggX5_minutes_X4_stands
set_option maxRecDepth 20000 in
theorem ggX5_minutes_X0_keep : GoodIn wsX5_minutes wsX0_keep := goodIn_ids iaX5_minutes iaX0_keep haX5_minutes haX0_keep imX5_minutes hmX5_minutes (by decide +kernel) (by decide +kernel)
set_option maxRecDepth 20000 in
theorem gX5_minutes_X0_keep : GoodIn wsX5_minutes (wsV RX5 133 RX0 yX0_keep wsX0_keep) := goodIn_app (goodIn_ids iaX5_minutes [452, 453, 454, 74] haX5_minutes rfl imX5_minutes hmX5_minutes (by decide +kernel) (by decide +kernel)) ggX5_minutes_X0_keep
set_option maxRecDepth 20000 in
theorem ggX5_minutes_X4_pass : GoodIn wsX5_minutes wsX4_pass := goodIn_ids iaX5_minutes iaX4_pass haX5_minutes haX4_pass imX5_minutes hmX5_minutes (by decide +kernel) (by decide +kernel)
set_option maxRecDepth 20000 in
theorem gX5_minutes_X4_pass : GoodIn wsX5_minutes (wsV RX5 136 RX4 yX4_pass wsX4_pass) := goodIn_app (goodIn_ids iaX5_minutes [460, 461, 462, 73] haX5_minutes rfl imX5_minutes hmX5_minutes (by decide +kernel) (by decide +kernel)) ggX5_minutes_X4_pass
theorem dX5_minutes_0 : decode cX5_minutes 0 = .ok (.aload_n 0, 1) := by decide +kernel
theorem dX5_minutes_1 : decode cX5_minutes 1 = .ok (.getfield 31, 3) := by decide +kernel
theorem dX5_minutes_4 : decode cX5_minutes 4 = .ok (.invokevirtual 126, 3) := by decide +kernel
theorem dX5_minutes_7 : decode cX5_minutes 7 = .ok (.ifCond .ne 6, 3) := by decide +kernel
theorem dX5_minutes_10 : decode cX5_minutes 10 = .ok (.ldc 129, 2) := by decide +kernel
theorem dX5_minutes_12 : decode cX5_minutes 12 = .ok (.ireturn, 1) := by decide +kernel
theorem dX5_minutes_13 : decode cX5_minutes 13 = .ok (.iload_n 1, 1) := by decide +kernel
theorem dX5_minutes_14 : decode cX5_minutes 14 = .ok (.iconst 1, 1) := by decide +kernel
theorem dX5_minutes_15 : decode cX5_minutes 15 = .ok (.if_icmp .lt 9, 3) := by decide +kernel
theorem dX5_minutes_18 : decode cX5_minutes 18 = .ok (.iload_n 1, 1) := by decide +kernel
theorem dX5_minutes_19 : decode cX5_minutes 19 = .ok (.bipush 24, 2) := by decide +kernel
theorem dX5_minutes_21 : decode cX5_minutes 21 = .ok (.if_icmp .le 6, 3) := by decide +kernel
theorem dX5_minutes_24 : decode cX5_minutes 24 = .ok (.ldc 70, 2) := by decide +kernel
theorem dX5_minutes_26 : decode cX5_minutes 26 = .ok (.ireturn, 1) := by decide +kernel
theorem dX5_minutes_27 : decode cX5_minutes 27 = .ok (.aload_n 0, 1) := by decide +kernel
theorem dX5_minutes_28 : decode cX5_minutes 28 = .ok (.getfield 31, 3) := by decide +kernel
theorem dX5_minutes_31 : decode cX5_minutes 31 = .ok (.getfield 130, 3) := by decide +kernel
theorem dX5_minutes_34 : decode cX5_minutes 34 = .ok (.sipush 999, 3) := by decide +kernel
theorem dX5_minutes_37 : decode cX5_minutes 37 = .ok (.if_icmp .lt 6, 3) := by decide +kernel
theorem dX5_minutes_40 : decode cX5_minutes 40 = .ok (.ldc 99, 2) := by decide +kernel
theorem dX5_minutes_42 : decode cX5_minutes 42 = .ok (.ireturn, 1) := by decide +kernel
theorem dX5_minutes_43 : decode cX5_minutes 43 = .ok (.iconst 0, 1) := by decide +kernel
theorem dX5_minutes_44 : decode cX5_minutes 44 = .ok (.istore_n 2, 1) := by decide +kernel
theorem dX5_minutes_45 : decode cX5_minutes 45 = .ok (.iload_n 2, 1) := by decide +kernel
theorem dX5_minutes_46 : decode cX5_minutes 46 = .ok (.iload_n 1, 1) := by decide +kernel
theorem dX5_minutes_47 : decode cX5_minutes 47 = .ok (.if_icmp .ge 28, 3) := by decide +kernel
theorem dX5_minutes_50 : decode cX5_minutes 50 = .ok (.aload_n 0, 1) := by decide +kernel
theorem dX5_minutes_51 : decode cX5_minutes 51 = .ok (.getfield 42, 3) := by decide +kernel
theorem dX5_minutes_54 : decode cX5_minutes 54 = .ok (.aload_n 0, 1) := by decide +kernel
theorem dX5_minutes_55 : decode cX5_minutes 55 = .ok (.getfield 31, 3) := by decide +kernel
theorem dX5_minutes_58 : decode cX5_minutes 58 = .ok (.invokevirtual 133, 3) := by decide +kernel
theorem dX5_minutes_61 : decode cX5_minutes 61 = .ok (.aload_n 0, 1) := by decide +kernel
theorem dX5_minutes_62 : decode cX5_minutes 62 = .ok (.getfield 31, 3) := by decide +kernel
theorem dX5_minutes_65 : decode cX5_minutes 65 = .ok (.invokevirtual 136, 3) := by decide +kernel
theorem dX5_minutes_68 : decode cX5_minutes 68 = .ok (.pop, 1) := by decide +kernel
theorem dX5_minutes_69 : decode cX5_minutes 69 = .ok (.iinc 2 1, 3) := by decide +kernel
theorem dX5_minutes_72 : decode cX5_minutes 72 = .ok (.goto (-27), 3) := by decide +kernel
theorem dX5_minutes_75 : decode cX5_minutes 75 = .ok (.aload_n 0, 1) := by decide +kernel
theorem dX5_minutes_76 : decode cX5_minutes 76 = .ok (.getfield 31, 3) := by decide +kernel
theorem dX5_minutes_79 : decode cX5_minutes 79 = .ok (.getfield 130, 3) := by decide +kernel
theorem dX5_minutes_82 : decode cX5_minutes 82 = .ok (.ireturn, 1) := by decide +kernel
set_option maxRecDepth 20000 in
theorem ggX5_bones_X5_isPerson : GoodIn wsX5_bones wsX5_isPerson := goodIn_ids iaX5_bones iaX5_isPerson haX5_bones haX5_isPerson imX5_bones hmX5_bones (by decide +kernel) (by decide +kernel)
set_option maxRecDepth 20000 in
theorem gX5_bones_X5_isPerson : GoodIn wsX5_bones (wsV RX5 140 RX5 yX5_isPerson wsX5_isPerson) := goodIn_app (goodIn_ids iaX5_bones [533, 535, 18, 71] haX5_bones rfl imX5_bones hmX5_bones (by decide +kernel) (by decide +kernel)) ggX5_bones_X5_isPerson
set_option maxRecDepth 20000 in
theorem ggX5_bones_X5_isUpTo : GoodIn wsX5_bones wsX5_isUpTo := goodIn_ids iaX5_bones iaX5_isUpTo haX5_bones haX5_isUpTo imX5_bones hmX5_bones (by decide +kernel) (by decide +kernel)
set_option maxRecDepth 20000 in
theorem gX5_bones_X5_isUpTo : GoodIn wsX5_bones (va_wsS RX5 66 yX5_isUpTo wsX5_isUpTo) := goodIn_app (goodIn_ids iaX5_bones [315, 316, 71] haX5_bones rfl imX5_bones hmX5_bones (by decide +kernel) (by decide +kernel)) ggX5_bones_X5_isUpTo
set_option maxRecDepth 20000 in
theorem ggX5_bones_X0_keep : GoodIn wsX5_bones wsX0_keep := goodIn_ids iaX5_bones iaX0_keep haX5_bones haX0_keep imX5_bones hmX5_bones (by decide +kernel) (by decide +kernel)
set_option maxRecDepth 20000 in
theorem gX5_bones_X0_keep : GoodIn wsX5_bones (wsV RX5 133 RX0 yX0_keep wsX0_keep) := goodIn_app (goodIn_ids iaX5_bones [452, 453, 454, 74] haX5_bones rfl imX5_bones hmX5_bones (by decide +kernel) (by decide +kernel)) ggX5_bones_X0_keep
theorem dX5_bones_0 : decode cX5_bones 0 = .ok (.aload_n 0, 1) := by decide +kernel
theorem dX5_bones_1 : decode cX5_bones 1 = .ok (.iload_n 1, 1) := by decide +kernel
theorem dX5_bones_2 : decode cX5_bones 2 = .ok (.invokevirtual 140, 3) := by decide +kernel
theorem dX5_bones_5 : decode cX5_bones 5 = .ok (.ifCond .eq 12, 3) := by decide +kernel
theorem dX5_bones_8 : decode cX5_bones 8 = .ok (.iload_n 2, 1) := by decide +kernel
theorem dX5_bones_9 : decode cX5_bones 9 = .ok (.bipush 9, 2) := by decide +kernel
theorem dX5_bones_11 : decode cX5_bones 11 = .ok (.invokestatic 66, 3) := by decide +kernel
theorem dX5_bones_14 : decode cX5_bones 14 = .ok (.ifCond .ne 6, 3) := by decide +kernel
theorem dX5_bones_17 : decode cX5_bones 17 = .ok (.ldc 70, 2) := by decide +kernel
theorem dX5_bones_19 : decode cX5_bones 19 = .ok (.ireturn, 1) := by decide +kernel
theorem dX5_bones_20 : decode cX5_bones 20 = .ok (.aload_n 0, 1) := by decide +kernel
theorem dX5_bones_21 : decode cX5_bones 21 = .ok (.getfield 31, 3) := by decide +kernel
theorem dX5_bones_24 : decode cX5_bones 24 = .ok (.getfield 143, 3) := by decide +kernel
theorem dX5_bones_27 : decode cX5_bones 27 = .ok (.iload_n 1, 1) := by decide +kernel
theorem dX5_bones_28 : decode cX5_bones 28 = .ok (.iaload, 1) := by decide +kernel
theorem dX5_bones_29 : decode cX5_bones 29 = .ok (.istore_n 3, 1) := by decide +kernel
theorem dX5_bones_30 : decode cX5_bones 30 = .ok (.iload_n 2, 1) := by decide +kernel
theorem dX5_bones_31 : decode cX5_bones 31 = .ok (.iload_n 3, 1) := by decide +kernel
theorem dX5_bones_32 : decode cX5_bones 32 = .ok (.if_icmp .eq 24, 3) := by decide +kernel
theorem dX5_bones_35 : decode cX5_bones 35 = .ok (.aload_n 0, 1) := by decide +kernel
theorem dX5_bones_36 : decode cX5_bones 36 = .ok (.getfield 42, 3) := by decide +kernel
theorem dX5_bones_39 : decode cX5_bones 39 = .ok (.aload_n 0, 1) := by decide +kernel
theorem dX5_bones_40 : decode cX5_bones 40 = .ok (.getfield 31, 3) := by decide +kernel
theorem dX5_bones_43 : decode cX5_bones 43 = .ok (.invokevirtual 133, 3) := by decide +kernel
theorem dX5_bones_46 : decode cX5_bones 46 = .ok (.aload_n 0, 1) := by decide +kernel
theorem dX5_bones_47 : decode cX5_bones 47 = .ok (.getfield 31, 3) := by decide +kernel
theorem dX5_bones_50 : decode cX5_bones 50 = .ok (.getfield 143, 3) := by decide +kernel
theorem dX5_bones_53 : decode cX5_bones 53 = .ok (.iload_n 1, 1) := by decide +kernel
theorem dX5_bones_54 : decode cX5_bones 54 = .ok (.iload_n 2, 1) := by decide +kernel
theorem dX5_bones_55 : decode cX5_bones 55 = .ok (.iastore, 1) := by decide +kernel
theorem dX5_bones_56 : decode cX5_bones 56 = .ok (.iload_n 3, 1) := by decide +kernel
theorem dX5_bones_57 : decode cX5_bones 57 = .ok (.ireturn, 1) := by decide +kernel
set_option maxRecDepth 20000 in
theorem ggX5_walk_X5_isPerson : GoodIn wsX5_walk wsX5_isPerson := goodIn_ids iaX5_walk iaX5_isPerson haX5_walk haX5_isPerson imX5_walk hmX5_walk (by decide +kernel) (by decide +kernel)
set_option maxRecDepth 20000 in
theorem gX5_walk_X5_isPerson : GoodIn wsX5_walk (wsV RX5 140 RX5 yX5_isPerson wsX5_isPerson) := goodIn_app (goodIn_ids iaX5_walk [533, 535, 18, 71] haX5_walk rfl imX5_walk hmX5_walk (by decide +kernel) (by decide +kernel)) ggX5_walk_X5_isPerson
set_option maxRecDepth 20000 in
theorem ggX5_walk_X5_isUpTo : GoodIn wsX5_walk wsX5_isUpTo := goodIn_ids iaX5_walk iaX5_isUpTo haX5_walk haX5_isUpTo imX5_walk hmX5_walk (by decide +kernel) (by decide +kernel)
set_option maxRecDepth 20000 in
theorem gX5_walk_X5_isUpTo : GoodIn wsX5_walk (va_wsS RX5 66 yX5_isUpTo wsX5_isUpTo) := goodIn_app (goodIn_ids iaX5_walk [315, 316, 71] haX5_walk rfl imX5_walk hmX5_walk (by decide +kernel) (by decide +kernel)) ggX5_walk_X5_isUpTo
set_option maxRecDepth 20000 in
theorem ggX5_walk_X0_keep : GoodIn wsX5_walk wsX0_keep := goodIn_ids iaX5_walk iaX0_keep haX5_walk haX0_keep imX5_walk hmX5_walk (by decide +kernel) (by decide +kernel)
set_option maxRecDepth 20000 in
theorem gX5_walk_X0_keep : GoodIn wsX5_walk (wsV RX5 133 RX0 yX0_keep wsX0_keep) := goodIn_app (goodIn_ids iaX5_walk [452, 453, 454, 74] haX5_walk rfl imX5_walk hmX5_walk (by decide +kernel) (by decide +kernel)) ggX5_walk_X0_keep
theorem dX5_walk_0 : decode cX5_walk 0 = .ok (.aload_n 0, 1) := by decide +kernel
theorem dX5_walk_1 : decode cX5_walk 1 = .ok (.iload_n 1, 1) := by decide +kernel
theorem dX5_walk_2 : decode cX5_walk 2 = .ok (.invokevirtual 140, 3) := by decide +kernel
theorem dX5_walk_5 : decode cX5_walk 5 = .ok (.ifCond .eq 11, 3) := by decide +kernel
theorem dX5_walk_8 : decode cX5_walk 8 = .ok (.iload_n 2, 1) := by decide +kernel
theorem dX5_walk_9 : decode cX5_walk 9 = .ok (.iconst 2, 1) := by decide +kernel
theorem dX5_walk_10 : decode cX5_walk 10 = .ok (.invokestatic 66, 3) := by decide +kernel
theorem dX5_walk_13 : decode cX5_walk 13 = .ok (.ifCond .ne 6, 3) := by decide +kernel
theorem dX5_walk_16 : decode cX5_walk 16 = .ok (.ldc 70, 2) := by decide +kernel
theorem dX5_walk_18 : decode cX5_walk 18 = .ok (.ireturn, 1) := by decide +kernel
theorem dX5_walk_19 : decode cX5_walk 19 = .ok (.aload_n 0, 1) := by decide +kernel
theorem dX5_walk_20 : decode cX5_walk 20 = .ok (.getfield 31, 3) := by decide +kernel
theorem dX5_walk_23 : decode cX5_walk 23 = .ok (.getfield 146, 3) := by decide +kernel
theorem dX5_walk_26 : decode cX5_walk 26 = .ok (.iload_n 1, 1) := by decide +kernel
theorem dX5_walk_27 : decode cX5_walk 27 = .ok (.iaload, 1) := by decide +kernel
theorem dX5_walk_28 : decode cX5_walk 28 = .ok (.istore_n 3, 1) := by decide +kernel
theorem dX5_walk_29 : decode cX5_walk 29 = .ok (.iload_n 2, 1) := by decide +kernel
theorem dX5_walk_30 : decode cX5_walk 30 = .ok (.iload_n 3, 1) := by decide +kernel
theorem dX5_walk_31 : decode cX5_walk 31 = .ok (.if_icmp .eq 24, 3) := by decide +kernel
theorem dX5_walk_34 : decode cX5_walk 34 = .ok (.aload_n 0, 1) := by decide +kernel
theorem dX5_walk_35 : decode cX5_walk 35 = .ok (.getfield 42, 3) := by decide +kernel
theorem dX5_walk_38 : decode cX5_walk 38 = .ok (.aload_n 0, 1) := by decide +kernel
theorem dX5_walk_39 : decode cX5_walk 39 = .ok (.getfield 31, 3) := by decide +kernel
theorem dX5_walk_42 : decode cX5_walk 42 = .ok (.invokevirtual 133, 3) := by decide +kernel
theorem dX5_walk_45 : decode cX5_walk 45 = .ok (.aload_n 0, 1) := by decide +kernel
theorem dX5_walk_46 : decode cX5_walk 46 = .ok (.getfield 31, 3) := by decide +kernel
theorem dX5_walk_49 : decode cX5_walk 49 = .ok (.getfield 146, 3) := by decide +kernel
theorem dX5_walk_52 : decode cX5_walk 52 = .ok (.iload_n 1, 1) := by decide +kernel
theorem dX5_walk_53 : decode cX5_walk 53 = .ok (.iload_n 2, 1) := by decide +kernel
theorem dX5_walk_54 : decode cX5_walk 54 = .ok (.iastore, 1) := by decide +kernel
theorem dX5_walk_55 : decode cX5_walk 55 = .ok (.iload_n 3, 1) := by decide +kernel
theorem dX5_walk_56 : decode cX5_walk 56 = .ok (.ireturn, 1) := by decide +kernel
set_option maxRecDepth 20000 in
theorem ggX5_put_X5_isDog : GoodIn wsX5_put wsX5_isDog := goodIn_ids iaX5_put iaX5_isDog haX5_put haX5_isDog imX5_put hmX5_put (by decide +kernel) (by decide +kernel)
set_option maxRecDepth 20000 in
theorem gX5_put_X5_isDog : GoodIn wsX5_put (wsV RX5 149 RX5 yX5_isDog wsX5_isDog) := goodIn_app (goodIn_ids iaX5_put [545, 547, 19, 71] haX5_put rfl imX5_put hmX5_put (by decide +kernel) (by decide +kernel)) ggX5_put_X5_isDog
set_option maxRecDepth 20000 in
theorem ggX5_put_X5_isPlace : GoodIn wsX5_put wsX5_isPlace := goodIn_ids iaX5_put iaX5_isPlace haX5_put haX5_isPlace imX5_put hmX5_put (by decide +kernel) (by decide +kernel)
set_option maxRecDepth 20000 in
theorem gX5_put_X5_isPlace : GoodIn wsX5_put (wsV RX5 152 RX5 yX5_isPlace wsX5_isPlace) := goodIn_app (goodIn_ids iaX5_put [549, 551, 20, 71] haX5_put rfl imX5_put hmX5_put (by decide +kernel) (by decide +kernel)) ggX5_put_X5_isPlace
set_option maxRecDepth 20000 in
theorem ggX5_put_X0_keep : GoodIn wsX5_put wsX0_keep := goodIn_ids iaX5_put iaX0_keep haX5_put haX0_keep imX5_put hmX5_put (by decide +kernel) (by decide +kernel)
set_option maxRecDepth 20000 in
theorem gX5_put_X0_keep : GoodIn wsX5_put (wsV RX5 133 RX0 yX0_keep wsX0_keep) := goodIn_app (goodIn_ids iaX5_put [452, 453, 454, 74] haX5_put rfl imX5_put hmX5_put (by decide +kernel) (by decide +kernel)) ggX5_put_X0_keep
theorem dX5_put_0 : decode cX5_put 0 = .ok (.aload_n 0, 1) := by decide +kernel
theorem dX5_put_1 : decode cX5_put 1 = .ok (.iload_n 1, 1) := by decide +kernel
theorem dX5_put_2 : decode cX5_put 2 = .ok (.invokevirtual 149, 3) := by decide +kernel
theorem dX5_put_5 : decode cX5_put 5 = .ok (.ifCond .eq 11, 3) := by decide +kernel
theorem dX5_put_8 : decode cX5_put 8 = .ok (.aload_n 0, 1) := by decide +kernel
theorem dX5_put_9 : decode cX5_put 9 = .ok (.iload_n 2, 1) := by decide +kernel
theorem dX5_put_10 : decode cX5_put 10 = .ok (.invokevirtual 152, 3) := by decide +kernel
theorem dX5_put_13 : decode cX5_put 13 = .ok (.ifCond .ne 6, 3) := by decide +kernel
theorem dX5_put_16 : decode cX5_put 16 = .ok (.ldc 70, 2) := by decide +kernel
theorem dX5_put_18 : decode cX5_put 18 = .ok (.ireturn, 1) := by decide +kernel
theorem dX5_put_19 : decode cX5_put 19 = .ok (.aload_n 0, 1) := by decide +kernel
theorem dX5_put_20 : decode cX5_put 20 = .ok (.getfield 31, 3) := by decide +kernel
theorem dX5_put_23 : decode cX5_put 23 = .ok (.getfield 155, 3) := by decide +kernel
theorem dX5_put_26 : decode cX5_put 26 = .ok (.iload_n 1, 1) := by decide +kernel
theorem dX5_put_27 : decode cX5_put 27 = .ok (.iaload, 1) := by decide +kernel
theorem dX5_put_28 : decode cX5_put 28 = .ok (.istore_n 3, 1) := by decide +kernel
theorem dX5_put_29 : decode cX5_put 29 = .ok (.iload_n 2, 1) := by decide +kernel
theorem dX5_put_30 : decode cX5_put 30 = .ok (.iload_n 3, 1) := by decide +kernel
theorem dX5_put_31 : decode cX5_put 31 = .ok (.if_icmp .ne 6, 3) := by decide +kernel
theorem dX5_put_34 : decode cX5_put 34 = .ok (.ldc 129, 2) := by decide +kernel
theorem dX5_put_36 : decode cX5_put 36 = .ok (.ireturn, 1) := by decide +kernel
theorem dX5_put_37 : decode cX5_put 37 = .ok (.aload_n 0, 1) := by decide +kernel
theorem dX5_put_38 : decode cX5_put 38 = .ok (.getfield 42, 3) := by decide +kernel
theorem dX5_put_41 : decode cX5_put 41 = .ok (.aload_n 0, 1) := by decide +kernel
theorem dX5_put_42 : decode cX5_put 42 = .ok (.getfield 31, 3) := by decide +kernel
theorem dX5_put_45 : decode cX5_put 45 = .ok (.invokevirtual 133, 3) := by decide +kernel
theorem dX5_put_48 : decode cX5_put 48 = .ok (.aload_n 0, 1) := by decide +kernel
theorem dX5_put_49 : decode cX5_put 49 = .ok (.getfield 31, 3) := by decide +kernel
theorem dX5_put_52 : decode cX5_put 52 = .ok (.getfield 155, 3) := by decide +kernel
theorem dX5_put_55 : decode cX5_put 55 = .ok (.iload_n 1, 1) := by decide +kernel
theorem dX5_put_56 : decode cX5_put 56 = .ok (.iload_n 2, 1) := by decide +kernel
theorem dX5_put_57 : decode cX5_put 57 = .ok (.iastore, 1) := by decide +kernel
theorem dX5_put_58 : decode cX5_put 58 = .ok (.iload_n 3, 1) := by decide +kernel
theorem dX5_put_59 : decode cX5_put 59 = .ok (.ireturn, 1) := by decide +kernel
set_option maxRecDepth 20000 in
theorem ggX5_undo_X0_takeBack : GoodIn wsX5_undo wsX0_takeBack := goodIn_ids iaX5_undo iaX0_takeBack haX5_undo haX0_takeBack imX5_undo hmX5_undo (by decide +kernel) (by decide +kernel)
set_option maxRecDepth 20000 in
theorem gX5_undo_X0_takeBack : GoodIn wsX5_undo (wsV RX5 161 RX0 yX0_takeBack wsX0_takeBack) := goodIn_app (goodIn_ids iaX5_undo [557, 558, 559, 74] haX5_undo rfl imX5_undo hmX5_undo (by decide +kernel) (by decide +kernel)) ggX5_undo_X0_takeBack
theorem dX5_undo_0 : decode cX5_undo 0 = .ok (.aload_n 0, 1) := by decide +kernel
theorem dX5_undo_1 : decode cX5_undo 1 = .ok (.getfield 42, 3) := by decide +kernel
theorem dX5_undo_4 : decode cX5_undo 4 = .ok (.getfield 158, 3) := by decide +kernel
theorem dX5_undo_7 : decode cX5_undo 7 = .ok (.ifCond .ne 8, 3) := by decide +kernel
theorem dX5_undo_10 : decode cX5_undo 10 = .ok (.ldc 129, 2) := by decide +kernel
theorem dX5_undo_12 : decode cX5_undo 12 = .ok (.goto 14, 3) := by decide +kernel
theorem dX5_undo_15 : decode cX5_undo 15 = .ok (.aload_n 0, 1) := by decide +kernel
theorem dX5_undo_16 : decode cX5_undo 16 = .ok (.getfield 42, 3) := by decide +kernel
theorem dX5_undo_19 : decode cX5_undo 19 = .ok (.aload_n 0, 1) := by decide +kernel
theorem dX5_undo_20 : decode cX5_undo 20 = .ok (.getfield 31, 3) := by decide +kernel
theorem dX5_undo_23 : decode cX5_undo 23 = .ok (.invokevirtual 161, 3) := by decide +kernel
theorem dX5_undo_26 : decode cX5_undo 26 = .ok (.ireturn, 1) := by decide +kernel
set_option maxRecDepth 20000 in
theorem ggX5_dog_X5_isDog : GoodIn wsX5_dog wsX5_isDog := goodIn_ids iaX5_dog iaX5_isDog haX5_dog haX5_isDog imX5_dog hmX5_dog (by decide +kernel) (by decide +kernel)
set_option maxRecDepth 20000 in
theorem gX5_dog_X5_isDog : GoodIn wsX5_dog (wsV RX5 149 RX5 yX5_isDog wsX5_isDog) := goodIn_app (goodIn_ids iaX5_dog [545, 547, 19, 71] haX5_dog rfl imX5_dog hmX5_dog (by decide +kernel) (by decide +kernel)) ggX5_dog_X5_isDog
set_option maxRecDepth 20000 in
theorem ggX5_dog_X4_favourite : GoodIn wsX5_dog wsX4_favourite := goodIn_ids iaX5_dog iaX4_favourite haX5_dog haX4_favourite imX5_dog hmX5_dog (by decide +kernel) (by decide +kernel)
set_option maxRecDepth 20000 in
theorem gX5_dog_X4_favourite : GoodIn wsX5_dog (wsV RX5 168 RX4 yX4_favourite wsX4_favourite) := goodIn_app (goodIn_ids iaX5_dog [565, 496, 497, 73] haX5_dog rfl imX5_dog hmX5_dog (by decide +kernel) (by decide +kernel)) ggX5_dog_X4_favourite
set_option maxRecDepth 20000 in
theorem ggX5_dog_X4_goal : GoodIn wsX5_dog wsX4_goal := goodIn_ids iaX5_dog iaX4_goal haX5_dog haX4_goal imX5_dog hmX5_dog (by decide +kernel) (by decide +kernel)
set_option maxRecDepth 20000 in
theorem gX5_dog_X4_goal : GoodIn wsX5_dog (wsV RX5 171 RX4 yX4_goal wsX4_goal) := goodIn_app (goodIn_ids iaX5_dog [566, 476, 477, 73] haX5_dog rfl imX5_dog hmX5_dog (by decide +kernel) (by decide +kernel)) ggX5_dog_X4_goal
theorem dX5_dog_0 : decode cX5_dog 0 = .ok (.aload_n 0, 1) := by decide +kernel
theorem dX5_dog_1 : decode cX5_dog 1 = .ok (.iload_n 1, 1) := by decide +kernel
theorem dX5_dog_2 : decode cX5_dog 2 = .ok (.invokevirtual 149, 3) := by decide +kernel
theorem dX5_dog_5 : decode cX5_dog 5 = .ok (.ifCond .ne 6, 3) := by decide +kernel
theorem dX5_dog_8 : decode cX5_dog 8 = .ok (.ldc 70, 2) := by decide +kernel
theorem dX5_dog_10 : decode cX5_dog 10 = .ok (.ireturn, 1) := by decide +kernel
theorem dX5_dog_11 : decode cX5_dog 11 = .ok (.iload_n 2, 1) := by decide +kernel
theorem dX5_dog_12 : decode cX5_dog 12 = .ok (.tableswitch 70 0 3 #[32, 42, 52, 61], 32) := by decide +kernel
theorem dX5_dog_44 : decode cX5_dog 44 = .ok (.aload_n 0, 1) := by decide +kernel
theorem dX5_dog_45 : decode cX5_dog 45 = .ok (.getfield 31, 3) := by decide +kernel
theorem dX5_dog_48 : decode cX5_dog 48 = .ok (.getfield 155, 3) := by decide +kernel
theorem dX5_dog_51 : decode cX5_dog 51 = .ok (.iload_n 1, 1) := by decide +kernel
theorem dX5_dog_52 : decode cX5_dog 52 = .ok (.iaload, 1) := by decide +kernel
theorem dX5_dog_53 : decode cX5_dog 53 = .ok (.ireturn, 1) := by decide +kernel
theorem dX5_dog_54 : decode cX5_dog 54 = .ok (.aload_n 0, 1) := by decide +kernel
theorem dX5_dog_55 : decode cX5_dog 55 = .ok (.getfield 31, 3) := by decide +kernel
theorem dX5_dog_58 : decode cX5_dog 58 = .ok (.getfield 165, 3) := by decide +kernel
theorem dX5_dog_61 : decode cX5_dog 61 = .ok (.iload_n 1, 1) := by decide +kernel
theorem dX5_dog_62 : decode cX5_dog 62 = .ok (.iaload, 1) := by decide +kernel
theorem dX5_dog_63 : decode cX5_dog 63 = .ok (.ireturn, 1) := by decide +kernel
theorem dX5_dog_64 : decode cX5_dog 64 = .ok (.aload_n 0, 1) := by decide +kernel
theorem dX5_dog_65 : decode cX5_dog 65 = .ok (.getfield 31, 3) := by decide +kernel
theorem dX5_dog_68 : decode cX5_dog 68 = .ok (.iload_n 1, 1) := by decide +kernel
theorem dX5_dog_69 : decode cX5_dog 69 = .ok (.invokevirtual 168, 3) := by decide +kernel
theorem dX5_dog_72 : decode cX5_dog 72 = .ok (.ireturn, 1) := by decide +kernel
theorem dX5_dog_73 : decode cX5_dog 73 = .ok (.aload_n 0, 1) := by decide +kernel
theorem dX5_dog_74 : decode cX5_dog 74 = .ok (.getfield 31, 3) := by decide +kernel
theorem dX5_dog_77 : decode cX5_dog 77 = .ok (.iload_n 1, 1) := by decide +kernel
theorem dX5_dog_78 : decode cX5_dog 78 = .ok (.invokevirtual 171, 3) := by decide +kernel
theorem dX5_dog_81 : decode cX5_dog 81 = .ok (.ireturn, 1) := by decide +kernel
theorem dX5_dog_82 : decode cX5_dog 82 = .ok (.ldc 70, 2) := by decide +kernel
theorem dX5_dog_84 : decode cX5_dog 84 = .ok (.ireturn, 1) := by decide +kernel
set_option maxRecDepth 20000 in
theorem ggX5_person_X5_isPerson : GoodIn wsX5_person wsX5_isPerson := goodIn_ids iaX5_person iaX5_isPerson haX5_person haX5_isPerson imX5_person hmX5_person (by decide +kernel) (by decide +kernel)
set_option maxRecDepth 20000 in
theorem gX5_person_X5_isPerson : GoodIn wsX5_person (wsV RX5 140 RX5 yX5_isPerson wsX5_isPerson) := goodIn_app (goodIn_ids iaX5_person [533, 535, 18, 71] haX5_person rfl imX5_person hmX5_person (by decide +kernel) (by decide +kernel)) ggX5_person_X5_isPerson
set_option maxRecDepth 20000 in
theorem ggX5_person_X4_dogsIn : GoodIn wsX5_person wsX4_dogsIn := goodIn_ids iaX5_person iaX4_dogsIn haX5_person haX4_dogsIn imX5_person hmX5_person (by decide +kernel) (by decide +kernel)
set_option maxRecDepth 20000 in
theorem gX5_person_X4_dogsIn : GoodIn wsX5_person (wsV RX5 186 RX4 yX4_dogsIn wsX4_dogsIn) := goodIn_app (goodIn_ids iaX5_person [571, 520, 521, 73] haX5_person rfl imX5_person hmX5_person (by decide +kernel) (by decide +kernel)) ggX5_person_X4_dogsIn
theorem dX5_person_0 : decode cX5_person 0 = .ok (.aload_n 0, 1) := by decide +kernel
theorem dX5_person_1 : decode cX5_person 1 = .ok (.iload_n 1, 1) := by decide +kernel
theorem dX5_person_2 : decode cX5_person 2 = .ok (.invokevirtual 140, 3) := by decide +kernel
theorem dX5_person_5 : decode cX5_person 5 = .ok (.ifCond .ne 6, 3) := by decide +kernel
theorem dX5_person_8 : decode cX5_person 8 = .ok (.ldc 70, 2) := by decide +kernel
theorem dX5_person_10 : decode cX5_person 10 = .ok (.ireturn, 1) := by decide +kernel
theorem dX5_person_11 : decode cX5_person 11 = .ok (.iload_n 2, 1) := by decide +kernel
theorem dX5_person_12 : decode cX5_person 12 = .ok (.tableswitch 121 0 6 #[44, 54, 64, 74, 84, 94, 104], 44) := by decide +kernel
theorem dX5_person_56 : decode cX5_person 56 = .ok (.aload_n 0, 1) := by decide +kernel
theorem dX5_person_57 : decode cX5_person 57 = .ok (.getfield 31, 3) := by decide +kernel
theorem dX5_person_60 : decode cX5_person 60 = .ok (.getfield 174, 3) := by decide +kernel
theorem dX5_person_63 : decode cX5_person 63 = .ok (.iload_n 1, 1) := by decide +kernel
theorem dX5_person_64 : decode cX5_person 64 = .ok (.iaload, 1) := by decide +kernel
theorem dX5_person_65 : decode cX5_person 65 = .ok (.ireturn, 1) := by decide +kernel
theorem dX5_person_66 : decode cX5_person 66 = .ok (.aload_n 0, 1) := by decide +kernel
theorem dX5_person_67 : decode cX5_person 67 = .ok (.getfield 31, 3) := by decide +kernel
theorem dX5_person_70 : decode cX5_person 70 = .ok (.getfield 177, 3) := by decide +kernel
theorem dX5_person_73 : decode cX5_person 73 = .ok (.iload_n 1, 1) := by decide +kernel
theorem dX5_person_74 : decode cX5_person 74 = .ok (.iaload, 1) := by decide +kernel
theorem dX5_person_75 : decode cX5_person 75 = .ok (.ireturn, 1) := by decide +kernel
theorem dX5_person_76 : decode cX5_person 76 = .ok (.aload_n 0, 1) := by decide +kernel
theorem dX5_person_77 : decode cX5_person 77 = .ok (.getfield 31, 3) := by decide +kernel
theorem dX5_person_80 : decode cX5_person 80 = .ok (.getfield 180, 3) := by decide +kernel
theorem dX5_person_83 : decode cX5_person 83 = .ok (.iload_n 1, 1) := by decide +kernel
theorem dX5_person_84 : decode cX5_person 84 = .ok (.iaload, 1) := by decide +kernel
theorem dX5_person_85 : decode cX5_person 85 = .ok (.ireturn, 1) := by decide +kernel
theorem dX5_person_86 : decode cX5_person 86 = .ok (.aload_n 0, 1) := by decide +kernel
theorem dX5_person_87 : decode cX5_person 87 = .ok (.getfield 31, 3) := by decide +kernel
theorem dX5_person_90 : decode cX5_person 90 = .ok (.getfield 143, 3) := by decide +kernel
theorem dX5_person_93 : decode cX5_person 93 = .ok (.iload_n 1, 1) := by decide +kernel
theorem dX5_person_94 : decode cX5_person 94 = .ok (.iaload, 1) := by decide +kernel
theorem dX5_person_95 : decode cX5_person 95 = .ok (.ireturn, 1) := by decide +kernel
theorem dX5_person_96 : decode cX5_person 96 = .ok (.aload_n 0, 1) := by decide +kernel
theorem dX5_person_97 : decode cX5_person 97 = .ok (.getfield 31, 3) := by decide +kernel
theorem dX5_person_100 : decode cX5_person 100 = .ok (.getfield 146, 3) := by decide +kernel
theorem dX5_person_103 : decode cX5_person 103 = .ok (.iload_n 1, 1) := by decide +kernel
theorem dX5_person_104 : decode cX5_person 104 = .ok (.iaload, 1) := by decide +kernel
theorem dX5_person_105 : decode cX5_person 105 = .ok (.ireturn, 1) := by decide +kernel
theorem dX5_person_106 : decode cX5_person 106 = .ok (.aload_n 0, 1) := by decide +kernel
theorem dX5_person_107 : decode cX5_person 107 = .ok (.getfield 31, 3) := by decide +kernel
theorem dX5_person_110 : decode cX5_person 110 = .ok (.getfield 183, 3) := by decide +kernel
theorem dX5_person_113 : decode cX5_person 113 = .ok (.iload_n 1, 1) := by decide +kernel
theorem dX5_person_114 : decode cX5_person 114 = .ok (.iaload, 1) := by decide +kernel
theorem dX5_person_115 : decode cX5_person 115 = .ok (.ireturn, 1) := by decide +kernel
theorem dX5_person_116 : decode cX5_person 116 = .ok (.aload_n 0, 1) := by decide +kernel
theorem dX5_person_117 : decode cX5_person 117 = .ok (.getfield 31, 3) := by decide +kernel
theorem dX5_person_120 : decode cX5_person 120 = .ok (.aload_n 0, 1) := by decide +kernel
theorem dX5_person_121 : decode cX5_person 121 = .ok (.getfield 31, 3) := by decide +kernel
theorem dX5_person_124 : decode cX5_person 124 = .ok (.getfield 174, 3) := by decide +kernel
theorem dX5_person_127 : decode cX5_person 127 = .ok (.iload_n 1, 1) := by decide +kernel
theorem dX5_person_128 : decode cX5_person 128 = .ok (.iaload, 1) := by decide +kernel
theorem dX5_person_129 : decode cX5_person 129 = .ok (.invokevirtual 186, 3) := by decide +kernel
theorem dX5_person_132 : decode cX5_person 132 = .ok (.ireturn, 1) := by decide +kernel
theorem dX5_person_133 : decode cX5_person 133 = .ok (.ldc 70, 2) := by decide +kernel
theorem dX5_person_135 : decode cX5_person 135 = .ok (.ireturn, 1) := by decide +kernel
set_option maxRecDepth 20000 in
theorem ggX5_ahead_X5_isDog : GoodIn wsX5_ahead wsX5_isDog := goodIn_ids iaX5_ahead iaX5_isDog haX5_ahead haX5_isDog imX5_ahead hmX5_ahead (by decide +kernel) (by decide +kernel)
set_option maxRecDepth 20000 in
theorem gX5_ahead_X5_isDog : GoodIn wsX5_ahead (wsV RX5 149 RX5 yX5_isDog wsX5_isDog) := goodIn_app (goodIn_ids iaX5_ahead [545, 547, 19, 71] haX5_ahead rfl imX5_ahead hmX5_ahead (by decide +kernel) (by decide +kernel)) ggX5_ahead_X5_isDog
set_option maxRecDepth 20000 in
theorem ggX5_ahead_X5_isUpTo : GoodIn wsX5_ahead wsX5_isUpTo := goodIn_ids iaX5_ahead iaX5_isUpTo haX5_ahead haX5_isUpTo imX5_ahead hmX5_ahead (by decide +kernel) (by decide +kernel)
set_option maxRecDepth 20000 in
theorem gX5_ahead_X5_isUpTo : GoodIn wsX5_ahead (va_wsS RX5 66 yX5_isUpTo wsX5_isUpTo) := goodIn_app (goodIn_ids iaX5_ahead [315, 316, 71] haX5_ahead rfl imX5_ahead hmX5_ahead (by decide +kernel) (by decide +kernel)) ggX5_ahead_X5_isUpTo
set_option maxRecDepth 20000 in
theorem ggX5_ahead_X3_dogLater : GoodIn wsX5_ahead wsX3_dogLater := goodIn_ids iaX5_ahead iaX3_dogLater haX5_ahead haX3_dogLater imX5_ahead hmX5_ahead (by decide +kernel) (by decide +kernel)
set_option maxRecDepth 20000 in
theorem gX5_ahead_X3_dogLater : GoodIn wsX5_ahead (wsV RX5 189 RX3 yX3_dogLater wsX3_dogLater) := goodIn_app (goodIn_ids iaX5_ahead [576, 577, 578, 75] haX5_ahead rfl imX5_ahead hmX5_ahead (by decide +kernel) (by decide +kernel)) ggX5_ahead_X3_dogLater
theorem dX5_ahead_0 : decode cX5_ahead 0 = .ok (.aload_n 0, 1) := by decide +kernel
theorem dX5_ahead_1 : decode cX5_ahead 1 = .ok (.iload_n 1, 1) := by decide +kernel
theorem dX5_ahead_2 : decode cX5_ahead 2 = .ok (.invokevirtual 149, 3) := by decide +kernel
theorem dX5_ahead_5 : decode cX5_ahead 5 = .ok (.ifCond .eq 24, 3) := by decide +kernel
theorem dX5_ahead_8 : decode cX5_ahead 8 = .ok (.iload_n 2, 1) := by decide +kernel
theorem dX5_ahead_9 : decode cX5_ahead 9 = .ok (.bipush 60, 2) := by decide +kernel
theorem dX5_ahead_11 : decode cX5_ahead 11 = .ok (.invokestatic 66, 3) := by decide +kernel
theorem dX5_ahead_14 : decode cX5_ahead 14 = .ok (.ifCond .eq 15, 3) := by decide +kernel
theorem dX5_ahead_17 : decode cX5_ahead 17 = .ok (.aload_n 0, 1) := by decide +kernel
theorem dX5_ahead_18 : decode cX5_ahead 18 = .ok (.getfield 51, 3) := by decide +kernel
theorem dX5_ahead_21 : decode cX5_ahead 21 = .ok (.iload_n 1, 1) := by decide +kernel
theorem dX5_ahead_22 : decode cX5_ahead 22 = .ok (.iload_n 2, 1) := by decide +kernel
theorem dX5_ahead_23 : decode cX5_ahead 23 = .ok (.invokevirtual 189, 3) := by decide +kernel
theorem dX5_ahead_26 : decode cX5_ahead 26 = .ok (.goto 5, 3) := by decide +kernel
theorem dX5_ahead_29 : decode cX5_ahead 29 = .ok (.ldc 70, 2) := by decide +kernel
theorem dX5_ahead_31 : decode cX5_ahead 31 = .ok (.ireturn, 1) := by decide +kernel
set_option maxRecDepth 20000 in
theorem ggX5_goes_X5_isPerson : GoodIn wsX5_goes wsX5_isPerson := goodIn_ids iaX5_goes iaX5_isPerson haX5_goes haX5_isPerson imX5_goes hmX5_goes (by decide +kernel) (by decide +kernel)
set_option maxRecDepth 20000 in
theorem gX5_goes_X5_isPerson : GoodIn wsX5_goes (wsV RX5 140 RX5 yX5_isPerson wsX5_isPerson) := goodIn_app (goodIn_ids iaX5_goes [533, 535, 18, 71] haX5_goes rfl imX5_goes hmX5_goes (by decide +kernel) (by decide +kernel)) ggX5_goes_X5_isPerson
set_option maxRecDepth 20000 in
theorem ggX5_goes_X5_isUpTo : GoodIn wsX5_goes wsX5_isUpTo := goodIn_ids iaX5_goes iaX5_isUpTo haX5_goes haX5_isUpTo imX5_goes hmX5_goes (by decide +kernel) (by decide +kernel)
set_option maxRecDepth 20000 in
theorem gX5_goes_X5_isUpTo : GoodIn wsX5_goes (va_wsS RX5 66 yX5_isUpTo wsX5_isUpTo) := goodIn_app (goodIn_ids iaX5_goes [315, 316, 71] haX5_goes rfl imX5_goes hmX5_goes (by decide +kernel) (by decide +kernel)) ggX5_goes_X5_isUpTo
set_option maxRecDepth 20000 in
theorem ggX5_goes_X3_personLater : GoodIn wsX5_goes wsX3_personLater := goodIn_ids iaX5_goes iaX3_personLater haX5_goes haX3_personLater imX5_goes hmX5_goes (by decide +kernel) (by decide +kernel)
set_option maxRecDepth 20000 in
theorem gX5_goes_X3_personLater : GoodIn wsX5_goes (wsV RX5 192 RX3 yX3_personLater wsX3_personLater) := goodIn_app (goodIn_ids iaX5_goes [590, 591, 592, 75] haX5_goes rfl imX5_goes hmX5_goes (by decide +kernel) (by decide +kernel)) ggX5_goes_X3_personLater
theorem dX5_goes_0 : decode cX5_goes 0 = .ok (.aload_n 0, 1) := by decide +kernel
theorem dX5_goes_1 : decode cX5_goes 1 = .ok (.iload_n 1, 1) := by decide +kernel
theorem dX5_goes_2 : decode cX5_goes 2 = .ok (.invokevirtual 140, 3) := by decide +kernel
theorem dX5_goes_5 : decode cX5_goes 5 = .ok (.ifCond .eq 24, 3) := by decide +kernel
theorem dX5_goes_8 : decode cX5_goes 8 = .ok (.iload_n 2, 1) := by decide +kernel
theorem dX5_goes_9 : decode cX5_goes 9 = .ok (.bipush 60, 2) := by decide +kernel
theorem dX5_goes_11 : decode cX5_goes 11 = .ok (.invokestatic 66, 3) := by decide +kernel
theorem dX5_goes_14 : decode cX5_goes 14 = .ok (.ifCond .eq 15, 3) := by decide +kernel
theorem dX5_goes_17 : decode cX5_goes 17 = .ok (.aload_n 0, 1) := by decide +kernel
theorem dX5_goes_18 : decode cX5_goes 18 = .ok (.getfield 51, 3) := by decide +kernel
theorem dX5_goes_21 : decode cX5_goes 21 = .ok (.iload_n 1, 1) := by decide +kernel
theorem dX5_goes_22 : decode cX5_goes 22 = .ok (.iload_n 2, 1) := by decide +kernel
theorem dX5_goes_23 : decode cX5_goes 23 = .ok (.invokevirtual 192, 3) := by decide +kernel
theorem dX5_goes_26 : decode cX5_goes 26 = .ok (.goto 5, 3) := by decide +kernel
theorem dX5_goes_29 : decode cX5_goes 29 = .ok (.ldc 70, 2) := by decide +kernel
theorem dX5_goes_31 : decode cX5_goes 31 = .ok (.ireturn, 1) := by decide +kernel
set_option maxRecDepth 20000 in
theorem ggX5_crowned_X4_stands : GoodIn wsX5_crowned wsX4_stands := goodIn_ids iaX5_crowned iaX4_stands haX5_crowned haX4_stands imX5_crowned hmX5_crowned (by decide +kernel) (by decide +kernel)
set_option maxRecDepth 20000 in
theorem gX5_crowned_X4_stands : GoodIn wsX5_crowned (wsV RX5 126 RX4 yX4_stands wsX4_stands) := goodIn_app (goodIn_ids iaX5_crowned [447, 448, 449, 73] haX5_crowned rfl imX5_crowned hmX5_crowned (by decide +kernel) (by decide +kernel)) ggX5_crowned_X4_stands
set_option maxRecDepth 20000 in
theorem ggX5_crowned_X3_kingOfBell : GoodIn wsX5_crowned wsX3_kingOfBell := goodIn_ids iaX5_crowned iaX3_kingOfBell haX5_crowned haX3_kingOfBell imX5_crowned hmX5_crowned (by decide +kernel) (by decide +kernel)
set_option maxRecDepth 20000 in
theorem gX5_crowned_X3_kingOfBell : GoodIn wsX5_crowned (wsV RX5 195 RX3 yX3_kingOfBell wsX3_kingOfBell) := goodIn_app (goodIn_ids iaX5_crowned [598, 599, 600, 75] haX5_crowned rfl imX5_crowned hmX5_crowned (by decide +kernel) (by decide +kernel)) ggX5_crowned_X3_kingOfBell
theorem dX5_crowned_0 : decode cX5_crowned 0 = .ok (.aload_n 0, 1) := by decide +kernel
theorem dX5_crowned_1 : decode cX5_crowned 1 = .ok (.getfield 31, 3) := by decide +kernel
theorem dX5_crowned_4 : decode cX5_crowned 4 = .ok (.invokevirtual 126, 3) := by decide +kernel
theorem dX5_crowned_7 : decode cX5_crowned 7 = .ok (.ifCond .ne 6, 3) := by decide +kernel
theorem dX5_crowned_10 : decode cX5_crowned 10 = .ok (.ldc 129, 2) := by decide +kernel
theorem dX5_crowned_12 : decode cX5_crowned 12 = .ok (.ireturn, 1) := by decide +kernel
theorem dX5_crowned_13 : decode cX5_crowned 13 = .ok (.iload_n 1, 1) := by decide +kernel
theorem dX5_crowned_14 : decode cX5_crowned 14 = .ok (.iconst 1, 1) := by decide +kernel
theorem dX5_crowned_15 : decode cX5_crowned 15 = .ok (.if_icmp .lt 9, 3) := by decide +kernel
theorem dX5_crowned_18 : decode cX5_crowned 18 = .ok (.iload_n 1, 1) := by decide +kernel
theorem dX5_crowned_19 : decode cX5_crowned 19 = .ok (.bipush 9, 2) := by decide +kernel
theorem dX5_crowned_21 : decode cX5_crowned 21 = .ok (.if_icmp .le 8, 3) := by decide +kernel
theorem dX5_crowned_24 : decode cX5_crowned 24 = .ok (.ldc 70, 2) := by decide +kernel
theorem dX5_crowned_26 : decode cX5_crowned 26 = .ok (.goto 11, 3) := by decide +kernel
theorem dX5_crowned_29 : decode cX5_crowned 29 = .ok (.aload_n 0, 1) := by decide +kernel
theorem dX5_crowned_30 : decode cX5_crowned 30 = .ok (.getfield 51, 3) := by decide +kernel
theorem dX5_crowned_33 : decode cX5_crowned 33 = .ok (.iload_n 1, 1) := by decide +kernel
theorem dX5_crowned_34 : decode cX5_crowned 34 = .ok (.invokevirtual 195, 3) := by decide +kernel
theorem dX5_crowned_37 : decode cX5_crowned 37 = .ok (.ireturn, 1) := by decide +kernel
set_option maxRecDepth 20000 in
theorem ggX5_heir_X5_isPerson : GoodIn wsX5_heir wsX5_isPerson := goodIn_ids iaX5_heir iaX5_isPerson haX5_heir haX5_isPerson imX5_heir hmX5_heir (by decide +kernel) (by decide +kernel)
set_option maxRecDepth 20000 in
theorem gX5_heir_X5_isPerson : GoodIn wsX5_heir (wsV RX5 140 RX5 yX5_isPerson wsX5_isPerson) := goodIn_app (goodIn_ids iaX5_heir [533, 535, 18, 71] haX5_heir rfl imX5_heir hmX5_heir (by decide +kernel) (by decide +kernel)) ggX5_heir_X5_isPerson
set_option maxRecDepth 20000 in
theorem ggX5_heir_X3_minutesToReign : GoodIn wsX5_heir wsX3_minutesToReign := goodIn_ids iaX5_heir iaX3_minutesToReign haX5_heir haX3_minutesToReign imX5_heir hmX5_heir (by decide +kernel) (by decide +kernel)
set_option maxRecDepth 20000 in
theorem gX5_heir_X3_minutesToReign : GoodIn wsX5_heir (wsV RX5 198 RX3 yX3_minutesToReign wsX3_minutesToReign) := goodIn_app (goodIn_ids iaX5_heir [612, 613, 614, 75] haX5_heir rfl imX5_heir hmX5_heir (by decide +kernel) (by decide +kernel)) ggX5_heir_X3_minutesToReign
theorem dX5_heir_0 : decode cX5_heir 0 = .ok (.aload_n 0, 1) := by decide +kernel
theorem dX5_heir_1 : decode cX5_heir 1 = .ok (.iload_n 1, 1) := by decide +kernel
theorem dX5_heir_2 : decode cX5_heir 2 = .ok (.invokevirtual 140, 3) := by decide +kernel
theorem dX5_heir_5 : decode cX5_heir 5 = .ok (.ifCond .eq 14, 3) := by decide +kernel
theorem dX5_heir_8 : decode cX5_heir 8 = .ok (.aload_n 0, 1) := by decide +kernel
theorem dX5_heir_9 : decode cX5_heir 9 = .ok (.getfield 51, 3) := by decide +kernel
theorem dX5_heir_12 : decode cX5_heir 12 = .ok (.iload_n 1, 1) := by decide +kernel
theorem dX5_heir_13 : decode cX5_heir 13 = .ok (.invokevirtual 198, 3) := by decide +kernel
theorem dX5_heir_16 : decode cX5_heir 16 = .ok (.goto 5, 3) := by decide +kernel
theorem dX5_heir_19 : decode cX5_heir 19 = .ok (.ldc 70, 2) := by decide +kernel
theorem dX5_heir_21 : decode cX5_heir 21 = .ok (.ireturn, 1) := by decide +kernel
set_option maxRecDepth 20000 in
theorem ggX5_least_X5_isPerson : GoodIn wsX5_least wsX5_isPerson := goodIn_ids iaX5_least iaX5_isPerson haX5_least haX5_isPerson imX5_least hmX5_least (by decide +kernel) (by decide +kernel)
set_option maxRecDepth 20000 in
theorem gX5_least_X5_isPerson : GoodIn wsX5_least (wsV RX5 140 RX5 yX5_isPerson wsX5_isPerson) := goodIn_app (goodIn_ids iaX5_least [533, 535, 18, 71] haX5_least rfl imX5_least hmX5_least (by decide +kernel) (by decide +kernel)) ggX5_least_X5_isPerson
set_option maxRecDepth 20000 in
theorem ggX5_least_X3_fewestBones : GoodIn wsX5_least wsX3_fewestBones := goodIn_ids iaX5_least iaX3_fewestBones haX5_least haX3_fewestBones imX5_least hmX5_least (by decide +kernel) (by decide +kernel)
set_option maxRecDepth 20000 in
theorem gX5_least_X3_fewestBones : GoodIn wsX5_least (wsV RX5 201 RX3 yX3_fewestBones wsX3_fewestBones) := goodIn_app (goodIn_ids iaX5_least [620, 621, 622, 75] haX5_least rfl imX5_least hmX5_least (by decide +kernel) (by decide +kernel)) ggX5_least_X3_fewestBones
theorem dX5_least_0 : decode cX5_least 0 = .ok (.aload_n 0, 1) := by decide +kernel
theorem dX5_least_1 : decode cX5_least 1 = .ok (.iload_n 1, 1) := by decide +kernel
theorem dX5_least_2 : decode cX5_least 2 = .ok (.invokevirtual 140, 3) := by decide +kernel
theorem dX5_least_5 : decode cX5_least 5 = .ok (.ifCond .eq 14, 3) := by decide +kernel
theorem dX5_least_8 : decode cX5_least 8 = .ok (.aload_n 0, 1) := by decide +kernel
theorem dX5_least_9 : decode cX5_least 9 = .ok (.getfield 51, 3) := by decide +kernel
theorem dX5_least_12 : decode cX5_least 12 = .ok (.iload_n 1, 1) := by decide +kernel
theorem dX5_least_13 : decode cX5_least 13 = .ok (.invokevirtual 201, 3) := by decide +kernel
theorem dX5_least_16 : decode cX5_least 16 = .ok (.goto 5, 3) := by decide +kernel
theorem dX5_least_19 : decode cX5_least 19 = .ok (.ldc 70, 2) := by decide +kernel
theorem dX5_least_21 : decode cX5_least 21 = .ok (.ireturn, 1) := by decide +kernel
set_option maxRecDepth 20000 in
theorem ggX5_walks_X5_isPerson : GoodIn wsX5_walks wsX5_isPerson := goodIn_ids iaX5_walks iaX5_isPerson haX5_walks haX5_isPerson imX5_walks hmX5_walks (by decide +kernel) (by decide +kernel)
set_option maxRecDepth 20000 in
theorem gX5_walks_X5_isPerson : GoodIn wsX5_walks (wsV RX5 140 RX5 yX5_isPerson wsX5_isPerson) := goodIn_app (goodIn_ids iaX5_walks [533, 535, 18, 71] haX5_walks rfl imX5_walks hmX5_walks (by decide +kernel) (by decide +kernel)) ggX5_walks_X5_isPerson
set_option maxRecDepth 20000 in
theorem ggX5_walks_X3_gaitsOfAKing : GoodIn wsX5_walks wsX3_gaitsOfAKing := goodIn_ids iaX5_walks iaX3_gaitsOfAKing haX5_walks haX3_gaitsOfAKing imX5_walks hmX5_walks (by decide +kernel) (by decide +kernel)
set_option maxRecDepth 20000 in
theorem gX5_walks_X3_gaitsOfAKing : GoodIn wsX5_walks (wsV RX5 204 RX3 yX3_gaitsOfAKing wsX3_gaitsOfAKing) := goodIn_app (goodIn_ids iaX5_walks [637, 638, 639, 75] haX5_walks rfl imX5_walks hmX5_walks (by decide +kernel) (by decide +kernel)) ggX5_walks_X3_gaitsOfAKing
theorem dX5_walks_0 : decode cX5_walks 0 = .ok (.aload_n 0, 1) := by decide +kernel
theorem dX5_walks_1 : decode cX5_walks 1 = .ok (.iload_n 1, 1) := by decide +kernel
theorem dX5_walks_2 : decode cX5_walks 2 = .ok (.invokevirtual 140, 3) := by decide +kernel
theorem dX5_walks_5 : decode cX5_walks 5 = .ok (.ifCond .eq 14, 3) := by decide +kernel
theorem dX5_walks_8 : decode cX5_walks 8 = .ok (.aload_n 0, 1) := by decide +kernel
theorem dX5_walks_9 : decode cX5_walks 9 = .ok (.getfield 51, 3) := by decide +kernel
theorem dX5_walks_12 : decode cX5_walks 12 = .ok (.iload_n 1, 1) := by decide +kernel
theorem dX5_walks_13 : decode cX5_walks 13 = .ok (.invokevirtual 204, 3) := by decide +kernel
theorem dX5_walks_16 : decode cX5_walks 16 = .ok (.goto 5, 3) := by decide +kernel
theorem dX5_walks_19 : decode cX5_walks 19 = .ok (.ldc 70, 2) := by decide +kernel
theorem dX5_walks_21 : decode cX5_walks 21 = .ok (.ireturn, 1) := by decide +kernel
set_option maxRecDepth 20000 in
theorem ggX5_cats_X5_isPlace : GoodIn wsX5_cats wsX5_isPlace := goodIn_ids iaX5_cats iaX5_isPlace haX5_cats haX5_isPlace imX5_cats hmX5_cats (by decide +kernel) (by decide +kernel)
set_option maxRecDepth 20000 in
theorem gX5_cats_X5_isPlace : GoodIn wsX5_cats (wsV RX5 152 RX5 yX5_isPlace wsX5_isPlace) := goodIn_app (goodIn_ids iaX5_cats [549, 551, 20, 71] haX5_cats rfl imX5_cats hmX5_cats (by decide +kernel) (by decide +kernel)) ggX5_cats_X5_isPlace
set_option maxRecDepth 20000 in
theorem ggX5_cats_X5_isUpTo : GoodIn wsX5_cats wsX5_isUpTo := goodIn_ids iaX5_cats iaX5_isUpTo haX5_cats haX5_isUpTo imX5_cats hmX5_cats (by decide +kernel) (by decide +kernel)
set_option maxRecDepth 20000 in
theorem gX5_cats_X5_isUpTo : GoodIn wsX5_cats (va_wsS RX5 66 yX5_isUpTo wsX5_isUpTo) := goodIn_app (goodIn_ids iaX5_cats [315, 316, 71] haX5_cats rfl imX5_cats hmX5_cats (by decide +kernel) (by decide +kernel)) ggX5_cats_X5_isUpTo
set_option maxRecDepth 20000 in
theorem ggX5_cats_X3_fewestCats : GoodIn wsX5_cats wsX3_fewestCats := goodIn_ids iaX5_cats iaX3_fewestCats haX5_cats haX3_fewestCats imX5_cats hmX5_cats (by decide +kernel) (by decide +kernel)
set_option maxRecDepth 20000 in
theorem gX5_cats_X3_fewestCats : GoodIn wsX5_cats (wsV RX5 207 RX3 yX3_fewestCats wsX3_fewestCats) := goodIn_app (goodIn_ids iaX5_cats [645, 646, 647, 75] haX5_cats rfl imX5_cats hmX5_cats (by decide +kernel) (by decide +kernel)) ggX5_cats_X3_fewestCats
set_option maxRecDepth 20000 in
theorem ggX5_cats_J6_bitCount_0f7a4 : GoodIn wsX5_cats wsJ6_bitCount_0f7a4 := goodIn_ids iaX5_cats iaJ6_bitCount_0f7a4 haX5_cats haJ6_bitCount_0f7a4 imX5_cats hmX5_cats (by decide +kernel) (by decide +kernel)
set_option maxRecDepth 20000 in
theorem gX5_cats_J6_bitCount_0f7a4 : GoodIn wsX5_cats (va_wsS RX5 211 yJ6_bitCount_0f7a4 wsJ6_bitCount_0f7a4) := goodIn_app (goodIn_ids iaX5_cats [658, 524, 80] haX5_cats rfl imX5_cats hmX5_cats (by decide +kernel) (by decide +kernel)) ggX5_cats_J6_bitCount_0f7a4
theorem dX5_cats_0 : decode cX5_cats 0 = .ok (.aload_n 0, 1) := by decide +kernel
theorem dX5_cats_1 : decode cX5_cats 1 = .ok (.iload_n 1, 1) := by decide +kernel
theorem dX5_cats_2 : decode cX5_cats 2 = .ok (.invokevirtual 152, 3) := by decide +kernel
theorem dX5_cats_5 : decode cX5_cats 5 = .ok (.ifCond .eq 11, 3) := by decide +kernel
theorem dX5_cats_8 : decode cX5_cats 8 = .ok (.iload_n 2, 1) := by decide +kernel
theorem dX5_cats_9 : decode cX5_cats 9 = .ok (.iconst 1, 1) := by decide +kernel
theorem dX5_cats_10 : decode cX5_cats 10 = .ok (.invokestatic 66, 3) := by decide +kernel
theorem dX5_cats_13 : decode cX5_cats 13 = .ok (.ifCond .ne 6, 3) := by decide +kernel
theorem dX5_cats_16 : decode cX5_cats 16 = .ok (.ldc 70, 2) := by decide +kernel
theorem dX5_cats_18 : decode cX5_cats 18 = .ok (.ireturn, 1) := by decide +kernel
theorem dX5_cats_19 : decode cX5_cats 19 = .ok (.aload_n 0, 1) := by decide +kernel
theorem dX5_cats_20 : decode cX5_cats 20 = .ok (.getfield 51, 3) := by decide +kernel
theorem dX5_cats_23 : decode cX5_cats 23 = .ok (.iload_n 1, 1) := by decide +kernel
theorem dX5_cats_24 : decode cX5_cats 24 = .ok (.invokevirtual 207, 3) := by decide +kernel
theorem dX5_cats_27 : decode cX5_cats 27 = .ok (.istore_n 3, 1) := by decide +kernel
theorem dX5_cats_28 : decode cX5_cats 28 = .ok (.iload_n 2, 1) := by decide +kernel
theorem dX5_cats_29 : decode cX5_cats 29 = .ok (.ifCond .ne 16, 3) := by decide +kernel
theorem dX5_cats_32 : decode cX5_cats 32 = .ok (.iload_n 3, 1) := by decide +kernel
theorem dX5_cats_33 : decode cX5_cats 33 = .ok (.ldc 210, 2) := by decide +kernel
theorem dX5_cats_35 : decode cX5_cats 35 = .ok (.if_icmp .eq 10, 3) := by decide +kernel
theorem dX5_cats_38 : decode cX5_cats 38 = .ok (.iload_n 3, 1) := by decide +kernel
theorem dX5_cats_39 : decode cX5_cats 39 = .ok (.invokestatic 211, 3) := by decide +kernel
theorem dX5_cats_42 : decode cX5_cats 42 = .ok (.goto 4, 3) := by decide +kernel
theorem dX5_cats_45 : decode cX5_cats 45 = .ok (.iload_n 3, 1) := by decide +kernel
theorem dX5_cats_46 : decode cX5_cats 46 = .ok (.ireturn, 1) := by decide +kernel
set_option maxRecDepth 20000 in
theorem ggX5_shows_X5_isPerson : GoodIn wsX5_shows wsX5_isPerson := goodIn_ids iaX5_shows iaX5_isPerson haX5_shows haX5_isPerson imX5_shows hmX5_shows (by decide +kernel) (by decide +kernel)
set_option maxRecDepth 20000 in
theorem gX5_shows_X5_isPerson : GoodIn wsX5_shows (wsV RX5 140 RX5 yX5_isPerson wsX5_isPerson) := goodIn_app (goodIn_ids iaX5_shows [533, 535, 18, 71] haX5_shows rfl imX5_shows hmX5_shows (by decide +kernel) (by decide +kernel)) ggX5_shows_X5_isPerson
set_option maxRecDepth 20000 in
theorem ggX5_shows_X5_isUpTo : GoodIn wsX5_shows wsX5_isUpTo := goodIn_ids iaX5_shows iaX5_isUpTo haX5_shows haX5_isUpTo imX5_shows hmX5_shows (by decide +kernel) (by decide +kernel)
set_option maxRecDepth 20000 in
theorem gX5_shows_X5_isUpTo : GoodIn wsX5_shows (va_wsS RX5 66 yX5_isUpTo wsX5_isUpTo) := goodIn_app (goodIn_ids iaX5_shows [315, 316, 71] haX5_shows rfl imX5_shows hmX5_shows (by decide +kernel) (by decide +kernel)) ggX5_shows_X5_isUpTo
set_option maxRecDepth 20000 in
theorem ggX5_shows_X3_outcome : GoodIn wsX5_shows wsX3_outcome := goodIn_ids iaX5_shows iaX3_outcome haX5_shows haX3_outcome imX5_shows hmX5_shows (by decide +kernel) (by decide +kernel)
set_option maxRecDepth 20000 in
theorem gX5_shows_X3_outcome_n216 : GoodIn wsX5_shows (wsX3_outcome) := ggX5_shows_X3_outcome
theorem dX5_shows_0 : decode cX5_shows 0 = .ok (.aload_n 0, 1) := by decide +kernel
theorem dX5_shows_1 : decode cX5_shows 1 = .ok (.iload_n 1, 1) := by decide +kernel
theorem dX5_shows_2 : decode cX5_shows 2 = .ok (.invokevirtual 140, 3) := by decide +kernel
theorem dX5_shows_5 : decode cX5_shows 5 = .ok (.ifCond .eq 24, 3) := by decide +kernel
theorem dX5_shows_8 : decode cX5_shows 8 = .ok (.aload_n 0, 1) := by decide +kernel
theorem dX5_shows_9 : decode cX5_shows 9 = .ok (.iload_n 2, 1) := by decide +kernel
theorem dX5_shows_10 : decode cX5_shows 10 = .ok (.invokevirtual 140, 3) := by decide +kernel
theorem dX5_shows_13 : decode cX5_shows 13 = .ok (.ifCond .eq 16, 3) := by decide +kernel
theorem dX5_shows_16 : decode cX5_shows 16 = .ok (.iload_n 1, 1) := by decide +kernel
theorem dX5_shows_17 : decode cX5_shows 17 = .ok (.iload_n 2, 1) := by decide +kernel
theorem dX5_shows_18 : decode cX5_shows 18 = .ok (.if_icmp .eq 11, 3) := by decide +kernel
theorem dX5_shows_21 : decode cX5_shows 21 = .ok (.iload_n 3, 1) := by decide +kernel
theorem dX5_shows_22 : decode cX5_shows 22 = .ok (.iconst 2, 1) := by decide +kernel
theorem dX5_shows_23 : decode cX5_shows 23 = .ok (.invokestatic 66, 3) := by decide +kernel
theorem dX5_shows_26 : decode cX5_shows 26 = .ok (.ifCond .ne 6, 3) := by decide +kernel
theorem dX5_shows_29 : decode cX5_shows 29 = .ok (.ldc 70, 2) := by decide +kernel
theorem dX5_shows_31 : decode cX5_shows 31 = .ok (.ireturn, 1) := by decide +kernel
theorem dX5_shows_32 : decode cX5_shows 32 = .ok (.aload_n 0, 1) := by decide +kernel
theorem dX5_shows_33 : decode cX5_shows 33 = .ok (.getfield 51, 3) := by decide +kernel
theorem dX5_shows_36 : decode cX5_shows 36 = .ok (.iload_n 1, 1) := by decide +kernel
theorem dX5_shows_37 : decode cX5_shows 37 = .ok (.iload_n 2, 1) := by decide +kernel
theorem dX5_shows_38 : decode cX5_shows 38 = .ok (.aload_n 0, 1) := by decide +kernel
theorem dX5_shows_39 : decode cX5_shows 39 = .ok (.getfield 31, 3) := by decide +kernel
theorem dX5_shows_42 : decode cX5_shows 42 = .ok (.getfield 143, 3) := by decide +kernel
theorem dX5_shows_45 : decode cX5_shows 45 = .ok (.iload_n 1, 1) := by decide +kernel
theorem dX5_shows_46 : decode cX5_shows 46 = .ok (.iaload, 1) := by decide +kernel
theorem dX5_shows_47 : decode cX5_shows 47 = .ok (.aload_n 0, 1) := by decide +kernel
theorem dX5_shows_48 : decode cX5_shows 48 = .ok (.getfield 31, 3) := by decide +kernel
theorem dX5_shows_51 : decode cX5_shows 51 = .ok (.getfield 143, 3) := by decide +kernel
theorem dX5_shows_54 : decode cX5_shows 54 = .ok (.iload_n 2, 1) := by decide +kernel
theorem dX5_shows_55 : decode cX5_shows 55 = .ok (.iaload, 1) := by decide +kernel
theorem dX5_shows_56 : decode cX5_shows 56 = .ok (.iconst 2, 1) := by decide +kernel
theorem dX5_shows_57 : decode cX5_shows 57 = .ok (.iload_n 3, 1) := by decide +kernel
theorem dX5_shows_58 : decode cX5_shows 58 = .ok (.imul, 1) := by decide +kernel
theorem dX5_shows_59 : decode cX5_shows 59 = .ok (.invokevirtual 216, 3) := by decide +kernel
theorem dX5_shows_62 : decode cX5_shows 62 = .ok (.ireturn, 1) := by decide +kernel
set_option maxRecDepth 20000 in
theorem ggX5_packs_X5_isPerson : GoodIn wsX5_packs wsX5_isPerson := goodIn_ids iaX5_packs iaX5_isPerson haX5_packs haX5_isPerson imX5_packs hmX5_packs (by decide +kernel) (by decide +kernel)
set_option maxRecDepth 20000 in
theorem gX5_packs_X5_isPerson : GoodIn wsX5_packs (wsV RX5 140 RX5 yX5_isPerson wsX5_isPerson) := goodIn_app (goodIn_ids iaX5_packs [533, 535, 18, 71] haX5_packs rfl imX5_packs hmX5_packs (by decide +kernel) (by decide +kernel)) ggX5_packs_X5_isPerson
set_option maxRecDepth 20000 in
theorem ggX5_packs_X3_packsThatCrown : GoodIn wsX5_packs wsX3_packsThatCrown := goodIn_ids iaX5_packs iaX3_packsThatCrown haX5_packs haX3_packsThatCrown imX5_packs hmX5_packs (by decide +kernel) (by decide +kernel)
set_option maxRecDepth 20000 in
theorem gX5_packs_X3_packsThatCrown : GoodIn wsX5_packs (wsV RX5 220 RX3 yX3_packsThatCrown wsX3_packsThatCrown) := goodIn_app (goodIn_ids iaX5_packs [680, 681, 682, 75] haX5_packs rfl imX5_packs hmX5_packs (by decide +kernel) (by decide +kernel)) ggX5_packs_X3_packsThatCrown
theorem dX5_packs_0 : decode cX5_packs 0 = .ok (.aload_n 0, 1) := by decide +kernel
theorem dX5_packs_1 : decode cX5_packs 1 = .ok (.iload_n 1, 1) := by decide +kernel
theorem dX5_packs_2 : decode cX5_packs 2 = .ok (.invokevirtual 140, 3) := by decide +kernel
theorem dX5_packs_5 : decode cX5_packs 5 = .ok (.ifCond .eq 14, 3) := by decide +kernel
theorem dX5_packs_8 : decode cX5_packs 8 = .ok (.aload_n 0, 1) := by decide +kernel
theorem dX5_packs_9 : decode cX5_packs 9 = .ok (.getfield 51, 3) := by decide +kernel
theorem dX5_packs_12 : decode cX5_packs 12 = .ok (.iload_n 1, 1) := by decide +kernel
theorem dX5_packs_13 : decode cX5_packs 13 = .ok (.invokevirtual 220, 3) := by decide +kernel
theorem dX5_packs_16 : decode cX5_packs 16 = .ok (.goto 5, 3) := by decide +kernel
theorem dX5_packs_19 : decode cX5_packs 19 = .ok (.ldc 70, 2) := by decide +kernel
theorem dX5_packs_21 : decode cX5_packs 21 = .ok (.ireturn, 1) := by decide +kernel
set_option maxRecDepth 20000 in
theorem ggX5_hangs_X4_stands : GoodIn wsX5_hangs wsX4_stands := goodIn_ids iaX5_hangs iaX4_stands haX5_hangs haX4_stands imX5_hangs hmX5_hangs (by decide +kernel) (by decide +kernel)
set_option maxRecDepth 20000 in
theorem gX5_hangs_X4_stands : GoodIn wsX5_hangs (wsV RX5 126 RX4 yX4_stands wsX4_stands) := goodIn_app (goodIn_ids iaX5_hangs [447, 448, 449, 73] haX5_hangs rfl imX5_hangs hmX5_hangs (by decide +kernel) (by decide +kernel)) ggX5_hangs_X4_stands
set_option maxRecDepth 20000 in
theorem ggX5_hangs_X3_dogsThatDecide : GoodIn wsX5_hangs wsX3_dogsThatDecide := goodIn_ids iaX5_hangs iaX3_dogsThatDecide haX5_hangs haX3_dogsThatDecide imX5_hangs hmX5_hangs (by decide +kernel) (by decide +kernel)
set_option maxRecDepth 20000 in
theorem gX5_hangs_X3_dogsThatDecide : GoodIn wsX5_hangs (wsV RX5 223 RX3 yX3_dogsThatDecide wsX3_dogsThatDecide) := goodIn_app (goodIn_ids iaX5_hangs [692, 693, 694, 75] haX5_hangs rfl imX5_hangs hmX5_hangs (by decide +kernel) (by decide +kernel)) ggX5_hangs_X3_dogsThatDecide
theorem dX5_hangs_0 : decode cX5_hangs 0 = .ok (.aload_n 0, 1) := by decide +kernel
theorem dX5_hangs_1 : decode cX5_hangs 1 = .ok (.getfield 31, 3) := by decide +kernel
theorem dX5_hangs_4 : decode cX5_hangs 4 = .ok (.invokevirtual 126, 3) := by decide +kernel
theorem dX5_hangs_7 : decode cX5_hangs 7 = .ok (.ifCond .eq 13, 3) := by decide +kernel
theorem dX5_hangs_10 : decode cX5_hangs 10 = .ok (.aload_n 0, 1) := by decide +kernel
theorem dX5_hangs_11 : decode cX5_hangs 11 = .ok (.getfield 51, 3) := by decide +kernel
theorem dX5_hangs_14 : decode cX5_hangs 14 = .ok (.invokevirtual 223, 3) := by decide +kernel
theorem dX5_hangs_17 : decode cX5_hangs 17 = .ok (.goto 5, 3) := by decide +kernel
theorem dX5_hangs_20 : decode cX5_hangs 20 = .ok (.ldc 129, 2) := by decide +kernel
theorem dX5_hangs_22 : decode cX5_hangs 22 = .ok (.ireturn, 1) := by decide +kernel
set_option maxRecDepth 20000 in
theorem ggX5_fits_X5_isDog : GoodIn wsX5_fits wsX5_isDog := goodIn_ids iaX5_fits iaX5_isDog haX5_fits haX5_isDog imX5_fits hmX5_fits (by decide +kernel) (by decide +kernel)
set_option maxRecDepth 20000 in
theorem gX5_fits_X5_isDog : GoodIn wsX5_fits (wsV RX5 149 RX5 yX5_isDog wsX5_isDog) := goodIn_app (goodIn_ids iaX5_fits [545, 547, 19, 71] haX5_fits rfl imX5_fits hmX5_fits (by decide +kernel) (by decide +kernel)) ggX5_fits_X5_isDog
set_option maxRecDepth 20000 in
theorem ggX5_fits_X5_isRow : GoodIn wsX5_fits wsX5_isRow := goodIn_ids iaX5_fits iaX5_isRow haX5_fits haX5_isRow imX5_fits hmX5_fits (by decide +kernel) (by decide +kernel)
set_option maxRecDepth 20000 in
theorem gX5_fits_X5_isRow : GoodIn wsX5_fits (va_wsS RX5 62 yX5_isRow wsX5_isRow) := goodIn_app (goodIn_ids iaX5_fits [312, 313, 71] haX5_fits rfl imX5_fits hmX5_fits (by decide +kernel) (by decide +kernel)) ggX5_fits_X5_isRow
set_option maxRecDepth 20000 in
theorem ggX5_fits_X5_isUpTo : GoodIn wsX5_fits wsX5_isUpTo := goodIn_ids iaX5_fits iaX5_isUpTo haX5_fits haX5_isUpTo imX5_fits hmX5_fits (by decide +kernel) (by decide +kernel)
set_option maxRecDepth 20000 in
theorem gX5_fits_X5_isUpTo : GoodIn wsX5_fits (va_wsS RX5 66 yX5_isUpTo wsX5_isUpTo) := goodIn_app (goodIn_ids iaX5_fits [315, 316, 71] haX5_fits rfl imX5_fits hmX5_fits (by decide +kernel) (by decide +kernel)) ggX5_fits_X5_isUpTo
set_option maxRecDepth 20000 in
theorem ggX5_fits_X5_troubleWith : GoodIn wsX5_fits wsX5_troubleWith := goodIn_ids iaX5_fits iaX5_troubleWith haX5_fits haX5_troubleWith imX5_fits hmX5_fits (by decide +kernel) (by decide +kernel)
set_option maxRecDepth 20000 in
theorem gX5_fits_X5_troubleWith : GoodIn wsX5_fits (wsV RX5 226 RX5 yX5_troubleWith wsX5_troubleWith) := goodIn_app (goodIn_ids iaX5_fits [700, 702, 27, 71] haX5_fits rfl imX5_fits hmX5_fits (by decide +kernel) (by decide +kernel)) ggX5_fits_X5_troubleWith
set_option maxRecDepth 20000 in
theorem ggX5_fits_X5_found : GoodIn wsX5_fits wsX5_found := goodIn_ids iaX5_fits iaX5_found haX5_fits haX5_found imX5_fits hmX5_fits (by decide +kernel) (by decide +kernel)
set_option maxRecDepth 20000 in
theorem gX5_fits_X5_found : GoodIn wsX5_fits (wsV RX5 71 RX5 yX5_found wsX5_found) := goodIn_app (goodIn_ids iaX5_fits [319, 321, 0, 71] haX5_fits rfl imX5_fits hmX5_fits (by decide +kernel) (by decide +kernel)) ggX5_fits_X5_found
set_option maxRecDepth 20000 in
theorem ggX5_fits_X3_guesses : GoodIn wsX5_fits wsX3_guesses := goodIn_ids iaX5_fits iaX3_guesses haX5_fits haX3_guesses imX5_fits hmX5_fits (by decide +kernel) (by decide +kernel)
set_option maxRecDepth 20000 in
theorem gX5_fits_X3_guesses : GoodIn wsX5_fits (wsV RX5 230 RX3 yX3_guesses wsX3_guesses) := goodIn_app (goodIn_ids iaX5_fits [704, 705, 706, 75] haX5_fits rfl imX5_fits hmX5_fits (by decide +kernel) (by decide +kernel)) ggX5_fits_X3_guesses
set_option maxRecDepth 20000 in
theorem ggX5_fits_X5_nothingFound : GoodIn wsX5_fits wsX5_nothingFound := goodIn_ids iaX5_fits iaX5_nothingFound haX5_fits haX5_nothingFound imX5_fits hmX5_fits (by decide +kernel) (by decide +kernel)
set_option maxRecDepth 20000 in
theorem gX5_fits_X5_nothingFound : GoodIn wsX5_fits (wsV RX5 75 RX5 yX5_nothingFound wsX5_nothingFound) := goodIn_app (goodIn_ids iaX5_fits [324, 326, 1, 71] haX5_fits rfl imX5_fits hmX5_fits (by decide +kernel) (by decide +kernel)) ggX5_fits_X5_nothingFound
theorem dX5_fits_0 : decode cX5_fits 0 = .ok (.aload_n 0, 1) := by decide +kernel
theorem dX5_fits_1 : decode cX5_fits 1 = .ok (.iload_n 1, 1) := by decide +kernel
theorem dX5_fits_2 : decode cX5_fits 2 = .ok (.invokevirtual 149, 3) := by decide +kernel
theorem dX5_fits_5 : decode cX5_fits 5 = .ok (.ifCond .eq 32, 3) := by decide +kernel
theorem dX5_fits_8 : decode cX5_fits 8 = .ok (.iload_n 2, 1) := by decide +kernel
theorem dX5_fits_9 : decode cX5_fits 9 = .ok (.invokestatic 62, 3) := by decide +kernel
theorem dX5_fits_12 : decode cX5_fits 12 = .ok (.ifCond .eq 25, 3) := by decide +kernel
theorem dX5_fits_15 : decode cX5_fits 15 = .ok (.iload 4, 2) := by decide +kernel
theorem dX5_fits_17 : decode cX5_fits 17 = .ok (.iconst 1, 1) := by decide +kernel
theorem dX5_fits_18 : decode cX5_fits 18 = .ok (.if_icmp .lt 19, 3) := by decide +kernel
theorem dX5_fits_21 : decode cX5_fits 21 = .ok (.iload 4, 2) := by decide +kernel
theorem dX5_fits_23 : decode cX5_fits 23 = .ok (.bipush 12, 2) := by decide +kernel
theorem dX5_fits_25 : decode cX5_fits 25 = .ok (.if_icmp .gt 12, 3) := by decide +kernel
theorem dX5_fits_28 : decode cX5_fits 28 = .ok (.iload 5, 2) := by decide +kernel
theorem dX5_fits_30 : decode cX5_fits 30 = .ok (.iconst 1, 1) := by decide +kernel
theorem dX5_fits_31 : decode cX5_fits 31 = .ok (.invokestatic 66, 3) := by decide +kernel
theorem dX5_fits_34 : decode cX5_fits 34 = .ok (.ifCond .ne 6, 3) := by decide +kernel
theorem dX5_fits_37 : decode cX5_fits 37 = .ok (.ldc 70, 2) := by decide +kernel
theorem dX5_fits_39 : decode cX5_fits 39 = .ok (.ireturn, 1) := by decide +kernel
theorem dX5_fits_40 : decode cX5_fits 40 = .ok (.aload_n 0, 1) := by decide +kernel
theorem dX5_fits_41 : decode cX5_fits 41 = .ok (.iload_n 2, 1) := by decide +kernel
theorem dX5_fits_42 : decode cX5_fits 42 = .ok (.iload_n 3, 1) := by decide +kernel
theorem dX5_fits_43 : decode cX5_fits 43 = .ok (.iload 4, 2) := by decide +kernel
theorem dX5_fits_45 : decode cX5_fits 45 = .ok (.invokevirtual 226, 3) := by decide +kernel
theorem dX5_fits_48 : decode cX5_fits 48 = .ok (.istore 6, 2) := by decide +kernel
theorem dX5_fits_50 : decode cX5_fits 50 = .ok (.iload 6, 2) := by decide +kernel
theorem dX5_fits_52 : decode cX5_fits 52 = .ok (.ifCond .eq 10, 3) := by decide +kernel
theorem dX5_fits_55 : decode cX5_fits 55 = .ok (.aload_n 0, 1) := by decide +kernel
theorem dX5_fits_56 : decode cX5_fits 56 = .ok (.iload 6, 2) := by decide +kernel
theorem dX5_fits_58 : decode cX5_fits 58 = .ok (.invokevirtual 71, 3) := by decide +kernel
theorem dX5_fits_61 : decode cX5_fits 61 = .ok (.ireturn, 1) := by decide +kernel
theorem dX5_fits_62 : decode cX5_fits 62 = .ok (.aload_n 0, 1) := by decide +kernel
theorem dX5_fits_63 : decode cX5_fits 63 = .ok (.aload_n 0, 1) := by decide +kernel
theorem dX5_fits_64 : decode cX5_fits 64 = .ok (.getfield 51, 3) := by decide +kernel
theorem dX5_fits_67 : decode cX5_fits 67 = .ok (.iload 5, 2) := by decide +kernel
theorem dX5_fits_69 : decode cX5_fits 69 = .ok (.ifCond .ne 7, 3) := by decide +kernel
theorem dX5_fits_72 : decode cX5_fits 72 = .ok (.iconst 0, 1) := by decide +kernel
theorem dX5_fits_73 : decode cX5_fits 73 = .ok (.goto 4, 3) := by decide +kernel
theorem dX5_fits_76 : decode cX5_fits 76 = .ok (.iconst 1, 1) := by decide +kernel
theorem dX5_fits_77 : decode cX5_fits 77 = .ok (.iload_n 1, 1) := by decide +kernel
theorem dX5_fits_78 : decode cX5_fits 78 = .ok (.iload_n 1, 1) := by decide +kernel
theorem dX5_fits_79 : decode cX5_fits 79 = .ok (.aload_n 0, 1) := by decide +kernel
theorem dX5_fits_80 : decode cX5_fits 80 = .ok (.getfield 11, 3) := by decide +kernel
theorem dX5_fits_83 : decode cX5_fits 83 = .ok (.iload_n 2, 1) := by decide +kernel
theorem dX5_fits_84 : decode cX5_fits 84 = .ok (.aaload, 1) := by decide +kernel
theorem dX5_fits_85 : decode cX5_fits 85 = .ok (.iload_n 3, 1) := by decide +kernel
theorem dX5_fits_86 : decode cX5_fits 86 = .ok (.iload 4, 2) := by decide +kernel
theorem dX5_fits_88 : decode cX5_fits 88 = .ok (.invokevirtual 230, 3) := by decide +kernel
theorem dX5_fits_91 : decode cX5_fits 91 = .ok (.invokevirtual 75, 3) := by decide +kernel
theorem dX5_fits_94 : decode cX5_fits 94 = .ok (.ireturn, 1) := by decide +kernel
set_option maxRecDepth 20000 in
theorem ggX5_suits_X5_isPerson : GoodIn wsX5_suits wsX5_isPerson := goodIn_ids iaX5_suits iaX5_isPerson haX5_suits haX5_isPerson imX5_suits hmX5_suits (by decide +kernel) (by decide +kernel)
set_option maxRecDepth 20000 in
theorem gX5_suits_X5_isPerson : GoodIn wsX5_suits (wsV RX5 140 RX5 yX5_isPerson wsX5_isPerson) := goodIn_app (goodIn_ids iaX5_suits [533, 535, 18, 71] haX5_suits rfl imX5_suits hmX5_suits (by decide +kernel) (by decide +kernel)) ggX5_suits_X5_isPerson
set_option maxRecDepth 20000 in
theorem ggX5_suits_X5_isDog : GoodIn wsX5_suits wsX5_isDog := goodIn_ids iaX5_suits iaX5_isDog haX5_suits haX5_isDog imX5_suits hmX5_suits (by decide +kernel) (by decide +kernel)
set_option maxRecDepth 20000 in
theorem gX5_suits_X5_isDog : GoodIn wsX5_suits (wsV RX5 149 RX5 yX5_isDog wsX5_isDog) := goodIn_app (goodIn_ids iaX5_suits [545, 547, 19, 71] haX5_suits rfl imX5_suits hmX5_suits (by decide +kernel) (by decide +kernel)) ggX5_suits_X5_isDog
set_option maxRecDepth 20000 in
theorem ggX5_suits_X5_isRow : GoodIn wsX5_suits wsX5_isRow := goodIn_ids iaX5_suits iaX5_isRow haX5_suits haX5_isRow imX5_suits hmX5_suits (by decide +kernel) (by decide +kernel)
set_option maxRecDepth 20000 in
theorem gX5_suits_X5_isRow : GoodIn wsX5_suits (va_wsS RX5 62 yX5_isRow wsX5_isRow) := goodIn_app (goodIn_ids iaX5_suits [312, 313, 71] haX5_suits rfl imX5_suits hmX5_suits (by decide +kernel) (by decide +kernel)) ggX5_suits_X5_isRow
set_option maxRecDepth 20000 in
theorem ggX5_suits_X5_isUpTo : GoodIn wsX5_suits wsX5_isUpTo := goodIn_ids iaX5_suits iaX5_isUpTo haX5_suits haX5_isUpTo imX5_suits hmX5_suits (by decide +kernel) (by decide +kernel)
set_option maxRecDepth 20000 in
theorem gX5_suits_X5_isUpTo : GoodIn wsX5_suits (va_wsS RX5 66 yX5_isUpTo wsX5_isUpTo) := goodIn_app (goodIn_ids iaX5_suits [315, 316, 71] haX5_suits rfl imX5_suits hmX5_suits (by decide +kernel) (by decide +kernel)) ggX5_suits_X5_isUpTo
set_option maxRecDepth 20000 in
theorem ggX5_suits_X5_troubleWith : GoodIn wsX5_suits wsX5_troubleWith := goodIn_ids iaX5_suits iaX5_troubleWith haX5_suits haX5_troubleWith imX5_suits hmX5_suits (by decide +kernel) (by decide +kernel)
set_option maxRecDepth 20000 in
theorem gX5_suits_X5_troubleWith : GoodIn wsX5_suits (wsV RX5 226 RX5 yX5_troubleWith wsX5_troubleWith) := goodIn_app (goodIn_ids iaX5_suits [700, 702, 27, 71] haX5_suits rfl imX5_suits hmX5_suits (by decide +kernel) (by decide +kernel)) ggX5_suits_X5_troubleWith
set_option maxRecDepth 20000 in
theorem ggX5_suits_X5_found : GoodIn wsX5_suits wsX5_found := goodIn_ids iaX5_suits iaX5_found haX5_suits haX5_found imX5_suits hmX5_suits (by decide +kernel) (by decide +kernel)
set_option maxRecDepth 20000 in
theorem gX5_suits_X5_found : GoodIn wsX5_suits (wsV RX5 71 RX5 yX5_found wsX5_found) := goodIn_app (goodIn_ids iaX5_suits [319, 321, 0, 71] haX5_suits rfl imX5_suits hmX5_suits (by decide +kernel) (by decide +kernel)) ggX5_suits_X5_found
set_option maxRecDepth 20000 in
theorem ggX5_suits_X3_guesses : GoodIn wsX5_suits wsX3_guesses := goodIn_ids iaX5_suits iaX3_guesses haX5_suits haX3_guesses imX5_suits hmX5_suits (by decide +kernel) (by decide +kernel)
set_option maxRecDepth 20000 in
theorem gX5_suits_X3_guesses : GoodIn wsX5_suits (wsV RX5 230 RX3 yX3_guesses wsX3_guesses) := goodIn_app (goodIn_ids iaX5_suits [704, 705, 706, 75] haX5_suits rfl imX5_suits hmX5_suits (by decide +kernel) (by decide +kernel)) ggX5_suits_X3_guesses
set_option maxRecDepth 20000 in
theorem ggX5_suits_X5_nothingFound : GoodIn wsX5_suits wsX5_nothingFound := goodIn_ids iaX5_suits iaX5_nothingFound haX5_suits haX5_nothingFound imX5_suits hmX5_suits (by decide +kernel) (by decide +kernel)
set_option maxRecDepth 20000 in
theorem gX5_suits_X5_nothingFound : GoodIn wsX5_suits (wsV RX5 75 RX5 yX5_nothingFound wsX5_nothingFound) := goodIn_app (goodIn_ids iaX5_suits [324, 326, 1, 71] haX5_suits rfl imX5_suits hmX5_suits (by decide +kernel) (by decide +kernel)) ggX5_suits_X5_nothingFound
theorem dX5_suits_0 : decode cX5_suits 0 = .ok (.aload_n 0, 1) := by decide +kernel
theorem dX5_suits_1 : decode cX5_suits 1 = .ok (.iload_n 1, 1) := by decide +kernel
theorem dX5_suits_2 : decode cX5_suits 2 = .ok (.invokevirtual 140, 3) := by decide +kernel
theorem dX5_suits_5 : decode cX5_suits 5 = .ok (.ifCond .eq 40, 3) := by decide +kernel
theorem dX5_suits_8 : decode cX5_suits 8 = .ok (.aload_n 0, 1) := by decide +kernel
theorem dX5_suits_9 : decode cX5_suits 9 = .ok (.iload_n 2, 1) := by decide +kernel
theorem dX5_suits_10 : decode cX5_suits 10 = .ok (.invokevirtual 149, 3) := by decide +kernel
theorem dX5_suits_13 : decode cX5_suits 13 = .ok (.ifCond .eq 32, 3) := by decide +kernel
theorem dX5_suits_16 : decode cX5_suits 16 = .ok (.iload_n 3, 1) := by decide +kernel
theorem dX5_suits_17 : decode cX5_suits 17 = .ok (.invokestatic 62, 3) := by decide +kernel
theorem dX5_suits_20 : decode cX5_suits 20 = .ok (.ifCond .eq 25, 3) := by decide +kernel
theorem dX5_suits_23 : decode cX5_suits 23 = .ok (.iload 5, 2) := by decide +kernel
theorem dX5_suits_25 : decode cX5_suits 25 = .ok (.iconst 1, 1) := by decide +kernel
theorem dX5_suits_26 : decode cX5_suits 26 = .ok (.if_icmp .lt 19, 3) := by decide +kernel
theorem dX5_suits_29 : decode cX5_suits 29 = .ok (.iload 5, 2) := by decide +kernel
theorem dX5_suits_31 : decode cX5_suits 31 = .ok (.bipush 12, 2) := by decide +kernel
theorem dX5_suits_33 : decode cX5_suits 33 = .ok (.if_icmp .gt 12, 3) := by decide +kernel
theorem dX5_suits_36 : decode cX5_suits 36 = .ok (.iload 6, 2) := by decide +kernel
theorem dX5_suits_38 : decode cX5_suits 38 = .ok (.iconst 1, 1) := by decide +kernel
theorem dX5_suits_39 : decode cX5_suits 39 = .ok (.invokestatic 66, 3) := by decide +kernel
theorem dX5_suits_42 : decode cX5_suits 42 = .ok (.ifCond .ne 6, 3) := by decide +kernel
theorem dX5_suits_45 : decode cX5_suits 45 = .ok (.ldc 70, 2) := by decide +kernel
theorem dX5_suits_47 : decode cX5_suits 47 = .ok (.ireturn, 1) := by decide +kernel
theorem dX5_suits_48 : decode cX5_suits 48 = .ok (.aload_n 0, 1) := by decide +kernel
theorem dX5_suits_49 : decode cX5_suits 49 = .ok (.iload_n 3, 1) := by decide +kernel
theorem dX5_suits_50 : decode cX5_suits 50 = .ok (.iload 4, 2) := by decide +kernel
theorem dX5_suits_52 : decode cX5_suits 52 = .ok (.iload 5, 2) := by decide +kernel
theorem dX5_suits_54 : decode cX5_suits 54 = .ok (.invokevirtual 226, 3) := by decide +kernel
theorem dX5_suits_57 : decode cX5_suits 57 = .ok (.istore 7, 2) := by decide +kernel
theorem dX5_suits_59 : decode cX5_suits 59 = .ok (.iload 7, 2) := by decide +kernel
theorem dX5_suits_61 : decode cX5_suits 61 = .ok (.ifCond .eq 10, 3) := by decide +kernel
theorem dX5_suits_64 : decode cX5_suits 64 = .ok (.aload_n 0, 1) := by decide +kernel
theorem dX5_suits_65 : decode cX5_suits 65 = .ok (.iload 7, 2) := by decide +kernel
theorem dX5_suits_67 : decode cX5_suits 67 = .ok (.invokevirtual 71, 3) := by decide +kernel
theorem dX5_suits_70 : decode cX5_suits 70 = .ok (.ireturn, 1) := by decide +kernel
theorem dX5_suits_71 : decode cX5_suits 71 = .ok (.aload_n 0, 1) := by decide +kernel
theorem dX5_suits_72 : decode cX5_suits 72 = .ok (.aload_n 0, 1) := by decide +kernel
theorem dX5_suits_73 : decode cX5_suits 73 = .ok (.getfield 51, 3) := by decide +kernel
theorem dX5_suits_76 : decode cX5_suits 76 = .ok (.iload 6, 2) := by decide +kernel
theorem dX5_suits_78 : decode cX5_suits 78 = .ok (.ifCond .ne 7, 3) := by decide +kernel
theorem dX5_suits_81 : decode cX5_suits 81 = .ok (.iconst 2, 1) := by decide +kernel
theorem dX5_suits_82 : decode cX5_suits 82 = .ok (.goto 4, 3) := by decide +kernel
theorem dX5_suits_85 : decode cX5_suits 85 = .ok (.iconst 3, 1) := by decide +kernel
theorem dX5_suits_86 : decode cX5_suits 86 = .ok (.iload_n 1, 1) := by decide +kernel
theorem dX5_suits_87 : decode cX5_suits 87 = .ok (.iload_n 2, 1) := by decide +kernel
theorem dX5_suits_88 : decode cX5_suits 88 = .ok (.aload_n 0, 1) := by decide +kernel
theorem dX5_suits_89 : decode cX5_suits 89 = .ok (.getfield 11, 3) := by decide +kernel
theorem dX5_suits_92 : decode cX5_suits 92 = .ok (.iload_n 3, 1) := by decide +kernel
theorem dX5_suits_93 : decode cX5_suits 93 = .ok (.aaload, 1) := by decide +kernel
theorem dX5_suits_94 : decode cX5_suits 94 = .ok (.iload 4, 2) := by decide +kernel
theorem dX5_suits_96 : decode cX5_suits 96 = .ok (.iload 5, 2) := by decide +kernel
theorem dX5_suits_98 : decode cX5_suits 98 = .ok (.invokevirtual 230, 3) := by decide +kernel
theorem dX5_suits_101 : decode cX5_suits 101 = .ok (.invokevirtual 75, 3) := by decide +kernel
theorem dX5_suits_104 : decode cX5_suits 104 = .ok (.ireturn, 1) := by decide +kernel
set_option maxRecDepth 20000 in
theorem ggX5_asleep_X5_isPerson : GoodIn wsX5_asleep wsX5_isPerson := goodIn_ids iaX5_asleep iaX5_isPerson haX5_asleep haX5_isPerson imX5_asleep hmX5_asleep (by decide +kernel) (by decide +kernel)
set_option maxRecDepth 20000 in
theorem gX5_asleep_X5_isPerson : GoodIn wsX5_asleep (wsV RX5 140 RX5 yX5_isPerson wsX5_isPerson) := goodIn_app (goodIn_ids iaX5_asleep [533, 535, 18, 71] haX5_asleep rfl imX5_asleep hmX5_asleep (by decide +kernel) (by decide +kernel)) ggX5_asleep_X5_isPerson
set_option maxRecDepth 20000 in
theorem ggX5_asleep_X5_isUpTo : GoodIn wsX5_asleep wsX5_isUpTo := goodIn_ids iaX5_asleep iaX5_isUpTo haX5_asleep haX5_isUpTo imX5_asleep hmX5_asleep (by decide +kernel) (by decide +kernel)
set_option maxRecDepth 20000 in
theorem gX5_asleep_X5_isUpTo : GoodIn wsX5_asleep (va_wsS RX5 66 yX5_isUpTo wsX5_isUpTo) := goodIn_app (goodIn_ids iaX5_asleep [315, 316, 71] haX5_asleep rfl imX5_asleep hmX5_asleep (by decide +kernel) (by decide +kernel)) ggX5_asleep_X5_isUpTo
set_option maxRecDepth 20000 in
theorem ggX5_asleep_X3_chancesAsleep : GoodIn wsX5_asleep wsX3_chancesAsleep := goodIn_ids iaX5_asleep iaX3_chancesAsleep haX5_asleep haX3_chancesAsleep imX5_asleep hmX5_asleep (by decide +kernel) (by decide +kernel)
set_option maxRecDepth 20000 in
theorem gX5_asleep_X3_chancesAsleep : GoodIn wsX5_asleep (wsV RX5 234 RX3 yX3_chancesAsleep wsX3_chancesAsleep) := goodIn_app (goodIn_ids iaX5_asleep [727, 728, 729, 75] haX5_asleep rfl imX5_asleep hmX5_asleep (by decide +kernel) (by decide +kernel)) ggX5_asleep_X3_chancesAsleep
set_option maxRecDepth 20000 in
theorem ggX5_asleep_X5_power : GoodIn wsX5_asleep wsX5_power := goodIn_ids iaX5_asleep iaX5_power haX5_asleep haX5_power imX5_asleep hmX5_asleep (by decide +kernel) (by decide +kernel)
set_option maxRecDepth 20000 in
theorem gX5_asleep_X5_power : GoodIn wsX5_asleep (va_wsS RX5 237 yX5_power wsX5_power) := goodIn_app (goodIn_ids iaX5_asleep [738, 732, 71] haX5_asleep rfl imX5_asleep hmX5_asleep (by decide +kernel) (by decide +kernel)) ggX5_asleep_X5_power
set_option maxRecDepth 20000 in
theorem ggX5_asleep_X5_commonDivisor : GoodIn wsX5_asleep wsX5_commonDivisor := goodIn_ids iaX5_asleep iaX5_commonDivisor haX5_asleep haX5_commonDivisor imX5_asleep hmX5_asleep (by decide +kernel) (by decide +kernel)
set_option maxRecDepth 20000 in
theorem gX5_asleep_X5_commonDivisor : GoodIn wsX5_asleep (va_wsS RX5 240 yX5_commonDivisor wsX5_commonDivisor) := goodIn_app (goodIn_ids iaX5_asleep [739, 740, 71] haX5_asleep rfl imX5_asleep hmX5_asleep (by decide +kernel) (by decide +kernel)) ggX5_asleep_X5_commonDivisor
theorem dX5_asleep_0 : decode cX5_asleep 0 = .ok (.aload_n 0, 1) := by decide +kernel
theorem dX5_asleep_1 : decode cX5_asleep 1 = .ok (.iload_n 1, 1) := by decide +kernel
theorem dX5_asleep_2 : decode cX5_asleep 2 = .ok (.invokevirtual 140, 3) := by decide +kernel
theorem dX5_asleep_5 : decode cX5_asleep 5 = .ok (.ifCond .eq 20, 3) := by decide +kernel
theorem dX5_asleep_8 : decode cX5_asleep 8 = .ok (.iload_n 2, 1) := by decide +kernel
theorem dX5_asleep_9 : decode cX5_asleep 9 = .ok (.bipush 10, 2) := by decide +kernel
theorem dX5_asleep_11 : decode cX5_asleep 11 = .ok (.invokestatic 66, 3) := by decide +kernel
theorem dX5_asleep_14 : decode cX5_asleep 14 = .ok (.ifCond .eq 11, 3) := by decide +kernel
theorem dX5_asleep_17 : decode cX5_asleep 17 = .ok (.iload_n 3, 1) := by decide +kernel
theorem dX5_asleep_18 : decode cX5_asleep 18 = .ok (.iconst 1, 1) := by decide +kernel
theorem dX5_asleep_19 : decode cX5_asleep 19 = .ok (.invokestatic 66, 3) := by decide +kernel
theorem dX5_asleep_22 : decode cX5_asleep 22 = .ok (.ifCond .ne 6, 3) := by decide +kernel
theorem dX5_asleep_25 : decode cX5_asleep 25 = .ok (.ldc 70, 2) := by decide +kernel
theorem dX5_asleep_27 : decode cX5_asleep 27 = .ok (.ireturn, 1) := by decide +kernel
theorem dX5_asleep_28 : decode cX5_asleep 28 = .ok (.aload_n 0, 1) := by decide +kernel
theorem dX5_asleep_29 : decode cX5_asleep 29 = .ok (.getfield 51, 3) := by decide +kernel
theorem dX5_asleep_32 : decode cX5_asleep 32 = .ok (.iload_n 1, 1) := by decide +kernel
theorem dX5_asleep_33 : decode cX5_asleep 33 = .ok (.iload_n 2, 1) := by decide +kernel
theorem dX5_asleep_34 : decode cX5_asleep 34 = .ok (.invokevirtual 234, 3) := by decide +kernel
theorem dX5_asleep_37 : decode cX5_asleep 37 = .ok (.istore 4, 2) := by decide +kernel
theorem dX5_asleep_39 : decode cX5_asleep 39 = .ok (.bipush 10, 2) := by decide +kernel
theorem dX5_asleep_41 : decode cX5_asleep 41 = .ok (.aload_n 0, 1) := by decide +kernel
theorem dX5_asleep_42 : decode cX5_asleep 42 = .ok (.getfield 31, 3) := by decide +kernel
theorem dX5_asleep_45 : decode cX5_asleep 45 = .ok (.getfield 120, 3) := by decide +kernel
theorem dX5_asleep_48 : decode cX5_asleep 48 = .ok (.invokestatic 237, 3) := by decide +kernel
theorem dX5_asleep_51 : decode cX5_asleep 51 = .ok (.istore 5, 2) := by decide +kernel
theorem dX5_asleep_53 : decode cX5_asleep 53 = .ok (.iconst 1, 1) := by decide +kernel
theorem dX5_asleep_54 : decode cX5_asleep 54 = .ok (.iload 4, 2) := by decide +kernel
theorem dX5_asleep_56 : decode cX5_asleep 56 = .ok (.iload 5, 2) := by decide +kernel
theorem dX5_asleep_58 : decode cX5_asleep 58 = .ok (.invokestatic 240, 3) := by decide +kernel
theorem dX5_asleep_61 : decode cX5_asleep 61 = .ok (.invokestatic 243, 3) := by decide +kernel
theorem dX5_asleep_64 : decode cX5_asleep 64 = .ok (.istore 6, 2) := by decide +kernel
theorem dX5_asleep_66 : decode cX5_asleep 66 = .ok (.iload_n 3, 1) := by decide +kernel
theorem dX5_asleep_67 : decode cX5_asleep 67 = .ok (.ifCond .ne 8, 3) := by decide +kernel
theorem dX5_asleep_70 : decode cX5_asleep 70 = .ok (.iload 4, 2) := by decide +kernel
theorem dX5_asleep_72 : decode cX5_asleep 72 = .ok (.goto 5, 3) := by decide +kernel
theorem dX5_asleep_75 : decode cX5_asleep 75 = .ok (.iload 5, 2) := by decide +kernel
theorem dX5_asleep_77 : decode cX5_asleep 77 = .ok (.iload 6, 2) := by decide +kernel
theorem dX5_asleep_79 : decode cX5_asleep 79 = .ok (.idiv, 1) := by decide +kernel
theorem dX5_asleep_80 : decode cX5_asleep 80 = .ok (.ireturn, 1) := by decide +kernel
set_option maxRecDepth 20000 in
theorem ggX5_drawn_X4_stands : GoodIn wsX5_drawn wsX4_stands := goodIn_ids iaX5_drawn iaX4_stands haX5_drawn haX4_stands imX5_drawn hmX5_drawn (by decide +kernel) (by decide +kernel)
set_option maxRecDepth 20000 in
theorem gX5_drawn_X4_stands : GoodIn wsX5_drawn (wsV RX5 126 RX4 yX4_stands wsX4_stands) := goodIn_app (goodIn_ids iaX5_drawn [447, 448, 449, 73] haX5_drawn rfl imX5_drawn hmX5_drawn (by decide +kernel) (by decide +kernel)) ggX5_drawn_X4_stands
set_option maxRecDepth 20000 in
theorem ggX5_drawn_X5_isUpTo : GoodIn wsX5_drawn wsX5_isUpTo := goodIn_ids iaX5_drawn iaX5_isUpTo haX5_drawn haX5_isUpTo imX5_drawn hmX5_drawn (by decide +kernel) (by decide +kernel)
set_option maxRecDepth 20000 in
theorem gX5_drawn_X5_isUpTo : GoodIn wsX5_drawn (va_wsS RX5 66 yX5_isUpTo wsX5_isUpTo) := goodIn_app (goodIn_ids iaX5_drawn [315, 316, 71] haX5_drawn rfl imX5_drawn hmX5_drawn (by decide +kernel) (by decide +kernel)) ggX5_drawn_X5_isUpTo
set_option maxRecDepth 20000 in
theorem ggX5_drawn_X3_drawYears : GoodIn wsX5_drawn wsX3_drawYears := goodIn_ids iaX5_drawn iaX3_drawYears haX5_drawn haX3_drawYears imX5_drawn hmX5_drawn (by decide +kernel) (by decide +kernel)
set_option maxRecDepth 20000 in
theorem gX5_drawn_X3_drawYears : GoodIn wsX5_drawn (wsV RX5 249 RX3 yX3_drawYears wsX3_drawYears) := goodIn_app (goodIn_ids iaX5_drawn [748, 749, 750, 75] haX5_drawn rfl imX5_drawn hmX5_drawn (by decide +kernel) (by decide +kernel)) ggX5_drawn_X3_drawYears
set_option maxRecDepth 20000 in
theorem ggX5_drawn_X3_kingMostOften : GoodIn wsX5_drawn wsX3_kingMostOften := goodIn_ids iaX5_drawn iaX3_kingMostOften haX5_drawn haX3_kingMostOften imX5_drawn hmX5_drawn (by decide +kernel) (by decide +kernel)
set_option maxRecDepth 20000 in
theorem gX5_drawn_X3_kingMostOften : GoodIn wsX5_drawn (wsV RX5 256 RX3 yX3_kingMostOften wsX3_kingMostOften) := goodIn_app (goodIn_ids iaX5_drawn [760, 761, 762, 75] haX5_drawn rfl imX5_drawn hmX5_drawn (by decide +kernel) (by decide +kernel)) ggX5_drawn_X3_kingMostOften
theorem dX5_drawn_0 : decode cX5_drawn 0 = .ok (.aload_n 0, 1) := by decide +kernel
theorem dX5_drawn_1 : decode cX5_drawn 1 = .ok (.getfield 31, 3) := by decide +kernel
theorem dX5_drawn_4 : decode cX5_drawn 4 = .ok (.invokevirtual 126, 3) := by decide +kernel
theorem dX5_drawn_7 : decode cX5_drawn 7 = .ok (.ifCond .ne 6, 3) := by decide +kernel
theorem dX5_drawn_10 : decode cX5_drawn 10 = .ok (.ldc 129, 2) := by decide +kernel
theorem dX5_drawn_12 : decode cX5_drawn 12 = .ok (.ireturn, 1) := by decide +kernel
theorem dX5_drawn_13 : decode cX5_drawn 13 = .ok (.iload_n 1, 1) := by decide +kernel
theorem dX5_drawn_14 : decode cX5_drawn 14 = .ok (.bipush 9, 2) := by decide +kernel
theorem dX5_drawn_16 : decode cX5_drawn 16 = .ok (.invokestatic 66, 3) := by decide +kernel
theorem dX5_drawn_19 : decode cX5_drawn 19 = .ok (.ifCond .eq 22, 3) := by decide +kernel
theorem dX5_drawn_22 : decode cX5_drawn 22 = .ok (.iload_n 2, 1) := by decide +kernel
theorem dX5_drawn_23 : decode cX5_drawn 23 = .ok (.iconst 1, 1) := by decide +kernel
theorem dX5_drawn_24 : decode cX5_drawn 24 = .ok (.if_icmp .lt 17, 3) := by decide +kernel
theorem dX5_drawn_27 : decode cX5_drawn 27 = .ok (.iload_n 2, 1) := by decide +kernel
theorem dX5_drawn_28 : decode cX5_drawn 28 = .ok (.ldc 248, 2) := by decide +kernel
theorem dX5_drawn_30 : decode cX5_drawn 30 = .ok (.if_icmp .gt 11, 3) := by decide +kernel
theorem dX5_drawn_33 : decode cX5_drawn 33 = .ok (.iload_n 3, 1) := by decide +kernel
theorem dX5_drawn_34 : decode cX5_drawn 34 = .ok (.iconst 1, 1) := by decide +kernel
theorem dX5_drawn_35 : decode cX5_drawn 35 = .ok (.invokestatic 66, 3) := by decide +kernel
theorem dX5_drawn_38 : decode cX5_drawn 38 = .ok (.ifCond .ne 6, 3) := by decide +kernel
theorem dX5_drawn_41 : decode cX5_drawn 41 = .ok (.ldc 70, 2) := by decide +kernel
theorem dX5_drawn_43 : decode cX5_drawn 43 = .ok (.ireturn, 1) := by decide +kernel
theorem dX5_drawn_44 : decode cX5_drawn 44 = .ok (.aload_n 0, 1) := by decide +kernel
theorem dX5_drawn_45 : decode cX5_drawn 45 = .ok (.getfield 51, 3) := by decide +kernel
theorem dX5_drawn_48 : decode cX5_drawn 48 = .ok (.iload_n 1, 1) := by decide +kernel
theorem dX5_drawn_49 : decode cX5_drawn 49 = .ok (.iload_n 2, 1) := by decide +kernel
theorem dX5_drawn_50 : decode cX5_drawn 50 = .ok (.invokevirtual 249, 3) := by decide +kernel
theorem dX5_drawn_53 : decode cX5_drawn 53 = .ok (.iload_n 3, 1) := by decide +kernel
theorem dX5_drawn_54 : decode cX5_drawn 54 = .ok (.ifCond .ne 13, 3) := by decide +kernel
theorem dX5_drawn_57 : decode cX5_drawn 57 = .ok (.aload_n 0, 1) := by decide +kernel
theorem dX5_drawn_58 : decode cX5_drawn 58 = .ok (.getfield 51, 3) := by decide +kernel
theorem dX5_drawn_61 : decode cX5_drawn 61 = .ok (.getfield 253, 3) := by decide +kernel
theorem dX5_drawn_64 : decode cX5_drawn 64 = .ok (.goto 10, 3) := by decide +kernel
theorem dX5_drawn_67 : decode cX5_drawn 67 = .ok (.aload_n 0, 1) := by decide +kernel
theorem dX5_drawn_68 : decode cX5_drawn 68 = .ok (.getfield 51, 3) := by decide +kernel
theorem dX5_drawn_71 : decode cX5_drawn 71 = .ok (.invokevirtual 256, 3) := by decide +kernel
theorem dX5_drawn_74 : decode cX5_drawn 74 = .ok (.ireturn, 1) := by decide +kernel
set_option maxRecDepth 20000 in
theorem ggX5_image_X5_isUpTo : GoodIn wsX5_image wsX5_isUpTo := goodIn_ids iaX5_image iaX5_isUpTo haX5_image haX5_isUpTo imX5_image hmX5_image (by decide +kernel) (by decide +kernel)
set_option maxRecDepth 20000 in
theorem gX5_image_X5_isUpTo : GoodIn wsX5_image (va_wsS RX5 66 yX5_isUpTo wsX5_isUpTo) := goodIn_app (goodIn_ids iaX5_image [315, 316, 71] haX5_image rfl imX5_image hmX5_image (by decide +kernel) (by decide +kernel)) ggX5_image_X5_isUpTo
set_option maxRecDepth 20000 in
theorem ggX5_image_X4_stands : GoodIn wsX5_image wsX4_stands := goodIn_ids iaX5_image iaX4_stands haX5_image haX4_stands imX5_image hmX5_image (by decide +kernel) (by decide +kernel)
set_option maxRecDepth 20000 in
theorem gX5_image_X4_stands : GoodIn wsX5_image (wsV RX5 126 RX4 yX4_stands wsX4_stands) := goodIn_app (goodIn_ids iaX5_image [447, 448, 449, 73] haX5_image rfl imX5_image hmX5_image (by decide +kernel) (by decide +kernel)) ggX5_image_X4_stands
set_option maxRecDepth 20000 in
theorem ggX5_image_X4_become : GoodIn wsX5_image wsX4_become := goodIn_ids iaX5_image iaX4_become haX5_image haX4_become imX5_image hmX5_image (by decide +kernel) (by decide +kernel)
set_option maxRecDepth 20000 in
theorem gX5_image_X4_become : GoodIn wsX5_image (wsV RX5 114 RX4 yX4_become wsX4_become) := goodIn_app (goodIn_ids iaX5_image [431, 432, 433, 73] haX5_image rfl imX5_image hmX5_image (by decide +kernel) (by decide +kernel)) ggX5_image_X4_become
theorem dX5_image_0 : decode cX5_image 0 = .ok (.iload_n 1, 1) := by decide +kernel
theorem dX5_image_1 : decode cX5_image 1 = .ok (.iconst 1, 1) := by decide +kernel
theorem dX5_image_2 : decode cX5_image 2 = .ok (.invokestatic 66, 3) := by decide +kernel
theorem dX5_image_5 : decode cX5_image 5 = .ok (.ifCond .ne 6, 3) := by decide +kernel
theorem dX5_image_8 : decode cX5_image 8 = .ok (.ldc 70, 2) := by decide +kernel
theorem dX5_image_10 : decode cX5_image 10 = .ok (.ireturn, 1) := by decide +kernel
theorem dX5_image_11 : decode cX5_image 11 = .ok (.aload_n 0, 1) := by decide +kernel
theorem dX5_image_12 : decode cX5_image 12 = .ok (.getfield 31, 3) := by decide +kernel
theorem dX5_image_15 : decode cX5_image 15 = .ok (.invokevirtual 126, 3) := by decide +kernel
theorem dX5_image_18 : decode cX5_image 18 = .ok (.ifCond .ne 6, 3) := by decide +kernel
theorem dX5_image_21 : decode cX5_image 21 = .ok (.ldc 129, 2) := by decide +kernel
theorem dX5_image_23 : decode cX5_image 23 = .ok (.ireturn, 1) := by decide +kernel
theorem dX5_image_24 : decode cX5_image 24 = .ok (.aload_n 0, 1) := by decide +kernel
theorem dX5_image_25 : decode cX5_image 25 = .ok (.getfield 35, 3) := by decide +kernel
theorem dX5_image_28 : decode cX5_image 28 = .ok (.iload_n 1, 1) := by decide +kernel
theorem dX5_image_29 : decode cX5_image 29 = .ok (.aaload, 1) := by decide +kernel
theorem dX5_image_30 : decode cX5_image 30 = .ok (.aload_n 0, 1) := by decide +kernel
theorem dX5_image_31 : decode cX5_image 31 = .ok (.getfield 31, 3) := by decide +kernel
theorem dX5_image_34 : decode cX5_image 34 = .ok (.invokevirtual 114, 3) := by decide +kernel
theorem dX5_image_37 : decode cX5_image 37 = .ok (.iconst 1, 1) := by decide +kernel
theorem dX5_image_38 : decode cX5_image 38 = .ok (.ireturn, 1) := by decide +kernel
set_option maxRecDepth 20000 in
theorem ggX5_restore_X5_isUpTo : GoodIn wsX5_restore wsX5_isUpTo := goodIn_ids iaX5_restore iaX5_isUpTo haX5_restore haX5_isUpTo imX5_restore hmX5_restore (by decide +kernel) (by decide +kernel)
set_option maxRecDepth 20000 in
theorem gX5_restore_X5_isUpTo : GoodIn wsX5_restore (va_wsS RX5 66 yX5_isUpTo wsX5_isUpTo) := goodIn_app (goodIn_ids iaX5_restore [315, 316, 71] haX5_restore rfl imX5_restore hmX5_restore (by decide +kernel) (by decide +kernel)) ggX5_restore_X5_isUpTo
set_option maxRecDepth 20000 in
theorem ggX5_restore_X4_stands : GoodIn wsX5_restore wsX4_stands := goodIn_ids iaX5_restore iaX4_stands haX5_restore haX4_stands imX5_restore hmX5_restore (by decide +kernel) (by decide +kernel)
set_option maxRecDepth 20000 in
theorem gX5_restore_X4_stands : GoodIn wsX5_restore (wsV RX5 126 RX4 yX4_stands wsX4_stands) := goodIn_app (goodIn_ids iaX5_restore [447, 448, 449, 73] haX5_restore rfl imX5_restore hmX5_restore (by decide +kernel) (by decide +kernel)) ggX5_restore_X4_stands
set_option maxRecDepth 20000 in
theorem ggX5_restore_X4_become : GoodIn wsX5_restore wsX4_become := goodIn_ids iaX5_restore iaX4_become haX5_restore haX4_become imX5_restore hmX5_restore (by decide +kernel) (by decide +kernel)
set_option maxRecDepth 20000 in
theorem gX5_restore_X4_become : GoodIn wsX5_restore (wsV RX5 114 RX4 yX4_become wsX4_become) := goodIn_app (goodIn_ids iaX5_restore [431, 432, 433, 73] haX5_restore rfl imX5_restore hmX5_restore (by decide +kernel) (by decide +kernel)) ggX5_restore_X4_become
set_option maxRecDepth 20000 in
theorem ggX5_restore_X0_forget : GoodIn wsX5_restore wsX0_forget := goodIn_ids iaX5_restore iaX0_forget haX5_restore haX0_forget imX5_restore hmX5_restore (by decide +kernel) (by decide +kernel)
set_option maxRecDepth 20000 in
theorem gX5_restore_X0_forget : GoodIn wsX5_restore (wsV RX5 117 RX0 yX0_forget wsX0_forget) := goodIn_app (goodIn_ids iaX5_restore [435, 436, 437, 74] haX5_restore rfl imX5_restore hmX5_restore (by decide +kernel) (by decide +kernel)) ggX5_restore_X0_forget
theorem dX5_restore_0 : decode cX5_restore 0 = .ok (.iload_n 1, 1) := by decide +kernel
theorem dX5_restore_1 : decode cX5_restore 1 = .ok (.iconst 1, 1) := by decide +kernel
theorem dX5_restore_2 : decode cX5_restore 2 = .ok (.invokestatic 66, 3) := by decide +kernel
theorem dX5_restore_5 : decode cX5_restore 5 = .ok (.ifCond .ne 6, 3) := by decide +kernel
theorem dX5_restore_8 : decode cX5_restore 8 = .ok (.ldc 70, 2) := by decide +kernel
theorem dX5_restore_10 : decode cX5_restore 10 = .ok (.ireturn, 1) := by decide +kernel
theorem dX5_restore_11 : decode cX5_restore 11 = .ok (.aload_n 0, 1) := by decide +kernel
theorem dX5_restore_12 : decode cX5_restore 12 = .ok (.getfield 35, 3) := by decide +kernel
theorem dX5_restore_15 : decode cX5_restore 15 = .ok (.iload_n 1, 1) := by decide +kernel
theorem dX5_restore_16 : decode cX5_restore 16 = .ok (.aaload, 1) := by decide +kernel
theorem dX5_restore_17 : decode cX5_restore 17 = .ok (.invokevirtual 126, 3) := by decide +kernel
theorem dX5_restore_20 : decode cX5_restore 20 = .ok (.ifCond .ne 6, 3) := by decide +kernel
theorem dX5_restore_23 : decode cX5_restore 23 = .ok (.ldc 129, 2) := by decide +kernel
theorem dX5_restore_25 : decode cX5_restore 25 = .ok (.ireturn, 1) := by decide +kernel
theorem dX5_restore_26 : decode cX5_restore 26 = .ok (.aload_n 0, 1) := by decide +kernel
theorem dX5_restore_27 : decode cX5_restore 27 = .ok (.getfield 31, 3) := by decide +kernel
theorem dX5_restore_30 : decode cX5_restore 30 = .ok (.aload_n 0, 1) := by decide +kernel
theorem dX5_restore_31 : decode cX5_restore 31 = .ok (.getfield 35, 3) := by decide +kernel
theorem dX5_restore_34 : decode cX5_restore 34 = .ok (.iload_n 1, 1) := by decide +kernel
theorem dX5_restore_35 : decode cX5_restore 35 = .ok (.aaload, 1) := by decide +kernel
theorem dX5_restore_36 : decode cX5_restore 36 = .ok (.invokevirtual 114, 3) := by decide +kernel
theorem dX5_restore_39 : decode cX5_restore 39 = .ok (.aload_n 0, 1) := by decide +kernel
theorem dX5_restore_40 : decode cX5_restore 40 = .ok (.getfield 42, 3) := by decide +kernel
theorem dX5_restore_43 : decode cX5_restore 43 = .ok (.invokevirtual 117, 3) := by decide +kernel
theorem dX5_restore_46 : decode cX5_restore 46 = .ok (.iconst 1, 1) := by decide +kernel
theorem dX5_restore_47 : decode cX5_restore 47 = .ok (.ireturn, 1) := by decide +kernel
set_option maxRecDepth 20000 in
theorem ggX5_kind_X5_isDog : GoodIn wsX5_kind wsX5_isDog := goodIn_ids iaX5_kind iaX5_isDog haX5_kind haX5_isDog imX5_kind hmX5_kind (by decide +kernel) (by decide +kernel)
set_option maxRecDepth 20000 in
theorem gX5_kind_X5_isDog : GoodIn wsX5_kind (wsV RX5 149 RX5 yX5_isDog wsX5_isDog) := goodIn_app (goodIn_ids iaX5_kind [545, 547, 19, 71] haX5_kind rfl imX5_kind hmX5_kind (by decide +kernel) (by decide +kernel)) ggX5_kind_X5_isDog
theorem dX5_kind_0 : decode cX5_kind 0 = .ok (.aload_n 0, 1) := by decide +kernel
theorem dX5_kind_1 : decode cX5_kind 1 = .ok (.iload_n 1, 1) := by decide +kernel
theorem dX5_kind_2 : decode cX5_kind 2 = .ok (.invokevirtual 149, 3) := by decide +kernel
theorem dX5_kind_5 : decode cX5_kind 5 = .ok (.ifCond .eq 15, 3) := by decide +kernel
theorem dX5_kind_8 : decode cX5_kind 8 = .ok (.aload_n 0, 1) := by decide +kernel
theorem dX5_kind_9 : decode cX5_kind 9 = .ok (.getfield 31, 3) := by decide +kernel
theorem dX5_kind_12 : decode cX5_kind 12 = .ok (.getfield 259, 3) := by decide +kernel
theorem dX5_kind_15 : decode cX5_kind 15 = .ok (.iload_n 1, 1) := by decide +kernel
theorem dX5_kind_16 : decode cX5_kind 16 = .ok (.iaload, 1) := by decide +kernel
theorem dX5_kind_17 : decode cX5_kind 17 = .ok (.goto 5, 3) := by decide +kernel
theorem dX5_kind_20 : decode cX5_kind 20 = .ok (.ldc 70, 2) := by decide +kernel
theorem dX5_kind_22 : decode cX5_kind 22 = .ok (.ireturn, 1) := by decide +kernel
set_option maxRecDepth 20000 in
theorem ggX5_as_X5_isDog : GoodIn wsX5_as wsX5_isDog := goodIn_ids iaX5_as iaX5_isDog haX5_as haX5_isDog imX5_as hmX5_as (by decide +kernel) (by decide +kernel)
set_option maxRecDepth 20000 in
theorem gX5_as_X5_isDog : GoodIn wsX5_as (wsV RX5 149 RX5 yX5_isDog wsX5_isDog) := goodIn_app (goodIn_ids iaX5_as [545, 547, 19, 71] haX5_as rfl imX5_as hmX5_as (by decide +kernel) (by decide +kernel)) ggX5_as_X5_isDog
set_option maxRecDepth 20000 in
theorem ggX5_as_X5_isUpTo : GoodIn wsX5_as wsX5_isUpTo := goodIn_ids iaX5_as iaX5_isUpTo haX5_as haX5_isUpTo imX5_as hmX5_as (by decide +kernel) (by decide +kernel)
set_option maxRecDepth 20000 in
theorem gX5_as_X5_isUpTo : GoodIn wsX5_as (va_wsS RX5 66 yX5_isUpTo wsX5_isUpTo) := goodIn_app (goodIn_ids iaX5_as [315, 316, 71] haX5_as rfl imX5_as hmX5_as (by decide +kernel) (by decide +kernel)) ggX5_as_X5_isUpTo
set_option maxRecDepth 20000 in
theorem ggX5_as_X5_isA : GoodIn wsX5_as wsX5_isA := goodIn_ids iaX5_as iaX5_isA haX5_as haX5_isA imX5_as hmX5_as (by decide +kernel) (by decide +kernel)
set_option maxRecDepth 20000 in
theorem gX5_as_X5_isA : GoodIn wsX5_as (va_wsS RX5 262 yX5_isA wsX5_isA) := goodIn_app (goodIn_ids iaX5_as [780, 480, 71] haX5_as rfl imX5_as hmX5_as (by decide +kernel) (by decide +kernel)) ggX5_as_X5_isA
set_option maxRecDepth 20000 in
theorem ggX5_as_X5_nothingFound : GoodIn wsX5_as wsX5_nothingFound := goodIn_ids iaX5_as iaX5_nothingFound haX5_as haX5_nothingFound imX5_as hmX5_as (by decide +kernel) (by decide +kernel)
set_option maxRecDepth 20000 in
theorem gX5_as_X5_nothingFound : GoodIn wsX5_as (wsV RX5 75 RX5 yX5_nothingFound wsX5_nothingFound) := goodIn_app (goodIn_ids iaX5_as [324, 326, 1, 71] haX5_as rfl imX5_as hmX5_as (by decide +kernel) (by decide +kernel)) ggX5_as_X5_nothingFound
set_option maxRecDepth 20000 in
theorem ggX5_as_X5_found : GoodIn wsX5_as wsX5_found := goodIn_ids iaX5_as iaX5_found haX5_as haX5_found imX5_as hmX5_as (by decide +kernel) (by decide +kernel)
set_option maxRecDepth 20000 in
theorem gX5_as_X5_found : GoodIn wsX5_as (wsV RX5 71 RX5 yX5_found wsX5_found) := goodIn_app (goodIn_ids iaX5_as [319, 321, 0, 71] haX5_as rfl imX5_as hmX5_as (by decide +kernel) (by decide +kernel)) ggX5_as_X5_found
theorem dX5_as_0 : decode cX5_as 0 = .ok (.aload_n 0, 1) := by decide +kernel
theorem dX5_as_1 : decode cX5_as 1 = .ok (.iload_n 1, 1) := by decide +kernel
theorem dX5_as_2 : decode cX5_as 2 = .ok (.invokevirtual 149, 3) := by decide +kernel
theorem dX5_as_5 : decode cX5_as 5 = .ok (.ifCond .eq 11, 3) := by decide +kernel
theorem dX5_as_8 : decode cX5_as 8 = .ok (.iload_n 2, 1) := by decide +kernel
theorem dX5_as_9 : decode cX5_as 9 = .ok (.iconst 5, 1) := by decide +kernel
theorem dX5_as_10 : decode cX5_as 10 = .ok (.invokestatic 66, 3) := by decide +kernel
theorem dX5_as_13 : decode cX5_as 13 = .ok (.ifCond .ne 6, 3) := by decide +kernel
theorem dX5_as_16 : decode cX5_as 16 = .ok (.ldc 70, 2) := by decide +kernel
theorem dX5_as_18 : decode cX5_as 18 = .ok (.ireturn, 1) := by decide +kernel
theorem dX5_as_19 : decode cX5_as 19 = .ok (.aload_n 0, 1) := by decide +kernel
theorem dX5_as_20 : decode cX5_as 20 = .ok (.getfield 31, 3) := by decide +kernel
theorem dX5_as_23 : decode cX5_as 23 = .ok (.getfield 259, 3) := by decide +kernel
theorem dX5_as_26 : decode cX5_as 26 = .ok (.iload_n 1, 1) := by decide +kernel
theorem dX5_as_27 : decode cX5_as 27 = .ok (.iaload, 1) := by decide +kernel
theorem dX5_as_28 : decode cX5_as 28 = .ok (.iload_n 2, 1) := by decide +kernel
theorem dX5_as_29 : decode cX5_as 29 = .ok (.invokestatic 262, 3) := by decide +kernel
theorem dX5_as_32 : decode cX5_as 32 = .ok (.ifCond .eq 11, 3) := by decide +kernel
theorem dX5_as_35 : decode cX5_as 35 = .ok (.aload_n 0, 1) := by decide +kernel
theorem dX5_as_36 : decode cX5_as 36 = .ok (.iload_n 1, 1) := by decide +kernel
theorem dX5_as_37 : decode cX5_as 37 = .ok (.invokevirtual 75, 3) := by decide +kernel
theorem dX5_as_40 : decode cX5_as 40 = .ok (.goto 8, 3) := by decide +kernel
theorem dX5_as_43 : decode cX5_as 43 = .ok (.aload_n 0, 1) := by decide +kernel
theorem dX5_as_44 : decode cX5_as 44 = .ok (.iconst 3, 1) := by decide +kernel
theorem dX5_as_45 : decode cX5_as 45 = .ok (.invokevirtual 71, 3) := by decide +kernel
theorem dX5_as_48 : decode cX5_as 48 = .ok (.ireturn, 1) := by decide +kernel
set_option maxRecDepth 20000 in
theorem ggX5_ask_X5_isDog : GoodIn wsX5_ask wsX5_isDog := goodIn_ids iaX5_ask iaX5_isDog haX5_ask haX5_isDog imX5_ask hmX5_ask (by decide +kernel) (by decide +kernel)
set_option maxRecDepth 20000 in
theorem gX5_ask_X5_isDog : GoodIn wsX5_ask (wsV RX5 149 RX5 yX5_isDog wsX5_isDog) := goodIn_app (goodIn_ids iaX5_ask [545, 547, 19, 71] haX5_ask rfl imX5_ask hmX5_ask (by decide +kernel) (by decide +kernel)) ggX5_ask_X5_isDog
set_option maxRecDepth 20000 in
theorem ggX5_ask_X5_isUpTo : GoodIn wsX5_ask wsX5_isUpTo := goodIn_ids iaX5_ask iaX5_isUpTo haX5_ask haX5_isUpTo imX5_ask hmX5_ask (by decide +kernel) (by decide +kernel)
set_option maxRecDepth 20000 in
theorem gX5_ask_X5_isUpTo : GoodIn wsX5_ask (va_wsS RX5 66 yX5_isUpTo wsX5_isUpTo) := goodIn_app (goodIn_ids iaX5_ask [315, 316, 71] haX5_ask rfl imX5_ask hmX5_ask (by decide +kernel) (by decide +kernel)) ggX5_ask_X5_isUpTo
set_option maxRecDepth 20000 in
theorem ggX5_ask_X1_answer : GoodIn wsX5_ask wsX1_answer := goodIn_ids iaX5_ask iaX1_answer haX5_ask haX1_answer imX5_ask hmX5_ask (by decide +kernel) (by decide +kernel)
set_option maxRecDepth 20000 in
theorem gX5_ask_X1_answer : GoodIn wsX5_ask (wsV RX5 265 RX1 yX1_answer wsX1_answer) := goodIn_app (goodIn_ids iaX5_ask [785, 786, 787, 76] haX5_ask rfl imX5_ask hmX5_ask (by decide +kernel) (by decide +kernel)) ggX5_ask_X1_answer
theorem dX5_ask_0 : decode cX5_ask 0 = .ok (.aload_n 0, 1) := by decide +kernel
theorem dX5_ask_1 : decode cX5_ask 1 = .ok (.iload_n 1, 1) := by decide +kernel
theorem dX5_ask_2 : decode cX5_ask 2 = .ok (.invokevirtual 149, 3) := by decide +kernel
theorem dX5_ask_5 : decode cX5_ask 5 = .ok (.ifCond .eq 23, 3) := by decide +kernel
theorem dX5_ask_8 : decode cX5_ask 8 = .ok (.iload_n 2, 1) := by decide +kernel
theorem dX5_ask_9 : decode cX5_ask 9 = .ok (.iconst 1, 1) := by decide +kernel
theorem dX5_ask_10 : decode cX5_ask 10 = .ok (.invokestatic 66, 3) := by decide +kernel
theorem dX5_ask_13 : decode cX5_ask 13 = .ok (.ifCond .eq 15, 3) := by decide +kernel
theorem dX5_ask_16 : decode cX5_ask 16 = .ok (.aload_n 0, 1) := by decide +kernel
theorem dX5_ask_17 : decode cX5_ask 17 = .ok (.getfield 58, 3) := by decide +kernel
theorem dX5_ask_20 : decode cX5_ask 20 = .ok (.iload_n 1, 1) := by decide +kernel
theorem dX5_ask_21 : decode cX5_ask 21 = .ok (.iload_n 2, 1) := by decide +kernel
theorem dX5_ask_22 : decode cX5_ask 22 = .ok (.invokevirtual 265, 3) := by decide +kernel
theorem dX5_ask_25 : decode cX5_ask 25 = .ok (.goto 5, 3) := by decide +kernel
theorem dX5_ask_28 : decode cX5_ask 28 = .ok (.ldc 70, 2) := by decide +kernel
theorem dX5_ask_30 : decode cX5_ask 30 = .ok (.ireturn, 1) := by decide +kernel
set_option maxRecDepth 20000 in
theorem ggX5_trace_X1_begun : GoodIn wsX5_trace wsX1_begun := goodIn_ids iaX5_trace iaX1_begun haX5_trace haX1_begun imX5_trace hmX5_trace (by decide +kernel) (by decide +kernel)
set_option maxRecDepth 20000 in
theorem gX5_trace_X1_begun : GoodIn wsX5_trace (wsV RX5 268 RX1 yX1_begun wsX1_begun) := goodIn_app (goodIn_ids iaX5_trace [814, 815, 816, 76] haX5_trace rfl imX5_trace hmX5_trace (by decide +kernel) (by decide +kernel)) ggX5_trace_X1_begun
theorem dX5_trace_0 : decode cX5_trace 0 = .ok (.aload_n 0, 1) := by decide +kernel
theorem dX5_trace_1 : decode cX5_trace 1 = .ok (.getfield 58, 3) := by decide +kernel
theorem dX5_trace_4 : decode cX5_trace 4 = .ok (.iload_n 1, 1) := by decide +kernel
theorem dX5_trace_5 : decode cX5_trace 5 = .ok (.invokevirtual 268, 3) := by decide +kernel
theorem dX5_trace_8 : decode cX5_trace 8 = .ok (.ireturn, 1) := by decide +kernel
set_option maxRecDepth 20000 in
theorem ggX5_count_X5_rowsThatStand : GoodIn wsX5_count wsX5_rowsThatStand := goodIn_ids iaX5_count iaX5_rowsThatStand haX5_count haX5_rowsThatStand imX5_count hmX5_count (by decide +kernel) (by decide +kernel)
set_option maxRecDepth 20000 in
theorem gX5_count_X5_rowsThatStand : GoodIn wsX5_count (wsV RX5 271 RX5 yX5_rowsThatStand wsX5_rowsThatStand) := goodIn_app (goodIn_ids iaX5_count [823, 825, 36, 71] haX5_count rfl imX5_count hmX5_count (by decide +kernel) (by decide +kernel)) ggX5_count_X5_rowsThatStand
set_option maxRecDepth 20000 in
theorem ggX5_count_X4_allReigns : GoodIn wsX5_count wsX4_allReigns := goodIn_ids iaX5_count iaX4_allReigns haX5_count haX4_allReigns imX5_count hmX5_count (by decide +kernel) (by decide +kernel)
set_option maxRecDepth 20000 in
theorem gX5_count_X4_allReigns : GoodIn wsX5_count (wsV RX5 289 RX4 yX4_allReigns wsX4_allReigns) := goodIn_app (goodIn_ids iaX5_count [827, 828, 829, 73] haX5_count rfl imX5_count hmX5_count (by decide +kernel) (by decide +kernel)) ggX5_count_X4_allReigns
theorem dX5_count_0 : decode cX5_count 0 = .ok (.iload_n 1, 1) := by decide +kernel
theorem dX5_count_1 : decode cX5_count 1 = .ok (.tableswitch 132 0 9 #[55, 60, 68, 76, 84, 92, 100, 108, 116, 124], 55) := by decide +kernel
theorem dX5_count_56 : decode cX5_count 56 = .ok (.aload_n 0, 1) := by decide +kernel
theorem dX5_count_57 : decode cX5_count 57 = .ok (.invokevirtual 271, 3) := by decide +kernel
theorem dX5_count_60 : decode cX5_count 60 = .ok (.ireturn, 1) := by decide +kernel
theorem dX5_count_61 : decode cX5_count 61 = .ok (.aload_n 0, 1) := by decide +kernel
theorem dX5_count_62 : decode cX5_count 62 = .ok (.getfield 31, 3) := by decide +kernel
theorem dX5_count_65 : decode cX5_count 65 = .ok (.getfield 274, 3) := by decide +kernel
theorem dX5_count_68 : decode cX5_count 68 = .ok (.ireturn, 1) := by decide +kernel
theorem dX5_count_69 : decode cX5_count 69 = .ok (.aload_n 0, 1) := by decide +kernel
theorem dX5_count_70 : decode cX5_count 70 = .ok (.getfield 31, 3) := by decide +kernel
theorem dX5_count_73 : decode cX5_count 73 = .ok (.getfield 120, 3) := by decide +kernel
theorem dX5_count_76 : decode cX5_count 76 = .ok (.ireturn, 1) := by decide +kernel
theorem dX5_count_77 : decode cX5_count 77 = .ok (.aload_n 0, 1) := by decide +kernel
theorem dX5_count_78 : decode cX5_count 78 = .ok (.getfield 31, 3) := by decide +kernel
theorem dX5_count_81 : decode cX5_count 81 = .ok (.getfield 277, 3) := by decide +kernel
theorem dX5_count_84 : decode cX5_count 84 = .ok (.ireturn, 1) := by decide +kernel
theorem dX5_count_85 : decode cX5_count 85 = .ok (.aload_n 0, 1) := by decide +kernel
theorem dX5_count_86 : decode cX5_count 86 = .ok (.getfield 31, 3) := by decide +kernel
theorem dX5_count_89 : decode cX5_count 89 = .ok (.getfield 130, 3) := by decide +kernel
theorem dX5_count_92 : decode cX5_count 92 = .ok (.ireturn, 1) := by decide +kernel
theorem dX5_count_93 : decode cX5_count 93 = .ok (.aload_n 0, 1) := by decide +kernel
theorem dX5_count_94 : decode cX5_count 94 = .ok (.getfield 31, 3) := by decide +kernel
theorem dX5_count_97 : decode cX5_count 97 = .ok (.getfield 280, 3) := by decide +kernel
theorem dX5_count_100 : decode cX5_count 100 = .ok (.ireturn, 1) := by decide +kernel
theorem dX5_count_101 : decode cX5_count 101 = .ok (.aload_n 0, 1) := by decide +kernel
theorem dX5_count_102 : decode cX5_count 102 = .ok (.getfield 31, 3) := by decide +kernel
theorem dX5_count_105 : decode cX5_count 105 = .ok (.getfield 283, 3) := by decide +kernel
theorem dX5_count_108 : decode cX5_count 108 = .ok (.ireturn, 1) := by decide +kernel
theorem dX5_count_109 : decode cX5_count 109 = .ok (.aload_n 0, 1) := by decide +kernel
theorem dX5_count_110 : decode cX5_count 110 = .ok (.getfield 42, 3) := by decide +kernel
theorem dX5_count_113 : decode cX5_count 113 = .ok (.getfield 158, 3) := by decide +kernel
theorem dX5_count_116 : decode cX5_count 116 = .ok (.ireturn, 1) := by decide +kernel
theorem dX5_count_117 : decode cX5_count 117 = .ok (.aload_n 0, 1) := by decide +kernel
theorem dX5_count_118 : decode cX5_count 118 = .ok (.getfield 24, 3) := by decide +kernel
theorem dX5_count_121 : decode cX5_count 121 = .ok (.getfield 286, 3) := by decide +kernel
theorem dX5_count_124 : decode cX5_count 124 = .ok (.ireturn, 1) := by decide +kernel
theorem dX5_count_125 : decode cX5_count 125 = .ok (.aload_n 0, 1) := by decide +kernel
theorem dX5_count_126 : decode cX5_count 126 = .ok (.getfield 31, 3) := by decide +kernel
theorem dX5_count_129 : decode cX5_count 129 = .ok (.invokevirtual 289, 3) := by decide +kernel
theorem dX5_count_132 : decode cX5_count 132 = .ok (.ireturn, 1) := by decide +kernel
theorem dX5_count_133 : decode cX5_count 133 = .ok (.ldc 70, 2) := by decide +kernel
theorem dX5_count_135 : decode cX5_count 135 = .ok (.ireturn, 1) := by decide +kernel
theorem dX5_status_0 : decode cX5_status 0 = .ok (.aload_n 0, 1) := by decide +kernel
theorem dX5_status_1 : decode cX5_status 1 = .ok (.getfield 292, 3) := by decide +kernel
theorem dX5_status_4 : decode cX5_status 4 = .ok (.ireturn, 1) := by decide +kernel
theorem dX5_isUpTo_0 : decode cX5_isUpTo 0 = .ok (.iload_n 0, 1) := by decide +kernel
theorem dX5_isUpTo_1 : decode cX5_isUpTo 1 = .ok (.ifCond .lt 12, 3) := by decide +kernel
theorem dX5_isUpTo_4 : decode cX5_isUpTo 4 = .ok (.iload_n 0, 1) := by decide +kernel
theorem dX5_isUpTo_5 : decode cX5_isUpTo 5 = .ok (.iload_n 1, 1) := by decide +kernel
theorem dX5_isUpTo_6 : decode cX5_isUpTo 6 = .ok (.if_icmp .gt 7, 3) := by decide +kernel
theorem dX5_isUpTo_9 : decode cX5_isUpTo 9 = .ok (.iconst 1, 1) := by decide +kernel
theorem dX5_isUpTo_10 : decode cX5_isUpTo 10 = .ok (.goto 4, 3) := by decide +kernel
theorem dX5_isUpTo_13 : decode cX5_isUpTo 13 = .ok (.iconst 0, 1) := by decide +kernel
theorem dX5_isUpTo_14 : decode cX5_isUpTo 14 = .ok (.ireturn, 1) := by decide +kernel
set_option maxRecDepth 20000 in
theorem ggX5_isRow_X5_isUpTo : GoodIn wsX5_isRow wsX5_isUpTo := goodIn_ids iaX5_isRow iaX5_isUpTo haX5_isRow haX5_isUpTo imX5_isRow hmX5_isRow (by decide +kernel) (by decide +kernel)
set_option maxRecDepth 20000 in
theorem gX5_isRow_X5_isUpTo : GoodIn wsX5_isRow (va_wsS RX5 66 yX5_isUpTo wsX5_isUpTo) := goodIn_app (goodIn_ids iaX5_isRow [315, 316, 71] haX5_isRow rfl imX5_isRow hmX5_isRow (by decide +kernel) (by decide +kernel)) ggX5_isRow_X5_isUpTo
theorem dX5_isRow_0 : decode cX5_isRow 0 = .ok (.iload_n 0, 1) := by decide +kernel
theorem dX5_isRow_1 : decode cX5_isRow 1 = .ok (.bipush 7, 2) := by decide +kernel
theorem dX5_isRow_3 : decode cX5_isRow 3 = .ok (.invokestatic 66, 3) := by decide +kernel
theorem dX5_isRow_6 : decode cX5_isRow 6 = .ok (.ireturn, 1) := by decide +kernel
theorem dX5_isPlace_0 : decode cX5_isPlace 0 = .ok (.iload_n 1, 1) := by decide +kernel
theorem dX5_isPlace_1 : decode cX5_isPlace 1 = .ok (.ifCond .lt 18, 3) := by decide +kernel
theorem dX5_isPlace_4 : decode cX5_isPlace 4 = .ok (.iload_n 1, 1) := by decide +kernel
theorem dX5_isPlace_5 : decode cX5_isPlace 5 = .ok (.aload_n 0, 1) := by decide +kernel
theorem dX5_isPlace_6 : decode cX5_isPlace 6 = .ok (.getfield 31, 3) := by decide +kernel
theorem dX5_isPlace_9 : decode cX5_isPlace 9 = .ok (.getfield 274, 3) := by decide +kernel
theorem dX5_isPlace_12 : decode cX5_isPlace 12 = .ok (.if_icmp .ge 7, 3) := by decide +kernel
theorem dX5_isPlace_15 : decode cX5_isPlace 15 = .ok (.iconst 1, 1) := by decide +kernel
theorem dX5_isPlace_16 : decode cX5_isPlace 16 = .ok (.goto 4, 3) := by decide +kernel
theorem dX5_isPlace_19 : decode cX5_isPlace 19 = .ok (.iconst 0, 1) := by decide +kernel
theorem dX5_isPlace_20 : decode cX5_isPlace 20 = .ok (.ireturn, 1) := by decide +kernel
theorem dX5_isPerson_0 : decode cX5_isPerson 0 = .ok (.iload_n 1, 1) := by decide +kernel
theorem dX5_isPerson_1 : decode cX5_isPerson 1 = .ok (.ifCond .lt 18, 3) := by decide +kernel
theorem dX5_isPerson_4 : decode cX5_isPerson 4 = .ok (.iload_n 1, 1) := by decide +kernel
theorem dX5_isPerson_5 : decode cX5_isPerson 5 = .ok (.aload_n 0, 1) := by decide +kernel
theorem dX5_isPerson_6 : decode cX5_isPerson 6 = .ok (.getfield 31, 3) := by decide +kernel
theorem dX5_isPerson_9 : decode cX5_isPerson 9 = .ok (.getfield 277, 3) := by decide +kernel
theorem dX5_isPerson_12 : decode cX5_isPerson 12 = .ok (.if_icmp .ge 7, 3) := by decide +kernel
theorem dX5_isPerson_15 : decode cX5_isPerson 15 = .ok (.iconst 1, 1) := by decide +kernel
theorem dX5_isPerson_16 : decode cX5_isPerson 16 = .ok (.goto 4, 3) := by decide +kernel
theorem dX5_isPerson_19 : decode cX5_isPerson 19 = .ok (.iconst 0, 1) := by decide +kernel
theorem dX5_isPerson_20 : decode cX5_isPerson 20 = .ok (.ireturn, 1) := by decide +kernel
theorem dX5_isDog_0 : decode cX5_isDog 0 = .ok (.iload_n 1, 1) := by decide +kernel
theorem dX5_isDog_1 : decode cX5_isDog 1 = .ok (.ifCond .lt 18, 3) := by decide +kernel
theorem dX5_isDog_4 : decode cX5_isDog 4 = .ok (.iload_n 1, 1) := by decide +kernel
theorem dX5_isDog_5 : decode cX5_isDog 5 = .ok (.aload_n 0, 1) := by decide +kernel
theorem dX5_isDog_6 : decode cX5_isDog 6 = .ok (.getfield 31, 3) := by decide +kernel
theorem dX5_isDog_9 : decode cX5_isDog 9 = .ok (.getfield 120, 3) := by decide +kernel
theorem dX5_isDog_12 : decode cX5_isDog 12 = .ok (.if_icmp .ge 7, 3) := by decide +kernel
theorem dX5_isDog_15 : decode cX5_isDog 15 = .ok (.iconst 1, 1) := by decide +kernel
theorem dX5_isDog_16 : decode cX5_isDog 16 = .ok (.goto 4, 3) := by decide +kernel
theorem dX5_isDog_19 : decode cX5_isDog 19 = .ok (.iconst 0, 1) := by decide +kernel
theorem dX5_isDog_20 : decode cX5_isDog 20 = .ok (.ireturn, 1) := by decide +kernel
theorem dX5_isMissing_0 : decode cX5_isMissing 0 = .ok (.aload_n 0, 1) := by decide +kernel
theorem dX5_isMissing_1 : decode cX5_isMissing 1 = .ok (.getfield 18, 3) := by decide +kernel
theorem dX5_isMissing_4 : decode cX5_isMissing 4 = .ok (.iload_n 1, 1) := by decide +kernel
theorem dX5_isMissing_5 : decode cX5_isMissing 5 = .ok (.iaload, 1) := by decide +kernel
theorem dX5_isMissing_6 : decode cX5_isMissing 6 = .ok (.iconst (-1), 1) := by decide +kernel
theorem dX5_isMissing_7 : decode cX5_isMissing 7 = .ok (.if_icmp .ne 7, 3) := by decide +kernel
theorem dX5_isMissing_10 : decode cX5_isMissing 10 = .ok (.iconst 1, 1) := by decide +kernel
theorem dX5_isMissing_11 : decode cX5_isMissing 11 = .ok (.goto 4, 3) := by decide +kernel
theorem dX5_isMissing_14 : decode cX5_isMissing 14 = .ok (.iconst 0, 1) := by decide +kernel
theorem dX5_isMissing_15 : decode cX5_isMissing 15 = .ok (.ireturn, 1) := by decide +kernel
theorem dX5_hasItems_0 : decode cX5_hasItems 0 = .ok (.iload_n 2, 1) := by decide +kernel
theorem dX5_hasItems_1 : decode cX5_hasItems 1 = .ok (.ifCond .lt 23, 3) := by decide +kernel
theorem dX5_hasItems_4 : decode cX5_hasItems 4 = .ok (.iload_n 3, 1) := by decide +kernel
theorem dX5_hasItems_5 : decode cX5_hasItems 5 = .ok (.ifCond .lt 19, 3) := by decide +kernel
theorem dX5_hasItems_8 : decode cX5_hasItems 8 = .ok (.iload_n 2, 1) := by decide +kernel
theorem dX5_hasItems_9 : decode cX5_hasItems 9 = .ok (.aload_n 0, 1) := by decide +kernel
theorem dX5_hasItems_10 : decode cX5_hasItems 10 = .ok (.getfield 18, 3) := by decide +kernel
theorem dX5_hasItems_13 : decode cX5_hasItems 13 = .ok (.iload_n 1, 1) := by decide +kernel
theorem dX5_hasItems_14 : decode cX5_hasItems 14 = .ok (.iaload, 1) := by decide +kernel
theorem dX5_hasItems_15 : decode cX5_hasItems 15 = .ok (.iload_n 3, 1) := by decide +kernel
theorem dX5_hasItems_16 : decode cX5_hasItems 16 = .ok (.isub, 1) := by decide +kernel
theorem dX5_hasItems_17 : decode cX5_hasItems 17 = .ok (.if_icmp .gt 7, 3) := by decide +kernel
theorem dX5_hasItems_20 : decode cX5_hasItems 20 = .ok (.iconst 1, 1) := by decide +kernel
theorem dX5_hasItems_21 : decode cX5_hasItems 21 = .ok (.goto 4, 3) := by decide +kernel
theorem dX5_hasItems_24 : decode cX5_hasItems 24 = .ok (.iconst 0, 1) := by decide +kernel
theorem dX5_hasItems_25 : decode cX5_hasItems 25 = .ok (.ireturn, 1) := by decide +kernel
set_option maxRecDepth 20000 in
theorem ggX5_troubleWith_X5_isMissing : GoodIn wsX5_troubleWith wsX5_isMissing := goodIn_ids iaX5_troubleWith iaX5_isMissing haX5_troubleWith haX5_isMissing imX5_troubleWith hmX5_troubleWith (by decide +kernel) (by decide +kernel)
set_option maxRecDepth 20000 in
theorem gX5_troubleWith_X5_isMissing : GoodIn wsX5_troubleWith (wsV RX5 78 RX5 yX5_isMissing wsX5_isMissing) := goodIn_app (goodIn_ids iaX5_troubleWith [332, 334, 2, 71] haX5_troubleWith rfl imX5_troubleWith hmX5_troubleWith (by decide +kernel) (by decide +kernel)) ggX5_troubleWith_X5_isMissing
set_option maxRecDepth 20000 in
theorem ggX5_troubleWith_X5_hasItems : GoodIn wsX5_troubleWith wsX5_hasItems := goodIn_ids iaX5_troubleWith iaX5_hasItems haX5_troubleWith haX5_hasItems imX5_troubleWith hmX5_troubleWith (by decide +kernel) (by decide +kernel)
set_option maxRecDepth 20000 in
theorem gX5_troubleWith_X5_hasItems : GoodIn wsX5_troubleWith (wsV RX5 85 RX5 yX5_hasItems wsX5_hasItems) := goodIn_app (goodIn_ids iaX5_troubleWith [343, 345, 3, 71] haX5_troubleWith rfl imX5_troubleWith hmX5_troubleWith (by decide +kernel) (by decide +kernel)) ggX5_troubleWith_X5_hasItems
theorem dX5_troubleWith_0 : decode cX5_troubleWith 0 = .ok (.aload_n 0, 1) := by decide +kernel
theorem dX5_troubleWith_1 : decode cX5_troubleWith 1 = .ok (.iload_n 1, 1) := by decide +kernel
theorem dX5_troubleWith_2 : decode cX5_troubleWith 2 = .ok (.invokevirtual 78, 3) := by decide +kernel
theorem dX5_troubleWith_5 : decode cX5_troubleWith 5 = .ok (.ifCond .eq 5, 3) := by decide +kernel
theorem dX5_troubleWith_8 : decode cX5_troubleWith 8 = .ok (.iconst 1, 1) := by decide +kernel
theorem dX5_troubleWith_9 : decode cX5_troubleWith 9 = .ok (.ireturn, 1) := by decide +kernel
theorem dX5_troubleWith_10 : decode cX5_troubleWith 10 = .ok (.aload_n 0, 1) := by decide +kernel
theorem dX5_troubleWith_11 : decode cX5_troubleWith 11 = .ok (.iload_n 1, 1) := by decide +kernel
theorem dX5_troubleWith_12 : decode cX5_troubleWith 12 = .ok (.iload_n 2, 1) := by decide +kernel
theorem dX5_troubleWith_13 : decode cX5_troubleWith 13 = .ok (.iload_n 3, 1) := by decide +kernel
theorem dX5_troubleWith_14 : decode cX5_troubleWith 14 = .ok (.invokevirtual 85, 3) := by decide +kernel
theorem dX5_troubleWith_17 : decode cX5_troubleWith 17 = .ok (.ifCond .eq 7, 3) := by decide +kernel
theorem dX5_troubleWith_20 : decode cX5_troubleWith 20 = .ok (.iconst 0, 1) := by decide +kernel
theorem dX5_troubleWith_21 : decode cX5_troubleWith 21 = .ok (.goto 4, 3) := by decide +kernel
theorem dX5_troubleWith_24 : decode cX5_troubleWith 24 = .ok (.iconst 2, 1) := by decide +kernel
theorem dX5_troubleWith_25 : decode cX5_troubleWith 25 = .ok (.ireturn, 1) := by decide +kernel
theorem dX5_found_0 : decode cX5_found 0 = .ok (.aload_n 0, 1) := by decide +kernel
theorem dX5_found_1 : decode cX5_found 1 = .ok (.iload_n 1, 1) := by decide +kernel
theorem dX5_found_2 : decode cX5_found 2 = .ok (.putfield 292, 3) := by decide +kernel
theorem dX5_found_5 : decode cX5_found 5 = .ok (.ldc_w 295, 3) := by decide +kernel
theorem dX5_found_8 : decode cX5_found 8 = .ok (.iload_n 1, 1) := by decide +kernel
theorem dX5_found_9 : decode cX5_found 9 = .ok (.isub, 1) := by decide +kernel
theorem dX5_found_10 : decode cX5_found 10 = .ok (.ireturn, 1) := by decide +kernel
theorem dX5_nothingFound_0 : decode cX5_nothingFound 0 = .ok (.aload_n 0, 1) := by decide +kernel
theorem dX5_nothingFound_1 : decode cX5_nothingFound 1 = .ok (.iconst 0, 1) := by decide +kernel
theorem dX5_nothingFound_2 : decode cX5_nothingFound 2 = .ok (.putfield 292, 3) := by decide +kernel
theorem dX5_nothingFound_5 : decode cX5_nothingFound 5 = .ok (.iload_n 1, 1) := by decide +kernel
theorem dX5_nothingFound_6 : decode cX5_nothingFound 6 = .ok (.ireturn, 1) := by decide +kernel
