theorem dX3_open_23 : decode cX3_open 23 = .ok (.return_, 1) := by decide +kernel
theorem dX3_open_24 : decode cX3_open 24 = .ok (.aload_n 0, 1) := by decide +kernel
theorem dX3_open_25 : decode cX3_open 25 = .ok (.iload_n 1, 1) := by decide +kernel
theorem dX3_open_26 : decode cX3_open 26 = .ok (.putfield 7, 3) := by decide +kernel
theorem dX3_open_29 : decode cX3_open 29 = .ok (.aload_n 0, 1) := by decide +kernel
theorem dX3_open_30 : decode cX3_open 30 = .ok (.iconst 0, 1) := by decide +kernel
theorem dX3_open_31 : decode cX3_open 31 = .ok (.putfield 41, 3) := by decide +kernel
theorem dX3_open_34 : decode cX3_open 34 = .ok (.iconst 0, 1) := by decide +kernel
theorem dX3_open_35 : decode cX3_open 35 = .ok (.istore_n 2, 1) := by decide +kernel
theorem dX3_open_36 : decode cX3_open 36 = .ok (.iload_n 2, 1) := by decide +kernel
theorem dX3_open_37 : decode cX3_open 37 = .ok (.sipush 2484, 3) := by decide +kernel
theorem dX3_open_40 : decode cX3_open 40 = .ok (.if_icmp .ge 16, 3) := by decide +kernel
theorem dX3_open_43 : decode cX3_open 43 = .ok (.aload_n 0, 1) := by decide +kernel
theorem dX3_open_44 : decode cX3_open 44 = .ok (.getfield 14, 3) := by decide +kernel
theorem dX3_open_47 : decode cX3_open 47 = .ok (.iload_n 2, 1) := by decide +kernel
theorem dX3_open_48 : decode cX3_open 48 = .ok (.iconst 0, 1) := by decide +kernel
theorem dX3_open_49 : decode cX3_open 49 = .ok (.iastore, 1) := by decide +kernel
theorem dX3_open_50 : decode cX3_open 50 = .ok (.iinc 2 1, 3) := by decide +kernel
theorem dX3_open_53 : decode cX3_open 53 = .ok (.goto (-17), 3) := by decide +kernel
theorem dX3_open_56 : decode cX3_open 56 = .ok (.iconst 0, 1) := by decide +kernel
theorem dX3_open_57 : decode cX3_open 57 = .ok (.istore_n 2, 1) := by decide +kernel
theorem dX3_open_58 : decode cX3_open 58 = .ok (.iload_n 2, 1) := by decide +kernel
theorem dX3_open_59 : decode cX3_open 59 = .ok (.sipush 144, 3) := by decide +kernel
theorem dX3_open_62 : decode cX3_open 62 = .ok (.if_icmp .ge 16, 3) := by decide +kernel
theorem dX3_open_65 : decode cX3_open 65 = .ok (.aload_n 0, 1) := by decide +kernel
theorem dX3_open_66 : decode cX3_open 66 = .ok (.getfield 18, 3) := by decide +kernel
theorem dX3_open_69 : decode cX3_open 69 = .ok (.iload_n 2, 1) := by decide +kernel
theorem dX3_open_70 : decode cX3_open 70 = .ok (.iconst 0, 1) := by decide +kernel
theorem dX3_open_71 : decode cX3_open 71 = .ok (.iastore, 1) := by decide +kernel
theorem dX3_open_72 : decode cX3_open 72 = .ok (.iinc 2 1, 3) := by decide +kernel
theorem dX3_open_75 : decode cX3_open 75 = .ok (.goto (-17), 3) := by decide +kernel
theorem dX3_open_78 : decode cX3_open 78 = .ok (.iconst 0, 1) := by decide +kernel
theorem dX3_open_79 : decode cX3_open 79 = .ok (.istore_n 2, 1) := by decide +kernel
theorem dX3_open_80 : decode cX3_open 80 = .ok (.iload_n 2, 1) := by decide +kernel
theorem dX3_open_81 : decode cX3_open 81 = .ok (.sipush 288, 3) := by decide +kernel
theorem dX3_open_84 : decode cX3_open 84 = .ok (.if_icmp .ge 16, 3) := by decide +kernel
theorem dX3_open_87 : decode cX3_open 87 = .ok (.aload_n 0, 1) := by decide +kernel
theorem dX3_open_88 : decode cX3_open 88 = .ok (.getfield 21, 3) := by decide +kernel
theorem dX3_open_91 : decode cX3_open 91 = .ok (.iload_n 2, 1) := by decide +kernel
theorem dX3_open_92 : decode cX3_open 92 = .ok (.lconst 0, 1) := by decide +kernel
theorem dX3_open_93 : decode cX3_open 93 = .ok (.lastore, 1) := by decide +kernel
theorem dX3_open_94 : decode cX3_open 94 = .ok (.iinc 2 1, 3) := by decide +kernel
theorem dX3_open_97 : decode cX3_open 97 = .ok (.goto (-17), 3) := by decide +kernel
theorem dX3_open_100 : decode cX3_open 100 = .ok (.return_, 1) := by decide +kernel
set_option maxRecDepth 20000 in
theorem ggX3_many_X3_dots : GoodIn wsX3_many wsX3_dots := goodIn_r _ [5] (by decide +kernel) (by decide +kernel)
set_option maxRecDepth 20000 in
theorem gX3_many_X3_dots : GoodIn wsX3_many (va_wsS RX3 44 yX3_dots wsX3_dots) := goodIn_app (goodIn_of _ (by decide +kernel)) ggX3_many_X3_dots
theorem dX3_many_0 : decode cX3_many 0 = .ok (.iconst 0, 1) := by decide +kernel
theorem dX3_many_1 : decode cX3_many 1 = .ok (.istore_n 3, 1) := by decide +kernel
theorem dX3_many_2 : decode cX3_many 2 = .ok (.iconst 0, 1) := by decide +kernel
theorem dX3_many_3 : decode cX3_many 3 = .ok (.istore 4, 2) := by decide +kernel
theorem dX3_many_5 : decode cX3_many 5 = .ok (.iload 4, 2) := by decide +kernel
theorem dX3_many_7 : decode cX3_many 7 = .ok (.bipush 6, 2) := by decide +kernel
theorem dX3_many_9 : decode cX3_many 9 = .ok (.if_icmp .ge 33, 3) := by decide +kernel
theorem dX3_many_12 : decode cX3_many 12 = .ok (.iload_n 3, 1) := by decide +kernel
theorem dX3_many_13 : decode cX3_many 13 = .ok (.aload_n 0, 1) := by decide +kernel
theorem dX3_many_14 : decode cX3_many 14 = .ok (.getfield 14, 3) := by decide +kernel
theorem dX3_many_17 : decode cX3_many 17 = .ok (.iload_n 1, 1) := by decide +kernel
theorem dX3_many_18 : decode cX3_many 18 = .ok (.iload_n 2, 1) := by decide +kernel
theorem dX3_many_19 : decode cX3_many 19 = .ok (.invokestatic 44, 3) := by decide +kernel
theorem dX3_many_22 : decode cX3_many 22 = .ok (.iload 4, 2) := by decide +kernel
theorem dX3_many_24 : decode cX3_many 24 = .ok (.iadd, 1) := by decide +kernel
theorem dX3_many_25 : decode cX3_many 25 = .ok (.iaload, 1) := by decide +kernel
theorem dX3_many_26 : decode cX3_many 26 = .ok (.ifCond .le 7, 3) := by decide +kernel
theorem dX3_many_29 : decode cX3_many 29 = .ok (.iconst 1, 1) := by decide +kernel
theorem dX3_many_30 : decode cX3_many 30 = .ok (.goto 4, 3) := by decide +kernel
theorem dX3_many_33 : decode cX3_many 33 = .ok (.iconst 0, 1) := by decide +kernel
theorem dX3_many_34 : decode cX3_many 34 = .ok (.iadd, 1) := by decide +kernel
theorem dX3_many_35 : decode cX3_many 35 = .ok (.istore_n 3, 1) := by decide +kernel
theorem dX3_many_36 : decode cX3_many 36 = .ok (.iinc 4 1, 3) := by decide +kernel
theorem dX3_many_39 : decode cX3_many 39 = .ok (.goto (-34), 3) := by decide +kernel
theorem dX3_many_42 : decode cX3_many 42 = .ok (.iload_n 3, 1) := by decide +kernel
theorem dX3_many_43 : decode cX3_many 43 = .ok (.ireturn, 1) := by decide +kernel
set_option maxRecDepth 20000 in
theorem ggX3_empties_X3_dots : GoodIn wsX3_empties wsX3_dots := goodIn_r _ [5] (by decide +kernel) (by decide +kernel)
set_option maxRecDepth 20000 in
theorem gX3_empties_X3_dots : GoodIn wsX3_empties (va_wsS RX3 44 yX3_dots wsX3_dots) := goodIn_app (goodIn_of _ (by decide +kernel)) ggX3_empties_X3_dots
theorem dX3_empties_0 : decode cX3_empties 0 = .ok (.iconst 0, 1) := by decide +kernel
theorem dX3_empties_1 : decode cX3_empties 1 = .ok (.istore_n 3, 1) := by decide +kernel
theorem dX3_empties_2 : decode cX3_empties 2 = .ok (.iload_n 3, 1) := by decide +kernel
theorem dX3_empties_3 : decode cX3_empties 3 = .ok (.bipush 6, 2) := by decide +kernel
theorem dX3_empties_5 : decode cX3_empties 5 = .ok (.if_icmp .ge 22, 3) := by decide +kernel
theorem dX3_empties_8 : decode cX3_empties 8 = .ok (.aload_n 0, 1) := by decide +kernel
theorem dX3_empties_9 : decode cX3_empties 9 = .ok (.getfield 14, 3) := by decide +kernel
theorem dX3_empties_12 : decode cX3_empties 12 = .ok (.iload_n 1, 1) := by decide +kernel
theorem dX3_empties_13 : decode cX3_empties 13 = .ok (.iload_n 2, 1) := by decide +kernel
theorem dX3_empties_14 : decode cX3_empties 14 = .ok (.invokestatic 44, 3) := by decide +kernel
theorem dX3_empties_17 : decode cX3_empties 17 = .ok (.iload_n 3, 1) := by decide +kernel
theorem dX3_empties_18 : decode cX3_empties 18 = .ok (.iadd, 1) := by decide +kernel
theorem dX3_empties_19 : decode cX3_empties 19 = .ok (.iconst 0, 1) := by decide +kernel
theorem dX3_empties_20 : decode cX3_empties 20 = .ok (.iastore, 1) := by decide +kernel
theorem dX3_empties_21 : decode cX3_empties 21 = .ok (.iinc 3 1, 3) := by decide +kernel
theorem dX3_empties_24 : decode cX3_empties 24 = .ok (.goto (-22), 3) := by decide +kernel
theorem dX3_empties_27 : decode cX3_empties 27 = .ok (.return_, 1) := by decide +kernel
set_option maxRecDepth 20000 in
theorem ggX3_news_X3_vectorAt : GoodIn wsX3_news wsX3_vectorAt := goodIn_r _ [5] (by decide +kernel) (by decide +kernel)
set_option maxRecDepth 20000 in
theorem gX3_news_X3_vectorAt : GoodIn wsX3_news (va_wsS RX3 48 yX3_vectorAt wsX3_vectorAt) := goodIn_app (goodIn_of _ (by decide +kernel)) ggX3_news_X3_vectorAt
set_option maxRecDepth 20000 in
theorem ggX3_news_X3_empties : GoodIn wsX3_news wsX3_empties := goodIn_r _ [9, 1, 10, 11, 4, 12, 13, 14, 15, 16, 17, 18, 19, 20] (by decide +kernel) (by decide +kernel)
set_option maxRecDepth 20000 in
theorem gX3_news_X3_empties : GoodIn wsX3_news (wsV RX3 51 RX3 yX3_empties wsX3_empties) := goodIn_app (goodIn_of _ (by decide +kernel)) ggX3_news_X3_empties
set_option maxRecDepth 20000 in
theorem ggX3_news_X3_dots : GoodIn wsX3_news wsX3_dots := goodIn_r _ [12] (by decide +kernel) (by decide +kernel)
set_option maxRecDepth 20000 in
theorem gX3_news_X3_dots : GoodIn wsX3_news (va_wsS RX3 44 yX3_dots wsX3_dots) := goodIn_app (goodIn_of _ (by decide +kernel)) ggX3_news_X3_dots
theorem dX3_news_0 : decode cX3_news 0 = .ok (.aload_n 0, 1) := by decide +kernel
theorem dX3_news_1 : decode cX3_news 1 = .ok (.getfield 14, 3) := by decide +kernel
theorem dX3_news_4 : decode cX3_news 4 = .ok (.iload_n 1, 1) := by decide +kernel
theorem dX3_news_5 : decode cX3_news 5 = .ok (.iload_n 1, 1) := by decide +kernel
theorem dX3_news_6 : decode cX3_news 6 = .ok (.invokestatic 48, 3) := by decide +kernel
theorem dX3_news_9 : decode cX3_news 9 = .ok (.iaload, 1) := by decide +kernel
theorem dX3_news_10 : decode cX3_news 10 = .ok (.iconst 1, 1) := by decide +kernel
theorem dX3_news_11 : decode cX3_news 11 = .ok (.iadd, 1) := by decide +kernel
theorem dX3_news_12 : decode cX3_news 12 = .ok (.istore_n 3, 1) := by decide +kernel
theorem dX3_news_13 : decode cX3_news 13 = .ok (.aload_n 0, 1) := by decide +kernel
theorem dX3_news_14 : decode cX3_news 14 = .ok (.getfield 14, 3) := by decide +kernel
theorem dX3_news_17 : decode cX3_news 17 = .ok (.iload_n 1, 1) := by decide +kernel
theorem dX3_news_18 : decode cX3_news 18 = .ok (.iload_n 1, 1) := by decide +kernel
theorem dX3_news_19 : decode cX3_news 19 = .ok (.invokestatic 48, 3) := by decide +kernel
theorem dX3_news_22 : decode cX3_news 22 = .ok (.iload_n 3, 1) := by decide +kernel
theorem dX3_news_23 : decode cX3_news 23 = .ok (.iastore, 1) := by decide +kernel
theorem dX3_news_24 : decode cX3_news 24 = .ok (.aload_n 0, 1) := by decide +kernel
theorem dX3_news_25 : decode cX3_news 25 = .ok (.iload_n 1, 1) := by decide +kernel
theorem dX3_news_26 : decode cX3_news 26 = .ok (.iload_n 2, 1) := by decide +kernel
theorem dX3_news_27 : decode cX3_news 27 = .ok (.invokevirtual 51, 3) := by decide +kernel
theorem dX3_news_30 : decode cX3_news 30 = .ok (.aload_n 0, 1) := by decide +kernel
theorem dX3_news_31 : decode cX3_news 31 = .ok (.getfield 14, 3) := by decide +kernel
theorem dX3_news_34 : decode cX3_news 34 = .ok (.iload_n 1, 1) := by decide +kernel
theorem dX3_news_35 : decode cX3_news 35 = .ok (.iload_n 2, 1) := by decide +kernel
theorem dX3_news_36 : decode cX3_news 36 = .ok (.invokestatic 44, 3) := by decide +kernel
theorem dX3_news_39 : decode cX3_news 39 = .ok (.iload_n 1, 1) := by decide +kernel
theorem dX3_news_40 : decode cX3_news 40 = .ok (.iadd, 1) := by decide +kernel
theorem dX3_news_41 : decode cX3_news 41 = .ok (.iload_n 3, 1) := by decide +kernel
theorem dX3_news_42 : decode cX3_news 42 = .ok (.iastore, 1) := by decide +kernel
theorem dX3_news_43 : decode cX3_news 43 = .ok (.iload_n 3, 1) := by decide +kernel
theorem dX3_news_44 : decode cX3_news 44 = .ok (.ireturn, 1) := by decide +kernel
set_option maxRecDepth 20000 in
theorem ggX3_add_X3_isElement : GoodIn wsX3_add wsX3_isElement := goodIn_r _ [5, 6, 7, 8, 4, 9, 10, 31, 32, 33, 34, 35, 36, 37, 38] (by decide +kernel) (by decide +kernel)
set_option maxRecDepth 20000 in
theorem gX3_add_X3_isElement : GoodIn wsX3_add (wsV RX3 55 RX3 yX3_isElement wsX3_isElement) := goodIn_app (goodIn_of _ (by decide +kernel)) ggX3_add_X3_isElement
set_option maxRecDepth 20000 in
theorem ggX3_add_X3_refuses : GoodIn wsX3_add wsX3_refuses := goodIn_r _ [14, 15, 31, 32, 33, 34, 35, 36, 37, 38] (by decide +kernel) (by decide +kernel)
set_option maxRecDepth 20000 in
theorem gX3_add_X3_refuses : GoodIn wsX3_add (wsV RX3 38 RX3 yX3_refuses wsX3_refuses) := goodIn_app (goodIn_of _ (by decide +kernel)) ggX3_add_X3_refuses
set_option maxRecDepth 20000 in
theorem ggX3_add_X3_news : GoodIn wsX3_add wsX3_news := goodIn_r _ [19, 20, 21, 22, 4, 23, 24, 25, 26, 27, 28, 29, 30, 31, 32, 33, 34, 35, 36, 37, 38] (by decide +kernel) (by decide +kernel)
set_option maxRecDepth 20000 in
theorem gX3_add_X3_news : GoodIn wsX3_add (wsV RX3 59 RX3 yX3_news wsX3_news) := goodIn_app (goodIn_of _ (by decide +kernel)) ggX3_add_X3_news
theorem dX3_add_0 : decode cX3_add 0 = .ok (.aload_n 0, 1) := by decide +kernel
theorem dX3_add_1 : decode cX3_add 1 = .ok (.aload_n 0, 1) := by decide +kernel
theorem dX3_add_2 : decode cX3_add 2 = .ok (.iload_n 1, 1) := by decide +kernel
theorem dX3_add_3 : decode cX3_add 3 = .ok (.iload_n 2, 1) := by decide +kernel
theorem dX3_add_4 : decode cX3_add 4 = .ok (.iload_n 3, 1) := by decide +kernel
theorem dX3_add_5 : decode cX3_add 5 = .ok (.invokevirtual 55, 3) := by decide +kernel
theorem dX3_add_8 : decode cX3_add 8 = .ok (.ifCond .eq 7, 3) := by decide +kernel
theorem dX3_add_11 : decode cX3_add 11 = .ok (.iconst 0, 1) := by decide +kernel
theorem dX3_add_12 : decode cX3_add 12 = .ok (.goto 4, 3) := by decide +kernel
theorem dX3_add_15 : decode cX3_add 15 = .ok (.iconst 1, 1) := by decide +kernel
theorem dX3_add_16 : decode cX3_add 16 = .ok (.invokevirtual 38, 3) := by decide +kernel
theorem dX3_add_19 : decode cX3_add 19 = .ok (.ifCond .eq 7, 3) := by decide +kernel
theorem dX3_add_22 : decode cX3_add 22 = .ok (.iconst 0, 1) := by decide +kernel
theorem dX3_add_23 : decode cX3_add 23 = .ok (.goto 14, 3) := by decide +kernel
theorem dX3_add_26 : decode cX3_add 26 = .ok (.aload_n 0, 1) := by decide +kernel
theorem dX3_add_27 : decode cX3_add 27 = .ok (.iload_n 1, 1) := by decide +kernel
theorem dX3_add_28 : decode cX3_add 28 = .ok (.bipush 16, 2) := by decide +kernel
theorem dX3_add_30 : decode cX3_add 30 = .ok (.iload_n 2, 1) := by decide +kernel
theorem dX3_add_31 : decode cX3_add 31 = .ok (.imul, 1) := by decide +kernel
theorem dX3_add_32 : decode cX3_add 32 = .ok (.iload_n 3, 1) := by decide +kernel
theorem dX3_add_33 : decode cX3_add 33 = .ok (.iadd, 1) := by decide +kernel
theorem dX3_add_34 : decode cX3_add 34 = .ok (.invokevirtual 59, 3) := by decide +kernel
theorem dX3_add_37 : decode cX3_add 37 = .ok (.ireturn, 1) := by decide +kernel
set_option maxRecDepth 20000 in
theorem ggX3_remove_X3_isElement : GoodIn wsX3_remove wsX3_isElement := goodIn_r _ [5, 6, 7, 8, 4, 9, 10, 28, 29, 30, 31, 32, 33, 34, 35] (by decide +kernel) (by decide +kernel)
set_option maxRecDepth 20000 in
theorem gX3_remove_X3_isElement : GoodIn wsX3_remove (wsV RX3 55 RX3 yX3_isElement wsX3_isElement) := goodIn_app (goodIn_of _ (by decide +kernel)) ggX3_remove_X3_isElement
set_option maxRecDepth 20000 in
theorem ggX3_remove_X3_refuses : GoodIn wsX3_remove wsX3_refuses := goodIn_r _ [14, 15, 28, 29, 30, 31, 32, 33, 34, 35] (by decide +kernel) (by decide +kernel)
set_option maxRecDepth 20000 in
theorem gX3_remove_X3_refuses : GoodIn wsX3_remove (wsV RX3 38 RX3 yX3_refuses wsX3_refuses) := goodIn_app (goodIn_of _ (by decide +kernel)) ggX3_remove_X3_refuses
set_option maxRecDepth 20000 in
theorem ggX3_remove_X3_many : GoodIn wsX3_remove wsX3_many := goodIn_r _ [19, 20, 21, 22, 4, 23, 28, 29, 30, 31, 32, 33, 34, 35] (by decide +kernel) (by decide +kernel)
set_option maxRecDepth 20000 in
theorem gX3_remove_X3_many : GoodIn wsX3_remove (wsV RX3 62 RX3 yX3_many wsX3_many) := goodIn_app (goodIn_of _ (by decide +kernel)) ggX3_remove_X3_many
set_option maxRecDepth 20000 in
theorem ggX3_remove_X3_empties : GoodIn wsX3_remove wsX3_empties := goodIn_r _ [27, 20, 21, 22, 4, 23, 28, 29, 30, 31, 32, 33, 34, 35] (by decide +kernel) (by decide +kernel)
set_option maxRecDepth 20000 in
theorem gX3_remove_X3_empties : GoodIn wsX3_remove (wsV RX3 51 RX3 yX3_empties wsX3_empties) := goodIn_app (goodIn_of _ (by decide +kernel)) ggX3_remove_X3_empties
theorem dX3_remove_0 : decode cX3_remove 0 = .ok (.aload_n 0, 1) := by decide +kernel
theorem dX3_remove_1 : decode cX3_remove 1 = .ok (.aload_n 0, 1) := by decide +kernel
theorem dX3_remove_2 : decode cX3_remove 2 = .ok (.iload_n 1, 1) := by decide +kernel
theorem dX3_remove_3 : decode cX3_remove 3 = .ok (.iload_n 2, 1) := by decide +kernel
theorem dX3_remove_4 : decode cX3_remove 4 = .ok (.iload_n 3, 1) := by decide +kernel
theorem dX3_remove_5 : decode cX3_remove 5 = .ok (.invokevirtual 55, 3) := by decide +kernel
theorem dX3_remove_8 : decode cX3_remove 8 = .ok (.ifCond .eq 7, 3) := by decide +kernel
theorem dX3_remove_11 : decode cX3_remove 11 = .ok (.iconst 0, 1) := by decide +kernel
theorem dX3_remove_12 : decode cX3_remove 12 = .ok (.goto 4, 3) := by decide +kernel
theorem dX3_remove_15 : decode cX3_remove 15 = .ok (.iconst 1, 1) := by decide +kernel
theorem dX3_remove_16 : decode cX3_remove 16 = .ok (.invokevirtual 38, 3) := by decide +kernel
theorem dX3_remove_19 : decode cX3_remove 19 = .ok (.ifCond .eq 5, 3) := by decide +kernel
theorem dX3_remove_22 : decode cX3_remove 22 = .ok (.iconst 0, 1) := by decide +kernel
theorem dX3_remove_23 : decode cX3_remove 23 = .ok (.ireturn, 1) := by decide +kernel
theorem dX3_remove_24 : decode cX3_remove 24 = .ok (.aload_n 0, 1) := by decide +kernel
theorem dX3_remove_25 : decode cX3_remove 25 = .ok (.iload_n 1, 1) := by decide +kernel
theorem dX3_remove_26 : decode cX3_remove 26 = .ok (.bipush 16, 2) := by decide +kernel
theorem dX3_remove_28 : decode cX3_remove 28 = .ok (.iload_n 2, 1) := by decide +kernel
theorem dX3_remove_29 : decode cX3_remove 29 = .ok (.imul, 1) := by decide +kernel
theorem dX3_remove_30 : decode cX3_remove 30 = .ok (.iload_n 3, 1) := by decide +kernel
theorem dX3_remove_31 : decode cX3_remove 31 = .ok (.iadd, 1) := by decide +kernel
theorem dX3_remove_32 : decode cX3_remove 32 = .ok (.invokevirtual 62, 3) := by decide +kernel
theorem dX3_remove_35 : decode cX3_remove 35 = .ok (.istore 4, 2) := by decide +kernel
theorem dX3_remove_37 : decode cX3_remove 37 = .ok (.aload_n 0, 1) := by decide +kernel
theorem dX3_remove_38 : decode cX3_remove 38 = .ok (.iload_n 1, 1) := by decide +kernel
theorem dX3_remove_39 : decode cX3_remove 39 = .ok (.bipush 16, 2) := by decide +kernel
theorem dX3_remove_41 : decode cX3_remove 41 = .ok (.iload_n 2, 1) := by decide +kernel
theorem dX3_remove_42 : decode cX3_remove 42 = .ok (.imul, 1) := by decide +kernel
theorem dX3_remove_43 : decode cX3_remove 43 = .ok (.iload_n 3, 1) := by decide +kernel
theorem dX3_remove_44 : decode cX3_remove 44 = .ok (.iadd, 1) := by decide +kernel
theorem dX3_remove_45 : decode cX3_remove 45 = .ok (.invokevirtual 51, 3) := by decide +kernel
theorem dX3_remove_48 : decode cX3_remove 48 = .ok (.iload 4, 2) := by decide +kernel
theorem dX3_remove_50 : decode cX3_remove 50 = .ok (.ireturn, 1) := by decide +kernel
set_option maxRecDepth 20000 in
theorem ggX3_clear_X3_isElement : GoodIn wsX3_clear wsX3_isElement := goodIn_r _ [5, 6, 7, 8, 4, 9, 10, 28, 29, 30, 31, 32, 33, 34, 35] (by decide +kernel) (by decide +kernel)
set_option maxRecDepth 20000 in
theorem gX3_clear_X3_isElement : GoodIn wsX3_clear (wsV RX3 55 RX3 yX3_isElement wsX3_isElement) := goodIn_app (goodIn_of _ (by decide +kernel)) ggX3_clear_X3_isElement
set_option maxRecDepth 20000 in
theorem ggX3_clear_X3_refuses : GoodIn wsX3_clear wsX3_refuses := goodIn_r _ [14, 15, 28, 29, 30, 31, 32, 33, 34, 35] (by decide +kernel) (by decide +kernel)
set_option maxRecDepth 20000 in
theorem gX3_clear_X3_refuses : GoodIn wsX3_clear (wsV RX3 38 RX3 yX3_refuses wsX3_refuses) := goodIn_app (goodIn_of _ (by decide +kernel)) ggX3_clear_X3_refuses
set_option maxRecDepth 20000 in
theorem ggX3_clear_X3_many : GoodIn wsX3_clear wsX3_many := goodIn_r _ [19, 20, 21, 22, 4, 23, 28, 29, 30, 31, 32, 33, 34, 35] (by decide +kernel) (by decide +kernel)
set_option maxRecDepth 20000 in
theorem gX3_clear_X3_many : GoodIn wsX3_clear (wsV RX3 62 RX3 yX3_many wsX3_many) := goodIn_app (goodIn_of _ (by decide +kernel)) ggX3_clear_X3_many
set_option maxRecDepth 20000 in
theorem ggX3_clear_X3_empties : GoodIn wsX3_clear wsX3_empties := goodIn_r _ [27, 20, 21, 22, 4, 23, 28, 29, 30, 31, 32, 33, 34, 35] (by decide +kernel) (by decide +kernel)
set_option maxRecDepth 20000 in
theorem gX3_clear_X3_empties : GoodIn wsX3_clear (wsV RX3 51 RX3 yX3_empties wsX3_empties) := goodIn_app (goodIn_of _ (by decide +kernel)) ggX3_clear_X3_empties
theorem dX3_clear_0 : decode cX3_clear 0 = .ok (.aload_n 0, 1) := by decide +kernel
theorem dX3_clear_1 : decode cX3_clear 1 = .ok (.aload_n 0, 1) := by decide +kernel
theorem dX3_clear_2 : decode cX3_clear 2 = .ok (.iload_n 1, 1) := by decide +kernel
theorem dX3_clear_3 : decode cX3_clear 3 = .ok (.iload_n 2, 1) := by decide +kernel
theorem dX3_clear_4 : decode cX3_clear 4 = .ok (.iconst 0, 1) := by decide +kernel
theorem dX3_clear_5 : decode cX3_clear 5 = .ok (.invokevirtual 55, 3) := by decide +kernel
theorem dX3_clear_8 : decode cX3_clear 8 = .ok (.ifCond .eq 7, 3) := by decide +kernel
theorem dX3_clear_11 : decode cX3_clear 11 = .ok (.iconst 0, 1) := by decide +kernel
theorem dX3_clear_12 : decode cX3_clear 12 = .ok (.goto 4, 3) := by decide +kernel
theorem dX3_clear_15 : decode cX3_clear 15 = .ok (.iconst 1, 1) := by decide +kernel
theorem dX3_clear_16 : decode cX3_clear 16 = .ok (.invokevirtual 38, 3) := by decide +kernel
theorem dX3_clear_19 : decode cX3_clear 19 = .ok (.ifCond .eq 5, 3) := by decide +kernel
theorem dX3_clear_22 : decode cX3_clear 22 = .ok (.iconst 0, 1) := by decide +kernel
theorem dX3_clear_23 : decode cX3_clear 23 = .ok (.ireturn, 1) := by decide +kernel
theorem dX3_clear_24 : decode cX3_clear 24 = .ok (.iconst 0, 1) := by decide +kernel
theorem dX3_clear_25 : decode cX3_clear 25 = .ok (.istore_n 3, 1) := by decide +kernel
theorem dX3_clear_26 : decode cX3_clear 26 = .ok (.bipush 16, 2) := by decide +kernel
theorem dX3_clear_28 : decode cX3_clear 28 = .ok (.iload_n 2, 1) := by decide +kernel
theorem dX3_clear_29 : decode cX3_clear 29 = .ok (.imul, 1) := by decide +kernel
theorem dX3_clear_30 : decode cX3_clear 30 = .ok (.istore 4, 2) := by decide +kernel
theorem dX3_clear_32 : decode cX3_clear 32 = .ok (.iload 4, 2) := by decide +kernel
theorem dX3_clear_34 : decode cX3_clear 34 = .ok (.bipush 16, 2) := by decide +kernel
theorem dX3_clear_36 : decode cX3_clear 36 = .ok (.iload_n 2, 1) := by decide +kernel
theorem dX3_clear_37 : decode cX3_clear 37 = .ok (.imul, 1) := by decide +kernel
theorem dX3_clear_38 : decode cX3_clear 38 = .ok (.bipush 16, 2) := by decide +kernel
theorem dX3_clear_40 : decode cX3_clear 40 = .ok (.iadd, 1) := by decide +kernel
theorem dX3_clear_41 : decode cX3_clear 41 = .ok (.if_icmp .ge 34, 3) := by decide +kernel
theorem dX3_clear_44 : decode cX3_clear 44 = .ok (.iload_n 3, 1) := by decide +kernel
theorem dX3_clear_45 : decode cX3_clear 45 = .ok (.aload_n 0, 1) := by decide +kernel
theorem dX3_clear_46 : decode cX3_clear 46 = .ok (.iload_n 1, 1) := by decide +kernel
theorem dX3_clear_47 : decode cX3_clear 47 = .ok (.iload 4, 2) := by decide +kernel
theorem dX3_clear_49 : decode cX3_clear 49 = .ok (.invokevirtual 62, 3) := by decide +kernel
theorem dX3_clear_52 : decode cX3_clear 52 = .ok (.ifCond .le 7, 3) := by decide +kernel
theorem dX3_clear_55 : decode cX3_clear 55 = .ok (.iconst 1, 1) := by decide +kernel
theorem dX3_clear_56 : decode cX3_clear 56 = .ok (.goto 4, 3) := by decide +kernel
theorem dX3_clear_59 : decode cX3_clear 59 = .ok (.iconst 0, 1) := by decide +kernel
theorem dX3_clear_60 : decode cX3_clear 60 = .ok (.iadd, 1) := by decide +kernel
theorem dX3_clear_61 : decode cX3_clear 61 = .ok (.istore_n 3, 1) := by decide +kernel
theorem dX3_clear_62 : decode cX3_clear 62 = .ok (.aload_n 0, 1) := by decide +kernel
theorem dX3_clear_63 : decode cX3_clear 63 = .ok (.iload_n 1, 1) := by decide +kernel
theorem dX3_clear_64 : decode cX3_clear 64 = .ok (.iload 4, 2) := by decide +kernel
theorem dX3_clear_66 : decode cX3_clear 66 = .ok (.invokevirtual 51, 3) := by decide +kernel
theorem dX3_clear_69 : decode cX3_clear 69 = .ok (.iinc 4 1, 3) := by decide +kernel
theorem dX3_clear_72 : decode cX3_clear 72 = .ok (.goto (-40), 3) := by decide +kernel
theorem dX3_clear_75 : decode cX3_clear 75 = .ok (.iload_n 3, 1) := by decide +kernel
theorem dX3_clear_76 : decode cX3_clear 76 = .ok (.ireturn, 1) := by decide +kernel
set_option maxRecDepth 20000 in
theorem ggX3_write_X3_isRegister : GoodIn wsX3_write wsX3_isRegister := goodIn_r _ [6, 7, 8, 9, 5, 10, 11, 36, 37, 38, 39, 40, 41, 42, 43] (by decide +kernel) (by decide +kernel)
set_option maxRecDepth 20000 in
theorem gX3_write_X3_isRegister : GoodIn wsX3_write (wsV RX3 65 RX3 yX3_isRegister wsX3_isRegister) := goodIn_app (goodIn_of _ (by decide +kernel)) ggX3_write_X3_isRegister
set_option maxRecDepth 20000 in
theorem ggX3_write_X3_refuses : GoodIn wsX3_write wsX3_refuses := goodIn_r _ [15, 16, 36, 37, 38, 39, 40, 41, 42, 43] (by decide +kernel) (by decide +kernel)
set_option maxRecDepth 20000 in
theorem gX3_write_X3_refuses : GoodIn wsX3_write (wsV RX3 38 RX3 yX3_refuses wsX3_refuses) := goodIn_app (goodIn_of _ (by decide +kernel)) ggX3_write_X3_refuses
set_option maxRecDepth 20000 in
theorem ggX3_write_X3_many : GoodIn wsX3_write wsX3_many := goodIn_r _ [20, 21, 22, 23, 5, 24, 36, 37, 38, 39, 40, 41, 42, 43] (by decide +kernel) (by decide +kernel)
set_option maxRecDepth 20000 in
theorem gX3_write_X3_many : GoodIn wsX3_write (wsV RX3 62 RX3 yX3_many wsX3_many) := goodIn_app (goodIn_of _ (by decide +kernel)) ggX3_write_X3_many
set_option maxRecDepth 20000 in
theorem ggX3_write_X3_news : GoodIn wsX3_write wsX3_news := goodIn_r _ [28, 21, 29, 30, 5, 31, 32, 33, 34, 35, 22, 23, 24, 36, 37, 38, 39, 40, 41, 42, 43] (by decide +kernel) (by decide +kernel)
set_option maxRecDepth 20000 in
theorem gX3_write_X3_news : GoodIn wsX3_write (wsV RX3 59 RX3 yX3_news wsX3_news) := goodIn_app (goodIn_of _ (by decide +kernel)) ggX3_write_X3_news
theorem dX3_write_0 : decode cX3_write 0 = .ok (.aload_n 0, 1) := by decide +kernel
theorem dX3_write_1 : decode cX3_write 1 = .ok (.aload_n 0, 1) := by decide +kernel
theorem dX3_write_2 : decode cX3_write 2 = .ok (.iload_n 1, 1) := by decide +kernel
theorem dX3_write_3 : decode cX3_write 3 = .ok (.iload_n 2, 1) := by decide +kernel
theorem dX3_write_4 : decode cX3_write 4 = .ok (.invokevirtual 65, 3) := by decide +kernel
theorem dX3_write_7 : decode cX3_write 7 = .ok (.ifCond .eq 7, 3) := by decide +kernel
theorem dX3_write_10 : decode cX3_write 10 = .ok (.iconst 0, 1) := by decide +kernel
theorem dX3_write_11 : decode cX3_write 11 = .ok (.goto 4, 3) := by decide +kernel
theorem dX3_write_14 : decode cX3_write 14 = .ok (.iconst 1, 1) := by decide +kernel
theorem dX3_write_15 : decode cX3_write 15 = .ok (.invokevirtual 38, 3) := by decide +kernel
theorem dX3_write_18 : decode cX3_write 18 = .ok (.ifCond .eq 5, 3) := by decide +kernel
theorem dX3_write_21 : decode cX3_write 21 = .ok (.iconst 0, 1) := by decide +kernel
theorem dX3_write_22 : decode cX3_write 22 = .ok (.ireturn, 1) := by decide +kernel
theorem dX3_write_23 : decode cX3_write 23 = .ok (.aload_n 0, 1) := by decide +kernel
theorem dX3_write_24 : decode cX3_write 24 = .ok (.iload_n 1, 1) := by decide +kernel
theorem dX3_write_25 : decode cX3_write 25 = .ok (.bipush 64, 2) := by decide +kernel
theorem dX3_write_27 : decode cX3_write 27 = .ok (.iload_n 2, 1) := by decide +kernel
theorem dX3_write_28 : decode cX3_write 28 = .ok (.iadd, 1) := by decide +kernel
theorem dX3_write_29 : decode cX3_write 29 = .ok (.invokevirtual 62, 3) := by decide +kernel
theorem dX3_write_32 : decode cX3_write 32 = .ok (.istore 4, 2) := by decide +kernel
theorem dX3_write_34 : decode cX3_write 34 = .ok (.aload_n 0, 1) := by decide +kernel
theorem dX3_write_35 : decode cX3_write 35 = .ok (.iload_n 1, 1) := by decide +kernel
theorem dX3_write_36 : decode cX3_write 36 = .ok (.bipush 64, 2) := by decide +kernel
theorem dX3_write_38 : decode cX3_write 38 = .ok (.iload_n 2, 1) := by decide +kernel
theorem dX3_write_39 : decode cX3_write 39 = .ok (.iadd, 1) := by decide +kernel
theorem dX3_write_40 : decode cX3_write 40 = .ok (.invokevirtual 59, 3) := by decide +kernel
theorem dX3_write_43 : decode cX3_write 43 = .ok (.pop, 1) := by decide +kernel
theorem dX3_write_44 : decode cX3_write 44 = .ok (.aload_n 0, 1) := by decide +kernel
theorem dX3_write_45 : decode cX3_write 45 = .ok (.getfield 18, 3) := by decide +kernel
theorem dX3_write_48 : decode cX3_write 48 = .ok (.bipush 24, 2) := by decide +kernel
theorem dX3_write_50 : decode cX3_write 50 = .ok (.iload_n 1, 1) := by decide +kernel
theorem dX3_write_51 : decode cX3_write 51 = .ok (.imul, 1) := by decide +kernel
theorem dX3_write_52 : decode cX3_write 52 = .ok (.bipush 6, 2) := by decide +kernel
theorem dX3_write_54 : decode cX3_write 54 = .ok (.iload_n 2, 1) := by decide +kernel
theorem dX3_write_55 : decode cX3_write 55 = .ok (.imul, 1) := by decide +kernel
theorem dX3_write_56 : decode cX3_write 56 = .ok (.iadd, 1) := by decide +kernel
theorem dX3_write_57 : decode cX3_write 57 = .ok (.iload_n 1, 1) := by decide +kernel
theorem dX3_write_58 : decode cX3_write 58 = .ok (.iadd, 1) := by decide +kernel
theorem dX3_write_59 : decode cX3_write 59 = .ok (.iload_n 3, 1) := by decide +kernel
theorem dX3_write_60 : decode cX3_write 60 = .ok (.iastore, 1) := by decide +kernel
theorem dX3_write_61 : decode cX3_write 61 = .ok (.iload 4, 2) := by decide +kernel
theorem dX3_write_63 : decode cX3_write 63 = .ok (.ireturn, 1) := by decide +kernel
set_option maxRecDepth 20000 in
theorem ggX3_count_X3_isRegister : GoodIn wsX3_count wsX3_isRegister := goodIn_r _ [6, 7, 8, 9, 5, 10, 11, 21, 22, 23, 24, 25, 26, 27, 28] (by decide +kernel) (by decide +kernel)
set_option maxRecDepth 20000 in
theorem gX3_count_X3_isRegister : GoodIn wsX3_count (wsV RX3 65 RX3 yX3_isRegister wsX3_isRegister) := goodIn_app (goodIn_of _ (by decide +kernel)) ggX3_count_X3_isRegister
set_option maxRecDepth 20000 in
theorem ggX3_count_X3_refuses : GoodIn wsX3_count wsX3_refuses := goodIn_r _ [15, 16, 21, 22, 23, 24, 25, 26, 27, 28] (by decide +kernel) (by decide +kernel)
set_option maxRecDepth 20000 in
theorem gX3_count_X3_refuses : GoodIn wsX3_count (wsV RX3 38 RX3 yX3_refuses wsX3_refuses) := goodIn_app (goodIn_of _ (by decide +kernel)) ggX3_count_X3_refuses
set_option maxRecDepth 20000 in
theorem ggX3_count_X3_sum : GoodIn wsX3_count wsX3_sum := goodIn_r _ [20, 1, 21, 22, 23, 24, 25, 26, 27, 28] (by decide +kernel) (by decide +kernel)
set_option maxRecDepth 20000 in
theorem gX3_count_X3_sum : GoodIn wsX3_count (wsV RX3 69 RX3 yX3_sum wsX3_sum) := goodIn_app (goodIn_of _ (by decide +kernel)) ggX3_count_X3_sum
theorem dX3_count_0 : decode cX3_count 0 = .ok (.aload_n 0, 1) := by decide +kernel
theorem dX3_count_1 : decode cX3_count 1 = .ok (.aload_n 0, 1) := by decide +kernel
theorem dX3_count_2 : decode cX3_count 2 = .ok (.iload_n 1, 1) := by decide +kernel
theorem dX3_count_3 : decode cX3_count 3 = .ok (.iload_n 2, 1) := by decide +kernel
theorem dX3_count_4 : decode cX3_count 4 = .ok (.invokevirtual 65, 3) := by decide +kernel
theorem dX3_count_7 : decode cX3_count 7 = .ok (.ifCond .eq 7, 3) := by decide +kernel
theorem dX3_count_10 : decode cX3_count 10 = .ok (.iconst 0, 1) := by decide +kernel
theorem dX3_count_11 : decode cX3_count 11 = .ok (.goto 4, 3) := by decide +kernel
theorem dX3_count_14 : decode cX3_count 14 = .ok (.iconst 1, 1) := by decide +kernel
theorem dX3_count_15 : decode cX3_count 15 = .ok (.invokevirtual 38, 3) := by decide +kernel
theorem dX3_count_18 : decode cX3_count 18 = .ok (.ifCond .eq 5, 3) := by decide +kernel
theorem dX3_count_21 : decode cX3_count 21 = .ok (.iconst 0, 1) := by decide +kernel
theorem dX3_count_22 : decode cX3_count 22 = .ok (.ireturn, 1) := by decide +kernel
theorem dX3_count_23 : decode cX3_count 23 = .ok (.bipush 48, 2) := by decide +kernel
theorem dX3_count_25 : decode cX3_count 25 = .ok (.iload_n 1, 1) := by decide +kernel
theorem dX3_count_26 : decode cX3_count 26 = .ok (.imul, 1) := by decide +kernel
theorem dX3_count_27 : decode cX3_count 27 = .ok (.bipush 6, 2) := by decide +kernel
theorem dX3_count_29 : decode cX3_count 29 = .ok (.iload_n 2, 1) := by decide +kernel
theorem dX3_count_30 : decode cX3_count 30 = .ok (.imul, 1) := by decide +kernel
theorem dX3_count_31 : decode cX3_count 31 = .ok (.iadd, 1) := by decide +kernel
theorem dX3_count_32 : decode cX3_count 32 = .ok (.iload_n 1, 1) := by decide +kernel
theorem dX3_count_33 : decode cX3_count 33 = .ok (.iadd, 1) := by decide +kernel
theorem dX3_count_34 : decode cX3_count 34 = .ok (.istore 4, 2) := by decide +kernel
theorem dX3_count_36 : decode cX3_count 36 = .ok (.iload_n 3, 1) := by decide +kernel
theorem dX3_count_37 : decode cX3_count 37 = .ok (.ifCond .le 18, 3) := by decide +kernel
theorem dX3_count_40 : decode cX3_count 40 = .ok (.aload_n 0, 1) := by decide +kernel
theorem dX3_count_41 : decode cX3_count 41 = .ok (.getfield 21, 3) := by decide +kernel
theorem dX3_count_44 : decode cX3_count 44 = .ok (.iload 4, 2) := by decide +kernel
theorem dX3_count_46 : decode cX3_count 46 = .ok (.dup2, 1) := by decide +kernel
theorem dX3_count_47 : decode cX3_count 47 = .ok (.laload, 1) := by decide +kernel
theorem dX3_count_48 : decode cX3_count 48 = .ok (.iload_n 3, 1) := by decide +kernel
theorem dX3_count_49 : decode cX3_count 49 = .ok (.i2l, 1) := by decide +kernel
theorem dX3_count_50 : decode cX3_count 50 = .ok (.ladd, 1) := by decide +kernel
theorem dX3_count_51 : decode cX3_count 51 = .ok (.lastore, 1) := by decide +kernel
theorem dX3_count_52 : decode cX3_count 52 = .ok (.goto 18, 3) := by decide +kernel
theorem dX3_count_55 : decode cX3_count 55 = .ok (.aload_n 0, 1) := by decide +kernel
theorem dX3_count_56 : decode cX3_count 56 = .ok (.getfield 21, 3) := by decide +kernel
theorem dX3_count_59 : decode cX3_count 59 = .ok (.iload 4, 2) := by decide +kernel
theorem dX3_count_61 : decode cX3_count 61 = .ok (.bipush 24, 2) := by decide +kernel
theorem dX3_count_63 : decode cX3_count 63 = .ok (.iadd, 1) := by decide +kernel
theorem dX3_count_64 : decode cX3_count 64 = .ok (.dup2, 1) := by decide +kernel
theorem dX3_count_65 : decode cX3_count 65 = .ok (.laload, 1) := by decide +kernel
theorem dX3_count_66 : decode cX3_count 66 = .ok (.iload_n 3, 1) := by decide +kernel
theorem dX3_count_67 : decode cX3_count 67 = .ok (.i2l, 1) := by decide +kernel
theorem dX3_count_68 : decode cX3_count 68 = .ok (.lsub, 1) := by decide +kernel
theorem dX3_count_69 : decode cX3_count 69 = .ok (.lastore, 1) := by decide +kernel
theorem dX3_count_70 : decode cX3_count 70 = .ok (.aload_n 0, 1) := by decide +kernel
theorem dX3_count_71 : decode cX3_count 71 = .ok (.iload_n 1, 1) := by decide +kernel
theorem dX3_count_72 : decode cX3_count 72 = .ok (.iload_n 2, 1) := by decide +kernel
theorem dX3_count_73 : decode cX3_count 73 = .ok (.invokevirtual 69, 3) := by decide +kernel
theorem dX3_count_76 : decode cX3_count 76 = .ok (.ireturn, 1) := by decide +kernel
theorem dX3_sum_0 : decode cX3_sum 0 = .ok (.lconst 0, 1) := by decide +kernel
theorem dX3_sum_1 : decode cX3_sum 1 = .ok (.lstore_n 3, 1) := by decide +kernel
theorem dX3_sum_2 : decode cX3_sum 2 = .ok (.iconst 0, 1) := by decide +kernel
theorem dX3_sum_3 : decode cX3_sum 3 = .ok (.istore 5, 2) := by decide +kernel
theorem dX3_sum_5 : decode cX3_sum 5 = .ok (.iload 5, 2) := by decide +kernel
theorem dX3_sum_7 : decode cX3_sum 7 = .ok (.bipush 6, 2) := by decide +kernel
theorem dX3_sum_9 : decode cX3_sum 9 = .ok (.if_icmp .ge 44, 3) := by decide +kernel
theorem dX3_sum_12 : decode cX3_sum 12 = .ok (.bipush 48, 2) := by decide +kernel
theorem dX3_sum_14 : decode cX3_sum 14 = .ok (.iload_n 1, 1) := by decide +kernel
theorem dX3_sum_15 : decode cX3_sum 15 = .ok (.imul, 1) := by decide +kernel
theorem dX3_sum_16 : decode cX3_sum 16 = .ok (.bipush 6, 2) := by decide +kernel
theorem dX3_sum_18 : decode cX3_sum 18 = .ok (.iload_n 2, 1) := by decide +kernel
theorem dX3_sum_19 : decode cX3_sum 19 = .ok (.imul, 1) := by decide +kernel
theorem dX3_sum_20 : decode cX3_sum 20 = .ok (.iadd, 1) := by decide +kernel
theorem dX3_sum_21 : decode cX3_sum 21 = .ok (.iload 5, 2) := by decide +kernel
theorem dX3_sum_23 : decode cX3_sum 23 = .ok (.iadd, 1) := by decide +kernel
theorem dX3_sum_24 : decode cX3_sum 24 = .ok (.istore 6, 2) := by decide +kernel
theorem dX3_sum_26 : decode cX3_sum 26 = .ok (.lload_n 3, 1) := by decide +kernel
theorem dX3_sum_27 : decode cX3_sum 27 = .ok (.aload_n 0, 1) := by decide +kernel
theorem dX3_sum_28 : decode cX3_sum 28 = .ok (.getfield 21, 3) := by decide +kernel
theorem dX3_sum_31 : decode cX3_sum 31 = .ok (.iload 6, 2) := by decide +kernel
theorem dX3_sum_33 : decode cX3_sum 33 = .ok (.laload, 1) := by decide +kernel
theorem dX3_sum_34 : decode cX3_sum 34 = .ok (.aload_n 0, 1) := by decide +kernel
theorem dX3_sum_35 : decode cX3_sum 35 = .ok (.getfield 21, 3) := by decide +kernel
theorem dX3_sum_38 : decode cX3_sum 38 = .ok (.iload 6, 2) := by decide +kernel
theorem dX3_sum_40 : decode cX3_sum 40 = .ok (.bipush 24, 2) := by decide +kernel
theorem dX3_sum_42 : decode cX3_sum 42 = .ok (.iadd, 1) := by decide +kernel
theorem dX3_sum_43 : decode cX3_sum 43 = .ok (.laload, 1) := by decide +kernel
theorem dX3_sum_44 : decode cX3_sum 44 = .ok (.lsub, 1) := by decide +kernel
theorem dX3_sum_45 : decode cX3_sum 45 = .ok (.ladd, 1) := by decide +kernel
theorem dX3_sum_46 : decode cX3_sum 46 = .ok (.lstore_n 3, 1) := by decide +kernel
theorem dX3_sum_47 : decode cX3_sum 47 = .ok (.iinc 5 1, 3) := by decide +kernel
theorem dX3_sum_50 : decode cX3_sum 50 = .ok (.goto (-45), 3) := by decide +kernel
theorem dX3_sum_53 : decode cX3_sum 53 = .ok (.lload_n 3, 1) := by decide +kernel
theorem dX3_sum_54 : decode cX3_sum 54 = .ok (.l2i, 1) := by decide +kernel
theorem dX3_sum_55 : decode cX3_sum 55 = .ok (.ireturn, 1) := by decide +kernel
theorem dX3_copies_0 : decode cX3_copies 0 = .ok (.iconst 0, 1) := by decide +kernel
theorem dX3_copies_1 : decode cX3_copies 1 = .ok (.istore_n 3, 1) := by decide +kernel
theorem dX3_copies_2 : decode cX3_copies 2 = .ok (.iload_n 3, 1) := by decide +kernel
theorem dX3_copies_3 : decode cX3_copies 3 = .ok (.sipush 414, 3) := by decide +kernel
theorem dX3_copies_6 : decode cX3_copies 6 = .ok (.if_icmp .ge 33, 3) := by decide +kernel
theorem dX3_copies_9 : decode cX3_copies 9 = .ok (.aload_n 0, 1) := by decide +kernel
theorem dX3_copies_10 : decode cX3_copies 10 = .ok (.getfield 14, 3) := by decide +kernel
theorem dX3_copies_13 : decode cX3_copies 13 = .ok (.sipush 414, 3) := by decide +kernel
theorem dX3_copies_16 : decode cX3_copies 16 = .ok (.iload_n 2, 1) := by decide +kernel
theorem dX3_copies_17 : decode cX3_copies 17 = .ok (.imul, 1) := by decide +kernel
theorem dX3_copies_18 : decode cX3_copies 18 = .ok (.iload_n 3, 1) := by decide +kernel
theorem dX3_copies_19 : decode cX3_copies 19 = .ok (.iadd, 1) := by decide +kernel
theorem dX3_copies_20 : decode cX3_copies 20 = .ok (.aload_n 0, 1) := by decide +kernel
theorem dX3_copies_21 : decode cX3_copies 21 = .ok (.getfield 14, 3) := by decide +kernel
theorem dX3_copies_24 : decode cX3_copies 24 = .ok (.sipush 414, 3) := by decide +kernel
theorem dX3_copies_27 : decode cX3_copies 27 = .ok (.iload_n 1, 1) := by decide +kernel
theorem dX3_copies_28 : decode cX3_copies 28 = .ok (.imul, 1) := by decide +kernel
theorem dX3_copies_29 : decode cX3_copies 29 = .ok (.iload_n 3, 1) := by decide +kernel
theorem dX3_copies_30 : decode cX3_copies 30 = .ok (.iadd, 1) := by decide +kernel
theorem dX3_copies_31 : decode cX3_copies 31 = .ok (.iaload, 1) := by decide +kernel
theorem dX3_copies_32 : decode cX3_copies 32 = .ok (.iastore, 1) := by decide +kernel
theorem dX3_copies_33 : decode cX3_copies 33 = .ok (.iinc 3 1, 3) := by decide +kernel
theorem dX3_copies_36 : decode cX3_copies 36 = .ok (.goto (-34), 3) := by decide +kernel
theorem dX3_copies_39 : decode cX3_copies 39 = .ok (.iconst 0, 1) := by decide +kernel
theorem dX3_copies_40 : decode cX3_copies 40 = .ok (.istore_n 3, 1) := by decide +kernel
theorem dX3_copies_41 : decode cX3_copies 41 = .ok (.iload_n 3, 1) := by decide +kernel
theorem dX3_copies_42 : decode cX3_copies 42 = .ok (.bipush 24, 2) := by decide +kernel
theorem dX3_copies_44 : decode cX3_copies 44 = .ok (.if_icmp .ge 31, 3) := by decide +kernel
theorem dX3_copies_47 : decode cX3_copies 47 = .ok (.aload_n 0, 1) := by decide +kernel
theorem dX3_copies_48 : decode cX3_copies 48 = .ok (.getfield 18, 3) := by decide +kernel
theorem dX3_copies_51 : decode cX3_copies 51 = .ok (.bipush 24, 2) := by decide +kernel
theorem dX3_copies_53 : decode cX3_copies 53 = .ok (.iload_n 2, 1) := by decide +kernel
theorem dX3_copies_54 : decode cX3_copies 54 = .ok (.imul, 1) := by decide +kernel
theorem dX3_copies_55 : decode cX3_copies 55 = .ok (.iload_n 3, 1) := by decide +kernel
theorem dX3_copies_56 : decode cX3_copies 56 = .ok (.iadd, 1) := by decide +kernel
theorem dX3_copies_57 : decode cX3_copies 57 = .ok (.aload_n 0, 1) := by decide +kernel
theorem dX3_copies_58 : decode cX3_copies 58 = .ok (.getfield 18, 3) := by decide +kernel
theorem dX3_copies_61 : decode cX3_copies 61 = .ok (.bipush 24, 2) := by decide +kernel
theorem dX3_copies_63 : decode cX3_copies 63 = .ok (.iload_n 1, 1) := by decide +kernel
theorem dX3_copies_64 : decode cX3_copies 64 = .ok (.imul, 1) := by decide +kernel
theorem dX3_copies_65 : decode cX3_copies 65 = .ok (.iload_n 3, 1) := by decide +kernel
theorem dX3_copies_66 : decode cX3_copies 66 = .ok (.iadd, 1) := by decide +kernel
theorem dX3_copies_67 : decode cX3_copies 67 = .ok (.iaload, 1) := by decide +kernel
theorem dX3_copies_68 : decode cX3_copies 68 = .ok (.iastore, 1) := by decide +kernel
theorem dX3_copies_69 : decode cX3_copies 69 = .ok (.iinc 3 1, 3) := by decide +kernel
theorem dX3_copies_72 : decode cX3_copies 72 = .ok (.goto (-31), 3) := by decide +kernel
theorem dX3_copies_75 : decode cX3_copies 75 = .ok (.iconst 0, 1) := by decide +kernel
theorem dX3_copies_76 : decode cX3_copies 76 = .ok (.istore_n 3, 1) := by decide +kernel
theorem dX3_copies_77 : decode cX3_copies 77 = .ok (.iload_n 3, 1) := by decide +kernel
theorem dX3_copies_78 : decode cX3_copies 78 = .ok (.bipush 48, 2) := by decide +kernel
theorem dX3_copies_80 : decode cX3_copies 80 = .ok (.if_icmp .ge 31, 3) := by decide +kernel
theorem dX3_copies_83 : decode cX3_copies 83 = .ok (.aload_n 0, 1) := by decide +kernel
theorem dX3_copies_84 : decode cX3_copies 84 = .ok (.getfield 21, 3) := by decide +kernel
theorem dX3_copies_87 : decode cX3_copies 87 = .ok (.bipush 48, 2) := by decide +kernel
theorem dX3_copies_89 : decode cX3_copies 89 = .ok (.iload_n 2, 1) := by decide +kernel
theorem dX3_copies_90 : decode cX3_copies 90 = .ok (.imul, 1) := by decide +kernel
theorem dX3_copies_91 : decode cX3_copies 91 = .ok (.iload_n 3, 1) := by decide +kernel
theorem dX3_copies_92 : decode cX3_copies 92 = .ok (.iadd, 1) := by decide +kernel
theorem dX3_copies_93 : decode cX3_copies 93 = .ok (.aload_n 0, 1) := by decide +kernel
theorem dX3_copies_94 : decode cX3_copies 94 = .ok (.getfield 21, 3) := by decide +kernel
theorem dX3_copies_97 : decode cX3_copies 97 = .ok (.bipush 48, 2) := by decide +kernel
theorem dX3_copies_99 : decode cX3_copies 99 = .ok (.iload_n 1, 1) := by decide +kernel
theorem dX3_copies_100 : decode cX3_copies 100 = .ok (.imul, 1) := by decide +kernel
theorem dX3_copies_101 : decode cX3_copies 101 = .ok (.iload_n 3, 1) := by decide +kernel
theorem dX3_copies_102 : decode cX3_copies 102 = .ok (.iadd, 1) := by decide +kernel
theorem dX3_copies_103 : decode cX3_copies 103 = .ok (.laload, 1) := by decide +kernel
theorem dX3_copies_104 : decode cX3_copies 104 = .ok (.lastore, 1) := by decide +kernel
theorem dX3_copies_105 : decode cX3_copies 105 = .ok (.iinc 3 1, 3) := by decide +kernel
theorem dX3_copies_108 : decode cX3_copies 108 = .ok (.goto (-31), 3) := by decide +kernel
theorem dX3_copies_111 : decode cX3_copies 111 = .ok (.return_, 1) := by decide +kernel
set_option maxRecDepth 20000 in
theorem ggX3_gossip_X3_isReplica : GoodIn wsX3_gossip wsX3_isReplica := goodIn_r _ [8, 9, 22, 23, 24, 25, 26, 27, 28, 29] (by decide +kernel) (by decide +kernel)
set_option maxRecDepth 20000 in
theorem gX3_gossip_X3_isReplica : GoodIn wsX3_gossip (wsV RX3 34 RX3 yX3_isReplica wsX3_isReplica) := goodIn_app (goodIn_of _ (by decide +kernel)) ggX3_gossip_X3_isReplica
set_option maxRecDepth 20000 in
theorem ggX3_gossip_X3_refuses : GoodIn wsX3_gossip wsX3_refuses := goodIn_r _ [13, 14, 22, 23, 24, 25, 26, 27, 28, 29] (by decide +kernel) (by decide +kernel)
set_option maxRecDepth 20000 in
theorem gX3_gossip_X3_refuses : GoodIn wsX3_gossip (wsV RX3 38 RX3 yX3_refuses wsX3_refuses) := goodIn_app (goodIn_of _ (by decide +kernel)) ggX3_gossip_X3_refuses
set_option maxRecDepth 20000 in
theorem ggX3_gossip_X3_copies : GoodIn wsX3_gossip wsX3_copies := goodIn_r _ [18, 19, 20, 21, 22, 23, 24, 25, 26, 27, 28, 29] (by decide +kernel) (by decide +kernel)
set_option maxRecDepth 20000 in
theorem gX3_gossip_X3_copies : GoodIn wsX3_gossip (wsV RX3 72 RX3 yX3_copies wsX3_copies) := goodIn_app (goodIn_of _ (by decide +kernel)) ggX3_gossip_X3_copies
theorem dX3_gossip_0 : decode cX3_gossip 0 = .ok (.aload_n 0, 1) := by decide +kernel
theorem dX3_gossip_1 : decode cX3_gossip 1 = .ok (.aload_n 0, 1) := by decide +kernel
theorem dX3_gossip_2 : decode cX3_gossip 2 = .ok (.iload_n 1, 1) := by decide +kernel
theorem dX3_gossip_3 : decode cX3_gossip 3 = .ok (.invokevirtual 34, 3) := by decide +kernel
theorem dX3_gossip_6 : decode cX3_gossip 6 = .ok (.ifCond .eq 16, 3) := by decide +kernel
theorem dX3_gossip_9 : decode cX3_gossip 9 = .ok (.aload_n 0, 1) := by decide +kernel
theorem dX3_gossip_10 : decode cX3_gossip 10 = .ok (.iload_n 2, 1) := by decide +kernel
theorem dX3_gossip_11 : decode cX3_gossip 11 = .ok (.invokevirtual 34, 3) := by decide +kernel
theorem dX3_gossip_14 : decode cX3_gossip 14 = .ok (.ifCond .eq 8, 3) := by decide +kernel
theorem dX3_gossip_17 : decode cX3_gossip 17 = .ok (.iload_n 1, 1) := by decide +kernel
theorem dX3_gossip_18 : decode cX3_gossip 18 = .ok (.iload_n 2, 1) := by decide +kernel
theorem dX3_gossip_19 : decode cX3_gossip 19 = .ok (.if_icmp .ne 7, 3) := by decide +kernel
theorem dX3_gossip_22 : decode cX3_gossip 22 = .ok (.iconst 1, 1) := by decide +kernel
theorem dX3_gossip_23 : decode cX3_gossip 23 = .ok (.goto 17, 3) := by decide +kernel
theorem dX3_gossip_26 : decode cX3_gossip 26 = .ok (.aload_n 0, 1) := by decide +kernel
theorem dX3_gossip_27 : decode cX3_gossip 27 = .ok (.getfield 41, 3) := by decide +kernel
theorem dX3_gossip_30 : decode cX3_gossip 30 = .ok (.bipush 100, 2) := by decide +kernel
theorem dX3_gossip_32 : decode cX3_gossip 32 = .ok (.if_icmp .ne 7, 3) := by decide +kernel
theorem dX3_gossip_35 : decode cX3_gossip 35 = .ok (.iconst 2, 1) := by decide +kernel
theorem dX3_gossip_36 : decode cX3_gossip 36 = .ok (.goto 4, 3) := by decide +kernel
theorem dX3_gossip_39 : decode cX3_gossip 39 = .ok (.iconst 0, 1) := by decide +kernel
theorem dX3_gossip_40 : decode cX3_gossip 40 = .ok (.invokevirtual 38, 3) := by decide +kernel
theorem dX3_gossip_43 : decode cX3_gossip 43 = .ok (.ifCond .eq 5, 3) := by decide +kernel
theorem dX3_gossip_46 : decode cX3_gossip 46 = .ok (.iconst 0, 1) := by decide +kernel
theorem dX3_gossip_47 : decode cX3_gossip 47 = .ok (.ireturn, 1) := by decide +kernel
theorem dX3_gossip_48 : decode cX3_gossip 48 = .ok (.aload_n 0, 1) := by decide +kernel
theorem dX3_gossip_49 : decode cX3_gossip 49 = .ok (.iload_n 1, 1) := by decide +kernel
theorem dX3_gossip_50 : decode cX3_gossip 50 = .ok (.bipush 6, 2) := by decide +kernel
theorem dX3_gossip_52 : decode cX3_gossip 52 = .ok (.aload_n 0, 1) := by decide +kernel
theorem dX3_gossip_53 : decode cX3_gossip 53 = .ok (.getfield 41, 3) := by decide +kernel
theorem dX3_gossip_56 : decode cX3_gossip 56 = .ok (.iadd, 1) := by decide +kernel
theorem dX3_gossip_57 : decode cX3_gossip 57 = .ok (.invokevirtual 72, 3) := by decide +kernel
theorem dX3_gossip_60 : decode cX3_gossip 60 = .ok (.aload_n 0, 1) := by decide +kernel
theorem dX3_gossip_61 : decode cX3_gossip 61 = .ok (.getfield 25, 3) := by decide +kernel
theorem dX3_gossip_64 : decode cX3_gossip 64 = .ok (.aload_n 0, 1) := by decide +kernel
theorem dX3_gossip_65 : decode cX3_gossip 65 = .ok (.getfield 41, 3) := by decide +kernel
theorem dX3_gossip_68 : decode cX3_gossip 68 = .ok (.iload_n 1, 1) := by decide +kernel
theorem dX3_gossip_69 : decode cX3_gossip 69 = .ok (.iastore, 1) := by decide +kernel
theorem dX3_gossip_70 : decode cX3_gossip 70 = .ok (.aload_n 0, 1) := by decide +kernel
theorem dX3_gossip_71 : decode cX3_gossip 71 = .ok (.getfield 28, 3) := by decide +kernel
theorem dX3_gossip_74 : decode cX3_gossip 74 = .ok (.aload_n 0, 1) := by decide +kernel
theorem dX3_gossip_75 : decode cX3_gossip 75 = .ok (.getfield 41, 3) := by decide +kernel
theorem dX3_gossip_78 : decode cX3_gossip 78 = .ok (.iload_n 2, 1) := by decide +kernel
theorem dX3_gossip_79 : decode cX3_gossip 79 = .ok (.iastore, 1) := by decide +kernel
theorem dX3_gossip_80 : decode cX3_gossip 80 = .ok (.aload_n 0, 1) := by decide +kernel
theorem dX3_gossip_81 : decode cX3_gossip 81 = .ok (.dup, 1) := by decide +kernel
theorem dX3_gossip_82 : decode cX3_gossip 82 = .ok (.getfield 41, 3) := by decide +kernel
theorem dX3_gossip_85 : decode cX3_gossip 85 = .ok (.iconst 1, 1) := by decide +kernel
theorem dX3_gossip_86 : decode cX3_gossip 86 = .ok (.iadd, 1) := by decide +kernel
theorem dX3_gossip_87 : decode cX3_gossip 87 = .ok (.putfield 41, 3) := by decide +kernel
theorem dX3_gossip_90 : decode cX3_gossip 90 = .ok (.aload_n 0, 1) := by decide +kernel
theorem dX3_gossip_91 : decode cX3_gossip 91 = .ok (.getfield 41, 3) := by decide +kernel
theorem dX3_gossip_94 : decode cX3_gossip 94 = .ok (.ireturn, 1) := by decide +kernel
theorem dX3_isMessage_0 : decode cX3_isMessage 0 = .ok (.iload_n 1, 1) := by decide +kernel
theorem dX3_isMessage_1 : decode cX3_isMessage 1 = .ok (.ifCond .lt 15, 3) := by decide +kernel
theorem dX3_isMessage_4 : decode cX3_isMessage 4 = .ok (.iload_n 1, 1) := by decide +kernel
theorem dX3_isMessage_5 : decode cX3_isMessage 5 = .ok (.aload_n 0, 1) := by decide +kernel
theorem dX3_isMessage_6 : decode cX3_isMessage 6 = .ok (.getfield 41, 3) := by decide +kernel
theorem dX3_isMessage_9 : decode cX3_isMessage 9 = .ok (.if_icmp .ge 7, 3) := by decide +kernel
theorem dX3_isMessage_12 : decode cX3_isMessage 12 = .ok (.iconst 1, 1) := by decide +kernel
theorem dX3_isMessage_13 : decode cX3_isMessage 13 = .ok (.goto 4, 3) := by decide +kernel
theorem dX3_isMessage_16 : decode cX3_isMessage 16 = .ok (.iconst 0, 1) := by decide +kernel
theorem dX3_isMessage_17 : decode cX3_isMessage 17 = .ok (.ireturn, 1) := by decide +kernel
set_option maxRecDepth 20000 in
theorem ggX3_gone_X3_copies : GoodIn wsX3_gone wsX3_copies := goodIn_r _ [8, 9, 10, 11, 12, 13, 14, 15, 16, 17, 18, 19] (by decide +kernel) (by decide +kernel)
set_option maxRecDepth 20000 in
theorem gX3_gone_X3_copies : GoodIn wsX3_gone (wsV RX3 72 RX3 yX3_copies wsX3_copies) := goodIn_app (goodIn_of _ (by decide +kernel)) ggX3_gone_X3_copies
theorem dX3_gone_0 : decode cX3_gone 0 = .ok (.iload_n 1, 1) := by decide +kernel
theorem dX3_gone_1 : decode cX3_gone 1 = .ok (.istore_n 2, 1) := by decide +kernel
theorem dX3_gone_2 : decode cX3_gone 2 = .ok (.iload_n 2, 1) := by decide +kernel
theorem dX3_gone_3 : decode cX3_gone 3 = .ok (.iconst 1, 1) := by decide +kernel
theorem dX3_gone_4 : decode cX3_gone 4 = .ok (.iadd, 1) := by decide +kernel
theorem dX3_gone_5 : decode cX3_gone 5 = .ok (.aload_n 0, 1) := by decide +kernel
theorem dX3_gone_6 : decode cX3_gone 6 = .ok (.getfield 41, 3) := by decide +kernel
theorem dX3_gone_9 : decode cX3_gone 9 = .ok (.if_icmp .ge 51, 3) := by decide +kernel
theorem dX3_gone_12 : decode cX3_gone 12 = .ok (.aload_n 0, 1) := by decide +kernel
theorem dX3_gone_13 : decode cX3_gone 13 = .ok (.bipush 6, 2) := by decide +kernel
theorem dX3_gone_15 : decode cX3_gone 15 = .ok (.iload_n 2, 1) := by decide +kernel
theorem dX3_gone_16 : decode cX3_gone 16 = .ok (.iadd, 1) := by decide +kernel
theorem dX3_gone_17 : decode cX3_gone 17 = .ok (.iconst 1, 1) := by decide +kernel
theorem dX3_gone_18 : decode cX3_gone 18 = .ok (.iadd, 1) := by decide +kernel
theorem dX3_gone_19 : decode cX3_gone 19 = .ok (.bipush 6, 2) := by decide +kernel
theorem dX3_gone_21 : decode cX3_gone 21 = .ok (.iload_n 2, 1) := by decide +kernel
theorem dX3_gone_22 : decode cX3_gone 22 = .ok (.iadd, 1) := by decide +kernel
theorem dX3_gone_23 : decode cX3_gone 23 = .ok (.invokevirtual 72, 3) := by decide +kernel
theorem dX3_gone_26 : decode cX3_gone 26 = .ok (.aload_n 0, 1) := by decide +kernel
theorem dX3_gone_27 : decode cX3_gone 27 = .ok (.getfield 25, 3) := by decide +kernel
theorem dX3_gone_30 : decode cX3_gone 30 = .ok (.iload_n 2, 1) := by decide +kernel
theorem dX3_gone_31 : decode cX3_gone 31 = .ok (.aload_n 0, 1) := by decide +kernel
theorem dX3_gone_32 : decode cX3_gone 32 = .ok (.getfield 25, 3) := by decide +kernel
theorem dX3_gone_35 : decode cX3_gone 35 = .ok (.iload_n 2, 1) := by decide +kernel
theorem dX3_gone_36 : decode cX3_gone 36 = .ok (.iconst 1, 1) := by decide +kernel
theorem dX3_gone_37 : decode cX3_gone 37 = .ok (.iadd, 1) := by decide +kernel
theorem dX3_gone_38 : decode cX3_gone 38 = .ok (.iaload, 1) := by decide +kernel
theorem dX3_gone_39 : decode cX3_gone 39 = .ok (.iastore, 1) := by decide +kernel
theorem dX3_gone_40 : decode cX3_gone 40 = .ok (.aload_n 0, 1) := by decide +kernel
theorem dX3_gone_41 : decode cX3_gone 41 = .ok (.getfield 28, 3) := by decide +kernel
theorem dX3_gone_44 : decode cX3_gone 44 = .ok (.iload_n 2, 1) := by decide +kernel
theorem dX3_gone_45 : decode cX3_gone 45 = .ok (.aload_n 0, 1) := by decide +kernel
theorem dX3_gone_46 : decode cX3_gone 46 = .ok (.getfield 28, 3) := by decide +kernel
theorem dX3_gone_49 : decode cX3_gone 49 = .ok (.iload_n 2, 1) := by decide +kernel
theorem dX3_gone_50 : decode cX3_gone 50 = .ok (.iconst 1, 1) := by decide +kernel
theorem dX3_gone_51 : decode cX3_gone 51 = .ok (.iadd, 1) := by decide +kernel
theorem dX3_gone_52 : decode cX3_gone 52 = .ok (.iaload, 1) := by decide +kernel
theorem dX3_gone_53 : decode cX3_gone 53 = .ok (.iastore, 1) := by decide +kernel
theorem dX3_gone_54 : decode cX3_gone 54 = .ok (.iinc 2 1, 3) := by decide +kernel
theorem dX3_gone_57 : decode cX3_gone 57 = .ok (.goto (-55), 3) := by decide +kernel
theorem dX3_gone_60 : decode cX3_gone 60 = .ok (.aload_n 0, 1) := by decide +kernel
theorem dX3_gone_61 : decode cX3_gone 61 = .ok (.dup, 1) := by decide +kernel
theorem dX3_gone_62 : decode cX3_gone 62 = .ok (.getfield 41, 3) := by decide +kernel
theorem dX3_gone_65 : decode cX3_gone 65 = .ok (.iconst 1, 1) := by decide +kernel
theorem dX3_gone_66 : decode cX3_gone 66 = .ok (.isub, 1) := by decide +kernel
theorem dX3_gone_67 : decode cX3_gone 67 = .ok (.putfield 41, 3) := by decide +kernel
theorem dX3_gone_70 : decode cX3_gone 70 = .ok (.return_, 1) := by decide +kernel
set_option maxRecDepth 20000 in
theorem ggX3_merges_X3_dots : GoodIn wsX3_merges wsX3_dots := goodIn_r _ [7] (by decide +kernel) (by decide +kernel)
set_option maxRecDepth 20000 in
theorem gX3_merges_X3_dots : GoodIn wsX3_merges (va_wsS RX3 44 yX3_dots wsX3_dots) := goodIn_app (goodIn_of _ (by decide +kernel)) ggX3_merges_X3_dots
set_option maxRecDepth 20000 in
theorem ggX3_merges_X3_vectorAt : GoodIn wsX3_merges wsX3_vectorAt := goodIn_r _ [10] (by decide +kernel) (by decide +kernel)
set_option maxRecDepth 20000 in
theorem gX3_merges_X3_vectorAt : GoodIn wsX3_merges (va_wsS RX3 48 yX3_vectorAt wsX3_vectorAt) := goodIn_app (goodIn_of _ (by decide +kernel)) ggX3_merges_X3_vectorAt
theorem dX3_merges_0 : decode cX3_merges 0 = .ok (.iconst 0, 1) := by decide +kernel
theorem dX3_merges_1 : decode cX3_merges 1 = .ok (.istore_n 3, 1) := by decide +kernel
theorem dX3_merges_2 : decode cX3_merges 2 = .ok (.iconst 0, 1) := by decide +kernel
theorem dX3_merges_3 : decode cX3_merges 3 = .ok (.istore 4, 2) := by decide +kernel
theorem dX3_merges_5 : decode cX3_merges 5 = .ok (.iload 4, 2) := by decide +kernel
theorem dX3_merges_7 : decode cX3_merges 7 = .ok (.bipush 68, 2) := by decide +kernel
theorem dX3_merges_9 : decode cX3_merges 9 = .ok (.if_icmp .ge 179, 3) := by decide +kernel
theorem dX3_merges_12 : decode cX3_merges 12 = .ok (.iconst 0, 1) := by decide +kernel
theorem dX3_merges_13 : decode cX3_merges 13 = .ok (.istore 5, 2) := by decide +kernel
theorem dX3_merges_15 : decode cX3_merges 15 = .ok (.iload 5, 2) := by decide +kernel
theorem dX3_merges_17 : decode cX3_merges 17 = .ok (.bipush 6, 2) := by decide +kernel
theorem dX3_merges_19 : decode cX3_merges 19 = .ok (.if_icmp .ge 163, 3) := by decide +kernel
theorem dX3_merges_22 : decode cX3_merges 22 = .ok (.aload_n 0, 1) := by decide +kernel
theorem dX3_merges_23 : decode cX3_merges 23 = .ok (.getfield 14, 3) := by decide +kernel
theorem dX3_merges_26 : decode cX3_merges 26 = .ok (.iload_n 1, 1) := by decide +kernel
theorem dX3_merges_27 : decode cX3_merges 27 = .ok (.iload 4, 2) := by decide +kernel
theorem dX3_merges_29 : decode cX3_merges 29 = .ok (.invokestatic 44, 3) := by decide +kernel
theorem dX3_merges_32 : decode cX3_merges 32 = .ok (.iload 5, 2) := by decide +kernel
theorem dX3_merges_34 : decode cX3_merges 34 = .ok (.iadd, 1) := by decide +kernel
theorem dX3_merges_35 : decode cX3_merges 35 = .ok (.iaload, 1) := by decide +kernel
theorem dX3_merges_36 : decode cX3_merges 36 = .ok (.istore 6, 2) := by decide +kernel
theorem dX3_merges_38 : decode cX3_merges 38 = .ok (.aload_n 0, 1) := by decide +kernel
theorem dX3_merges_39 : decode cX3_merges 39 = .ok (.getfield 14, 3) := by decide +kernel
theorem dX3_merges_42 : decode cX3_merges 42 = .ok (.iload_n 2, 1) := by decide +kernel
theorem dX3_merges_43 : decode cX3_merges 43 = .ok (.iload 4, 2) := by decide +kernel
theorem dX3_merges_45 : decode cX3_merges 45 = .ok (.invokestatic 44, 3) := by decide +kernel
theorem dX3_merges_48 : decode cX3_merges 48 = .ok (.iload 5, 2) := by decide +kernel
theorem dX3_merges_50 : decode cX3_merges 50 = .ok (.iadd, 1) := by decide +kernel
theorem dX3_merges_51 : decode cX3_merges 51 = .ok (.iaload, 1) := by decide +kernel
theorem dX3_merges_52 : decode cX3_merges 52 = .ok (.istore 7, 2) := by decide +kernel
theorem dX3_merges_54 : decode cX3_merges 54 = .ok (.iload 6, 2) := by decide +kernel
theorem dX3_merges_56 : decode cX3_merges 56 = .ok (.iload 7, 2) := by decide +kernel
theorem dX3_merges_58 : decode cX3_merges 58 = .ok (.if_icmp .ne 6, 3) := by decide +kernel
theorem dX3_merges_61 : decode cX3_merges 61 = .ok (.goto 115, 3) := by decide +kernel
theorem dX3_merges_64 : decode cX3_merges 64 = .ok (.iload 6, 2) := by decide +kernel
theorem dX3_merges_66 : decode cX3_merges 66 = .ok (.aload_n 0, 1) := by decide +kernel
theorem dX3_merges_67 : decode cX3_merges 67 = .ok (.getfield 14, 3) := by decide +kernel
theorem dX3_merges_70 : decode cX3_merges 70 = .ok (.iload_n 2, 1) := by decide +kernel
theorem dX3_merges_71 : decode cX3_merges 71 = .ok (.iload 5, 2) := by decide +kernel
theorem dX3_merges_73 : decode cX3_merges 73 = .ok (.invokestatic 48, 3) := by decide +kernel
theorem dX3_merges_76 : decode cX3_merges 76 = .ok (.iaload, 1) := by decide +kernel
theorem dX3_merges_77 : decode cX3_merges 77 = .ok (.if_icmp .le 8, 3) := by decide +kernel
theorem dX3_merges_80 : decode cX3_merges 80 = .ok (.iload 6, 2) := by decide +kernel
theorem dX3_merges_82 : decode cX3_merges 82 = .ok (.goto 4, 3) := by decide +kernel
theorem dX3_merges_85 : decode cX3_merges 85 = .ok (.iconst 0, 1) := by decide +kernel
theorem dX3_merges_86 : decode cX3_merges 86 = .ok (.istore 8, 2) := by decide +kernel
theorem dX3_merges_88 : decode cX3_merges 88 = .ok (.iload 7, 2) := by decide +kernel
theorem dX3_merges_90 : decode cX3_merges 90 = .ok (.aload_n 0, 1) := by decide +kernel
theorem dX3_merges_91 : decode cX3_merges 91 = .ok (.getfield 14, 3) := by decide +kernel
theorem dX3_merges_94 : decode cX3_merges 94 = .ok (.iload_n 1, 1) := by decide +kernel
theorem dX3_merges_95 : decode cX3_merges 95 = .ok (.iload 5, 2) := by decide +kernel
theorem dX3_merges_97 : decode cX3_merges 97 = .ok (.invokestatic 48, 3) := by decide +kernel
theorem dX3_merges_100 : decode cX3_merges 100 = .ok (.iaload, 1) := by decide +kernel
theorem dX3_merges_101 : decode cX3_merges 101 = .ok (.if_icmp .le 59, 3) := by decide +kernel
theorem dX3_merges_104 : decode cX3_merges 104 = .ok (.iinc 3 1, 3) := by decide +kernel
theorem dX3_merges_107 : decode cX3_merges 107 = .ok (.iload 7, 2) := by decide +kernel
theorem dX3_merges_109 : decode cX3_merges 109 = .ok (.istore 8, 2) := by decide +kernel
theorem dX3_merges_111 : decode cX3_merges 111 = .ok (.iload 4, 2) := by decide +kernel
theorem dX3_merges_113 : decode cX3_merges 113 = .ok (.bipush 63, 2) := by decide +kernel
theorem dX3_merges_115 : decode cX3_merges 115 = .ok (.if_icmp .le 45, 3) := by decide +kernel
theorem dX3_merges_118 : decode cX3_merges 118 = .ok (.aload_n 0, 1) := by decide +kernel
theorem dX3_merges_119 : decode cX3_merges 119 = .ok (.getfield 18, 3) := by decide +kernel
theorem dX3_merges_122 : decode cX3_merges 122 = .ok (.bipush 24, 2) := by decide +kernel
theorem dX3_merges_124 : decode cX3_merges 124 = .ok (.iload_n 1, 1) := by decide +kernel
theorem dX3_merges_125 : decode cX3_merges 125 = .ok (.imul, 1) := by decide +kernel
theorem dX3_merges_126 : decode cX3_merges 126 = .ok (.bipush 6, 2) := by decide +kernel
theorem dX3_merges_128 : decode cX3_merges 128 = .ok (.iload 4, 2) := by decide +kernel
theorem dX3_merges_130 : decode cX3_merges 130 = .ok (.bipush 64, 2) := by decide +kernel
theorem dX3_merges_132 : decode cX3_merges 132 = .ok (.isub, 1) := by decide +kernel
theorem dX3_merges_133 : decode cX3_merges 133 = .ok (.imul, 1) := by decide +kernel
theorem dX3_merges_134 : decode cX3_merges 134 = .ok (.iadd, 1) := by decide +kernel
theorem dX3_merges_135 : decode cX3_merges 135 = .ok (.iload 5, 2) := by decide +kernel
theorem dX3_merges_137 : decode cX3_merges 137 = .ok (.iadd, 1) := by decide +kernel
theorem dX3_merges_138 : decode cX3_merges 138 = .ok (.aload_n 0, 1) := by decide +kernel
theorem dX3_merges_139 : decode cX3_merges 139 = .ok (.getfield 18, 3) := by decide +kernel
theorem dX3_merges_142 : decode cX3_merges 142 = .ok (.bipush 24, 2) := by decide +kernel
theorem dX3_merges_144 : decode cX3_merges 144 = .ok (.iload_n 2, 1) := by decide +kernel
theorem dX3_merges_145 : decode cX3_merges 145 = .ok (.imul, 1) := by decide +kernel
theorem dX3_merges_146 : decode cX3_merges 146 = .ok (.bipush 6, 2) := by decide +kernel
theorem dX3_merges_148 : decode cX3_merges 148 = .ok (.iload 4, 2) := by decide +kernel
theorem dX3_merges_150 : decode cX3_merges 150 = .ok (.bipush 64, 2) := by decide +kernel
theorem dX3_merges_152 : decode cX3_merges 152 = .ok (.isub, 1) := by decide +kernel
theorem dX3_merges_153 : decode cX3_merges 153 = .ok (.imul, 1) := by decide +kernel
theorem dX3_merges_154 : decode cX3_merges 154 = .ok (.iadd, 1) := by decide +kernel
theorem dX3_merges_155 : decode cX3_merges 155 = .ok (.iload 5, 2) := by decide +kernel
theorem dX3_merges_157 : decode cX3_merges 157 = .ok (.iadd, 1) := by decide +kernel
theorem dX3_merges_158 : decode cX3_merges 158 = .ok (.iaload, 1) := by decide +kernel
theorem dX3_merges_159 : decode cX3_merges 159 = .ok (.iastore, 1) := by decide +kernel
theorem dX3_merges_160 : decode cX3_merges 160 = .ok (.aload_n 0, 1) := by decide +kernel
theorem dX3_merges_161 : decode cX3_merges 161 = .ok (.getfield 14, 3) := by decide +kernel
theorem dX3_merges_164 : decode cX3_merges 164 = .ok (.iload_n 1, 1) := by decide +kernel
theorem dX3_merges_165 : decode cX3_merges 165 = .ok (.iload 4, 2) := by decide +kernel
theorem dX3_merges_167 : decode cX3_merges 167 = .ok (.invokestatic 44, 3) := by decide +kernel
theorem dX3_merges_170 : decode cX3_merges 170 = .ok (.iload 5, 2) := by decide +kernel
theorem dX3_merges_172 : decode cX3_merges 172 = .ok (.iadd, 1) := by decide +kernel
theorem dX3_merges_173 : decode cX3_merges 173 = .ok (.iload 8, 2) := by decide +kernel
theorem dX3_merges_175 : decode cX3_merges 175 = .ok (.iastore, 1) := by decide +kernel
theorem dX3_merges_176 : decode cX3_merges 176 = .ok (.iinc 5 1, 3) := by decide +kernel
theorem dX3_merges_179 : decode cX3_merges 179 = .ok (.goto (-164), 3) := by decide +kernel
theorem dX3_merges_182 : decode cX3_merges 182 = .ok (.iinc 4 1, 3) := by decide +kernel
theorem dX3_merges_185 : decode cX3_merges 185 = .ok (.goto (-180), 3) := by decide +kernel
theorem dX3_merges_188 : decode cX3_merges 188 = .ok (.iconst 0, 1) := by decide +kernel
theorem dX3_merges_189 : decode cX3_merges 189 = .ok (.istore 4, 2) := by decide +kernel
theorem dX3_merges_191 : decode cX3_merges 191 = .ok (.iload 4, 2) := by decide +kernel
theorem dX3_merges_193 : decode cX3_merges 193 = .ok (.bipush 6, 2) := by decide +kernel
theorem dX3_merges_195 : decode cX3_merges 195 = .ok (.if_icmp .ge 65, 3) := by decide +kernel
theorem dX3_merges_198 : decode cX3_merges 198 = .ok (.aload_n 0, 1) := by decide +kernel
theorem dX3_merges_199 : decode cX3_merges 199 = .ok (.getfield 14, 3) := by decide +kernel
theorem dX3_merges_202 : decode cX3_merges 202 = .ok (.iload_n 2, 1) := by decide +kernel
theorem dX3_merges_203 : decode cX3_merges 203 = .ok (.iload 4, 2) := by decide +kernel
theorem dX3_merges_205 : decode cX3_merges 205 = .ok (.invokestatic 48, 3) := by decide +kernel
theorem dX3_merges_208 : decode cX3_merges 208 = .ok (.iaload, 1) := by decide +kernel
theorem dX3_merges_209 : decode cX3_merges 209 = .ok (.istore 5, 2) := by decide +kernel
