theorem dX2_write_35 : decode cX2_write 35 = .ok (.iload 5, 2) := by decide +kernel
theorem dX2_write_37 : decode cX2_write 37 = .ok (.iload_n 1, 1) := by decide +kernel
theorem dX2_write_38 : decode cX2_write 38 = .ok (.invokevirtual 49, 3) := by decide +kernel
theorem dX2_write_41 : decode cX2_write 41 = .ok (.pop, 1) := by decide +kernel
theorem dX2_write_42 : decode cX2_write 42 = .ok (.aload 4, 2) := by decide +kernel
theorem dX2_write_44 : decode cX2_write 44 = .ok (.getfield 60, 3) := by decide +kernel
theorem dX2_write_47 : decode cX2_write 47 = .ok (.iload_n 2, 1) := by decide +kernel
theorem dX2_write_48 : decode cX2_write 48 = .ok (.bipush 6, 2) := by decide +kernel
theorem dX2_write_50 : decode cX2_write 50 = .ok (.imul, 1) := by decide +kernel
theorem dX2_write_51 : decode cX2_write 51 = .ok (.iload_n 1, 1) := by decide +kernel
theorem dX2_write_52 : decode cX2_write 52 = .ok (.iadd, 1) := by decide +kernel
theorem dX2_write_53 : decode cX2_write 53 = .ok (.iload_n 3, 1) := by decide +kernel
theorem dX2_write_54 : decode cX2_write 54 = .ok (.iastore, 1) := by decide +kernel
theorem dX2_write_55 : decode cX2_write 55 = .ok (.iload 6, 2) := by decide +kernel
theorem dX2_write_57 : decode cX2_write 57 = .ok (.ireturn, 1) := by decide +kernel
set_option maxRecDepth 20000 in
theorem ggX2_count_X2_requireReplica : GoodIn wsX2_count wsX2_requireReplica := goodIn_ca (goodIn_r _ [8, 9, 10, 11, 7, 12, 13, 14, 15, 16, 17, 25, 26, 27] (by decide +kernel) (by decide +kernel)) (goodIn_sub (fun _ h => List.mem_cons_of_mem _ (List.mem_append_right _ h)) (by decide +kernel))
set_option maxRecDepth 20000 in
theorem gX2_count_X2_requireReplica : GoodIn wsX2_count (wsV RX2 52 RX2 yX2_requireReplica wsX2_requireReplica) := goodIn_app (goodIn_of _ (by decide +kernel)) ggX2_count_X2_requireReplica
set_option maxRecDepth 20000 in
theorem ggX2_count_X2_requireIndex : GoodIn wsX2_count wsX2_requireIndex := goodIn_ca (goodIn_r _ [12, 13, 14, 7, 15, 16, 17] (by decide +kernel) (by decide +kernel)) (goodIn_sub (fun _ h => List.mem_cons_of_mem _ (List.mem_append_right _ h)) (by decide +kernel))
set_option maxRecDepth 20000 in
theorem gX2_count_X2_requireIndex : GoodIn wsX2_count (va_wsS RX2 56 yX2_requireIndex wsX2_requireIndex) := goodIn_app (goodIn_of _ (by decide +kernel)) ggX2_count_X2_requireIndex
set_option maxRecDepth 20000 in
theorem ggX2_count_X0_worth : GoodIn wsX2_count wsX0_worth := goodIn_r _ [22, 23, 24, 28, 29, 30, 31, 32] (by decide +kernel) (by decide +kernel)
set_option maxRecDepth 20000 in
theorem gX2_count_X0_worth : GoodIn wsX2_count (wsV RX2 71 RX0 yX0_worth wsX0_worth) := goodIn_app (goodIn_of _ (by decide +kernel)) ggX2_count_X0_worth
theorem dX2_count_0 : decode cX2_count 0 = .ok (.aload_n 0, 1) := by decide +kernel
theorem dX2_count_1 : decode cX2_count 1 = .ok (.iload_n 1, 1) := by decide +kernel
theorem dX2_count_2 : decode cX2_count 2 = .ok (.invokevirtual 52, 3) := by decide +kernel
theorem dX2_count_5 : decode cX2_count 5 = .ok (.iload_n 2, 1) := by decide +kernel
theorem dX2_count_6 : decode cX2_count 6 = .ok (.iconst 4, 1) := by decide +kernel
theorem dX2_count_7 : decode cX2_count 7 = .ok (.invokestatic 56, 3) := by decide +kernel
theorem dX2_count_10 : decode cX2_count 10 = .ok (.aload_n 0, 1) := by decide +kernel
theorem dX2_count_11 : decode cX2_count 11 = .ok (.getfield 11, 3) := by decide +kernel
theorem dX2_count_14 : decode cX2_count 14 = .ok (.iload_n 1, 1) := by decide +kernel
theorem dX2_count_15 : decode cX2_count 15 = .ok (.aaload, 1) := by decide +kernel
theorem dX2_count_16 : decode cX2_count 16 = .ok (.astore 4, 2) := by decide +kernel
theorem dX2_count_18 : decode cX2_count 18 = .ok (.iload_n 2, 1) := by decide +kernel
theorem dX2_count_19 : decode cX2_count 19 = .ok (.bipush 6, 2) := by decide +kernel
theorem dX2_count_21 : decode cX2_count 21 = .ok (.imul, 1) := by decide +kernel
theorem dX2_count_22 : decode cX2_count 22 = .ok (.iload_n 1, 1) := by decide +kernel
theorem dX2_count_23 : decode cX2_count 23 = .ok (.iadd, 1) := by decide +kernel
theorem dX2_count_24 : decode cX2_count 24 = .ok (.istore 5, 2) := by decide +kernel
theorem dX2_count_26 : decode cX2_count 26 = .ok (.iload_n 3, 1) := by decide +kernel
theorem dX2_count_27 : decode cX2_count 27 = .ok (.ifCond .lt 19, 3) := by decide +kernel
theorem dX2_count_30 : decode cX2_count 30 = .ok (.aload 4, 2) := by decide +kernel
theorem dX2_count_32 : decode cX2_count 32 = .ok (.getfield 64, 3) := by decide +kernel
theorem dX2_count_35 : decode cX2_count 35 = .ok (.iload 5, 2) := by decide +kernel
theorem dX2_count_37 : decode cX2_count 37 = .ok (.dup2, 1) := by decide +kernel
theorem dX2_count_38 : decode cX2_count 38 = .ok (.laload, 1) := by decide +kernel
theorem dX2_count_39 : decode cX2_count 39 = .ok (.iload_n 3, 1) := by decide +kernel
theorem dX2_count_40 : decode cX2_count 40 = .ok (.i2l, 1) := by decide +kernel
theorem dX2_count_41 : decode cX2_count 41 = .ok (.ladd, 1) := by decide +kernel
theorem dX2_count_42 : decode cX2_count 42 = .ok (.lastore, 1) := by decide +kernel
theorem dX2_count_43 : decode cX2_count 43 = .ok (.goto 16, 3) := by decide +kernel
theorem dX2_count_46 : decode cX2_count 46 = .ok (.aload 4, 2) := by decide +kernel
theorem dX2_count_48 : decode cX2_count 48 = .ok (.getfield 68, 3) := by decide +kernel
theorem dX2_count_51 : decode cX2_count 51 = .ok (.iload 5, 2) := by decide +kernel
theorem dX2_count_53 : decode cX2_count 53 = .ok (.dup2, 1) := by decide +kernel
theorem dX2_count_54 : decode cX2_count 54 = .ok (.laload, 1) := by decide +kernel
theorem dX2_count_55 : decode cX2_count 55 = .ok (.iload_n 3, 1) := by decide +kernel
theorem dX2_count_56 : decode cX2_count 56 = .ok (.i2l, 1) := by decide +kernel
theorem dX2_count_57 : decode cX2_count 57 = .ok (.lsub, 1) := by decide +kernel
theorem dX2_count_58 : decode cX2_count 58 = .ok (.lastore, 1) := by decide +kernel
theorem dX2_count_59 : decode cX2_count 59 = .ok (.aload 4, 2) := by decide +kernel
theorem dX2_count_61 : decode cX2_count 61 = .ok (.iload_n 2, 1) := by decide +kernel
theorem dX2_count_62 : decode cX2_count 62 = .ok (.invokevirtual 71, 3) := by decide +kernel
theorem dX2_count_65 : decode cX2_count 65 = .ok (.ireturn, 1) := by decide +kernel
set_option maxRecDepth 20000 in
theorem ggX2_gossip_X2_requireReplica : GoodIn wsX2_gossip wsX2_requireReplica := goodIn_ca (goodIn_r _ [12, 13, 14, 15, 11, 16, 17, 18, 19, 20, 21, 110, 111, 112] (by decide +kernel) (by decide +kernel)) (goodIn_sub (fun _ h => List.mem_cons_of_mem _ (List.mem_append_right _ h)) (by decide +kernel))
set_option maxRecDepth 20000 in
theorem gX2_gossip_X2_requireReplica : GoodIn wsX2_gossip (wsV RX2 52 RX2 yX2_requireReplica wsX2_requireReplica) := goodIn_app (goodIn_of _ (by decide +kernel)) ggX2_gossip_X2_requireReplica
set_option maxRecDepth 20000 in
theorem ggX2_gossip_X2_require : GoodIn wsX2_gossip wsX2_require := goodIn_ca (goodIn_r _ [19, 20, 21] (by decide +kernel) (by decide +kernel)) (goodIn_sub (fun _ h => List.mem_cons_of_mem _ (List.mem_append_right _ h)) (by decide +kernel))
set_option maxRecDepth 20000 in
theorem gX2_gossip_X2_require : GoodIn wsX2_gossip (va_wsS RX2 27 yX2_require wsX2_require) := goodIn_app (goodIn_of _ (by decide +kernel)) ggX2_gossip_X2_require
set_option maxRecDepth 20000 in
theorem ggX2_gossip_Jx4a65c_size_8abf5 : GoodIn wsX2_gossip wsJx4a65c_size_8abf5 := goodIn_r _ [26, 27, 116, 117, 118] (by decide +kernel) (by decide +kernel)
set_option maxRecDepth 20000 in
theorem gX2_gossip_Jx4a65c_size_8abf5 : GoodIn wsX2_gossip (wsV RX2 74 RJx4a65c yJx4a65c_size_8abf5 wsJx4a65c_size_8abf5) := goodIn_app (goodIn_of _ (by decide +kernel)) ggX2_gossip_Jx4a65c_size_8abf5
set_option maxRecDepth 20000 in
theorem ggX2_gossip_X0_snapshot : GoodIn wsX2_gossip wsX0_snapshot := goodIn_r _ [32, 33, 34, 31, 35, 36, 37, 38, 39, 40, 41, 42, 43, 44, 45, 46, 47, 48, 49, 50, 51, 119, 120, 121, 122, 123] (by decide +kernel) (by decide +kernel)
set_option maxRecDepth 20000 in
theorem gX2_gossip_X0_snapshot : GoodIn wsX2_gossip (wsV RX2 83 RX0 yX0_snapshot wsX0_snapshot) := goodIn_app (goodIn_of _ (by decide +kernel)) ggX2_gossip_X0_snapshot
set_option maxRecDepth 20000 in
theorem ggX2_gossip_X1_init : GoodIn wsX2_gossip wsX1_init := goodIn_r _ [54, 55, 48, 49, 56, 57, 58, 113, 114, 115] (by decide +kernel) (by decide +kernel)
set_option maxRecDepth 20000 in
theorem gX2_gossip_X1_init : GoodIn wsX2_gossip (wsX1_init) := ggX2_gossip_X1_init
set_option maxRecDepth 20000 in
theorem ggX2_gossip_Jx4a65c_add_9ea2d : GoodIn wsX2_gossip wsJx4a65c_add_9ea2d := goodIn_r _ [62, 63, 64, 65, 27, 66, 67, 68, 25, 69, 70, 71, 72, 73, 74, 75, 76, 77, 78, 79, 80, 81, 82, 83, 84, 85, 86, 87, 88, 89, 90, 91, 92, 93, 94, 95, 96, 97, 98, 99, 100, 101, 102, 103, 104, 105, 106, 107, 108, 109, 37, 38, 39, 116, 117, 118] (by decide +kernel) (by decide +kernel)
set_option maxRecDepth 20000 in
theorem gX2_gossip_Jx4a65c_add_9ea2d : GoodIn wsX2_gossip (wsV RX2 90 RJx4a65c yJx4a65c_add_9ea2d wsJx4a65c_add_9ea2d) := goodIn_app (goodIn_of _ (by decide +kernel)) ggX2_gossip_Jx4a65c_add_9ea2d
theorem dX2_gossip_0 : decode cX2_gossip 0 = .ok (.aload_n 0, 1) := by decide +kernel
theorem dX2_gossip_1 : decode cX2_gossip 1 = .ok (.iload_n 1, 1) := by decide +kernel
theorem dX2_gossip_2 : decode cX2_gossip 2 = .ok (.invokevirtual 52, 3) := by decide +kernel
theorem dX2_gossip_5 : decode cX2_gossip 5 = .ok (.aload_n 0, 1) := by decide +kernel
theorem dX2_gossip_6 : decode cX2_gossip 6 = .ok (.iload_n 2, 1) := by decide +kernel
theorem dX2_gossip_7 : decode cX2_gossip 7 = .ok (.invokevirtual 52, 3) := by decide +kernel
theorem dX2_gossip_10 : decode cX2_gossip 10 = .ok (.iload_n 1, 1) := by decide +kernel
theorem dX2_gossip_11 : decode cX2_gossip 11 = .ok (.iload_n 2, 1) := by decide +kernel
theorem dX2_gossip_12 : decode cX2_gossip 12 = .ok (.if_icmp .eq 7, 3) := by decide +kernel
theorem dX2_gossip_15 : decode cX2_gossip 15 = .ok (.iconst 1, 1) := by decide +kernel
theorem dX2_gossip_16 : decode cX2_gossip 16 = .ok (.goto 4, 3) := by decide +kernel
theorem dX2_gossip_19 : decode cX2_gossip 19 = .ok (.iconst 0, 1) := by decide +kernel
theorem dX2_gossip_20 : decode cX2_gossip 20 = .ok (.invokestatic 27, 3) := by decide +kernel
theorem dX2_gossip_23 : decode cX2_gossip 23 = .ok (.aload_n 0, 1) := by decide +kernel
theorem dX2_gossip_24 : decode cX2_gossip 24 = .ok (.getfield 19, 3) := by decide +kernel
theorem dX2_gossip_27 : decode cX2_gossip 27 = .ok (.invokevirtual 74, 3) := by decide +kernel
theorem dX2_gossip_30 : decode cX2_gossip 30 = .ok (.bipush 100, 2) := by decide +kernel
theorem dX2_gossip_32 : decode cX2_gossip 32 = .ok (.if_icmp .lt 11, 3) := by decide +kernel
theorem dX2_gossip_35 : decode cX2_gossip 35 = .ok (.new 78, 3) := by decide +kernel
theorem dX2_gossip_38 : decode cX2_gossip 38 = .ok (.dup, 1) := by decide +kernel
theorem dX2_gossip_39 : decode cX2_gossip 39 = .ok (.invokespecial 80, 3) := by decide +kernel
theorem dX2_gossip_42 : decode cX2_gossip 42 = .ok (.athrow, 1) := by decide +kernel
theorem dX2_gossip_43 : decode cX2_gossip 43 = .ok (.aload_n 0, 1) := by decide +kernel
theorem dX2_gossip_44 : decode cX2_gossip 44 = .ok (.getfield 19, 3) := by decide +kernel
theorem dX2_gossip_47 : decode cX2_gossip 47 = .ok (.new 81, 3) := by decide +kernel
theorem dX2_gossip_50 : decode cX2_gossip 50 = .ok (.dup, 1) := by decide +kernel
theorem dX2_gossip_51 : decode cX2_gossip 51 = .ok (.iload_n 1, 1) := by decide +kernel
theorem dX2_gossip_52 : decode cX2_gossip 52 = .ok (.iload_n 2, 1) := by decide +kernel
theorem dX2_gossip_53 : decode cX2_gossip 53 = .ok (.aload_n 0, 1) := by decide +kernel
theorem dX2_gossip_54 : decode cX2_gossip 54 = .ok (.getfield 11, 3) := by decide +kernel
theorem dX2_gossip_57 : decode cX2_gossip 57 = .ok (.iload_n 1, 1) := by decide +kernel
theorem dX2_gossip_58 : decode cX2_gossip 58 = .ok (.aaload, 1) := by decide +kernel
theorem dX2_gossip_59 : decode cX2_gossip 59 = .ok (.invokevirtual 83, 3) := by decide +kernel
theorem dX2_gossip_62 : decode cX2_gossip 62 = .ok (.invokespecial 87, 3) := by decide +kernel
theorem dX2_gossip_65 : decode cX2_gossip 65 = .ok (.invokevirtual 90, 3) := by decide +kernel
theorem dX2_gossip_68 : decode cX2_gossip 68 = .ok (.pop, 1) := by decide +kernel
theorem dX2_gossip_69 : decode cX2_gossip 69 = .ok (.aload_n 0, 1) := by decide +kernel
theorem dX2_gossip_70 : decode cX2_gossip 70 = .ok (.getfield 19, 3) := by decide +kernel
theorem dX2_gossip_73 : decode cX2_gossip 73 = .ok (.invokevirtual 74, 3) := by decide +kernel
theorem dX2_gossip_76 : decode cX2_gossip 76 = .ok (.ireturn, 1) := by decide +kernel
set_option maxRecDepth 20000 in
theorem ggX2_deliver_Jx4a65c_size_8abf5 : GoodIn wsX2_deliver wsJx4a65c_size_8abf5 := goodIn_r _ [10, 11, 71, 72, 73] (by decide +kernel) (by decide +kernel)
set_option maxRecDepth 20000 in
theorem gX2_deliver_Jx4a65c_size_8abf5 : GoodIn wsX2_deliver (wsV RX2 74 RJx4a65c yJx4a65c_size_8abf5 wsJx4a65c_size_8abf5) := goodIn_app (goodIn_of _ (by decide +kernel)) ggX2_deliver_Jx4a65c_size_8abf5
set_option maxRecDepth 20000 in
theorem ggX2_deliver_X2_requireIndex : GoodIn wsX2_deliver wsX2_requireIndex := goodIn_ca (goodIn_r _ [15, 16, 17, 14, 18, 19, 20] (by decide +kernel) (by decide +kernel)) (goodIn_sub (fun _ h => List.mem_cons_of_mem _ (List.mem_append_right _ h)) (by decide +kernel))
set_option maxRecDepth 20000 in
theorem gX2_deliver_X2_requireIndex : GoodIn wsX2_deliver (va_wsS RX2 56 yX2_requireIndex wsX2_requireIndex) := goodIn_app (goodIn_of _ (by decide +kernel)) ggX2_deliver_X2_requireIndex
set_option maxRecDepth 20000 in
theorem ggX2_deliver_Jx4a65c_remove_915e3 : GoodIn wsX2_deliver wsJx4a65c_remove_915e3 := goodIn_r _ [24, 11, 25, 26, 27, 28, 29, 30, 31, 32, 33, 34, 35, 36, 9, 37, 38, 39, 40, 41, 42, 43, 71, 72, 73] (by decide +kernel) (by decide +kernel)
set_option maxRecDepth 20000 in
theorem gX2_deliver_Jx4a65c_remove_915e3 : GoodIn wsX2_deliver (wsV RX2 94 RJx4a65c yJx4a65c_remove_915e3 wsJx4a65c_remove_915e3) := goodIn_app (goodIn_of _ (by decide +kernel)) ggX2_deliver_Jx4a65c_remove_915e3
set_option maxRecDepth 20000 in
theorem ggX2_deliver_X0_merge : GoodIn wsX2_deliver wsX0_merge := goodIn_r _ [48, 49, 50, 51, 52, 53, 54, 55, 56, 57, 58, 59, 60, 61, 47, 62, 63, 64, 74, 75, 76, 77, 78] (by decide +kernel) (by decide +kernel)
set_option maxRecDepth 20000 in
theorem gX2_deliver_X0_merge : GoodIn wsX2_deliver (wsV RX2 105 RX0 yX0_merge wsX0_merge) := goodIn_app (goodIn_of _ (by decide +kernel)) ggX2_deliver_X0_merge
theorem dX2_deliver_0 : decode cX2_deliver 0 = .ok (.iload_n 1, 1) := by decide +kernel
theorem dX2_deliver_1 : decode cX2_deliver 1 = .ok (.aload_n 0, 1) := by decide +kernel
theorem dX2_deliver_2 : decode cX2_deliver 2 = .ok (.getfield 19, 3) := by decide +kernel
theorem dX2_deliver_5 : decode cX2_deliver 5 = .ok (.invokevirtual 74, 3) := by decide +kernel
theorem dX2_deliver_8 : decode cX2_deliver 8 = .ok (.invokestatic 56, 3) := by decide +kernel
theorem dX2_deliver_11 : decode cX2_deliver 11 = .ok (.aload_n 0, 1) := by decide +kernel
theorem dX2_deliver_12 : decode cX2_deliver 12 = .ok (.getfield 19, 3) := by decide +kernel
theorem dX2_deliver_15 : decode cX2_deliver 15 = .ok (.iload_n 1, 1) := by decide +kernel
theorem dX2_deliver_16 : decode cX2_deliver 16 = .ok (.invokevirtual 94, 3) := by decide +kernel
theorem dX2_deliver_19 : decode cX2_deliver 19 = .ok (.checkcast 81, 3) := by decide +kernel
theorem dX2_deliver_22 : decode cX2_deliver 22 = .ok (.astore_n 2, 1) := by decide +kernel
theorem dX2_deliver_23 : decode cX2_deliver 23 = .ok (.aload_n 0, 1) := by decide +kernel
theorem dX2_deliver_24 : decode cX2_deliver 24 = .ok (.getfield 11, 3) := by decide +kernel
theorem dX2_deliver_27 : decode cX2_deliver 27 = .ok (.aload_n 2, 1) := by decide +kernel
theorem dX2_deliver_28 : decode cX2_deliver 28 = .ok (.getfield 98, 3) := by decide +kernel
theorem dX2_deliver_31 : decode cX2_deliver 31 = .ok (.aaload, 1) := by decide +kernel
theorem dX2_deliver_32 : decode cX2_deliver 32 = .ok (.aload_n 2, 1) := by decide +kernel
theorem dX2_deliver_33 : decode cX2_deliver 33 = .ok (.getfield 101, 3) := by decide +kernel
theorem dX2_deliver_36 : decode cX2_deliver 36 = .ok (.invokevirtual 105, 3) := by decide +kernel
theorem dX2_deliver_39 : decode cX2_deliver 39 = .ok (.ireturn, 1) := by decide +kernel
set_option maxRecDepth 20000 in
theorem ggX2_drop_Jx4a65c_size_8abf5 : GoodIn wsX2_drop wsJx4a65c_size_8abf5 := goodIn_r _ [8, 9, 48, 49, 50] (by decide +kernel) (by decide +kernel)
set_option maxRecDepth 20000 in
theorem gX2_drop_Jx4a65c_size_8abf5 : GoodIn wsX2_drop (wsV RX2 74 RJx4a65c yJx4a65c_size_8abf5 wsJx4a65c_size_8abf5) := goodIn_app (goodIn_of _ (by decide +kernel)) ggX2_drop_Jx4a65c_size_8abf5
set_option maxRecDepth 20000 in
theorem ggX2_drop_X2_requireIndex : GoodIn wsX2_drop wsX2_requireIndex := goodIn_ca (goodIn_r _ [13, 14, 15, 12, 16, 17, 18] (by decide +kernel) (by decide +kernel)) (goodIn_sub (fun _ h => List.mem_cons_of_mem _ (List.mem_append_right _ h)) (by decide +kernel))
set_option maxRecDepth 20000 in
theorem gX2_drop_X2_requireIndex : GoodIn wsX2_drop (va_wsS RX2 56 yX2_requireIndex wsX2_requireIndex) := goodIn_app (goodIn_of _ (by decide +kernel)) ggX2_drop_X2_requireIndex
set_option maxRecDepth 20000 in
theorem ggX2_drop_Jx4a65c_remove_915e3 : GoodIn wsX2_drop wsJx4a65c_remove_915e3 := goodIn_r _ [22, 9, 23, 24, 25, 26, 27, 28, 29, 30, 31, 32, 33, 34, 7, 35, 36, 37, 38, 39, 40, 41, 48, 49, 50] (by decide +kernel) (by decide +kernel)
set_option maxRecDepth 20000 in
theorem gX2_drop_Jx4a65c_remove_915e3 : GoodIn wsX2_drop (wsV RX2 94 RJx4a65c yJx4a65c_remove_915e3 wsJx4a65c_remove_915e3) := goodIn_app (goodIn_of _ (by decide +kernel)) ggX2_drop_Jx4a65c_remove_915e3
theorem dX2_drop_0 : decode cX2_drop 0 = .ok (.iload_n 1, 1) := by decide +kernel
theorem dX2_drop_1 : decode cX2_drop 1 = .ok (.aload_n 0, 1) := by decide +kernel
theorem dX2_drop_2 : decode cX2_drop 2 = .ok (.getfield 19, 3) := by decide +kernel
theorem dX2_drop_5 : decode cX2_drop 5 = .ok (.invokevirtual 74, 3) := by decide +kernel
theorem dX2_drop_8 : decode cX2_drop 8 = .ok (.invokestatic 56, 3) := by decide +kernel
theorem dX2_drop_11 : decode cX2_drop 11 = .ok (.aload_n 0, 1) := by decide +kernel
theorem dX2_drop_12 : decode cX2_drop 12 = .ok (.getfield 19, 3) := by decide +kernel
theorem dX2_drop_15 : decode cX2_drop 15 = .ok (.iload_n 1, 1) := by decide +kernel
theorem dX2_drop_16 : decode cX2_drop 16 = .ok (.invokevirtual 94, 3) := by decide +kernel
theorem dX2_drop_19 : decode cX2_drop 19 = .ok (.checkcast 81, 3) := by decide +kernel
theorem dX2_drop_22 : decode cX2_drop 22 = .ok (.getfield 98, 3) := by decide +kernel
theorem dX2_drop_25 : decode cX2_drop 25 = .ok (.ireturn, 1) := by decide +kernel
set_option maxRecDepth 20000 in
theorem ggX2_copy_Jx4a65c_size_8abf5 : GoodIn wsX2_copy wsJx4a65c_size_8abf5 := goodIn_r _ [13, 14, 109, 110, 111] (by decide +kernel) (by decide +kernel)
set_option maxRecDepth 20000 in
theorem gX2_copy_Jx4a65c_size_8abf5 : GoodIn wsX2_copy (wsV RX2 74 RJx4a65c yJx4a65c_size_8abf5 wsJx4a65c_size_8abf5) := goodIn_app (goodIn_of _ (by decide +kernel)) ggX2_copy_Jx4a65c_size_8abf5
set_option maxRecDepth 20000 in
theorem ggX2_copy_X2_requireIndex : GoodIn wsX2_copy wsX2_requireIndex := goodIn_ca (goodIn_r _ [18, 19, 20, 17, 21, 22, 23] (by decide +kernel) (by decide +kernel)) (goodIn_sub (fun _ h => List.mem_cons_of_mem _ (List.mem_append_right _ h)) (by decide +kernel))
set_option maxRecDepth 20000 in
theorem gX2_copy_X2_requireIndex : GoodIn wsX2_copy (va_wsS RX2 56 yX2_requireIndex wsX2_requireIndex) := goodIn_app (goodIn_of _ (by decide +kernel)) ggX2_copy_X2_requireIndex
set_option maxRecDepth 20000 in
theorem ggX2_copy_Jx4a65c_get_915e3 : GoodIn wsX2_copy wsJx4a65c_get_915e3 := goodIn_r _ [27, 14, 28, 29, 30, 31, 32, 33, 34, 35, 36, 37, 38, 12, 39, 40, 109, 110, 111] (by decide +kernel) (by decide +kernel)
set_option maxRecDepth 20000 in
theorem gX2_copy_Jx4a65c_get_915e3 : GoodIn wsX2_copy (wsV RX2 109 RJx4a65c yJx4a65c_get_915e3 wsJx4a65c_get_915e3) := goodIn_app (goodIn_of _ (by decide +kernel)) ggX2_copy_Jx4a65c_get_915e3
set_option maxRecDepth 20000 in
theorem ggX2_copy_X1_init : GoodIn wsX2_copy wsX1_init := goodIn_r _ [43, 44, 45, 46, 47, 48, 49, 106, 107, 108] (by decide +kernel) (by decide +kernel)
set_option maxRecDepth 20000 in
theorem gX2_copy_X1_init : GoodIn wsX2_copy (wsX1_init) := ggX2_copy_X1_init
set_option maxRecDepth 20000 in
theorem ggX2_copy_Jx4a65c_add_9ea2d : GoodIn wsX2_copy wsJx4a65c_add_9ea2d := goodIn_r _ [53, 54, 55, 40, 14, 56, 57, 58, 12, 59, 60, 61, 62, 63, 64, 65, 66, 67, 68, 69, 70, 71, 72, 73, 74, 75, 76, 77, 78, 79, 80, 81, 82, 83, 84, 85, 86, 87, 88, 89, 90, 91, 92, 93, 94, 95, 96, 97, 98, 99, 100, 101, 102, 109, 110, 111] (by decide +kernel) (by decide +kernel)
set_option maxRecDepth 20000 in
theorem gX2_copy_Jx4a65c_add_9ea2d : GoodIn wsX2_copy (wsV RX2 90 RJx4a65c yJx4a65c_add_9ea2d wsJx4a65c_add_9ea2d) := goodIn_app (goodIn_of _ (by decide +kernel)) ggX2_copy_Jx4a65c_add_9ea2d
theorem dX2_copy_0 : decode cX2_copy 0 = .ok (.iload_n 1, 1) := by decide +kernel
theorem dX2_copy_1 : decode cX2_copy 1 = .ok (.aload_n 0, 1) := by decide +kernel
theorem dX2_copy_2 : decode cX2_copy 2 = .ok (.getfield 19, 3) := by decide +kernel
theorem dX2_copy_5 : decode cX2_copy 5 = .ok (.invokevirtual 74, 3) := by decide +kernel
theorem dX2_copy_8 : decode cX2_copy 8 = .ok (.invokestatic 56, 3) := by decide +kernel
theorem dX2_copy_11 : decode cX2_copy 11 = .ok (.aload_n 0, 1) := by decide +kernel
theorem dX2_copy_12 : decode cX2_copy 12 = .ok (.getfield 19, 3) := by decide +kernel
theorem dX2_copy_15 : decode cX2_copy 15 = .ok (.invokevirtual 74, 3) := by decide +kernel
theorem dX2_copy_18 : decode cX2_copy 18 = .ok (.bipush 100, 2) := by decide +kernel
theorem dX2_copy_20 : decode cX2_copy 20 = .ok (.if_icmp .lt 5, 3) := by decide +kernel
theorem dX2_copy_23 : decode cX2_copy 23 = .ok (.iconst 0, 1) := by decide +kernel
theorem dX2_copy_24 : decode cX2_copy 24 = .ok (.ireturn, 1) := by decide +kernel
theorem dX2_copy_25 : decode cX2_copy 25 = .ok (.aload_n 0, 1) := by decide +kernel
theorem dX2_copy_26 : decode cX2_copy 26 = .ok (.getfield 19, 3) := by decide +kernel
theorem dX2_copy_29 : decode cX2_copy 29 = .ok (.iload_n 1, 1) := by decide +kernel
theorem dX2_copy_30 : decode cX2_copy 30 = .ok (.invokevirtual 109, 3) := by decide +kernel
theorem dX2_copy_33 : decode cX2_copy 33 = .ok (.checkcast 81, 3) := by decide +kernel
theorem dX2_copy_36 : decode cX2_copy 36 = .ok (.astore_n 2, 1) := by decide +kernel
theorem dX2_copy_37 : decode cX2_copy 37 = .ok (.aload_n 0, 1) := by decide +kernel
theorem dX2_copy_38 : decode cX2_copy 38 = .ok (.getfield 19, 3) := by decide +kernel
theorem dX2_copy_41 : decode cX2_copy 41 = .ok (.new 81, 3) := by decide +kernel
theorem dX2_copy_44 : decode cX2_copy 44 = .ok (.dup, 1) := by decide +kernel
theorem dX2_copy_45 : decode cX2_copy 45 = .ok (.aload_n 2, 1) := by decide +kernel
theorem dX2_copy_46 : decode cX2_copy 46 = .ok (.getfield 112, 3) := by decide +kernel
theorem dX2_copy_49 : decode cX2_copy 49 = .ok (.aload_n 2, 1) := by decide +kernel
theorem dX2_copy_50 : decode cX2_copy 50 = .ok (.getfield 98, 3) := by decide +kernel
theorem dX2_copy_53 : decode cX2_copy 53 = .ok (.aload_n 2, 1) := by decide +kernel
theorem dX2_copy_54 : decode cX2_copy 54 = .ok (.getfield 101, 3) := by decide +kernel
theorem dX2_copy_57 : decode cX2_copy 57 = .ok (.invokespecial 87, 3) := by decide +kernel
theorem dX2_copy_60 : decode cX2_copy 60 = .ok (.invokevirtual 90, 3) := by decide +kernel
theorem dX2_copy_63 : decode cX2_copy 63 = .ok (.pop, 1) := by decide +kernel
theorem dX2_copy_64 : decode cX2_copy 64 = .ok (.iconst 1, 1) := by decide +kernel
theorem dX2_copy_65 : decode cX2_copy 65 = .ok (.ireturn, 1) := by decide +kernel
set_option maxRecDepth 20000 in
theorem ggX2_turn_Jx4a65c_size_8abf5 : GoodIn wsX2_turn wsJx4a65c_size_8abf5 := goodIn_r _ [8, 9, 47, 48, 49] (by decide +kernel) (by decide +kernel)
set_option maxRecDepth 20000 in
theorem gX2_turn_Jx4a65c_size_8abf5 : GoodIn wsX2_turn (wsV RX2 74 RJx4a65c yJx4a65c_size_8abf5 wsJx4a65c_size_8abf5) := goodIn_app (goodIn_of _ (by decide +kernel)) ggX2_turn_Jx4a65c_size_8abf5
set_option maxRecDepth 20000 in
theorem ggX2_turn_X2_requireIndex : GoodIn wsX2_turn wsX2_requireIndex := goodIn_ca (goodIn_r _ [13, 14, 15, 12, 16, 17, 18] (by decide +kernel) (by decide +kernel)) (goodIn_sub (fun _ h => List.mem_cons_of_mem _ (List.mem_append_right _ h)) (by decide +kernel))
set_option maxRecDepth 20000 in
theorem gX2_turn_X2_requireIndex : GoodIn wsX2_turn (va_wsS RX2 56 yX2_requireIndex wsX2_requireIndex) := goodIn_app (goodIn_of _ (by decide +kernel)) ggX2_turn_X2_requireIndex
set_option maxRecDepth 20000 in
theorem ggX2_turn_X2_requireReplica : GoodIn wsX2_turn wsX2_requireReplica := goodIn_ca (goodIn_r _ [22, 23, 10, 11, 12, 13, 14, 15, 16, 17, 18, 41, 42, 43] (by decide +kernel) (by decide +kernel)) (goodIn_sub (fun _ h => List.mem_cons_of_mem _ (List.mem_append_right _ h)) (by decide +kernel))
set_option maxRecDepth 20000 in
theorem gX2_turn_X2_requireReplica : GoodIn wsX2_turn (wsV RX2 52 RX2 yX2_requireReplica wsX2_requireReplica) := goodIn_app (goodIn_of _ (by decide +kernel)) ggX2_turn_X2_requireReplica
set_option maxRecDepth 20000 in
theorem ggX2_turn_Jx4a65c_get_915e3 : GoodIn wsX2_turn wsJx4a65c_get_915e3 := goodIn_r _ [27, 9, 28, 29, 30, 31, 32, 33, 34, 35, 36, 37, 38, 7, 39, 40, 47, 48, 49] (by decide +kernel) (by decide +kernel)
set_option maxRecDepth 20000 in
theorem gX2_turn_Jx4a65c_get_915e3 : GoodIn wsX2_turn (wsV RX2 109 RJx4a65c yJx4a65c_get_915e3 wsJx4a65c_get_915e3) := goodIn_app (goodIn_of _ (by decide +kernel)) ggX2_turn_Jx4a65c_get_915e3
theorem dX2_turn_0 : decode cX2_turn 0 = .ok (.iload_n 1, 1) := by decide +kernel
theorem dX2_turn_1 : decode cX2_turn 1 = .ok (.aload_n 0, 1) := by decide +kernel
theorem dX2_turn_2 : decode cX2_turn 2 = .ok (.getfield 19, 3) := by decide +kernel
theorem dX2_turn_5 : decode cX2_turn 5 = .ok (.invokevirtual 74, 3) := by decide +kernel
theorem dX2_turn_8 : decode cX2_turn 8 = .ok (.invokestatic 56, 3) := by decide +kernel
theorem dX2_turn_11 : decode cX2_turn 11 = .ok (.aload_n 0, 1) := by decide +kernel
theorem dX2_turn_12 : decode cX2_turn 12 = .ok (.iload_n 2, 1) := by decide +kernel
theorem dX2_turn_13 : decode cX2_turn 13 = .ok (.invokevirtual 52, 3) := by decide +kernel
theorem dX2_turn_16 : decode cX2_turn 16 = .ok (.aload_n 0, 1) := by decide +kernel
theorem dX2_turn_17 : decode cX2_turn 17 = .ok (.getfield 19, 3) := by decide +kernel
theorem dX2_turn_20 : decode cX2_turn 20 = .ok (.iload_n 1, 1) := by decide +kernel
theorem dX2_turn_21 : decode cX2_turn 21 = .ok (.invokevirtual 109, 3) := by decide +kernel
theorem dX2_turn_24 : decode cX2_turn 24 = .ok (.checkcast 81, 3) := by decide +kernel
theorem dX2_turn_27 : decode cX2_turn 27 = .ok (.iload_n 2, 1) := by decide +kernel
theorem dX2_turn_28 : decode cX2_turn 28 = .ok (.putfield 98, 3) := by decide +kernel
theorem dX2_turn_31 : decode cX2_turn 31 = .ok (.return_, 1) := by decide +kernel
set_option maxRecDepth 20000 in
theorem ggX2_contains_X2_requireElement : GoodIn wsX2_contains wsX2_requireElement := goodIn_ca (goodIn_r _ [6, 7, 8, 9, 5, 10, 11, 12, 13, 14, 15, 16, 17, 18, 19, 29, 30, 31] (by decide +kernel) (by decide +kernel)) (goodIn_sub (fun _ h => List.mem_cons_of_mem _ (List.mem_append_right _ h)) (by decide +kernel))
set_option maxRecDepth 20000 in
theorem gX2_contains_X2_requireElement : GoodIn wsX2_contains (wsV RX2 37 RX2 yX2_requireElement wsX2_requireElement) := goodIn_app (goodIn_of _ (by decide +kernel)) ggX2_contains_X2_requireElement
set_option maxRecDepth 20000 in
theorem ggX2_contains_X2_placeOfElement : GoodIn wsX2_contains wsX2_placeOfElement := goodIn_r _ [22] (by decide +kernel) (by decide +kernel)
set_option maxRecDepth 20000 in
theorem gX2_contains_X2_placeOfElement : GoodIn wsX2_contains (va_wsS RX2 41 yX2_placeOfElement wsX2_placeOfElement) := goodIn_app (goodIn_of _ (by decide +kernel)) ggX2_contains_X2_placeOfElement
set_option maxRecDepth 20000 in
theorem ggX2_contains_X0_dotsAt : GoodIn wsX2_contains wsX0_dotsAt := goodIn_r _ [27, 28, 32, 33, 34, 35, 36] (by decide +kernel) (by decide +kernel)
set_option maxRecDepth 20000 in
theorem gX2_contains_X0_dotsAt : GoodIn wsX2_contains (wsV RX2 115 RX0 yX0_dotsAt wsX0_dotsAt) := goodIn_app (goodIn_of _ (by decide +kernel)) ggX2_contains_X0_dotsAt
theorem dX2_contains_0 : decode cX2_contains 0 = .ok (.aload_n 0, 1) := by decide +kernel
theorem dX2_contains_1 : decode cX2_contains 1 = .ok (.iload_n 1, 1) := by decide +kernel
theorem dX2_contains_2 : decode cX2_contains 2 = .ok (.iload_n 2, 1) := by decide +kernel
theorem dX2_contains_3 : decode cX2_contains 3 = .ok (.iload_n 3, 1) := by decide +kernel
theorem dX2_contains_4 : decode cX2_contains 4 = .ok (.invokevirtual 37, 3) := by decide +kernel
theorem dX2_contains_7 : decode cX2_contains 7 = .ok (.aload_n 0, 1) := by decide +kernel
theorem dX2_contains_8 : decode cX2_contains 8 = .ok (.getfield 11, 3) := by decide +kernel
theorem dX2_contains_11 : decode cX2_contains 11 = .ok (.iload_n 1, 1) := by decide +kernel
theorem dX2_contains_12 : decode cX2_contains 12 = .ok (.aaload, 1) := by decide +kernel
theorem dX2_contains_13 : decode cX2_contains 13 = .ok (.iload_n 2, 1) := by decide +kernel
theorem dX2_contains_14 : decode cX2_contains 14 = .ok (.iload_n 3, 1) := by decide +kernel
theorem dX2_contains_15 : decode cX2_contains 15 = .ok (.invokestatic 41, 3) := by decide +kernel
theorem dX2_contains_18 : decode cX2_contains 18 = .ok (.invokevirtual 115, 3) := by decide +kernel
theorem dX2_contains_21 : decode cX2_contains 21 = .ok (.ifCond .le 7, 3) := by decide +kernel
theorem dX2_contains_24 : decode cX2_contains 24 = .ok (.iconst 1, 1) := by decide +kernel
theorem dX2_contains_25 : decode cX2_contains 25 = .ok (.goto 4, 3) := by decide +kernel
theorem dX2_contains_28 : decode cX2_contains 28 = .ok (.iconst 0, 1) := by decide +kernel
theorem dX2_contains_29 : decode cX2_contains 29 = .ok (.ireturn, 1) := by decide +kernel
set_option maxRecDepth 20000 in
theorem ggX2_size_X2_requireReplica : GoodIn wsX2_size wsX2_requireReplica := goodIn_ca (goodIn_r _ [6, 7, 8, 9, 5, 10, 11, 12, 13, 14, 15, 25, 26, 27] (by decide +kernel) (by decide +kernel)) (goodIn_sub (fun _ h => List.mem_cons_of_mem _ (List.mem_append_right _ h)) (by decide +kernel))
set_option maxRecDepth 20000 in
theorem gX2_size_X2_requireReplica : GoodIn wsX2_size (wsV RX2 52 RX2 yX2_requireReplica wsX2_requireReplica) := goodIn_app (goodIn_of _ (by decide +kernel)) ggX2_size_X2_requireReplica
set_option maxRecDepth 20000 in
theorem ggX2_size_X2_requireIndex : GoodIn wsX2_size wsX2_requireIndex := goodIn_ca (goodIn_r _ [10, 11, 12, 5, 13, 14, 15] (by decide +kernel) (by decide +kernel)) (goodIn_sub (fun _ h => List.mem_cons_of_mem _ (List.mem_append_right _ h)) (by decide +kernel))
set_option maxRecDepth 20000 in
theorem gX2_size_X2_requireIndex : GoodIn wsX2_size (va_wsS RX2 56 yX2_requireIndex wsX2_requireIndex) := goodIn_app (goodIn_of _ (by decide +kernel)) ggX2_size_X2_requireIndex
set_option maxRecDepth 20000 in
theorem ggX2_size_X2_placeOfElement : GoodIn wsX2_size wsX2_placeOfElement := goodIn_r _ [18] (by decide +kernel) (by decide +kernel)
set_option maxRecDepth 20000 in
theorem gX2_size_X2_placeOfElement : GoodIn wsX2_size (va_wsS RX2 41 yX2_placeOfElement wsX2_placeOfElement) := goodIn_app (goodIn_of _ (by decide +kernel)) ggX2_size_X2_placeOfElement
set_option maxRecDepth 20000 in
theorem ggX2_size_X0_dotsAt : GoodIn wsX2_size wsX0_dotsAt := goodIn_r _ [23, 24, 28, 29, 30, 31, 32] (by decide +kernel) (by decide +kernel)
set_option maxRecDepth 20000 in
theorem gX2_size_X0_dotsAt : GoodIn wsX2_size (wsV RX2 115 RX0 yX0_dotsAt wsX0_dotsAt) := goodIn_app (goodIn_of _ (by decide +kernel)) ggX2_size_X0_dotsAt
theorem dX2_size_0 : decode cX2_size 0 = .ok (.aload_n 0, 1) := by decide +kernel
theorem dX2_size_1 : decode cX2_size 1 = .ok (.iload_n 1, 1) := by decide +kernel
theorem dX2_size_2 : decode cX2_size 2 = .ok (.invokevirtual 52, 3) := by decide +kernel
theorem dX2_size_5 : decode cX2_size 5 = .ok (.iload_n 2, 1) := by decide +kernel
theorem dX2_size_6 : decode cX2_size 6 = .ok (.iconst 4, 1) := by decide +kernel
theorem dX2_size_7 : decode cX2_size 7 = .ok (.invokestatic 56, 3) := by decide +kernel
theorem dX2_size_10 : decode cX2_size 10 = .ok (.iconst 0, 1) := by decide +kernel
theorem dX2_size_11 : decode cX2_size 11 = .ok (.istore_n 3, 1) := by decide +kernel
theorem dX2_size_12 : decode cX2_size 12 = .ok (.iconst 0, 1) := by decide +kernel
theorem dX2_size_13 : decode cX2_size 13 = .ok (.istore 4, 2) := by decide +kernel
theorem dX2_size_15 : decode cX2_size 15 = .ok (.iload 4, 2) := by decide +kernel
theorem dX2_size_17 : decode cX2_size 17 = .ok (.bipush 16, 2) := by decide +kernel
theorem dX2_size_19 : decode cX2_size 19 = .ok (.if_icmp .ge 30, 3) := by decide +kernel
theorem dX2_size_22 : decode cX2_size 22 = .ok (.aload_n 0, 1) := by decide +kernel
theorem dX2_size_23 : decode cX2_size 23 = .ok (.getfield 11, 3) := by decide +kernel
theorem dX2_size_26 : decode cX2_size 26 = .ok (.iload_n 1, 1) := by decide +kernel
theorem dX2_size_27 : decode cX2_size 27 = .ok (.aaload, 1) := by decide +kernel
theorem dX2_size_28 : decode cX2_size 28 = .ok (.iload_n 2, 1) := by decide +kernel
theorem dX2_size_29 : decode cX2_size 29 = .ok (.iload 4, 2) := by decide +kernel
theorem dX2_size_31 : decode cX2_size 31 = .ok (.invokestatic 41, 3) := by decide +kernel
theorem dX2_size_34 : decode cX2_size 34 = .ok (.invokevirtual 115, 3) := by decide +kernel
theorem dX2_size_37 : decode cX2_size 37 = .ok (.ifCond .le 6, 3) := by decide +kernel
theorem dX2_size_40 : decode cX2_size 40 = .ok (.iinc 3 1, 3) := by decide +kernel
theorem dX2_size_43 : decode cX2_size 43 = .ok (.iinc 4 1, 3) := by decide +kernel
theorem dX2_size_46 : decode cX2_size 46 = .ok (.goto (-31), 3) := by decide +kernel
theorem dX2_size_49 : decode cX2_size 49 = .ok (.iload_n 3, 1) := by decide +kernel
theorem dX2_size_50 : decode cX2_size 50 = .ok (.ireturn, 1) := by decide +kernel
set_option maxRecDepth 20000 in
theorem ggX2_dot_X2_requireElement : GoodIn wsX2_dot wsX2_requireElement := goodIn_ca (goodIn_r _ [6, 7, 8, 9, 5, 10, 11, 12, 13, 14, 15, 16, 17, 18, 19, 33, 34, 35] (by decide +kernel) (by decide +kernel)) (goodIn_sub (fun _ h => List.mem_cons_of_mem _ (List.mem_append_right _ h)) (by decide +kernel))
set_option maxRecDepth 20000 in
theorem gX2_dot_X2_requireElement : GoodIn wsX2_dot (wsV RX2 37 RX2 yX2_requireElement wsX2_requireElement) := goodIn_app (goodIn_of _ (by decide +kernel)) ggX2_dot_X2_requireElement
set_option maxRecDepth 20000 in
theorem ggX2_dot_X2_require : GoodIn wsX2_dot wsX2_require := goodIn_ca (goodIn_r _ [17, 18, 19] (by decide +kernel) (by decide +kernel)) (goodIn_sub (fun _ h => List.mem_cons_of_mem _ (List.mem_append_right _ h)) (by decide +kernel))
set_option maxRecDepth 20000 in
theorem gX2_dot_X2_require : GoodIn wsX2_dot (va_wsS RX2 27 yX2_require wsX2_require) := goodIn_app (goodIn_of _ (by decide +kernel)) ggX2_dot_X2_require
set_option maxRecDepth 20000 in
theorem ggX2_dot_X2_placeOfElement : GoodIn wsX2_dot wsX2_placeOfElement := goodIn_r _ [22] (by decide +kernel) (by decide +kernel)
set_option maxRecDepth 20000 in
theorem gX2_dot_X2_placeOfElement : GoodIn wsX2_dot (va_wsS RX2 41 yX2_placeOfElement wsX2_placeOfElement) := goodIn_app (goodIn_of _ (by decide +kernel)) ggX2_dot_X2_placeOfElement
set_option maxRecDepth 20000 in
theorem ggX2_dot_X0_makerOf : GoodIn wsX2_dot wsX0_makerOf := goodIn_r _ [27, 28, 36, 37, 38, 39, 40] (by decide +kernel) (by decide +kernel)
set_option maxRecDepth 20000 in
theorem gX2_dot_X0_makerOf : GoodIn wsX2_dot (wsV RX2 118 RX0 yX0_makerOf wsX0_makerOf) := goodIn_app (goodIn_of _ (by decide +kernel)) ggX2_dot_X0_makerOf
set_option maxRecDepth 20000 in
theorem ggX2_dot_X0_numberBy : GoodIn wsX2_dot wsX0_numberBy := goodIn_r _ [32, 28, 36, 37, 38, 39, 40] (by decide +kernel) (by decide +kernel)
set_option maxRecDepth 20000 in
theorem gX2_dot_X0_numberBy : GoodIn wsX2_dot (wsV RX2 121 RX0 yX0_numberBy wsX0_numberBy) := goodIn_app (goodIn_of _ (by decide +kernel)) ggX2_dot_X0_numberBy
theorem dX2_dot_0 : decode cX2_dot 0 = .ok (.aload_n 0, 1) := by decide +kernel
theorem dX2_dot_1 : decode cX2_dot 1 = .ok (.iload_n 1, 1) := by decide +kernel
theorem dX2_dot_2 : decode cX2_dot 2 = .ok (.iload_n 2, 1) := by decide +kernel
theorem dX2_dot_3 : decode cX2_dot 3 = .ok (.iload_n 3, 1) := by decide +kernel
theorem dX2_dot_4 : decode cX2_dot 4 = .ok (.invokevirtual 37, 3) := by decide +kernel
theorem dX2_dot_7 : decode cX2_dot 7 = .ok (.iload 5, 2) := by decide +kernel
theorem dX2_dot_9 : decode cX2_dot 9 = .ok (.ifCond .eq 9, 3) := by decide +kernel
theorem dX2_dot_12 : decode cX2_dot 12 = .ok (.iload 5, 2) := by decide +kernel
theorem dX2_dot_14 : decode cX2_dot 14 = .ok (.iconst 1, 1) := by decide +kernel
theorem dX2_dot_15 : decode cX2_dot 15 = .ok (.if_icmp .ne 7, 3) := by decide +kernel
theorem dX2_dot_18 : decode cX2_dot 18 = .ok (.iconst 1, 1) := by decide +kernel
theorem dX2_dot_19 : decode cX2_dot 19 = .ok (.goto 4, 3) := by decide +kernel
theorem dX2_dot_22 : decode cX2_dot 22 = .ok (.iconst 0, 1) := by decide +kernel
theorem dX2_dot_23 : decode cX2_dot 23 = .ok (.invokestatic 27, 3) := by decide +kernel
theorem dX2_dot_26 : decode cX2_dot 26 = .ok (.aload_n 0, 1) := by decide +kernel
theorem dX2_dot_27 : decode cX2_dot 27 = .ok (.getfield 11, 3) := by decide +kernel
theorem dX2_dot_30 : decode cX2_dot 30 = .ok (.iload_n 1, 1) := by decide +kernel
theorem dX2_dot_31 : decode cX2_dot 31 = .ok (.aaload, 1) := by decide +kernel
theorem dX2_dot_32 : decode cX2_dot 32 = .ok (.astore 6, 2) := by decide +kernel
theorem dX2_dot_34 : decode cX2_dot 34 = .ok (.iload_n 2, 1) := by decide +kernel
theorem dX2_dot_35 : decode cX2_dot 35 = .ok (.iload_n 3, 1) := by decide +kernel
theorem dX2_dot_36 : decode cX2_dot 36 = .ok (.invokestatic 41, 3) := by decide +kernel
theorem dX2_dot_39 : decode cX2_dot 39 = .ok (.istore 7, 2) := by decide +kernel
theorem dX2_dot_41 : decode cX2_dot 41 = .ok (.aload 6, 2) := by decide +kernel
theorem dX2_dot_43 : decode cX2_dot 43 = .ok (.iload 7, 2) := by decide +kernel
theorem dX2_dot_45 : decode cX2_dot 45 = .ok (.iload 4, 2) := by decide +kernel
theorem dX2_dot_47 : decode cX2_dot 47 = .ok (.invokevirtual 118, 3) := by decide +kernel
theorem dX2_dot_50 : decode cX2_dot 50 = .ok (.istore 8, 2) := by decide +kernel
theorem dX2_dot_52 : decode cX2_dot 52 = .ok (.iload 5, 2) := by decide +kernel
theorem dX2_dot_54 : decode cX2_dot 54 = .ok (.ifCond .ne 8, 3) := by decide +kernel
theorem dX2_dot_57 : decode cX2_dot 57 = .ok (.iload 8, 2) := by decide +kernel
theorem dX2_dot_59 : decode cX2_dot 59 = .ok (.goto 12, 3) := by decide +kernel
theorem dX2_dot_62 : decode cX2_dot 62 = .ok (.aload 6, 2) := by decide +kernel
theorem dX2_dot_64 : decode cX2_dot 64 = .ok (.iload 7, 2) := by decide +kernel
theorem dX2_dot_66 : decode cX2_dot 66 = .ok (.iload 8, 2) := by decide +kernel
theorem dX2_dot_68 : decode cX2_dot 68 = .ok (.invokevirtual 121, 3) := by decide +kernel
theorem dX2_dot_71 : decode cX2_dot 71 = .ok (.ireturn, 1) := by decide +kernel
set_option maxRecDepth 20000 in
theorem ggX2_value_X2_requireReplica : GoodIn wsX2_value wsX2_requireReplica := goodIn_ca (goodIn_r _ [7, 8, 9, 10, 6, 11, 12, 13, 14, 15, 16, 27, 28, 29] (by decide +kernel) (by decide +kernel)) (goodIn_sub (fun _ h => List.mem_cons_of_mem _ (List.mem_append_right _ h)) (by decide +kernel))
set_option maxRecDepth 20000 in
theorem gX2_value_X2_requireReplica : GoodIn wsX2_value (wsV RX2 52 RX2 yX2_requireReplica wsX2_requireReplica) := goodIn_app (goodIn_of _ (by decide +kernel)) ggX2_value_X2_requireReplica
set_option maxRecDepth 20000 in
theorem ggX2_value_X2_requireIndex : GoodIn wsX2_value wsX2_requireIndex := goodIn_ca (goodIn_r _ [11, 12, 13, 6, 14, 15, 16] (by decide +kernel) (by decide +kernel)) (goodIn_sub (fun _ h => List.mem_cons_of_mem _ (List.mem_append_right _ h)) (by decide +kernel))
set_option maxRecDepth 20000 in
theorem gX2_value_X2_requireIndex : GoodIn wsX2_value (va_wsS RX2 56 yX2_requireIndex wsX2_requireIndex) := goodIn_app (goodIn_of _ (by decide +kernel)) ggX2_value_X2_requireIndex
set_option maxRecDepth 20000 in
theorem ggX2_value_X2_require : GoodIn wsX2_value wsX2_require := goodIn_ca (goodIn_r _ [14, 15, 16] (by decide +kernel) (by decide +kernel)) (goodIn_sub (fun _ h => List.mem_cons_of_mem _ (List.mem_append_right _ h)) (by decide +kernel))
set_option maxRecDepth 20000 in
theorem gX2_value_X2_require : GoodIn wsX2_value (va_wsS RX2 27 yX2_require wsX2_require) := goodIn_app (goodIn_of _ (by decide +kernel)) ggX2_value_X2_require
set_option maxRecDepth 20000 in
theorem ggX2_value_X0_makerOf : GoodIn wsX2_value wsX0_makerOf := goodIn_r _ [21, 22, 30, 31, 32, 33, 34] (by decide +kernel) (by decide +kernel)
set_option maxRecDepth 20000 in
theorem gX2_value_X0_makerOf : GoodIn wsX2_value (wsV RX2 118 RX0 yX0_makerOf wsX0_makerOf) := goodIn_app (goodIn_of _ (by decide +kernel)) ggX2_value_X0_makerOf
set_option maxRecDepth 20000 in
theorem ggX2_value_X0_numberBy : GoodIn wsX2_value wsX0_numberBy := goodIn_r _ [26, 22, 30, 31, 32, 33, 34] (by decide +kernel) (by decide +kernel)
set_option maxRecDepth 20000 in
theorem gX2_value_X0_numberBy : GoodIn wsX2_value (wsV RX2 121 RX0 yX0_numberBy wsX0_numberBy) := goodIn_app (goodIn_of _ (by decide +kernel)) ggX2_value_X0_numberBy
theorem dX2_value_0 : decode cX2_value 0 = .ok (.aload_n 0, 1) := by decide +kernel
theorem dX2_value_1 : decode cX2_value 1 = .ok (.iload_n 1, 1) := by decide +kernel
theorem dX2_value_2 : decode cX2_value 2 = .ok (.invokevirtual 52, 3) := by decide +kernel
theorem dX2_value_5 : decode cX2_value 5 = .ok (.iload_n 2, 1) := by decide +kernel
theorem dX2_value_6 : decode cX2_value 6 = .ok (.iconst 4, 1) := by decide +kernel
theorem dX2_value_7 : decode cX2_value 7 = .ok (.invokestatic 56, 3) := by decide +kernel
theorem dX2_value_10 : decode cX2_value 10 = .ok (.iload 4, 2) := by decide +kernel
theorem dX2_value_12 : decode cX2_value 12 = .ok (.ifCond .eq 15, 3) := by decide +kernel
theorem dX2_value_15 : decode cX2_value 15 = .ok (.iload 4, 2) := by decide +kernel
theorem dX2_value_17 : decode cX2_value 17 = .ok (.iconst 1, 1) := by decide +kernel
theorem dX2_value_18 : decode cX2_value 18 = .ok (.if_icmp .eq 9, 3) := by decide +kernel
theorem dX2_value_21 : decode cX2_value 21 = .ok (.iload 4, 2) := by decide +kernel
theorem dX2_value_23 : decode cX2_value 23 = .ok (.iconst 2, 1) := by decide +kernel
theorem dX2_value_24 : decode cX2_value 24 = .ok (.if_icmp .ne 7, 3) := by decide +kernel
theorem dX2_value_27 : decode cX2_value 27 = .ok (.iconst 1, 1) := by decide +kernel
theorem dX2_value_28 : decode cX2_value 28 = .ok (.goto 4, 3) := by decide +kernel
theorem dX2_value_31 : decode cX2_value 31 = .ok (.iconst 0, 1) := by decide +kernel
theorem dX2_value_32 : decode cX2_value 32 = .ok (.invokestatic 27, 3) := by decide +kernel
theorem dX2_value_35 : decode cX2_value 35 = .ok (.aload_n 0, 1) := by decide +kernel
theorem dX2_value_36 : decode cX2_value 36 = .ok (.getfield 11, 3) := by decide +kernel
theorem dX2_value_39 : decode cX2_value 39 = .ok (.iload_n 1, 1) := by decide +kernel
theorem dX2_value_40 : decode cX2_value 40 = .ok (.aaload, 1) := by decide +kernel
theorem dX2_value_41 : decode cX2_value 41 = .ok (.astore 5, 2) := by decide +kernel
theorem dX2_value_43 : decode cX2_value 43 = .ok (.bipush 64, 2) := by decide +kernel
theorem dX2_value_45 : decode cX2_value 45 = .ok (.iload_n 2, 1) := by decide +kernel
theorem dX2_value_46 : decode cX2_value 46 = .ok (.iadd, 1) := by decide +kernel
theorem dX2_value_47 : decode cX2_value 47 = .ok (.istore 6, 2) := by decide +kernel
theorem dX2_value_49 : decode cX2_value 49 = .ok (.aload 5, 2) := by decide +kernel
theorem dX2_value_51 : decode cX2_value 51 = .ok (.iload 6, 2) := by decide +kernel
theorem dX2_value_53 : decode cX2_value 53 = .ok (.iload_n 3, 1) := by decide +kernel
theorem dX2_value_54 : decode cX2_value 54 = .ok (.invokevirtual 118, 3) := by decide +kernel
theorem dX2_value_57 : decode cX2_value 57 = .ok (.istore 7, 2) := by decide +kernel
theorem dX2_value_59 : decode cX2_value 59 = .ok (.iload 4, 2) := by decide +kernel
theorem dX2_value_61 : decode cX2_value 61 = .ok (.iconst 2, 1) := by decide +kernel
theorem dX2_value_62 : decode cX2_value 62 = .ok (.if_icmp .ne 27, 3) := by decide +kernel
theorem dX2_value_65 : decode cX2_value 65 = .ok (.iload 7, 2) := by decide +kernel
theorem dX2_value_67 : decode cX2_value 67 = .ok (.iconst (-1), 1) := by decide +kernel
theorem dX2_value_68 : decode cX2_value 68 = .ok (.if_icmp .ne 7, 3) := by decide +kernel
theorem dX2_value_71 : decode cX2_value 71 = .ok (.iconst 0, 1) := by decide +kernel
theorem dX2_value_72 : decode cX2_value 72 = .ok (.goto 16, 3) := by decide +kernel
theorem dX2_value_75 : decode cX2_value 75 = .ok (.aload 5, 2) := by decide +kernel
theorem dX2_value_77 : decode cX2_value 77 = .ok (.getfield 60, 3) := by decide +kernel
theorem dX2_value_80 : decode cX2_value 80 = .ok (.iload_n 2, 1) := by decide +kernel
theorem dX2_value_81 : decode cX2_value 81 = .ok (.bipush 6, 2) := by decide +kernel
theorem dX2_value_83 : decode cX2_value 83 = .ok (.imul, 1) := by decide +kernel
theorem dX2_value_84 : decode cX2_value 84 = .ok (.iload 7, 2) := by decide +kernel
theorem dX2_value_86 : decode cX2_value 86 = .ok (.iadd, 1) := by decide +kernel
theorem dX2_value_87 : decode cX2_value 87 = .ok (.iaload, 1) := by decide +kernel
theorem dX2_value_88 : decode cX2_value 88 = .ok (.ireturn, 1) := by decide +kernel
theorem dX2_value_89 : decode cX2_value 89 = .ok (.iload 4, 2) := by decide +kernel
theorem dX2_value_91 : decode cX2_value 91 = .ok (.ifCond .ne 8, 3) := by decide +kernel
theorem dX2_value_94 : decode cX2_value 94 = .ok (.iload 7, 2) := by decide +kernel
theorem dX2_value_96 : decode cX2_value 96 = .ok (.goto 12, 3) := by decide +kernel
theorem dX2_value_99 : decode cX2_value 99 = .ok (.aload 5, 2) := by decide +kernel
theorem dX2_value_101 : decode cX2_value 101 = .ok (.iload 6, 2) := by decide +kernel
theorem dX2_value_103 : decode cX2_value 103 = .ok (.iload 7, 2) := by decide +kernel
theorem dX2_value_105 : decode cX2_value 105 = .ok (.invokevirtual 121, 3) := by decide +kernel
theorem dX2_value_108 : decode cX2_value 108 = .ok (.ireturn, 1) := by decide +kernel
set_option maxRecDepth 20000 in
theorem ggX2_values_X2_requireReplica : GoodIn wsX2_values wsX2_requireReplica := goodIn_ca (goodIn_r _ [6, 7, 8, 9, 5, 10, 11, 12, 13, 14, 15, 22, 23, 24] (by decide +kernel) (by decide +kernel)) (goodIn_sub (fun _ h => List.mem_cons_of_mem _ (List.mem_append_right _ h)) (by decide +kernel))
set_option maxRecDepth 20000 in
theorem gX2_values_X2_requireReplica : GoodIn wsX2_values (wsV RX2 52 RX2 yX2_requireReplica wsX2_requireReplica) := goodIn_app (goodIn_of _ (by decide +kernel)) ggX2_values_X2_requireReplica
set_option maxRecDepth 20000 in
theorem ggX2_values_X2_requireIndex : GoodIn wsX2_values wsX2_requireIndex := goodIn_ca (goodIn_r _ [10, 11, 12, 5, 13, 14, 15] (by decide +kernel) (by decide +kernel)) (goodIn_sub (fun _ h => List.mem_cons_of_mem _ (List.mem_append_right _ h)) (by decide +kernel))
set_option maxRecDepth 20000 in
theorem gX2_values_X2_requireIndex : GoodIn wsX2_values (va_wsS RX2 56 yX2_requireIndex wsX2_requireIndex) := goodIn_app (goodIn_of _ (by decide +kernel)) ggX2_values_X2_requireIndex
set_option maxRecDepth 20000 in
theorem ggX2_values_X0_dotsAt : GoodIn wsX2_values wsX0_dotsAt := goodIn_r _ [20, 21, 25, 26, 27, 28, 29] (by decide +kernel) (by decide +kernel)
set_option maxRecDepth 20000 in
theorem gX2_values_X0_dotsAt : GoodIn wsX2_values (wsV RX2 115 RX0 yX0_dotsAt wsX0_dotsAt) := goodIn_app (goodIn_of _ (by decide +kernel)) ggX2_values_X0_dotsAt
theorem dX2_values_0 : decode cX2_values 0 = .ok (.aload_n 0, 1) := by decide +kernel
theorem dX2_values_1 : decode cX2_values 1 = .ok (.iload_n 1, 1) := by decide +kernel
theorem dX2_values_2 : decode cX2_values 2 = .ok (.invokevirtual 52, 3) := by decide +kernel
theorem dX2_values_5 : decode cX2_values 5 = .ok (.iload_n 2, 1) := by decide +kernel
theorem dX2_values_6 : decode cX2_values 6 = .ok (.iconst 4, 1) := by decide +kernel
theorem dX2_values_7 : decode cX2_values 7 = .ok (.invokestatic 56, 3) := by decide +kernel
theorem dX2_values_10 : decode cX2_values 10 = .ok (.aload_n 0, 1) := by decide +kernel
theorem dX2_values_11 : decode cX2_values 11 = .ok (.getfield 11, 3) := by decide +kernel
theorem dX2_values_14 : decode cX2_values 14 = .ok (.iload_n 1, 1) := by decide +kernel
theorem dX2_values_15 : decode cX2_values 15 = .ok (.aaload, 1) := by decide +kernel
theorem dX2_values_16 : decode cX2_values 16 = .ok (.bipush 64, 2) := by decide +kernel
theorem dX2_values_18 : decode cX2_values 18 = .ok (.iload_n 2, 1) := by decide +kernel
theorem dX2_values_19 : decode cX2_values 19 = .ok (.iadd, 1) := by decide +kernel
theorem dX2_values_20 : decode cX2_values 20 = .ok (.invokevirtual 115, 3) := by decide +kernel
theorem dX2_values_23 : decode cX2_values 23 = .ok (.ireturn, 1) := by decide +kernel
set_option maxRecDepth 20000 in
theorem ggX2_total_X2_requireReplica : GoodIn wsX2_total wsX2_requireReplica := goodIn_ca (goodIn_r _ [6, 7, 8, 9, 5, 10, 11, 12, 13, 14, 15, 23, 24, 25] (by decide +kernel) (by decide +kernel)) (goodIn_sub (fun _ h => List.mem_cons_of_mem _ (List.mem_append_right _ h)) (by decide +kernel))
set_option maxRecDepth 20000 in
theorem gX2_total_X2_requireReplica : GoodIn wsX2_total (wsV RX2 52 RX2 yX2_requireReplica wsX2_requireReplica) := goodIn_app (goodIn_of _ (by decide +kernel)) ggX2_total_X2_requireReplica
set_option maxRecDepth 20000 in
theorem ggX2_total_X2_requireIndex : GoodIn wsX2_total wsX2_requireIndex := goodIn_ca (goodIn_r _ [10, 11, 12, 5, 13, 14, 15] (by decide +kernel) (by decide +kernel)) (goodIn_sub (fun _ h => List.mem_cons_of_mem _ (List.mem_append_right _ h)) (by decide +kernel))
set_option maxRecDepth 20000 in
theorem gX2_total_X2_requireIndex : GoodIn wsX2_total (va_wsS RX2 56 yX2_requireIndex wsX2_requireIndex) := goodIn_app (goodIn_of _ (by decide +kernel)) ggX2_total_X2_requireIndex
set_option maxRecDepth 20000 in
theorem ggX2_total_X0_worth : GoodIn wsX2_total wsX0_worth := goodIn_r _ [20, 21, 22, 26, 27, 28, 29, 30] (by decide +kernel) (by decide +kernel)
set_option maxRecDepth 20000 in
theorem gX2_total_X0_worth : GoodIn wsX2_total (wsV RX2 71 RX0 yX0_worth wsX0_worth) := goodIn_app (goodIn_of _ (by decide +kernel)) ggX2_total_X0_worth
theorem dX2_total_0 : decode cX2_total 0 = .ok (.aload_n 0, 1) := by decide +kernel
theorem dX2_total_1 : decode cX2_total 1 = .ok (.iload_n 1, 1) := by decide +kernel
theorem dX2_total_2 : decode cX2_total 2 = .ok (.invokevirtual 52, 3) := by decide +kernel
theorem dX2_total_5 : decode cX2_total 5 = .ok (.iload_n 2, 1) := by decide +kernel
theorem dX2_total_6 : decode cX2_total 6 = .ok (.iconst 4, 1) := by decide +kernel
theorem dX2_total_7 : decode cX2_total 7 = .ok (.invokestatic 56, 3) := by decide +kernel
theorem dX2_total_10 : decode cX2_total 10 = .ok (.aload_n 0, 1) := by decide +kernel
theorem dX2_total_11 : decode cX2_total 11 = .ok (.getfield 11, 3) := by decide +kernel
theorem dX2_total_14 : decode cX2_total 14 = .ok (.iload_n 1, 1) := by decide +kernel
theorem dX2_total_15 : decode cX2_total 15 = .ok (.aaload, 1) := by decide +kernel
theorem dX2_total_16 : decode cX2_total 16 = .ok (.iload_n 2, 1) := by decide +kernel
theorem dX2_total_17 : decode cX2_total 17 = .ok (.invokevirtual 71, 3) := by decide +kernel
theorem dX2_total_20 : decode cX2_total 20 = .ok (.ireturn, 1) := by decide +kernel
set_option maxRecDepth 20000 in
theorem ggX2_vector_X2_requireReplica : GoodIn wsX2_vector wsX2_requireReplica := goodIn_ca (goodIn_r _ [7, 8, 9, 10, 6, 11, 12, 13, 14, 15, 16, 17, 18, 19] (by decide +kernel) (by decide +kernel)) (goodIn_sub (fun _ h => List.mem_cons_of_mem _ (List.mem_append_right _ h)) (by decide +kernel))
set_option maxRecDepth 20000 in
theorem gX2_vector_X2_requireReplica : GoodIn wsX2_vector (wsV RX2 52 RX2 yX2_requireReplica wsX2_requireReplica) := goodIn_app (goodIn_of _ (by decide +kernel)) ggX2_vector_X2_requireReplica
theorem dX2_vector_0 : decode cX2_vector 0 = .ok (.aload_n 0, 1) := by decide +kernel
theorem dX2_vector_1 : decode cX2_vector 1 = .ok (.iload_n 1, 1) := by decide +kernel
theorem dX2_vector_2 : decode cX2_vector 2 = .ok (.invokevirtual 52, 3) := by decide +kernel
theorem dX2_vector_5 : decode cX2_vector 5 = .ok (.aload_n 0, 1) := by decide +kernel
theorem dX2_vector_6 : decode cX2_vector 6 = .ok (.iload_n 2, 1) := by decide +kernel
theorem dX2_vector_7 : decode cX2_vector 7 = .ok (.invokevirtual 52, 3) := by decide +kernel
theorem dX2_vector_10 : decode cX2_vector 10 = .ok (.aload_n 0, 1) := by decide +kernel
theorem dX2_vector_11 : decode cX2_vector 11 = .ok (.getfield 11, 3) := by decide +kernel
theorem dX2_vector_14 : decode cX2_vector 14 = .ok (.iload_n 1, 1) := by decide +kernel
theorem dX2_vector_15 : decode cX2_vector 15 = .ok (.aaload, 1) := by decide +kernel
theorem dX2_vector_16 : decode cX2_vector 16 = .ok (.getfield 124, 3) := by decide +kernel
theorem dX2_vector_19 : decode cX2_vector 19 = .ok (.iload_n 2, 1) := by decide +kernel
theorem dX2_vector_20 : decode cX2_vector 20 = .ok (.iaload, 1) := by decide +kernel
theorem dX2_vector_21 : decode cX2_vector 21 = .ok (.ireturn, 1) := by decide +kernel
set_option maxRecDepth 20000 in
theorem ggX2_same_X2_requireReplica : GoodIn wsX2_same wsX2_requireReplica := goodIn_ca (goodIn_r _ [6, 7, 8, 9, 5, 10, 11, 12, 13, 14, 15, 31, 32, 33] (by decide +kernel) (by decide +kernel)) (goodIn_sub (fun _ h => List.mem_cons_of_mem _ (List.mem_append_right _ h)) (by decide +kernel))
set_option maxRecDepth 20000 in
theorem gX2_same_X2_requireReplica : GoodIn wsX2_same (wsV RX2 52 RX2 yX2_requireReplica wsX2_requireReplica) := goodIn_app (goodIn_of _ (by decide +kernel)) ggX2_same_X2_requireReplica
set_option maxRecDepth 20000 in
theorem ggX2_same_X0_matches : GoodIn wsX2_same wsX0_matches := goodIn_r _ [20, 21, 22, 23, 24, 25, 26, 19, 27, 28, 29, 30, 34, 35, 36, 37, 38] (by decide +kernel) (by decide +kernel)
set_option maxRecDepth 20000 in
theorem gX2_same_X0_matches : GoodIn wsX2_same (wsV RX2 127 RX0 yX0_matches wsX0_matches) := goodIn_app (goodIn_of _ (by decide +kernel)) ggX2_same_X0_matches
theorem dX2_same_0 : decode cX2_same 0 = .ok (.aload_n 0, 1) := by decide +kernel
theorem dX2_same_1 : decode cX2_same 1 = .ok (.iload_n 1, 1) := by decide +kernel
theorem dX2_same_2 : decode cX2_same 2 = .ok (.invokevirtual 52, 3) := by decide +kernel
theorem dX2_same_5 : decode cX2_same 5 = .ok (.aload_n 0, 1) := by decide +kernel
theorem dX2_same_6 : decode cX2_same 6 = .ok (.iload_n 2, 1) := by decide +kernel
theorem dX2_same_7 : decode cX2_same 7 = .ok (.invokevirtual 52, 3) := by decide +kernel
theorem dX2_same_10 : decode cX2_same 10 = .ok (.aload_n 0, 1) := by decide +kernel
theorem dX2_same_11 : decode cX2_same 11 = .ok (.getfield 11, 3) := by decide +kernel
theorem dX2_same_14 : decode cX2_same 14 = .ok (.iload_n 1, 1) := by decide +kernel
theorem dX2_same_15 : decode cX2_same 15 = .ok (.aaload, 1) := by decide +kernel
theorem dX2_same_16 : decode cX2_same 16 = .ok (.aload_n 0, 1) := by decide +kernel
theorem dX2_same_17 : decode cX2_same 17 = .ok (.getfield 11, 3) := by decide +kernel
theorem dX2_same_20 : decode cX2_same 20 = .ok (.iload_n 2, 1) := by decide +kernel
theorem dX2_same_21 : decode cX2_same 21 = .ok (.aaload, 1) := by decide +kernel
theorem dX2_same_22 : decode cX2_same 22 = .ok (.invokevirtual 127, 3) := by decide +kernel
theorem dX2_same_25 : decode cX2_same 25 = .ok (.ireturn, 1) := by decide +kernel
set_option maxRecDepth 20000 in
theorem ggX2_message_Jx4a65c_size_8abf5 : GoodIn wsX2_message wsJx4a65c_size_8abf5 := goodIn_r _ [12, 13, 51, 52, 53] (by decide +kernel) (by decide +kernel)
set_option maxRecDepth 20000 in
theorem gX2_message_Jx4a65c_size_8abf5 : GoodIn wsX2_message (wsV RX2 74 RJx4a65c yJx4a65c_size_8abf5 wsJx4a65c_size_8abf5) := goodIn_app (goodIn_of _ (by decide +kernel)) ggX2_message_Jx4a65c_size_8abf5
set_option maxRecDepth 20000 in
theorem ggX2_message_X2_requireIndex : GoodIn wsX2_message wsX2_requireIndex := goodIn_ca (goodIn_r _ [17, 18, 19, 16, 20, 21, 22] (by decide +kernel) (by decide +kernel)) (goodIn_sub (fun _ h => List.mem_cons_of_mem _ (List.mem_append_right _ h)) (by decide +kernel))
set_option maxRecDepth 20000 in
theorem gX2_message_X2_requireIndex : GoodIn wsX2_message (va_wsS RX2 56 yX2_requireIndex wsX2_requireIndex) := goodIn_app (goodIn_of _ (by decide +kernel)) ggX2_message_X2_requireIndex
set_option maxRecDepth 20000 in
theorem ggX2_message_X2_require : GoodIn wsX2_message wsX2_require := goodIn_ca (goodIn_r _ [20, 21, 22] (by decide +kernel) (by decide +kernel)) (goodIn_sub (fun _ h => List.mem_cons_of_mem _ (List.mem_append_right _ h)) (by decide +kernel))
set_option maxRecDepth 20000 in
theorem gX2_message_X2_require : GoodIn wsX2_message (va_wsS RX2 27 yX2_require wsX2_require) := goodIn_app (goodIn_of _ (by decide +kernel)) ggX2_message_X2_require
set_option maxRecDepth 20000 in
theorem ggX2_message_Jx4a65c_get_915e3 : GoodIn wsX2_message wsJx4a65c_get_915e3 := goodIn_r _ [26, 13, 27, 28, 29, 30, 31, 32, 33, 34, 35, 36, 37, 11, 38, 39, 51, 52, 53] (by decide +kernel) (by decide +kernel)
set_option maxRecDepth 20000 in
theorem gX2_message_Jx4a65c_get_915e3 : GoodIn wsX2_message (wsV RX2 109 RJx4a65c yJx4a65c_get_915e3 wsJx4a65c_get_915e3) := goodIn_app (goodIn_of _ (by decide +kernel)) ggX2_message_Jx4a65c_get_915e3
theorem dX2_message_0 : decode cX2_message 0 = .ok (.iload_n 2, 1) := by decide +kernel
theorem dX2_message_1 : decode cX2_message 1 = .ok (.iconst (-1), 1) := by decide +kernel
theorem dX2_message_2 : decode cX2_message 2 = .ok (.if_icmp .ne 8, 3) := by decide +kernel
theorem dX2_message_5 : decode cX2_message 5 = .ok (.aload_n 0, 1) := by decide +kernel
theorem dX2_message_6 : decode cX2_message 6 = .ok (.getfield 23, 3) := by decide +kernel
theorem dX2_message_9 : decode cX2_message 9 = .ok (.ireturn, 1) := by decide +kernel
theorem dX2_message_10 : decode cX2_message 10 = .ok (.iload_n 2, 1) := by decide +kernel
theorem dX2_message_11 : decode cX2_message 11 = .ok (.bipush (-2), 2) := by decide +kernel
theorem dX2_message_13 : decode cX2_message 13 = .ok (.if_icmp .ne 11, 3) := by decide +kernel
theorem dX2_message_16 : decode cX2_message 16 = .ok (.aload_n 0, 1) := by decide +kernel
theorem dX2_message_17 : decode cX2_message 17 = .ok (.getfield 19, 3) := by decide +kernel
theorem dX2_message_20 : decode cX2_message 20 = .ok (.invokevirtual 74, 3) := by decide +kernel
theorem dX2_message_23 : decode cX2_message 23 = .ok (.ireturn, 1) := by decide +kernel
theorem dX2_message_24 : decode cX2_message 24 = .ok (.iload_n 1, 1) := by decide +kernel
theorem dX2_message_25 : decode cX2_message 25 = .ok (.aload_n 0, 1) := by decide +kernel
theorem dX2_message_26 : decode cX2_message 26 = .ok (.getfield 19, 3) := by decide +kernel
theorem dX2_message_29 : decode cX2_message 29 = .ok (.invokevirtual 74, 3) := by decide +kernel
theorem dX2_message_32 : decode cX2_message 32 = .ok (.invokestatic 56, 3) := by decide +kernel
theorem dX2_message_35 : decode cX2_message 35 = .ok (.iload_n 2, 1) := by decide +kernel
theorem dX2_message_36 : decode cX2_message 36 = .ok (.ifCond .lt 17, 3) := by decide +kernel
theorem dX2_message_39 : decode cX2_message 39 = .ok (.iload_n 2, 1) := by decide +kernel
theorem dX2_message_40 : decode cX2_message 40 = .ok (.iconst 2, 1) := by decide +kernel
theorem dX2_message_41 : decode cX2_message 41 = .ok (.aload_n 0, 1) := by decide +kernel
theorem dX2_message_42 : decode cX2_message 42 = .ok (.getfield 23, 3) := by decide +kernel
theorem dX2_message_45 : decode cX2_message 45 = .ok (.iadd, 1) := by decide +kernel
theorem dX2_message_46 : decode cX2_message 46 = .ok (.if_icmp .ge 7, 3) := by decide +kernel
theorem dX2_message_49 : decode cX2_message 49 = .ok (.iconst 1, 1) := by decide +kernel
theorem dX2_message_50 : decode cX2_message 50 = .ok (.goto 4, 3) := by decide +kernel
theorem dX2_message_53 : decode cX2_message 53 = .ok (.iconst 0, 1) := by decide +kernel
theorem dX2_message_54 : decode cX2_message 54 = .ok (.invokestatic 27, 3) := by decide +kernel
theorem dX2_message_57 : decode cX2_message 57 = .ok (.aload_n 0, 1) := by decide +kernel
theorem dX2_message_58 : decode cX2_message 58 = .ok (.getfield 19, 3) := by decide +kernel
theorem dX2_message_61 : decode cX2_message 61 = .ok (.iload_n 1, 1) := by decide +kernel
theorem dX2_message_62 : decode cX2_message 62 = .ok (.invokevirtual 109, 3) := by decide +kernel
theorem dX2_message_65 : decode cX2_message 65 = .ok (.checkcast 81, 3) := by decide +kernel
theorem dX2_message_68 : decode cX2_message 68 = .ok (.astore_n 3, 1) := by decide +kernel
theorem dX2_message_69 : decode cX2_message 69 = .ok (.iload_n 2, 1) := by decide +kernel
theorem dX2_message_70 : decode cX2_message 70 = .ok (.ifCond .ne 8, 3) := by decide +kernel
theorem dX2_message_73 : decode cX2_message 73 = .ok (.aload_n 3, 1) := by decide +kernel
theorem dX2_message_74 : decode cX2_message 74 = .ok (.getfield 112, 3) := by decide +kernel
theorem dX2_message_77 : decode cX2_message 77 = .ok (.ireturn, 1) := by decide +kernel
theorem dX2_message_78 : decode cX2_message 78 = .ok (.iload_n 2, 1) := by decide +kernel
theorem dX2_message_79 : decode cX2_message 79 = .ok (.iconst 1, 1) := by decide +kernel
theorem dX2_message_80 : decode cX2_message 80 = .ok (.if_icmp .ne 10, 3) := by decide +kernel
theorem dX2_message_83 : decode cX2_message 83 = .ok (.aload_n 3, 1) := by decide +kernel
theorem dX2_message_84 : decode cX2_message 84 = .ok (.getfield 98, 3) := by decide +kernel
theorem dX2_message_87 : decode cX2_message 87 = .ok (.goto 14, 3) := by decide +kernel
theorem dX2_message_90 : decode cX2_message 90 = .ok (.aload_n 3, 1) := by decide +kernel
theorem dX2_message_91 : decode cX2_message 91 = .ok (.getfield 101, 3) := by decide +kernel
theorem dX2_message_94 : decode cX2_message 94 = .ok (.getfield 124, 3) := by decide +kernel
theorem dX2_message_97 : decode cX2_message 97 = .ok (.iload_n 2, 1) := by decide +kernel
theorem dX2_message_98 : decode cX2_message 98 = .ok (.iconst 2, 1) := by decide +kernel
theorem dX2_message_99 : decode cX2_message 99 = .ok (.isub, 1) := by decide +kernel
theorem dX2_message_100 : decode cX2_message 100 = .ok (.iaload, 1) := by decide +kernel
theorem dX2_message_101 : decode cX2_message 101 = .ok (.ireturn, 1) := by decide +kernel
theorem dX2_placeOfElement_0 : decode cX2_placeOfElement 0 = .ok (.iload_n 0, 1) := by decide +kernel
theorem dX2_placeOfElement_1 : decode cX2_placeOfElement 1 = .ok (.bipush 16, 2) := by decide +kernel
theorem dX2_placeOfElement_3 : decode cX2_placeOfElement 3 = .ok (.imul, 1) := by decide +kernel
theorem dX2_placeOfElement_4 : decode cX2_placeOfElement 4 = .ok (.iload_n 1, 1) := by decide +kernel
theorem dX2_placeOfElement_5 : decode cX2_placeOfElement 5 = .ok (.iadd, 1) := by decide +kernel
theorem dX2_placeOfElement_6 : decode cX2_placeOfElement 6 = .ok (.ireturn, 1) := by decide +kernel
set_option maxRecDepth 20000 in
theorem ggX2_requireElement_X2_requireReplica : GoodIn wsX2_requireElement wsX2_requireReplica := goodIn_ca (goodIn_r _ [5, 6, 7, 8, 4, 9, 10, 11, 12, 13, 14, 15, 16, 17] (by decide +kernel) (by decide +kernel)) (goodIn_sub (fun _ h => List.mem_cons_of_mem _ (List.mem_append_right _ h)) (by decide +kernel))
set_option maxRecDepth 20000 in
theorem gX2_requireElement_X2_requireReplica : GoodIn wsX2_requireElement (wsV RX2 52 RX2 yX2_requireReplica wsX2_requireReplica) := goodIn_app (goodIn_of _ (by decide +kernel)) ggX2_requireElement_X2_requireReplica
set_option maxRecDepth 20000 in
theorem ggX2_requireElement_X2_requireIndex : GoodIn wsX2_requireElement wsX2_requireIndex := goodIn_ca (goodIn_r _ [9, 10, 11, 4, 12, 13, 14] (by decide +kernel) (by decide +kernel)) (goodIn_sub (fun _ h => List.mem_cons_of_mem _ (List.mem_append_right _ h)) (by decide +kernel))
set_option maxRecDepth 20000 in
theorem gX2_requireElement_X2_requireIndex : GoodIn wsX2_requireElement (va_wsS RX2 56 yX2_requireIndex wsX2_requireIndex) := goodIn_app (goodIn_of _ (by decide +kernel)) ggX2_requireElement_X2_requireIndex
theorem dX2_requireElement_0 : decode cX2_requireElement 0 = .ok (.aload_n 0, 1) := by decide +kernel
theorem dX2_requireElement_1 : decode cX2_requireElement 1 = .ok (.iload_n 1, 1) := by decide +kernel
theorem dX2_requireElement_2 : decode cX2_requireElement 2 = .ok (.invokevirtual 52, 3) := by decide +kernel
theorem dX2_requireElement_5 : decode cX2_requireElement 5 = .ok (.iload_n 2, 1) := by decide +kernel
theorem dX2_requireElement_6 : decode cX2_requireElement 6 = .ok (.iconst 4, 1) := by decide +kernel
theorem dX2_requireElement_7 : decode cX2_requireElement 7 = .ok (.invokestatic 56, 3) := by decide +kernel
theorem dX2_requireElement_10 : decode cX2_requireElement 10 = .ok (.iload_n 3, 1) := by decide +kernel
theorem dX2_requireElement_11 : decode cX2_requireElement 11 = .ok (.bipush 16, 2) := by decide +kernel
theorem dX2_requireElement_13 : decode cX2_requireElement 13 = .ok (.invokestatic 56, 3) := by decide +kernel
theorem dX2_requireElement_16 : decode cX2_requireElement 16 = .ok (.return_, 1) := by decide +kernel
set_option maxRecDepth 20000 in
theorem ggX2_requireReplica_X2_requireIndex : GoodIn wsX2_requireReplica wsX2_requireIndex := goodIn_ca (goodIn_r _ [5, 6, 7, 4, 8, 9, 10] (by decide +kernel) (by decide +kernel)) (goodIn_sub (fun _ h => List.mem_cons_of_mem _ (List.mem_append_right _ h)) (by decide +kernel))
set_option maxRecDepth 20000 in
theorem gX2_requireReplica_X2_requireIndex : GoodIn wsX2_requireReplica (va_wsS RX2 56 yX2_requireIndex wsX2_requireIndex) := goodIn_app (goodIn_of _ (by decide +kernel)) ggX2_requireReplica_X2_requireIndex
theorem dX2_requireReplica_0 : decode cX2_requireReplica 0 = .ok (.iload_n 1, 1) := by decide +kernel
theorem dX2_requireReplica_1 : decode cX2_requireReplica 1 = .ok (.aload_n 0, 1) := by decide +kernel
theorem dX2_requireReplica_2 : decode cX2_requireReplica 2 = .ok (.getfield 23, 3) := by decide +kernel
theorem dX2_requireReplica_5 : decode cX2_requireReplica 5 = .ok (.invokestatic 56, 3) := by decide +kernel
theorem dX2_requireReplica_8 : decode cX2_requireReplica 8 = .ok (.return_, 1) := by decide +kernel
set_option maxRecDepth 20000 in
theorem ggX2_requireIndex_X2_require : GoodIn wsX2_requireIndex wsX2_require := goodIn_ca (goodIn_r _ [4, 5, 6] (by decide +kernel) (by decide +kernel)) (goodIn_sub (fun _ h => List.mem_cons_of_mem _ (List.mem_append_right _ h)) (by decide +kernel))
set_option maxRecDepth 20000 in
theorem gX2_requireIndex_X2_require : GoodIn wsX2_requireIndex (va_wsS RX2 27 yX2_require wsX2_require) := goodIn_app (goodIn_of _ (by decide +kernel)) ggX2_requireIndex_X2_require
theorem dX2_requireIndex_0 : decode cX2_requireIndex 0 = .ok (.iload_n 0, 1) := by decide +kernel
theorem dX2_requireIndex_1 : decode cX2_requireIndex 1 = .ok (.ifCond .lt 12, 3) := by decide +kernel
theorem dX2_requireIndex_4 : decode cX2_requireIndex 4 = .ok (.iload_n 0, 1) := by decide +kernel
theorem dX2_requireIndex_5 : decode cX2_requireIndex 5 = .ok (.iload_n 1, 1) := by decide +kernel
theorem dX2_requireIndex_6 : decode cX2_requireIndex 6 = .ok (.if_icmp .ge 7, 3) := by decide +kernel
theorem dX2_requireIndex_9 : decode cX2_requireIndex 9 = .ok (.iconst 1, 1) := by decide +kernel
theorem dX2_requireIndex_10 : decode cX2_requireIndex 10 = .ok (.goto 4, 3) := by decide +kernel
theorem dX2_requireIndex_13 : decode cX2_requireIndex 13 = .ok (.iconst 0, 1) := by decide +kernel
theorem dX2_requireIndex_14 : decode cX2_requireIndex 14 = .ok (.invokestatic 27, 3) := by decide +kernel
theorem dX2_requireIndex_17 : decode cX2_requireIndex 17 = .ok (.return_, 1) := by decide +kernel
theorem dX2_require_0 : decode cX2_require 0 = .ok (.iload_n 0, 1) := by decide +kernel
theorem dX2_require_1 : decode cX2_require 1 = .ok (.ifCond .ne 11, 3) := by decide +kernel
theorem dX2_require_4 : decode cX2_require 4 = .ok (.new 131, 3) := by decide +kernel
theorem dX2_require_7 : decode cX2_require 7 = .ok (.dup, 1) := by decide +kernel
theorem dX2_require_8 : decode cX2_require 8 = .ok (.invokespecial 133, 3) := by decide +kernel
theorem dX2_require_11 : decode cX2_require 11 = .ok (.athrow, 1) := by decide +kernel
theorem dX2_require_12 : decode cX2_require 12 = .ok (.return_, 1) := by decide +kernel
theorem dX3_init_0 : decode cX3_init 0 = .ok (.aload_n 0, 1) := by decide +kernel
theorem dX3_init_1 : decode cX3_init 1 = .ok (.invokespecial 1, 3) := by decide +kernel
theorem dX3_init_4 : decode cX3_init 4 = .ok (.aload_n 0, 1) := by decide +kernel
theorem dX3_init_5 : decode cX3_init 5 = .ok (.iconst 2, 1) := by decide +kernel
theorem dX3_init_6 : decode cX3_init 6 = .ok (.putfield 7, 3) := by decide +kernel
theorem dX3_init_9 : decode cX3_init 9 = .ok (.aload_n 0, 1) := by decide +kernel
theorem dX3_init_10 : decode cX3_init 10 = .ok (.ldc 13, 2) := by decide +kernel
theorem dX3_init_12 : decode cX3_init 12 = .ok (.newarray .int, 2) := by decide +kernel
theorem dX3_init_14 : decode cX3_init 14 = .ok (.putfield 14, 3) := by decide +kernel
theorem dX3_init_17 : decode cX3_init 17 = .ok (.aload_n 0, 1) := by decide +kernel
theorem dX3_init_18 : decode cX3_init 18 = .ok (.sipush 2544, 3) := by decide +kernel
theorem dX3_init_21 : decode cX3_init 21 = .ok (.newarray .int, 2) := by decide +kernel
theorem dX3_init_23 : decode cX3_init 23 = .ok (.putfield 18, 3) := by decide +kernel
theorem dX3_init_26 : decode cX3_init 26 = .ok (.aload_n 0, 1) := by decide +kernel
theorem dX3_init_27 : decode cX3_init 27 = .ok (.sipush 5088, 3) := by decide +kernel
theorem dX3_init_30 : decode cX3_init 30 = .ok (.newarray .long, 2) := by decide +kernel
theorem dX3_init_32 : decode cX3_init 32 = .ok (.putfield 21, 3) := by decide +kernel
theorem dX3_init_35 : decode cX3_init 35 = .ok (.aload_n 0, 1) := by decide +kernel
theorem dX3_init_36 : decode cX3_init 36 = .ok (.bipush 100, 2) := by decide +kernel
theorem dX3_init_38 : decode cX3_init 38 = .ok (.newarray .int, 2) := by decide +kernel
theorem dX3_init_40 : decode cX3_init 40 = .ok (.putfield 25, 3) := by decide +kernel
theorem dX3_init_43 : decode cX3_init 43 = .ok (.aload_n 0, 1) := by decide +kernel
theorem dX3_init_44 : decode cX3_init 44 = .ok (.bipush 100, 2) := by decide +kernel
theorem dX3_init_46 : decode cX3_init 46 = .ok (.newarray .int, 2) := by decide +kernel
theorem dX3_init_48 : decode cX3_init 48 = .ok (.putfield 28, 3) := by decide +kernel
theorem dX3_init_51 : decode cX3_init 51 = .ok (.return_, 1) := by decide +kernel
theorem dX3_thrown_0 : decode cX3_thrown 0 = .ok (.aload_n 0, 1) := by decide +kernel
theorem dX3_thrown_1 : decode cX3_thrown 1 = .ok (.getfield 31, 3) := by decide +kernel
theorem dX3_thrown_4 : decode cX3_thrown 4 = .ok (.ireturn, 1) := by decide +kernel
theorem dX3_refuses_0 : decode cX3_refuses 0 = .ok (.aload_n 0, 1) := by decide +kernel
theorem dX3_refuses_1 : decode cX3_refuses 1 = .ok (.iload_n 1, 1) := by decide +kernel
theorem dX3_refuses_2 : decode cX3_refuses 2 = .ok (.putfield 31, 3) := by decide +kernel
theorem dX3_refuses_5 : decode cX3_refuses 5 = .ok (.iload_n 1, 1) := by decide +kernel
theorem dX3_refuses_6 : decode cX3_refuses 6 = .ok (.ifCond .le 7, 3) := by decide +kernel
theorem dX3_refuses_9 : decode cX3_refuses 9 = .ok (.iconst 1, 1) := by decide +kernel
theorem dX3_refuses_10 : decode cX3_refuses 10 = .ok (.goto 4, 3) := by decide +kernel
theorem dX3_refuses_13 : decode cX3_refuses 13 = .ok (.iconst 0, 1) := by decide +kernel
theorem dX3_refuses_14 : decode cX3_refuses 14 = .ok (.ireturn, 1) := by decide +kernel
theorem dX3_isReplica_0 : decode cX3_isReplica 0 = .ok (.iload_n 1, 1) := by decide +kernel
theorem dX3_isReplica_1 : decode cX3_isReplica 1 = .ok (.ifCond .lt 15, 3) := by decide +kernel
theorem dX3_isReplica_4 : decode cX3_isReplica 4 = .ok (.iload_n 1, 1) := by decide +kernel
theorem dX3_isReplica_5 : decode cX3_isReplica 5 = .ok (.aload_n 0, 1) := by decide +kernel
theorem dX3_isReplica_6 : decode cX3_isReplica 6 = .ok (.getfield 7, 3) := by decide +kernel
theorem dX3_isReplica_9 : decode cX3_isReplica 9 = .ok (.if_icmp .ge 7, 3) := by decide +kernel
theorem dX3_isReplica_12 : decode cX3_isReplica 12 = .ok (.iconst 1, 1) := by decide +kernel
theorem dX3_isReplica_13 : decode cX3_isReplica 13 = .ok (.goto 4, 3) := by decide +kernel
theorem dX3_isReplica_16 : decode cX3_isReplica 16 = .ok (.iconst 0, 1) := by decide +kernel
theorem dX3_isReplica_17 : decode cX3_isReplica 17 = .ok (.ireturn, 1) := by decide +kernel
set_option maxRecDepth 20000 in
theorem ggX3_isElement_X3_isReplica : GoodIn wsX3_isElement wsX3_isReplica := goodIn_r _ [5, 6, 7, 8, 9, 10, 11, 12, 13, 14] (by decide +kernel) (by decide +kernel)
set_option maxRecDepth 20000 in
theorem gX3_isElement_X3_isReplica : GoodIn wsX3_isElement (wsV RX3 34 RX3 yX3_isReplica wsX3_isReplica) := goodIn_app (goodIn_of _ (by decide +kernel)) ggX3_isElement_X3_isReplica
theorem dX3_isElement_0 : decode cX3_isElement 0 = .ok (.aload_n 0, 1) := by decide +kernel
theorem dX3_isElement_1 : decode cX3_isElement 1 = .ok (.iload_n 1, 1) := by decide +kernel
theorem dX3_isElement_2 : decode cX3_isElement 2 = .ok (.invokevirtual 34, 3) := by decide +kernel
theorem dX3_isElement_5 : decode cX3_isElement 5 = .ok (.ifCond .eq 26, 3) := by decide +kernel
theorem dX3_isElement_8 : decode cX3_isElement 8 = .ok (.iload_n 2, 1) := by decide +kernel
theorem dX3_isElement_9 : decode cX3_isElement 9 = .ok (.ifCond .lt 22, 3) := by decide +kernel
theorem dX3_isElement_12 : decode cX3_isElement 12 = .ok (.iload_n 2, 1) := by decide +kernel
theorem dX3_isElement_13 : decode cX3_isElement 13 = .ok (.iconst 4, 1) := by decide +kernel
theorem dX3_isElement_14 : decode cX3_isElement 14 = .ok (.if_icmp .ge 17, 3) := by decide +kernel
theorem dX3_isElement_17 : decode cX3_isElement 17 = .ok (.iload_n 3, 1) := by decide +kernel
theorem dX3_isElement_18 : decode cX3_isElement 18 = .ok (.ifCond .lt 13, 3) := by decide +kernel
theorem dX3_isElement_21 : decode cX3_isElement 21 = .ok (.iload_n 3, 1) := by decide +kernel
theorem dX3_isElement_22 : decode cX3_isElement 22 = .ok (.bipush 16, 2) := by decide +kernel
theorem dX3_isElement_24 : decode cX3_isElement 24 = .ok (.if_icmp .ge 7, 3) := by decide +kernel
theorem dX3_isElement_27 : decode cX3_isElement 27 = .ok (.iconst 1, 1) := by decide +kernel
theorem dX3_isElement_28 : decode cX3_isElement 28 = .ok (.goto 4, 3) := by decide +kernel
theorem dX3_isElement_31 : decode cX3_isElement 31 = .ok (.iconst 0, 1) := by decide +kernel
theorem dX3_isElement_32 : decode cX3_isElement 32 = .ok (.ireturn, 1) := by decide +kernel
set_option maxRecDepth 20000 in
theorem ggX3_isRegister_X3_isReplica : GoodIn wsX3_isRegister wsX3_isReplica := goodIn_r _ [5, 6, 7, 8, 9, 10, 11, 12, 13, 14] (by decide +kernel) (by decide +kernel)
set_option maxRecDepth 20000 in
theorem gX3_isRegister_X3_isReplica : GoodIn wsX3_isRegister (wsV RX3 34 RX3 yX3_isReplica wsX3_isReplica) := goodIn_app (goodIn_of _ (by decide +kernel)) ggX3_isRegister_X3_isReplica
theorem dX3_isRegister_0 : decode cX3_isRegister 0 = .ok (.aload_n 0, 1) := by decide +kernel
theorem dX3_isRegister_1 : decode cX3_isRegister 1 = .ok (.iload_n 1, 1) := by decide +kernel
theorem dX3_isRegister_2 : decode cX3_isRegister 2 = .ok (.invokevirtual 34, 3) := by decide +kernel
theorem dX3_isRegister_5 : decode cX3_isRegister 5 = .ok (.ifCond .eq 16, 3) := by decide +kernel
theorem dX3_isRegister_8 : decode cX3_isRegister 8 = .ok (.iload_n 2, 1) := by decide +kernel
theorem dX3_isRegister_9 : decode cX3_isRegister 9 = .ok (.ifCond .lt 12, 3) := by decide +kernel
theorem dX3_isRegister_12 : decode cX3_isRegister 12 = .ok (.iload_n 2, 1) := by decide +kernel
theorem dX3_isRegister_13 : decode cX3_isRegister 13 = .ok (.iconst 4, 1) := by decide +kernel
theorem dX3_isRegister_14 : decode cX3_isRegister 14 = .ok (.if_icmp .ge 7, 3) := by decide +kernel
theorem dX3_isRegister_17 : decode cX3_isRegister 17 = .ok (.iconst 1, 1) := by decide +kernel
theorem dX3_isRegister_18 : decode cX3_isRegister 18 = .ok (.goto 4, 3) := by decide +kernel
theorem dX3_isRegister_21 : decode cX3_isRegister 21 = .ok (.iconst 0, 1) := by decide +kernel
theorem dX3_isRegister_22 : decode cX3_isRegister 22 = .ok (.ireturn, 1) := by decide +kernel
theorem dX3_dots_0 : decode cX3_dots 0 = .ok (.sipush 414, 3) := by decide +kernel
theorem dX3_dots_3 : decode cX3_dots 3 = .ok (.iload_n 0, 1) := by decide +kernel
theorem dX3_dots_4 : decode cX3_dots 4 = .ok (.imul, 1) := by decide +kernel
theorem dX3_dots_5 : decode cX3_dots 5 = .ok (.bipush 6, 2) := by decide +kernel
theorem dX3_dots_7 : decode cX3_dots 7 = .ok (.iadd, 1) := by decide +kernel
theorem dX3_dots_8 : decode cX3_dots 8 = .ok (.bipush 6, 2) := by decide +kernel
theorem dX3_dots_10 : decode cX3_dots 10 = .ok (.iload_n 1, 1) := by decide +kernel
theorem dX3_dots_11 : decode cX3_dots 11 = .ok (.imul, 1) := by decide +kernel
theorem dX3_dots_12 : decode cX3_dots 12 = .ok (.iadd, 1) := by decide +kernel
theorem dX3_dots_13 : decode cX3_dots 13 = .ok (.ireturn, 1) := by decide +kernel
theorem dX3_vectorAt_0 : decode cX3_vectorAt 0 = .ok (.sipush 414, 3) := by decide +kernel
theorem dX3_vectorAt_3 : decode cX3_vectorAt 3 = .ok (.iload_n 0, 1) := by decide +kernel
theorem dX3_vectorAt_4 : decode cX3_vectorAt 4 = .ok (.imul, 1) := by decide +kernel
theorem dX3_vectorAt_5 : decode cX3_vectorAt 5 = .ok (.iload_n 1, 1) := by decide +kernel
theorem dX3_vectorAt_6 : decode cX3_vectorAt 6 = .ok (.iadd, 1) := by decide +kernel
theorem dX3_vectorAt_7 : decode cX3_vectorAt 7 = .ok (.ireturn, 1) := by decide +kernel
set_option maxRecDepth 20000 in
theorem ggX3_open_X3_refuses : GoodIn wsX3_open wsX3_refuses := goodIn_r _ [10, 11, 12, 13, 14, 15, 16, 17, 18, 19] (by decide +kernel) (by decide +kernel)
set_option maxRecDepth 20000 in
theorem gX3_open_X3_refuses : GoodIn wsX3_open (wsV RX3 38 RX3 yX3_refuses wsX3_refuses) := goodIn_app (goodIn_of _ (by decide +kernel)) ggX3_open_X3_refuses
theorem dX3_open_0 : decode cX3_open 0 = .ok (.aload_n 0, 1) := by decide +kernel
theorem dX3_open_1 : decode cX3_open 1 = .ok (.iload_n 1, 1) := by decide +kernel
theorem dX3_open_2 : decode cX3_open 2 = .ok (.iconst 2, 1) := by decide +kernel
theorem dX3_open_3 : decode cX3_open 3 = .ok (.if_icmp .lt 9, 3) := by decide +kernel
theorem dX3_open_6 : decode cX3_open 6 = .ok (.iload_n 1, 1) := by decide +kernel
theorem dX3_open_7 : decode cX3_open 7 = .ok (.bipush 6, 2) := by decide +kernel
theorem dX3_open_9 : decode cX3_open 9 = .ok (.if_icmp .le 7, 3) := by decide +kernel
theorem dX3_open_12 : decode cX3_open 12 = .ok (.iconst 1, 1) := by decide +kernel
theorem dX3_open_13 : decode cX3_open 13 = .ok (.goto 4, 3) := by decide +kernel
theorem dX3_open_16 : decode cX3_open 16 = .ok (.iconst 0, 1) := by decide +kernel
theorem dX3_open_17 : decode cX3_open 17 = .ok (.invokevirtual 38, 3) := by decide +kernel
theorem dX3_open_20 : decode cX3_open 20 = .ok (.ifCond .eq 4, 3) := by decide +kernel
