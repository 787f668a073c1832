theorem nmX0 : ∀ a, a < 5 → ∀ b, b < 5 → a ≠ b → (TX0 a).2.1 ≠ (TX0 b).2.1 := by decide +kernel
theorem tyX0_ok : ∀ k, k < 5 → parseFieldDescriptor (TX0 k).2.2.1 = some (tyX0 k) := by decide +kernel
theorem nmX1 : ∀ a, a < 3 → ∀ b, b < 3 → a ≠ b → (TX1 a).2.1 ≠ (TX1 b).2.1 := by decide +kernel
theorem tyX1_ok : ∀ k, k < 3 → parseFieldDescriptor (TX1 k).2.2.1 = some (tyX1 k) := by decide +kernel
theorem nmX2 : ∀ a, a < 3 → ∀ b, b < 3 → a ≠ b → (TX2 a).2.1 ≠ (TX2 b).2.1 := by decide +kernel
theorem tyX2_ok : ∀ k, k < 3 → parseFieldDescriptor (TX2 k).2.2.1 = some (tyX2 k) := by decide +kernel
theorem nmX3 : ∀ a, a < 8 → ∀ b, b < 8 → a ≠ b → (TX3 a).2.1 ≠ (TX3 b).2.1 := by decide +kernel
theorem tyX3_ok : ∀ k, k < 8 → parseFieldDescriptor (TX3 k).2.2.1 = some (tyX3 k) := by decide +kernel
theorem nmJx145de : ∀ a, a < 0 → ∀ b, b < 0 → a ≠ b → (TJx145de a).2.1 ≠ (TJx145de b).2.1 := by decide +kernel
theorem tyJx145de_ok : ∀ k, k < 0 → parseFieldDescriptor (TJx145de k).2.2.1 = some (tyJx145de k) := by decide +kernel
theorem nmJx8e188 : ∀ a, a < 0 → ∀ b, b < 0 → a ≠ b → (TJx8e188 a).2.1 ≠ (TJx8e188 b).2.1 := by decide +kernel
theorem tyJx8e188_ok : ∀ k, k < 0 → parseFieldDescriptor (TJx8e188 k).2.2.1 = some (tyJx8e188 k) := by decide +kernel
theorem nmJxab1ab : ∀ a, a < 0 → ∀ b, b < 0 → a ≠ b → (TJxab1ab a).2.1 ≠ (TJxab1ab b).2.1 := by decide +kernel
theorem tyJxab1ab_ok : ∀ k, k < 0 → parseFieldDescriptor (TJxab1ab k).2.2.1 = some (tyJxab1ab k) := by decide +kernel
theorem nmJ9 : ∀ a, a < 0 → ∀ b, b < 0 → a ≠ b → (TJ9 a).2.1 ≠ (TJ9 b).2.1 := by decide +kernel
theorem tyJ9_ok : ∀ k, k < 0 → parseFieldDescriptor (TJ9 k).2.2.1 = some (tyJ9 k) := by decide +kernel
theorem nmJ10 : ∀ a, a < 0 → ∀ b, b < 0 → a ≠ b → (TJ10 a).2.1 ≠ (TJ10 b).2.1 := by decide +kernel
theorem tyJ10_ok : ∀ k, k < 0 → parseFieldDescriptor (TJ10 k).2.2.1 = some (tyJ10 k) := by decide +kernel
theorem nmJxa1e45 : ∀ a, a < 0 → ∀ b, b < 0 → a ≠ b → (TJxa1e45 a).2.1 ≠ (TJxa1e45 b).2.1 := by decide +kernel
theorem tyJxa1e45_ok : ∀ k, k < 0 → parseFieldDescriptor (TJxa1e45 k).2.2.1 = some (tyJxa1e45 k) := by decide +kernel
theorem nmJxc12de : ∀ a, a < 0 → ∀ b, b < 0 → a ≠ b → (TJxc12de a).2.1 ≠ (TJxc12de b).2.1 := by decide +kernel
theorem tyJxc12de_ok : ∀ k, k < 0 → parseFieldDescriptor (TJxc12de k).2.2.1 = some (tyJxc12de k) := by decide +kernel
theorem nmJx4a65c : ∀ a, a < 3 → ∀ b, b < 3 → a ≠ b → (TJx4a65c a).2.1 ≠ (TJx4a65c b).2.1 := by decide +kernel
theorem tyJx4a65c_ok : ∀ k, k < 3 → parseFieldDescriptor (TJx4a65c k).2.2.1 = some (tyJx4a65c k) := by decide +kernel
theorem nmJ7 : ∀ a, a < 0 → ∀ b, b < 0 → a ≠ b → (TJ7 a).2.1 ≠ (TJ7 b).2.1 := by decide +kernel
theorem tyJ7_ok : ∀ k, k < 0 → parseFieldDescriptor (TJ7 k).2.2.1 = some (tyJ7 k) := by decide +kernel
theorem nmJx5ef63 : ∀ a, a < 0 → ∀ b, b < 0 → a ≠ b → (TJx5ef63 a).2.1 ≠ (TJx5ef63 b).2.1 := by decide +kernel
theorem tyJx5ef63_ok : ∀ k, k < 0 → parseFieldDescriptor (TJx5ef63 k).2.2.1 = some (tyJx5ef63 k) := by decide +kernel
theorem nmJxbd725 : ∀ a, a < 0 → ∀ b, b < 0 → a ≠ b → (TJxbd725 a).2.1 ≠ (TJxbd725 b).2.1 := by decide +kernel
theorem tyJxbd725_ok : ∀ k, k < 0 → parseFieldDescriptor (TJxbd725 k).2.2.1 = some (tyJxbd725 k) := by decide +kernel
theorem nmJ15 : ∀ a, a < 0 → ∀ b, b < 0 → a ≠ b → (TJ15 a).2.1 ≠ (TJ15 b).2.1 := by decide +kernel
theorem tyJ15_ok : ∀ k, k < 0 → parseFieldDescriptor (TJ15 k).2.2.1 = some (tyJ15 k) := by decide +kernel
theorem nmJxf0a74 : ∀ a, a < 0 → ∀ b, b < 0 → a ≠ b → (TJxf0a74 a).2.1 ≠ (TJxf0a74 b).2.1 := by decide +kernel
theorem tyJxf0a74_ok : ∀ k, k < 0 → parseFieldDescriptor (TJxf0a74 k).2.2.1 = some (tyJxf0a74 k) := by decide +kernel
theorem nmJxa66e6 : ∀ a, a < 0 → ∀ b, b < 0 → a ≠ b → (TJxa66e6 a).2.1 ≠ (TJxa66e6 b).2.1 := by decide +kernel
theorem tyJxa66e6_ok : ∀ k, k < 0 → parseFieldDescriptor (TJxa66e6 k).2.2.1 = some (tyJxa66e6 k) := by decide +kernel
theorem nmJ8 : ∀ a, a < 0 → ∀ b, b < 0 → a ≠ b → (TJ8 a).2.1 ≠ (TJ8 b).2.1 := by decide +kernel
theorem tyJ8_ok : ∀ k, k < 0 → parseFieldDescriptor (TJ8 k).2.2.1 = some (tyJ8 k) := by decide +kernel
theorem nmJ3 : ∀ a, a < 0 → ∀ b, b < 0 → a ≠ b → (TJ3 a).2.1 ≠ (TJ3 b).2.1 := by decide +kernel
theorem tyJ3_ok : ∀ k, k < 0 → parseFieldDescriptor (TJ3 k).2.2.1 = some (tyJ3 k) := by decide +kernel
theorem dX0_init_0 : decode cX0_init 0 = .ok (.aload_n 0, 1) := by decide +kernel
theorem dX0_init_1 : decode cX0_init 1 = .ok (.invokespecial 3, 3) := by decide +kernel
theorem dX0_init_4 : decode cX0_init 4 = .ok (.aload_n 0, 1) := by decide +kernel
theorem dX0_init_5 : decode cX0_init 5 = .ok (.bipush 6, 2) := by decide +kernel
theorem dX0_init_7 : decode cX0_init 7 = .ok (.newarray .int, 2) := by decide +kernel
theorem dX0_init_9 : decode cX0_init 9 = .ok (.putfield 9, 3) := by decide +kernel
theorem dX0_init_12 : decode cX0_init 12 = .ok (.aload_n 0, 1) := by decide +kernel
theorem dX0_init_13 : decode cX0_init 13 = .ok (.sipush 408, 3) := by decide +kernel
theorem dX0_init_16 : decode cX0_init 16 = .ok (.newarray .int, 2) := by decide +kernel
theorem dX0_init_18 : decode cX0_init 18 = .ok (.putfield 15, 3) := by decide +kernel
theorem dX0_init_21 : decode cX0_init 21 = .ok (.aload_n 0, 1) := by decide +kernel
theorem dX0_init_22 : decode cX0_init 22 = .ok (.bipush 24, 2) := by decide +kernel
theorem dX0_init_24 : decode cX0_init 24 = .ok (.newarray .int, 2) := by decide +kernel
theorem dX0_init_26 : decode cX0_init 26 = .ok (.putfield 18, 3) := by decide +kernel
theorem dX0_init_29 : decode cX0_init 29 = .ok (.aload_n 0, 1) := by decide +kernel
theorem dX0_init_30 : decode cX0_init 30 = .ok (.bipush 24, 2) := by decide +kernel
theorem dX0_init_32 : decode cX0_init 32 = .ok (.newarray .long, 2) := by decide +kernel
theorem dX0_init_34 : decode cX0_init 34 = .ok (.putfield 21, 3) := by decide +kernel
theorem dX0_init_37 : decode cX0_init 37 = .ok (.aload_n 0, 1) := by decide +kernel
theorem dX0_init_38 : decode cX0_init 38 = .ok (.bipush 24, 2) := by decide +kernel
theorem dX0_init_40 : decode cX0_init 40 = .ok (.newarray .long, 2) := by decide +kernel
theorem dX0_init_42 : decode cX0_init 42 = .ok (.putfield 25, 3) := by decide +kernel
theorem dX0_init_45 : decode cX0_init 45 = .ok (.return_, 1) := by decide +kernel
set_option maxRecDepth 20000 in
theorem ggX0_wipe_J7_fill_53178 : GoodIn wsX0_wipe wsJ7_fill_53178 := goodIn_r _ [9] (by decide +kernel) (by decide +kernel)
set_option maxRecDepth 20000 in
theorem gX0_wipe_J7_fill_53178 : GoodIn wsX0_wipe (va_wsS RX0 28 yJ7_fill_53178 wsJ7_fill_53178) := goodIn_app (goodIn_of _ (by decide +kernel)) ggX0_wipe_J7_fill_53178
set_option maxRecDepth 20000 in
theorem ggX0_wipe_J7_fill_d0a16 : GoodIn wsX0_wipe wsJ7_fill_d0a16 := goodIn_r _ [12] (by decide +kernel) (by decide +kernel)
set_option maxRecDepth 20000 in
theorem gX0_wipe_J7_fill_d0a16 : GoodIn wsX0_wipe (va_wsS RX0 34 yJ7_fill_d0a16 wsJ7_fill_d0a16) := goodIn_app (goodIn_of _ (by decide +kernel)) ggX0_wipe_J7_fill_d0a16
theorem dX0_wipe_0 : decode cX0_wipe 0 = .ok (.aload_n 0, 1) := by decide +kernel
theorem dX0_wipe_1 : decode cX0_wipe 1 = .ok (.getfield 9, 3) := by decide +kernel
theorem dX0_wipe_4 : decode cX0_wipe 4 = .ok (.iconst 0, 1) := by decide +kernel
theorem dX0_wipe_5 : decode cX0_wipe 5 = .ok (.invokestatic 28, 3) := by decide +kernel
theorem dX0_wipe_8 : decode cX0_wipe 8 = .ok (.aload_n 0, 1) := by decide +kernel
theorem dX0_wipe_9 : decode cX0_wipe 9 = .ok (.getfield 15, 3) := by decide +kernel
theorem dX0_wipe_12 : decode cX0_wipe 12 = .ok (.iconst 0, 1) := by decide +kernel
theorem dX0_wipe_13 : decode cX0_wipe 13 = .ok (.invokestatic 28, 3) := by decide +kernel
theorem dX0_wipe_16 : decode cX0_wipe 16 = .ok (.aload_n 0, 1) := by decide +kernel
theorem dX0_wipe_17 : decode cX0_wipe 17 = .ok (.getfield 18, 3) := by decide +kernel
theorem dX0_wipe_20 : decode cX0_wipe 20 = .ok (.iconst 0, 1) := by decide +kernel
theorem dX0_wipe_21 : decode cX0_wipe 21 = .ok (.invokestatic 28, 3) := by decide +kernel
theorem dX0_wipe_24 : decode cX0_wipe 24 = .ok (.aload_n 0, 1) := by decide +kernel
theorem dX0_wipe_25 : decode cX0_wipe 25 = .ok (.getfield 21, 3) := by decide +kernel
theorem dX0_wipe_28 : decode cX0_wipe 28 = .ok (.lconst 0, 1) := by decide +kernel
theorem dX0_wipe_29 : decode cX0_wipe 29 = .ok (.invokestatic 34, 3) := by decide +kernel
theorem dX0_wipe_32 : decode cX0_wipe 32 = .ok (.aload_n 0, 1) := by decide +kernel
theorem dX0_wipe_33 : decode cX0_wipe 33 = .ok (.getfield 25, 3) := by decide +kernel
theorem dX0_wipe_36 : decode cX0_wipe 36 = .ok (.lconst 0, 1) := by decide +kernel
theorem dX0_wipe_37 : decode cX0_wipe 37 = .ok (.invokestatic 34, 3) := by decide +kernel
theorem dX0_wipe_40 : decode cX0_wipe 40 = .ok (.return_, 1) := by decide +kernel
set_option maxRecDepth 20000 in
theorem ggX0_snapshot_X0_init : GoodIn wsX0_snapshot wsX0_init := goodIn_r _ [15, 16, 17, 18, 19, 4, 9, 10, 20, 11, 12, 21, 22, 23, 24, 25] (by decide +kernel) (by decide +kernel)
set_option maxRecDepth 20000 in
theorem gX0_snapshot_X0_init : GoodIn wsX0_snapshot (wsX0_init) := ggX0_snapshot_X0_init
theorem dX0_snapshot_0 : decode cX0_snapshot 0 = .ok (.new 10, 3) := by decide +kernel
theorem dX0_snapshot_3 : decode cX0_snapshot 3 = .ok (.dup, 1) := by decide +kernel
theorem dX0_snapshot_4 : decode cX0_snapshot 4 = .ok (.invokespecial 37, 3) := by decide +kernel
theorem dX0_snapshot_7 : decode cX0_snapshot 7 = .ok (.astore_n 1, 1) := by decide +kernel
theorem dX0_snapshot_8 : decode cX0_snapshot 8 = .ok (.aload_n 0, 1) := by decide +kernel
theorem dX0_snapshot_9 : decode cX0_snapshot 9 = .ok (.getfield 9, 3) := by decide +kernel
theorem dX0_snapshot_12 : decode cX0_snapshot 12 = .ok (.iconst 0, 1) := by decide +kernel
theorem dX0_snapshot_13 : decode cX0_snapshot 13 = .ok (.aload_n 1, 1) := by decide +kernel
theorem dX0_snapshot_14 : decode cX0_snapshot 14 = .ok (.getfield 9, 3) := by decide +kernel
theorem dX0_snapshot_17 : decode cX0_snapshot 17 = .ok (.iconst 0, 1) := by decide +kernel
theorem dX0_snapshot_18 : decode cX0_snapshot 18 = .ok (.aload_n 0, 1) := by decide +kernel
theorem dX0_snapshot_19 : decode cX0_snapshot 19 = .ok (.getfield 9, 3) := by decide +kernel
theorem dX0_snapshot_22 : decode cX0_snapshot 22 = .ok (.arraylength, 1) := by decide +kernel
theorem dX0_snapshot_23 : decode cX0_snapshot 23 = .ok (.invokestatic 38, 3) := by decide +kernel
theorem dX0_snapshot_26 : decode cX0_snapshot 26 = .ok (.aload_n 0, 1) := by decide +kernel
theorem dX0_snapshot_27 : decode cX0_snapshot 27 = .ok (.getfield 15, 3) := by decide +kernel
theorem dX0_snapshot_30 : decode cX0_snapshot 30 = .ok (.iconst 0, 1) := by decide +kernel
theorem dX0_snapshot_31 : decode cX0_snapshot 31 = .ok (.aload_n 1, 1) := by decide +kernel
theorem dX0_snapshot_32 : decode cX0_snapshot 32 = .ok (.getfield 15, 3) := by decide +kernel
theorem dX0_snapshot_35 : decode cX0_snapshot 35 = .ok (.iconst 0, 1) := by decide +kernel
theorem dX0_snapshot_36 : decode cX0_snapshot 36 = .ok (.aload_n 0, 1) := by decide +kernel
theorem dX0_snapshot_37 : decode cX0_snapshot 37 = .ok (.getfield 15, 3) := by decide +kernel
theorem dX0_snapshot_40 : decode cX0_snapshot 40 = .ok (.arraylength, 1) := by decide +kernel
theorem dX0_snapshot_41 : decode cX0_snapshot 41 = .ok (.invokestatic 38, 3) := by decide +kernel
theorem dX0_snapshot_44 : decode cX0_snapshot 44 = .ok (.aload_n 0, 1) := by decide +kernel
theorem dX0_snapshot_45 : decode cX0_snapshot 45 = .ok (.getfield 18, 3) := by decide +kernel
theorem dX0_snapshot_48 : decode cX0_snapshot 48 = .ok (.iconst 0, 1) := by decide +kernel
theorem dX0_snapshot_49 : decode cX0_snapshot 49 = .ok (.aload_n 1, 1) := by decide +kernel
theorem dX0_snapshot_50 : decode cX0_snapshot 50 = .ok (.getfield 18, 3) := by decide +kernel
theorem dX0_snapshot_53 : decode cX0_snapshot 53 = .ok (.iconst 0, 1) := by decide +kernel
theorem dX0_snapshot_54 : decode cX0_snapshot 54 = .ok (.aload_n 0, 1) := by decide +kernel
theorem dX0_snapshot_55 : decode cX0_snapshot 55 = .ok (.getfield 18, 3) := by decide +kernel
theorem dX0_snapshot_58 : decode cX0_snapshot 58 = .ok (.arraylength, 1) := by decide +kernel
theorem dX0_snapshot_59 : decode cX0_snapshot 59 = .ok (.invokestatic 38, 3) := by decide +kernel
theorem dX0_snapshot_62 : decode cX0_snapshot 62 = .ok (.aload_n 0, 1) := by decide +kernel
theorem dX0_snapshot_63 : decode cX0_snapshot 63 = .ok (.getfield 21, 3) := by decide +kernel
theorem dX0_snapshot_66 : decode cX0_snapshot 66 = .ok (.iconst 0, 1) := by decide +kernel
theorem dX0_snapshot_67 : decode cX0_snapshot 67 = .ok (.aload_n 1, 1) := by decide +kernel
theorem dX0_snapshot_68 : decode cX0_snapshot 68 = .ok (.getfield 21, 3) := by decide +kernel
theorem dX0_snapshot_71 : decode cX0_snapshot 71 = .ok (.iconst 0, 1) := by decide +kernel
theorem dX0_snapshot_72 : decode cX0_snapshot 72 = .ok (.aload_n 0, 1) := by decide +kernel
theorem dX0_snapshot_73 : decode cX0_snapshot 73 = .ok (.getfield 21, 3) := by decide +kernel
theorem dX0_snapshot_76 : decode cX0_snapshot 76 = .ok (.arraylength, 1) := by decide +kernel
theorem dX0_snapshot_77 : decode cX0_snapshot 77 = .ok (.invokestatic 38, 3) := by decide +kernel
theorem dX0_snapshot_80 : decode cX0_snapshot 80 = .ok (.aload_n 0, 1) := by decide +kernel
theorem dX0_snapshot_81 : decode cX0_snapshot 81 = .ok (.getfield 25, 3) := by decide +kernel
theorem dX0_snapshot_84 : decode cX0_snapshot 84 = .ok (.iconst 0, 1) := by decide +kernel
theorem dX0_snapshot_85 : decode cX0_snapshot 85 = .ok (.aload_n 1, 1) := by decide +kernel
theorem dX0_snapshot_86 : decode cX0_snapshot 86 = .ok (.getfield 25, 3) := by decide +kernel
theorem dX0_snapshot_89 : decode cX0_snapshot 89 = .ok (.iconst 0, 1) := by decide +kernel
theorem dX0_snapshot_90 : decode cX0_snapshot 90 = .ok (.aload_n 0, 1) := by decide +kernel
theorem dX0_snapshot_91 : decode cX0_snapshot 91 = .ok (.getfield 25, 3) := by decide +kernel
theorem dX0_snapshot_94 : decode cX0_snapshot 94 = .ok (.arraylength, 1) := by decide +kernel
theorem dX0_snapshot_95 : decode cX0_snapshot 95 = .ok (.invokestatic 38, 3) := by decide +kernel
theorem dX0_snapshot_98 : decode cX0_snapshot 98 = .ok (.aload_n 1, 1) := by decide +kernel
theorem dX0_snapshot_99 : decode cX0_snapshot 99 = .ok (.areturn, 1) := by decide +kernel
theorem dX0_makeDot_0 : decode cX0_makeDot 0 = .ok (.aload_n 0, 1) := by decide +kernel
theorem dX0_makeDot_1 : decode cX0_makeDot 1 = .ok (.getfield 9, 3) := by decide +kernel
theorem dX0_makeDot_4 : decode cX0_makeDot 4 = .ok (.iload_n 2, 1) := by decide +kernel
theorem dX0_makeDot_5 : decode cX0_makeDot 5 = .ok (.dup2, 1) := by decide +kernel
theorem dX0_makeDot_6 : decode cX0_makeDot 6 = .ok (.iaload, 1) := by decide +kernel
theorem dX0_makeDot_7 : decode cX0_makeDot 7 = .ok (.iconst 1, 1) := by decide +kernel
theorem dX0_makeDot_8 : decode cX0_makeDot 8 = .ok (.iadd, 1) := by decide +kernel
theorem dX0_makeDot_9 : decode cX0_makeDot 9 = .ok (.iastore, 1) := by decide +kernel
theorem dX0_makeDot_10 : decode cX0_makeDot 10 = .ok (.aload_n 0, 1) := by decide +kernel
theorem dX0_makeDot_11 : decode cX0_makeDot 11 = .ok (.getfield 15, 3) := by decide +kernel
theorem dX0_makeDot_14 : decode cX0_makeDot 14 = .ok (.iload_n 1, 1) := by decide +kernel
theorem dX0_makeDot_15 : decode cX0_makeDot 15 = .ok (.bipush 6, 2) := by decide +kernel
theorem dX0_makeDot_17 : decode cX0_makeDot 17 = .ok (.imul, 1) := by decide +kernel
theorem dX0_makeDot_18 : decode cX0_makeDot 18 = .ok (.iload_n 2, 1) := by decide +kernel
theorem dX0_makeDot_19 : decode cX0_makeDot 19 = .ok (.iadd, 1) := by decide +kernel
theorem dX0_makeDot_20 : decode cX0_makeDot 20 = .ok (.aload_n 0, 1) := by decide +kernel
theorem dX0_makeDot_21 : decode cX0_makeDot 21 = .ok (.getfield 9, 3) := by decide +kernel
theorem dX0_makeDot_24 : decode cX0_makeDot 24 = .ok (.iload_n 2, 1) := by decide +kernel
theorem dX0_makeDot_25 : decode cX0_makeDot 25 = .ok (.iaload, 1) := by decide +kernel
theorem dX0_makeDot_26 : decode cX0_makeDot 26 = .ok (.iastore, 1) := by decide +kernel
theorem dX0_makeDot_27 : decode cX0_makeDot 27 = .ok (.aload_n 0, 1) := by decide +kernel
theorem dX0_makeDot_28 : decode cX0_makeDot 28 = .ok (.getfield 9, 3) := by decide +kernel
theorem dX0_makeDot_31 : decode cX0_makeDot 31 = .ok (.iload_n 2, 1) := by decide +kernel
theorem dX0_makeDot_32 : decode cX0_makeDot 32 = .ok (.iaload, 1) := by decide +kernel
theorem dX0_makeDot_33 : decode cX0_makeDot 33 = .ok (.ireturn, 1) := by decide +kernel
set_option maxRecDepth 20000 in
theorem ggX0_forget_X0_dotsAt : GoodIn wsX0_forget wsX0_dotsAt := goodIn_r _ [6, 1, 7, 8, 9, 10, 11] (by decide +kernel) (by decide +kernel)
set_option maxRecDepth 20000 in
theorem gX0_forget_X0_dotsAt : GoodIn wsX0_forget (wsV RX0 44 RX0 yX0_dotsAt wsX0_dotsAt) := goodIn_app (goodIn_of _ (by decide +kernel)) ggX0_forget_X0_dotsAt
theorem dX0_forget_0 : decode cX0_forget 0 = .ok (.aload_n 0, 1) := by decide +kernel
theorem dX0_forget_1 : decode cX0_forget 1 = .ok (.iload_n 1, 1) := by decide +kernel
theorem dX0_forget_2 : decode cX0_forget 2 = .ok (.invokevirtual 44, 3) := by decide +kernel
theorem dX0_forget_5 : decode cX0_forget 5 = .ok (.istore_n 2, 1) := by decide +kernel
theorem dX0_forget_6 : decode cX0_forget 6 = .ok (.iconst 0, 1) := by decide +kernel
theorem dX0_forget_7 : decode cX0_forget 7 = .ok (.istore_n 3, 1) := by decide +kernel
theorem dX0_forget_8 : decode cX0_forget 8 = .ok (.iload_n 3, 1) := by decide +kernel
theorem dX0_forget_9 : decode cX0_forget 9 = .ok (.bipush 6, 2) := by decide +kernel
theorem dX0_forget_11 : decode cX0_forget 11 = .ok (.if_icmp .ge 21, 3) := by decide +kernel
theorem dX0_forget_14 : decode cX0_forget 14 = .ok (.aload_n 0, 1) := by decide +kernel
theorem dX0_forget_15 : decode cX0_forget 15 = .ok (.getfield 15, 3) := by decide +kernel
theorem dX0_forget_18 : decode cX0_forget 18 = .ok (.iload_n 1, 1) := by decide +kernel
theorem dX0_forget_19 : decode cX0_forget 19 = .ok (.bipush 6, 2) := by decide +kernel
theorem dX0_forget_21 : decode cX0_forget 21 = .ok (.imul, 1) := by decide +kernel
theorem dX0_forget_22 : decode cX0_forget 22 = .ok (.iload_n 3, 1) := by decide +kernel
theorem dX0_forget_23 : decode cX0_forget 23 = .ok (.iadd, 1) := by decide +kernel
theorem dX0_forget_24 : decode cX0_forget 24 = .ok (.iconst 0, 1) := by decide +kernel
theorem dX0_forget_25 : decode cX0_forget 25 = .ok (.iastore, 1) := by decide +kernel
theorem dX0_forget_26 : decode cX0_forget 26 = .ok (.iinc 3 1, 3) := by decide +kernel
theorem dX0_forget_29 : decode cX0_forget 29 = .ok (.goto (-21), 3) := by decide +kernel
theorem dX0_forget_32 : decode cX0_forget 32 = .ok (.iload_n 2, 1) := by decide +kernel
theorem dX0_forget_33 : decode cX0_forget 33 = .ok (.ireturn, 1) := by decide +kernel
theorem dX0_dotsAt_0 : decode cX0_dotsAt 0 = .ok (.iconst 0, 1) := by decide +kernel
theorem dX0_dotsAt_1 : decode cX0_dotsAt 1 = .ok (.istore_n 2, 1) := by decide +kernel
theorem dX0_dotsAt_2 : decode cX0_dotsAt 2 = .ok (.iconst 0, 1) := by decide +kernel
theorem dX0_dotsAt_3 : decode cX0_dotsAt 3 = .ok (.istore_n 3, 1) := by decide +kernel
theorem dX0_dotsAt_4 : decode cX0_dotsAt 4 = .ok (.iload_n 3, 1) := by decide +kernel
theorem dX0_dotsAt_5 : decode cX0_dotsAt 5 = .ok (.bipush 6, 2) := by decide +kernel
theorem dX0_dotsAt_7 : decode cX0_dotsAt 7 = .ok (.if_icmp .ge 26, 3) := by decide +kernel
theorem dX0_dotsAt_10 : decode cX0_dotsAt 10 = .ok (.aload_n 0, 1) := by decide +kernel
theorem dX0_dotsAt_11 : decode cX0_dotsAt 11 = .ok (.getfield 15, 3) := by decide +kernel
theorem dX0_dotsAt_14 : decode cX0_dotsAt 14 = .ok (.iload_n 1, 1) := by decide +kernel
theorem dX0_dotsAt_15 : decode cX0_dotsAt 15 = .ok (.bipush 6, 2) := by decide +kernel
theorem dX0_dotsAt_17 : decode cX0_dotsAt 17 = .ok (.imul, 1) := by decide +kernel
theorem dX0_dotsAt_18 : decode cX0_dotsAt 18 = .ok (.iload_n 3, 1) := by decide +kernel
theorem dX0_dotsAt_19 : decode cX0_dotsAt 19 = .ok (.iadd, 1) := by decide +kernel
theorem dX0_dotsAt_20 : decode cX0_dotsAt 20 = .ok (.iaload, 1) := by decide +kernel
theorem dX0_dotsAt_21 : decode cX0_dotsAt 21 = .ok (.ifCond .eq 6, 3) := by decide +kernel
theorem dX0_dotsAt_24 : decode cX0_dotsAt 24 = .ok (.iinc 2 1, 3) := by decide +kernel
theorem dX0_dotsAt_27 : decode cX0_dotsAt 27 = .ok (.iinc 3 1, 3) := by decide +kernel
theorem dX0_dotsAt_30 : decode cX0_dotsAt 30 = .ok (.goto (-26), 3) := by decide +kernel
theorem dX0_dotsAt_33 : decode cX0_dotsAt 33 = .ok (.iload_n 2, 1) := by decide +kernel
theorem dX0_dotsAt_34 : decode cX0_dotsAt 34 = .ok (.ireturn, 1) := by decide +kernel
theorem dX0_makerOf_0 : decode cX0_makerOf 0 = .ok (.iconst 0, 1) := by decide +kernel
theorem dX0_makerOf_1 : decode cX0_makerOf 1 = .ok (.istore_n 3, 1) := by decide +kernel
theorem dX0_makerOf_2 : decode cX0_makerOf 2 = .ok (.iconst 0, 1) := by decide +kernel
theorem dX0_makerOf_3 : decode cX0_makerOf 3 = .ok (.istore 4, 2) := by decide +kernel
theorem dX0_makerOf_5 : decode cX0_makerOf 5 = .ok (.iload 4, 2) := by decide +kernel
theorem dX0_makerOf_7 : decode cX0_makerOf 7 = .ok (.bipush 6, 2) := by decide +kernel
theorem dX0_makerOf_9 : decode cX0_makerOf 9 = .ok (.if_icmp .ge 35, 3) := by decide +kernel
theorem dX0_makerOf_12 : decode cX0_makerOf 12 = .ok (.aload_n 0, 1) := by decide +kernel
theorem dX0_makerOf_13 : decode cX0_makerOf 13 = .ok (.getfield 15, 3) := by decide +kernel
theorem dX0_makerOf_16 : decode cX0_makerOf 16 = .ok (.iload_n 1, 1) := by decide +kernel
theorem dX0_makerOf_17 : decode cX0_makerOf 17 = .ok (.bipush 6, 2) := by decide +kernel
theorem dX0_makerOf_19 : decode cX0_makerOf 19 = .ok (.imul, 1) := by decide +kernel
theorem dX0_makerOf_20 : decode cX0_makerOf 20 = .ok (.iload 4, 2) := by decide +kernel
theorem dX0_makerOf_22 : decode cX0_makerOf 22 = .ok (.iadd, 1) := by decide +kernel
theorem dX0_makerOf_23 : decode cX0_makerOf 23 = .ok (.iaload, 1) := by decide +kernel
theorem dX0_makerOf_24 : decode cX0_makerOf 24 = .ok (.ifCond .eq 14, 3) := by decide +kernel
theorem dX0_makerOf_27 : decode cX0_makerOf 27 = .ok (.iload_n 3, 1) := by decide +kernel
theorem dX0_makerOf_28 : decode cX0_makerOf 28 = .ok (.iload_n 2, 1) := by decide +kernel
theorem dX0_makerOf_29 : decode cX0_makerOf 29 = .ok (.if_icmp .ne 6, 3) := by decide +kernel
theorem dX0_makerOf_32 : decode cX0_makerOf 32 = .ok (.iload 4, 2) := by decide +kernel
theorem dX0_makerOf_34 : decode cX0_makerOf 34 = .ok (.ireturn, 1) := by decide +kernel
theorem dX0_makerOf_35 : decode cX0_makerOf 35 = .ok (.iinc 3 1, 3) := by decide +kernel
theorem dX0_makerOf_38 : decode cX0_makerOf 38 = .ok (.iinc 4 1, 3) := by decide +kernel
theorem dX0_makerOf_41 : decode cX0_makerOf 41 = .ok (.goto (-36), 3) := by decide +kernel
theorem dX0_makerOf_44 : decode cX0_makerOf 44 = .ok (.iconst (-1), 1) := by decide +kernel
theorem dX0_makerOf_45 : decode cX0_makerOf 45 = .ok (.ireturn, 1) := by decide +kernel
theorem dX0_numberBy_0 : decode cX0_numberBy 0 = .ok (.iload_n 2, 1) := by decide +kernel
theorem dX0_numberBy_1 : decode cX0_numberBy 1 = .ok (.iconst (-1), 1) := by decide +kernel
theorem dX0_numberBy_2 : decode cX0_numberBy 2 = .ok (.if_icmp .ne 7, 3) := by decide +kernel
theorem dX0_numberBy_5 : decode cX0_numberBy 5 = .ok (.iconst (-1), 1) := by decide +kernel
theorem dX0_numberBy_6 : decode cX0_numberBy 6 = .ok (.goto 14, 3) := by decide +kernel
theorem dX0_numberBy_9 : decode cX0_numberBy 9 = .ok (.aload_n 0, 1) := by decide +kernel
theorem dX0_numberBy_10 : decode cX0_numberBy 10 = .ok (.getfield 15, 3) := by decide +kernel
theorem dX0_numberBy_13 : decode cX0_numberBy 13 = .ok (.iload_n 1, 1) := by decide +kernel
theorem dX0_numberBy_14 : decode cX0_numberBy 14 = .ok (.bipush 6, 2) := by decide +kernel
theorem dX0_numberBy_16 : decode cX0_numberBy 16 = .ok (.imul, 1) := by decide +kernel
theorem dX0_numberBy_17 : decode cX0_numberBy 17 = .ok (.iload_n 2, 1) := by decide +kernel
theorem dX0_numberBy_18 : decode cX0_numberBy 18 = .ok (.iadd, 1) := by decide +kernel
theorem dX0_numberBy_19 : decode cX0_numberBy 19 = .ok (.iaload, 1) := by decide +kernel
theorem dX0_numberBy_20 : decode cX0_numberBy 20 = .ok (.ireturn, 1) := by decide +kernel
theorem dX0_worth_0 : decode cX0_worth 0 = .ok (.lconst 0, 1) := by decide +kernel
theorem dX0_worth_1 : decode cX0_worth 1 = .ok (.lstore_n 2, 1) := by decide +kernel
theorem dX0_worth_2 : decode cX0_worth 2 = .ok (.iconst 0, 1) := by decide +kernel
theorem dX0_worth_3 : decode cX0_worth 3 = .ok (.istore 4, 2) := by decide +kernel
theorem dX0_worth_5 : decode cX0_worth 5 = .ok (.iload 4, 2) := by decide +kernel
theorem dX0_worth_7 : decode cX0_worth 7 = .ok (.bipush 6, 2) := by decide +kernel
theorem dX0_worth_9 : decode cX0_worth 9 = .ok (.if_icmp .ge 36, 3) := by decide +kernel
theorem dX0_worth_12 : decode cX0_worth 12 = .ok (.iload_n 1, 1) := by decide +kernel
theorem dX0_worth_13 : decode cX0_worth 13 = .ok (.bipush 6, 2) := by decide +kernel
theorem dX0_worth_15 : decode cX0_worth 15 = .ok (.imul, 1) := by decide +kernel
theorem dX0_worth_16 : decode cX0_worth 16 = .ok (.iload 4, 2) := by decide +kernel
theorem dX0_worth_18 : decode cX0_worth 18 = .ok (.iadd, 1) := by decide +kernel
theorem dX0_worth_19 : decode cX0_worth 19 = .ok (.istore 5, 2) := by decide +kernel
theorem dX0_worth_21 : decode cX0_worth 21 = .ok (.lload_n 2, 1) := by decide +kernel
theorem dX0_worth_22 : decode cX0_worth 22 = .ok (.aload_n 0, 1) := by decide +kernel
theorem dX0_worth_23 : decode cX0_worth 23 = .ok (.getfield 21, 3) := by decide +kernel
theorem dX0_worth_26 : decode cX0_worth 26 = .ok (.iload 5, 2) := by decide +kernel
theorem dX0_worth_28 : decode cX0_worth 28 = .ok (.laload, 1) := by decide +kernel
theorem dX0_worth_29 : decode cX0_worth 29 = .ok (.aload_n 0, 1) := by decide +kernel
theorem dX0_worth_30 : decode cX0_worth 30 = .ok (.getfield 25, 3) := by decide +kernel
theorem dX0_worth_33 : decode cX0_worth 33 = .ok (.iload 5, 2) := by decide +kernel
theorem dX0_worth_35 : decode cX0_worth 35 = .ok (.laload, 1) := by decide +kernel
theorem dX0_worth_36 : decode cX0_worth 36 = .ok (.lsub, 1) := by decide +kernel
theorem dX0_worth_37 : decode cX0_worth 37 = .ok (.ladd, 1) := by decide +kernel
theorem dX0_worth_38 : decode cX0_worth 38 = .ok (.lstore_n 2, 1) := by decide +kernel
theorem dX0_worth_39 : decode cX0_worth 39 = .ok (.iinc 4 1, 3) := by decide +kernel
theorem dX0_worth_42 : decode cX0_worth 42 = .ok (.goto (-37), 3) := by decide +kernel
theorem dX0_worth_45 : decode cX0_worth 45 = .ok (.lload_n 2, 1) := by decide +kernel
theorem dX0_worth_46 : decode cX0_worth 46 = .ok (.l2i, 1) := by decide +kernel
theorem dX0_worth_47 : decode cX0_worth 47 = .ok (.ireturn, 1) := by decide +kernel
set_option maxRecDepth 20000 in
theorem ggX0_merge_X0_mergeDot : GoodIn wsX0_merge wsX0_mergeDot := goodIn_r _ [15, 16, 1, 17, 18, 19, 20, 21, 22] (by decide +kernel) (by decide +kernel)
set_option maxRecDepth 20000 in
theorem gX0_merge_X0_mergeDot : GoodIn wsX0_merge (wsV RX0 48 RX0 yX0_mergeDot wsX0_mergeDot) := goodIn_app (goodIn_of _ (by decide +kernel)) ggX0_merge_X0_mergeDot
theorem dX0_merge_0 : decode cX0_merge 0 = .ok (.iconst 0, 1) := by decide +kernel
theorem dX0_merge_1 : decode cX0_merge 1 = .ok (.istore_n 2, 1) := by decide +kernel
theorem dX0_merge_2 : decode cX0_merge 2 = .ok (.iconst 0, 1) := by decide +kernel
theorem dX0_merge_3 : decode cX0_merge 3 = .ok (.istore_n 3, 1) := by decide +kernel
theorem dX0_merge_4 : decode cX0_merge 4 = .ok (.iload_n 3, 1) := by decide +kernel
theorem dX0_merge_5 : decode cX0_merge 5 = .ok (.bipush 68, 2) := by decide +kernel
theorem dX0_merge_7 : decode cX0_merge 7 = .ok (.if_icmp .ge 39, 3) := by decide +kernel
theorem dX0_merge_10 : decode cX0_merge 10 = .ok (.iconst 0, 1) := by decide +kernel
theorem dX0_merge_11 : decode cX0_merge 11 = .ok (.istore 4, 2) := by decide +kernel
theorem dX0_merge_13 : decode cX0_merge 13 = .ok (.iload 4, 2) := by decide +kernel
theorem dX0_merge_15 : decode cX0_merge 15 = .ok (.bipush 6, 2) := by decide +kernel
theorem dX0_merge_17 : decode cX0_merge 17 = .ok (.if_icmp .ge 23, 3) := by decide +kernel
theorem dX0_merge_20 : decode cX0_merge 20 = .ok (.aload_n 0, 1) := by decide +kernel
theorem dX0_merge_21 : decode cX0_merge 21 = .ok (.aload_n 1, 1) := by decide +kernel
theorem dX0_merge_22 : decode cX0_merge 22 = .ok (.iload_n 3, 1) := by decide +kernel
theorem dX0_merge_23 : decode cX0_merge 23 = .ok (.iload 4, 2) := by decide +kernel
theorem dX0_merge_25 : decode cX0_merge 25 = .ok (.invokevirtual 48, 3) := by decide +kernel
theorem dX0_merge_28 : decode cX0_merge 28 = .ok (.ifCond .eq 6, 3) := by decide +kernel
theorem dX0_merge_31 : decode cX0_merge 31 = .ok (.iinc 2 1, 3) := by decide +kernel
theorem dX0_merge_34 : decode cX0_merge 34 = .ok (.iinc 4 1, 3) := by decide +kernel
theorem dX0_merge_37 : decode cX0_merge 37 = .ok (.goto (-24), 3) := by decide +kernel
theorem dX0_merge_40 : decode cX0_merge 40 = .ok (.iinc 3 1, 3) := by decide +kernel
theorem dX0_merge_43 : decode cX0_merge 43 = .ok (.goto (-39), 3) := by decide +kernel
theorem dX0_merge_46 : decode cX0_merge 46 = .ok (.iconst 0, 1) := by decide +kernel
theorem dX0_merge_47 : decode cX0_merge 47 = .ok (.istore_n 3, 1) := by decide +kernel
theorem dX0_merge_48 : decode cX0_merge 48 = .ok (.iload_n 3, 1) := by decide +kernel
theorem dX0_merge_49 : decode cX0_merge 49 = .ok (.bipush 6, 2) := by decide +kernel
theorem dX0_merge_51 : decode cX0_merge 51 = .ok (.if_icmp .ge 30, 3) := by decide +kernel
theorem dX0_merge_54 : decode cX0_merge 54 = .ok (.aload_n 0, 1) := by decide +kernel
theorem dX0_merge_55 : decode cX0_merge 55 = .ok (.getfield 9, 3) := by decide +kernel
theorem dX0_merge_58 : decode cX0_merge 58 = .ok (.iload_n 3, 1) := by decide +kernel
theorem dX0_merge_59 : decode cX0_merge 59 = .ok (.aload_n 0, 1) := by decide +kernel
theorem dX0_merge_60 : decode cX0_merge 60 = .ok (.getfield 9, 3) := by decide +kernel
theorem dX0_merge_63 : decode cX0_merge 63 = .ok (.iload_n 3, 1) := by decide +kernel
theorem dX0_merge_64 : decode cX0_merge 64 = .ok (.iaload, 1) := by decide +kernel
theorem dX0_merge_65 : decode cX0_merge 65 = .ok (.aload_n 1, 1) := by decide +kernel
theorem dX0_merge_66 : decode cX0_merge 66 = .ok (.getfield 9, 3) := by decide +kernel
theorem dX0_merge_69 : decode cX0_merge 69 = .ok (.iload_n 3, 1) := by decide +kernel
theorem dX0_merge_70 : decode cX0_merge 70 = .ok (.iaload, 1) := by decide +kernel
theorem dX0_merge_71 : decode cX0_merge 71 = .ok (.invokestatic 52, 3) := by decide +kernel
theorem dX0_merge_74 : decode cX0_merge 74 = .ok (.iastore, 1) := by decide +kernel
theorem dX0_merge_75 : decode cX0_merge 75 = .ok (.iinc 3 1, 3) := by decide +kernel
theorem dX0_merge_78 : decode cX0_merge 78 = .ok (.goto (-30), 3) := by decide +kernel
theorem dX0_merge_81 : decode cX0_merge 81 = .ok (.iconst 0, 1) := by decide +kernel
theorem dX0_merge_82 : decode cX0_merge 82 = .ok (.istore_n 3, 1) := by decide +kernel
theorem dX0_merge_83 : decode cX0_merge 83 = .ok (.iload_n 3, 1) := by decide +kernel
theorem dX0_merge_84 : decode cX0_merge 84 = .ok (.bipush 24, 2) := by decide +kernel
theorem dX0_merge_86 : decode cX0_merge 86 = .ok (.if_icmp .ge 51, 3) := by decide +kernel
theorem dX0_merge_89 : decode cX0_merge 89 = .ok (.aload_n 0, 1) := by decide +kernel
theorem dX0_merge_90 : decode cX0_merge 90 = .ok (.getfield 21, 3) := by decide +kernel
theorem dX0_merge_93 : decode cX0_merge 93 = .ok (.iload_n 3, 1) := by decide +kernel
theorem dX0_merge_94 : decode cX0_merge 94 = .ok (.aload_n 0, 1) := by decide +kernel
theorem dX0_merge_95 : decode cX0_merge 95 = .ok (.getfield 21, 3) := by decide +kernel
theorem dX0_merge_98 : decode cX0_merge 98 = .ok (.iload_n 3, 1) := by decide +kernel
theorem dX0_merge_99 : decode cX0_merge 99 = .ok (.laload, 1) := by decide +kernel
theorem dX0_merge_100 : decode cX0_merge 100 = .ok (.aload_n 1, 1) := by decide +kernel
theorem dX0_merge_101 : decode cX0_merge 101 = .ok (.getfield 21, 3) := by decide +kernel
theorem dX0_merge_104 : decode cX0_merge 104 = .ok (.iload_n 3, 1) := by decide +kernel
theorem dX0_merge_105 : decode cX0_merge 105 = .ok (.laload, 1) := by decide +kernel
theorem dX0_merge_106 : decode cX0_merge 106 = .ok (.invokestatic 58, 3) := by decide +kernel
theorem dX0_merge_109 : decode cX0_merge 109 = .ok (.lastore, 1) := by decide +kernel
theorem dX0_merge_110 : decode cX0_merge 110 = .ok (.aload_n 0, 1) := by decide +kernel
theorem dX0_merge_111 : decode cX0_merge 111 = .ok (.getfield 25, 3) := by decide +kernel
theorem dX0_merge_114 : decode cX0_merge 114 = .ok (.iload_n 3, 1) := by decide +kernel
theorem dX0_merge_115 : decode cX0_merge 115 = .ok (.aload_n 0, 1) := by decide +kernel
theorem dX0_merge_116 : decode cX0_merge 116 = .ok (.getfield 25, 3) := by decide +kernel
theorem dX0_merge_119 : decode cX0_merge 119 = .ok (.iload_n 3, 1) := by decide +kernel
theorem dX0_merge_120 : decode cX0_merge 120 = .ok (.laload, 1) := by decide +kernel
theorem dX0_merge_121 : decode cX0_merge 121 = .ok (.aload_n 1, 1) := by decide +kernel
theorem dX0_merge_122 : decode cX0_merge 122 = .ok (.getfield 25, 3) := by decide +kernel
theorem dX0_merge_125 : decode cX0_merge 125 = .ok (.iload_n 3, 1) := by decide +kernel
theorem dX0_merge_126 : decode cX0_merge 126 = .ok (.laload, 1) := by decide +kernel
theorem dX0_merge_127 : decode cX0_merge 127 = .ok (.invokestatic 58, 3) := by decide +kernel
theorem dX0_merge_130 : decode cX0_merge 130 = .ok (.lastore, 1) := by decide +kernel
theorem dX0_merge_131 : decode cX0_merge 131 = .ok (.iinc 3 1, 3) := by decide +kernel
theorem dX0_merge_134 : decode cX0_merge 134 = .ok (.goto (-51), 3) := by decide +kernel
theorem dX0_merge_137 : decode cX0_merge 137 = .ok (.iload_n 2, 1) := by decide +kernel
theorem dX0_merge_138 : decode cX0_merge 138 = .ok (.ireturn, 1) := by decide +kernel
theorem dX0_mergeDot_0 : decode cX0_mergeDot 0 = .ok (.iload_n 2, 1) := by decide +kernel
theorem dX0_mergeDot_1 : decode cX0_mergeDot 1 = .ok (.bipush 6, 2) := by decide +kernel
theorem dX0_mergeDot_3 : decode cX0_mergeDot 3 = .ok (.imul, 1) := by decide +kernel
theorem dX0_mergeDot_4 : decode cX0_mergeDot 4 = .ok (.iload_n 3, 1) := by decide +kernel
theorem dX0_mergeDot_5 : decode cX0_mergeDot 5 = .ok (.iadd, 1) := by decide +kernel
theorem dX0_mergeDot_6 : decode cX0_mergeDot 6 = .ok (.istore 4, 2) := by decide +kernel
theorem dX0_mergeDot_8 : decode cX0_mergeDot 8 = .ok (.aload_n 1, 1) := by decide +kernel
theorem dX0_mergeDot_9 : decode cX0_mergeDot 9 = .ok (.getfield 15, 3) := by decide +kernel
theorem dX0_mergeDot_12 : decode cX0_mergeDot 12 = .ok (.iload 4, 2) := by decide +kernel
theorem dX0_mergeDot_14 : decode cX0_mergeDot 14 = .ok (.iaload, 1) := by decide +kernel
theorem dX0_mergeDot_15 : decode cX0_mergeDot 15 = .ok (.istore 5, 2) := by decide +kernel
theorem dX0_mergeDot_17 : decode cX0_mergeDot 17 = .ok (.iload 5, 2) := by decide +kernel
theorem dX0_mergeDot_19 : decode cX0_mergeDot 19 = .ok (.aload_n 0, 1) := by decide +kernel
theorem dX0_mergeDot_20 : decode cX0_mergeDot 20 = .ok (.getfield 9, 3) := by decide +kernel
theorem dX0_mergeDot_23 : decode cX0_mergeDot 23 = .ok (.iload_n 3, 1) := by decide +kernel
theorem dX0_mergeDot_24 : decode cX0_mergeDot 24 = .ok (.iaload, 1) := by decide +kernel
theorem dX0_mergeDot_25 : decode cX0_mergeDot 25 = .ok (.if_icmp .le 42, 3) := by decide +kernel
theorem dX0_mergeDot_28 : decode cX0_mergeDot 28 = .ok (.aload_n 0, 1) := by decide +kernel
theorem dX0_mergeDot_29 : decode cX0_mergeDot 29 = .ok (.getfield 15, 3) := by decide +kernel
theorem dX0_mergeDot_32 : decode cX0_mergeDot 32 = .ok (.iload 4, 2) := by decide +kernel
theorem dX0_mergeDot_34 : decode cX0_mergeDot 34 = .ok (.iload 5, 2) := by decide +kernel
theorem dX0_mergeDot_36 : decode cX0_mergeDot 36 = .ok (.iastore, 1) := by decide +kernel
theorem dX0_mergeDot_37 : decode cX0_mergeDot 37 = .ok (.iload_n 2, 1) := by decide +kernel
theorem dX0_mergeDot_38 : decode cX0_mergeDot 38 = .ok (.bipush 64, 2) := by decide +kernel
theorem dX0_mergeDot_40 : decode cX0_mergeDot 40 = .ok (.if_icmp .lt 25, 3) := by decide +kernel
theorem dX0_mergeDot_43 : decode cX0_mergeDot 43 = .ok (.iload 4, 2) := by decide +kernel
theorem dX0_mergeDot_45 : decode cX0_mergeDot 45 = .ok (.sipush 384, 3) := by decide +kernel
theorem dX0_mergeDot_48 : decode cX0_mergeDot 48 = .ok (.isub, 1) := by decide +kernel
theorem dX0_mergeDot_49 : decode cX0_mergeDot 49 = .ok (.istore 6, 2) := by decide +kernel
theorem dX0_mergeDot_51 : decode cX0_mergeDot 51 = .ok (.aload_n 0, 1) := by decide +kernel
theorem dX0_mergeDot_52 : decode cX0_mergeDot 52 = .ok (.getfield 18, 3) := by decide +kernel
theorem dX0_mergeDot_55 : decode cX0_mergeDot 55 = .ok (.iload 6, 2) := by decide +kernel
theorem dX0_mergeDot_57 : decode cX0_mergeDot 57 = .ok (.aload_n 1, 1) := by decide +kernel
theorem dX0_mergeDot_58 : decode cX0_mergeDot 58 = .ok (.getfield 18, 3) := by decide +kernel
theorem dX0_mergeDot_61 : decode cX0_mergeDot 61 = .ok (.iload 6, 2) := by decide +kernel
theorem dX0_mergeDot_63 : decode cX0_mergeDot 63 = .ok (.iaload, 1) := by decide +kernel
theorem dX0_mergeDot_64 : decode cX0_mergeDot 64 = .ok (.iastore, 1) := by decide +kernel
theorem dX0_mergeDot_65 : decode cX0_mergeDot 65 = .ok (.iconst 1, 1) := by decide +kernel
theorem dX0_mergeDot_66 : decode cX0_mergeDot 66 = .ok (.ireturn, 1) := by decide +kernel
theorem dX0_mergeDot_67 : decode cX0_mergeDot 67 = .ok (.aload_n 0, 1) := by decide +kernel
theorem dX0_mergeDot_68 : decode cX0_mergeDot 68 = .ok (.getfield 15, 3) := by decide +kernel
theorem dX0_mergeDot_71 : decode cX0_mergeDot 71 = .ok (.iload 4, 2) := by decide +kernel
theorem dX0_mergeDot_73 : decode cX0_mergeDot 73 = .ok (.iaload, 1) := by decide +kernel
theorem dX0_mergeDot_74 : decode cX0_mergeDot 74 = .ok (.iload 5, 2) := by decide +kernel
theorem dX0_mergeDot_76 : decode cX0_mergeDot 76 = .ok (.if_icmp .eq 27, 3) := by decide +kernel
theorem dX0_mergeDot_79 : decode cX0_mergeDot 79 = .ok (.aload_n 0, 1) := by decide +kernel
theorem dX0_mergeDot_80 : decode cX0_mergeDot 80 = .ok (.getfield 15, 3) := by decide +kernel
theorem dX0_mergeDot_83 : decode cX0_mergeDot 83 = .ok (.iload 4, 2) := by decide +kernel
theorem dX0_mergeDot_85 : decode cX0_mergeDot 85 = .ok (.iaload, 1) := by decide +kernel
theorem dX0_mergeDot_86 : decode cX0_mergeDot 86 = .ok (.aload_n 1, 1) := by decide +kernel
theorem dX0_mergeDot_87 : decode cX0_mergeDot 87 = .ok (.getfield 9, 3) := by decide +kernel
theorem dX0_mergeDot_90 : decode cX0_mergeDot 90 = .ok (.iload_n 3, 1) := by decide +kernel
theorem dX0_mergeDot_91 : decode cX0_mergeDot 91 = .ok (.iaload, 1) := by decide +kernel
theorem dX0_mergeDot_92 : decode cX0_mergeDot 92 = .ok (.if_icmp .gt 11, 3) := by decide +kernel
theorem dX0_mergeDot_95 : decode cX0_mergeDot 95 = .ok (.aload_n 0, 1) := by decide +kernel
theorem dX0_mergeDot_96 : decode cX0_mergeDot 96 = .ok (.getfield 15, 3) := by decide +kernel
theorem dX0_mergeDot_99 : decode cX0_mergeDot 99 = .ok (.iload 4, 2) := by decide +kernel
theorem dX0_mergeDot_101 : decode cX0_mergeDot 101 = .ok (.iconst 0, 1) := by decide +kernel
theorem dX0_mergeDot_102 : decode cX0_mergeDot 102 = .ok (.iastore, 1) := by decide +kernel
theorem dX0_mergeDot_103 : decode cX0_mergeDot 103 = .ok (.iconst 0, 1) := by decide +kernel
theorem dX0_mergeDot_104 : decode cX0_mergeDot 104 = .ok (.ireturn, 1) := by decide +kernel
set_option maxRecDepth 20000 in
theorem ggX0_matches_X0_equalInts : GoodIn wsX0_matches wsX0_equalInts := goodIn_r _ [8] (by decide +kernel) (by decide +kernel)
set_option maxRecDepth 20000 in
theorem gX0_matches_X0_equalInts : GoodIn wsX0_matches (va_wsS RX0 61 yX0_equalInts wsX0_equalInts) := goodIn_app (goodIn_of _ (by decide +kernel)) ggX0_matches_X0_equalInts
set_option maxRecDepth 20000 in
theorem ggX0_matches_X0_equalLongs : GoodIn wsX0_matches wsX0_equalLongs := goodIn_r _ [11] (by decide +kernel) (by decide +kernel)
set_option maxRecDepth 20000 in
theorem gX0_matches_X0_equalLongs : GoodIn wsX0_matches (va_wsS RX0 65 yX0_equalLongs wsX0_equalLongs) := goodIn_app (goodIn_of _ (by decide +kernel)) ggX0_matches_X0_equalLongs
theorem dX0_matches_0 : decode cX0_matches 0 = .ok (.aload_n 0, 1) := by decide +kernel
theorem dX0_matches_1 : decode cX0_matches 1 = .ok (.getfield 9, 3) := by decide +kernel
theorem dX0_matches_4 : decode cX0_matches 4 = .ok (.aload_n 1, 1) := by decide +kernel
theorem dX0_matches_5 : decode cX0_matches 5 = .ok (.getfield 9, 3) := by decide +kernel
theorem dX0_matches_8 : decode cX0_matches 8 = .ok (.invokestatic 61, 3) := by decide +kernel
theorem dX0_matches_11 : decode cX0_matches 11 = .ok (.ifCond .eq 49, 3) := by decide +kernel
theorem dX0_matches_14 : decode cX0_matches 14 = .ok (.aload_n 0, 1) := by decide +kernel
theorem dX0_matches_15 : decode cX0_matches 15 = .ok (.getfield 15, 3) := by decide +kernel
theorem dX0_matches_18 : decode cX0_matches 18 = .ok (.aload_n 1, 1) := by decide +kernel
theorem dX0_matches_19 : decode cX0_matches 19 = .ok (.getfield 15, 3) := by decide +kernel
theorem dX0_matches_22 : decode cX0_matches 22 = .ok (.invokestatic 61, 3) := by decide +kernel
theorem dX0_matches_25 : decode cX0_matches 25 = .ok (.ifCond .eq 35, 3) := by decide +kernel
theorem dX0_matches_28 : decode cX0_matches 28 = .ok (.aload_n 0, 1) := by decide +kernel
theorem dX0_matches_29 : decode cX0_matches 29 = .ok (.getfield 21, 3) := by decide +kernel
theorem dX0_matches_32 : decode cX0_matches 32 = .ok (.aload_n 1, 1) := by decide +kernel
theorem dX0_matches_33 : decode cX0_matches 33 = .ok (.getfield 21, 3) := by decide +kernel
theorem dX0_matches_36 : decode cX0_matches 36 = .ok (.invokestatic 65, 3) := by decide +kernel
theorem dX0_matches_39 : decode cX0_matches 39 = .ok (.ifCond .eq 21, 3) := by decide +kernel
theorem dX0_matches_42 : decode cX0_matches 42 = .ok (.aload_n 0, 1) := by decide +kernel
theorem dX0_matches_43 : decode cX0_matches 43 = .ok (.getfield 25, 3) := by decide +kernel
theorem dX0_matches_46 : decode cX0_matches 46 = .ok (.aload_n 1, 1) := by decide +kernel
theorem dX0_matches_47 : decode cX0_matches 47 = .ok (.getfield 25, 3) := by decide +kernel
theorem dX0_matches_50 : decode cX0_matches 50 = .ok (.invokestatic 65, 3) := by decide +kernel
theorem dX0_matches_53 : decode cX0_matches 53 = .ok (.ifCond .eq 7, 3) := by decide +kernel
theorem dX0_matches_56 : decode cX0_matches 56 = .ok (.iconst 1, 1) := by decide +kernel
theorem dX0_matches_57 : decode cX0_matches 57 = .ok (.goto 4, 3) := by decide +kernel
theorem dX0_matches_60 : decode cX0_matches 60 = .ok (.iconst 0, 1) := by decide +kernel
theorem dX0_matches_61 : decode cX0_matches 61 = .ok (.ireturn, 1) := by decide +kernel
theorem dX0_equalInts_0 : decode cX0_equalInts 0 = .ok (.iconst 0, 1) := by decide +kernel
theorem dX0_equalInts_1 : decode cX0_equalInts 1 = .ok (.istore_n 2, 1) := by decide +kernel
theorem dX0_equalInts_2 : decode cX0_equalInts 2 = .ok (.iload_n 2, 1) := by decide +kernel
theorem dX0_equalInts_3 : decode cX0_equalInts 3 = .ok (.aload_n 0, 1) := by decide +kernel
theorem dX0_equalInts_4 : decode cX0_equalInts 4 = .ok (.arraylength, 1) := by decide +kernel
theorem dX0_equalInts_5 : decode cX0_equalInts 5 = .ok (.if_icmp .ge 26, 3) := by decide +kernel
theorem dX0_equalInts_8 : decode cX0_equalInts 8 = .ok (.iload_n 2, 1) := by decide +kernel
theorem dX0_equalInts_9 : decode cX0_equalInts 9 = .ok (.aload_n 1, 1) := by decide +kernel
theorem dX0_equalInts_10 : decode cX0_equalInts 10 = .ok (.arraylength, 1) := by decide +kernel
theorem dX0_equalInts_11 : decode cX0_equalInts 11 = .ok (.if_icmp .ge 20, 3) := by decide +kernel
theorem dX0_equalInts_14 : decode cX0_equalInts 14 = .ok (.aload_n 0, 1) := by decide +kernel
theorem dX0_equalInts_15 : decode cX0_equalInts 15 = .ok (.iload_n 2, 1) := by decide +kernel
theorem dX0_equalInts_16 : decode cX0_equalInts 16 = .ok (.iaload, 1) := by decide +kernel
theorem dX0_equalInts_17 : decode cX0_equalInts 17 = .ok (.aload_n 1, 1) := by decide +kernel
theorem dX0_equalInts_18 : decode cX0_equalInts 18 = .ok (.iload_n 2, 1) := by decide +kernel
theorem dX0_equalInts_19 : decode cX0_equalInts 19 = .ok (.iaload, 1) := by decide +kernel
theorem dX0_equalInts_20 : decode cX0_equalInts 20 = .ok (.if_icmp .eq 5, 3) := by decide +kernel
theorem dX0_equalInts_23 : decode cX0_equalInts 23 = .ok (.iconst 0, 1) := by decide +kernel
theorem dX0_equalInts_24 : decode cX0_equalInts 24 = .ok (.ireturn, 1) := by decide +kernel
theorem dX0_equalInts_25 : decode cX0_equalInts 25 = .ok (.iinc 2 1, 3) := by decide +kernel
theorem dX0_equalInts_28 : decode cX0_equalInts 28 = .ok (.goto (-26), 3) := by decide +kernel
theorem dX0_equalInts_31 : decode cX0_equalInts 31 = .ok (.iconst 1, 1) := by decide +kernel
theorem dX0_equalInts_32 : decode cX0_equalInts 32 = .ok (.ireturn, 1) := by decide +kernel
theorem dX0_equalLongs_0 : decode cX0_equalLongs 0 = .ok (.iconst 0, 1) := by decide +kernel
theorem dX0_equalLongs_1 : decode cX0_equalLongs 1 = .ok (.istore_n 2, 1) := by decide +kernel
theorem dX0_equalLongs_2 : decode cX0_equalLongs 2 = .ok (.iload_n 2, 1) := by decide +kernel
theorem dX0_equalLongs_3 : decode cX0_equalLongs 3 = .ok (.aload_n 0, 1) := by decide +kernel
theorem dX0_equalLongs_4 : decode cX0_equalLongs 4 = .ok (.arraylength, 1) := by decide +kernel
theorem dX0_equalLongs_5 : decode cX0_equalLongs 5 = .ok (.if_icmp .ge 27, 3) := by decide +kernel
theorem dX0_equalLongs_8 : decode cX0_equalLongs 8 = .ok (.iload_n 2, 1) := by decide +kernel
theorem dX0_equalLongs_9 : decode cX0_equalLongs 9 = .ok (.aload_n 1, 1) := by decide +kernel
theorem dX0_equalLongs_10 : decode cX0_equalLongs 10 = .ok (.arraylength, 1) := by decide +kernel
theorem dX0_equalLongs_11 : decode cX0_equalLongs 11 = .ok (.if_icmp .ge 21, 3) := by decide +kernel
theorem dX0_equalLongs_14 : decode cX0_equalLongs 14 = .ok (.aload_n 0, 1) := by decide +kernel
theorem dX0_equalLongs_15 : decode cX0_equalLongs 15 = .ok (.iload_n 2, 1) := by decide +kernel
theorem dX0_equalLongs_16 : decode cX0_equalLongs 16 = .ok (.laload, 1) := by decide +kernel
theorem dX0_equalLongs_17 : decode cX0_equalLongs 17 = .ok (.aload_n 1, 1) := by decide +kernel
theorem dX0_equalLongs_18 : decode cX0_equalLongs 18 = .ok (.iload_n 2, 1) := by decide +kernel
theorem dX0_equalLongs_19 : decode cX0_equalLongs 19 = .ok (.laload, 1) := by decide +kernel
theorem dX0_equalLongs_20 : decode cX0_equalLongs 20 = .ok (.lcmp, 1) := by decide +kernel
theorem dX0_equalLongs_21 : decode cX0_equalLongs 21 = .ok (.ifCond .eq 5, 3) := by decide +kernel
theorem dX0_equalLongs_24 : decode cX0_equalLongs 24 = .ok (.iconst 0, 1) := by decide +kernel
theorem dX0_equalLongs_25 : decode cX0_equalLongs 25 = .ok (.ireturn, 1) := by decide +kernel
theorem dX0_equalLongs_26 : decode cX0_equalLongs 26 = .ok (.iinc 2 1, 3) := by decide +kernel
theorem dX0_equalLongs_29 : decode cX0_equalLongs 29 = .ok (.goto (-27), 3) := by decide +kernel
theorem dX0_equalLongs_32 : decode cX0_equalLongs 32 = .ok (.iconst 1, 1) := by decide +kernel
theorem dX0_equalLongs_33 : decode cX0_equalLongs 33 = .ok (.ireturn, 1) := by decide +kernel
theorem dX1_init_0 : decode cX1_init 0 = .ok (.aload_n 0, 1) := by decide +kernel
theorem dX1_init_1 : decode cX1_init 1 = .ok (.invokespecial 1, 3) := by decide +kernel
theorem dX1_init_4 : decode cX1_init 4 = .ok (.aload_n 0, 1) := by decide +kernel
theorem dX1_init_5 : decode cX1_init 5 = .ok (.iload_n 1, 1) := by decide +kernel
theorem dX1_init_6 : decode cX1_init 6 = .ok (.putfield 7, 3) := by decide +kernel
theorem dX1_init_9 : decode cX1_init 9 = .ok (.aload_n 0, 1) := by decide +kernel
theorem dX1_init_10 : decode cX1_init 10 = .ok (.iload_n 2, 1) := by decide +kernel
theorem dX1_init_11 : decode cX1_init 11 = .ok (.putfield 13, 3) := by decide +kernel
theorem dX1_init_14 : decode cX1_init 14 = .ok (.aload_n 0, 1) := by decide +kernel
theorem dX1_init_15 : decode cX1_init 15 = .ok (.aload_n 3, 1) := by decide +kernel
theorem dX1_init_16 : decode cX1_init 16 = .ok (.putfield 16, 3) := by decide +kernel
theorem dX1_init_19 : decode cX1_init 19 = .ok (.return_, 1) := by decide +kernel
set_option maxRecDepth 20000 in
theorem ggX2_init_X0_init : GoodIn wsX2_init wsX0_init := goodIn_r _ [15, 16, 2, 3, 17, 18, 19, 20, 21, 22, 23, 42, 43, 44, 45, 46] (by decide +kernel) (by decide +kernel)
set_option maxRecDepth 20000 in
theorem gX2_init_X0_init : GoodIn wsX2_init (wsX0_init) := ggX2_init_X0_init
set_option maxRecDepth 20000 in
theorem ggX2_init_Jx4a65c_init_da8c8 : GoodIn wsX2_init wsJx4a65c_init_da8c8 := goodIn_r _ [26, 27, 28, 29, 30, 31, 32, 33, 34, 35, 36, 37, 38, 2, 3, 47, 48, 49] (by decide +kernel) (by decide +kernel)
set_option maxRecDepth 20000 in
theorem gX2_init_Jx4a65c_init_da8c8 : GoodIn wsX2_init (wsJx4a65c_init_da8c8) := ggX2_init_Jx4a65c_init_da8c8
theorem dX2_init_0 : decode cX2_init 0 = .ok (.aload_n 0, 1) := by decide +kernel
theorem dX2_init_1 : decode cX2_init 1 = .ok (.invokespecial 3, 3) := by decide +kernel
theorem dX2_init_4 : decode cX2_init 4 = .ok (.aload_n 0, 1) := by decide +kernel
theorem dX2_init_5 : decode cX2_init 5 = .ok (.bipush 6, 2) := by decide +kernel
theorem dX2_init_7 : decode cX2_init 7 = .ok (.anewarray 9, 3) := by decide +kernel
theorem dX2_init_10 : decode cX2_init 10 = .ok (.putfield 11, 3) := by decide +kernel
theorem dX2_init_13 : decode cX2_init 13 = .ok (.iconst 0, 1) := by decide +kernel
theorem dX2_init_14 : decode cX2_init 14 = .ok (.istore_n 1, 1) := by decide +kernel
theorem dX2_init_15 : decode cX2_init 15 = .ok (.iload_n 1, 1) := by decide +kernel
theorem dX2_init_16 : decode cX2_init 16 = .ok (.bipush 6, 2) := by decide +kernel
theorem dX2_init_18 : decode cX2_init 18 = .ok (.if_icmp .ge 22, 3) := by decide +kernel
theorem dX2_init_21 : decode cX2_init 21 = .ok (.aload_n 0, 1) := by decide +kernel
theorem dX2_init_22 : decode cX2_init 22 = .ok (.getfield 11, 3) := by decide +kernel
theorem dX2_init_25 : decode cX2_init 25 = .ok (.iload_n 1, 1) := by decide +kernel
theorem dX2_init_26 : decode cX2_init 26 = .ok (.new 9, 3) := by decide +kernel
theorem dX2_init_29 : decode cX2_init 29 = .ok (.dup, 1) := by decide +kernel
theorem dX2_init_30 : decode cX2_init 30 = .ok (.invokespecial 15, 3) := by decide +kernel
theorem dX2_init_33 : decode cX2_init 33 = .ok (.aastore, 1) := by decide +kernel
theorem dX2_init_34 : decode cX2_init 34 = .ok (.iinc 1 1, 3) := by decide +kernel
theorem dX2_init_37 : decode cX2_init 37 = .ok (.goto (-22), 3) := by decide +kernel
theorem dX2_init_40 : decode cX2_init 40 = .ok (.aload_n 0, 1) := by decide +kernel
theorem dX2_init_41 : decode cX2_init 41 = .ok (.new 16, 3) := by decide +kernel
theorem dX2_init_44 : decode cX2_init 44 = .ok (.dup, 1) := by decide +kernel
theorem dX2_init_45 : decode cX2_init 45 = .ok (.invokespecial 18, 3) := by decide +kernel
theorem dX2_init_48 : decode cX2_init 48 = .ok (.putfield 19, 3) := by decide +kernel
theorem dX2_init_51 : decode cX2_init 51 = .ok (.aload_n 0, 1) := by decide +kernel
theorem dX2_init_52 : decode cX2_init 52 = .ok (.iconst 2, 1) := by decide +kernel
theorem dX2_init_53 : decode cX2_init 53 = .ok (.putfield 23, 3) := by decide +kernel
theorem dX2_init_56 : decode cX2_init 56 = .ok (.return_, 1) := by decide +kernel
set_option maxRecDepth 20000 in
theorem ggX2_open_X2_require : GoodIn wsX2_open wsX2_require := goodIn_ca (goodIn_r _ [7, 8, 9] (by decide +kernel) (by decide +kernel)) (goodIn_sub (fun _ h => List.mem_cons_of_mem _ (List.mem_append_right _ h)) (by decide +kernel))
set_option maxRecDepth 20000 in
theorem gX2_open_X2_require : GoodIn wsX2_open (va_wsS RX2 27 yX2_require wsX2_require) := goodIn_app (goodIn_of _ (by decide +kernel)) ggX2_open_X2_require
set_option maxRecDepth 20000 in
theorem ggX2_open_X0_wipe : GoodIn wsX2_open wsX0_wipe := goodIn_r _ [14, 15, 16, 17, 18, 19, 20, 21, 22, 23, 24, 25, 26, 39, 40, 41, 42, 43] (by decide +kernel) (by decide +kernel)
set_option maxRecDepth 20000 in
theorem gX2_open_X0_wipe : GoodIn wsX2_open (wsV RX2 31 RX0 yX0_wipe wsX0_wipe) := goodIn_app (goodIn_of _ (by decide +kernel)) ggX2_open_X0_wipe
set_option maxRecDepth 20000 in
theorem ggX2_open_Jx4a65c_clear_da8c8 : GoodIn wsX2_open wsJx4a65c_clear_da8c8 := goodIn_r _ [31, 32, 33, 34, 35, 44, 45, 46] (by decide +kernel) (by decide +kernel)
set_option maxRecDepth 20000 in
theorem gX2_open_Jx4a65c_clear_da8c8 : GoodIn wsX2_open (wsV RX2 34 RJx4a65c yJx4a65c_clear_da8c8 wsJx4a65c_clear_da8c8) := goodIn_app (goodIn_of _ (by decide +kernel)) ggX2_open_Jx4a65c_clear_da8c8
theorem dX2_open_0 : decode cX2_open 0 = .ok (.iload_n 1, 1) := by decide +kernel
theorem dX2_open_1 : decode cX2_open 1 = .ok (.iconst 2, 1) := by decide +kernel
theorem dX2_open_2 : decode cX2_open 2 = .ok (.if_icmp .lt 13, 3) := by decide +kernel
theorem dX2_open_5 : decode cX2_open 5 = .ok (.iload_n 1, 1) := by decide +kernel
theorem dX2_open_6 : decode cX2_open 6 = .ok (.bipush 6, 2) := by decide +kernel
theorem dX2_open_8 : decode cX2_open 8 = .ok (.if_icmp .gt 7, 3) := by decide +kernel
theorem dX2_open_11 : decode cX2_open 11 = .ok (.iconst 1, 1) := by decide +kernel
theorem dX2_open_12 : decode cX2_open 12 = .ok (.goto 4, 3) := by decide +kernel
theorem dX2_open_15 : decode cX2_open 15 = .ok (.iconst 0, 1) := by decide +kernel
theorem dX2_open_16 : decode cX2_open 16 = .ok (.invokestatic 27, 3) := by decide +kernel
theorem dX2_open_19 : decode cX2_open 19 = .ok (.iconst 0, 1) := by decide +kernel
theorem dX2_open_20 : decode cX2_open 20 = .ok (.istore_n 2, 1) := by decide +kernel
theorem dX2_open_21 : decode cX2_open 21 = .ok (.iload_n 2, 1) := by decide +kernel
theorem dX2_open_22 : decode cX2_open 22 = .ok (.bipush 6, 2) := by decide +kernel
theorem dX2_open_24 : decode cX2_open 24 = .ok (.if_icmp .ge 18, 3) := by decide +kernel
theorem dX2_open_27 : decode cX2_open 27 = .ok (.aload_n 0, 1) := by decide +kernel
theorem dX2_open_28 : decode cX2_open 28 = .ok (.getfield 11, 3) := by decide +kernel
theorem dX2_open_31 : decode cX2_open 31 = .ok (.iload_n 2, 1) := by decide +kernel
theorem dX2_open_32 : decode cX2_open 32 = .ok (.aaload, 1) := by decide +kernel
theorem dX2_open_33 : decode cX2_open 33 = .ok (.invokevirtual 31, 3) := by decide +kernel
theorem dX2_open_36 : decode cX2_open 36 = .ok (.iinc 2 1, 3) := by decide +kernel
theorem dX2_open_39 : decode cX2_open 39 = .ok (.goto (-18), 3) := by decide +kernel
theorem dX2_open_42 : decode cX2_open 42 = .ok (.aload_n 0, 1) := by decide +kernel
theorem dX2_open_43 : decode cX2_open 43 = .ok (.getfield 19, 3) := by decide +kernel
theorem dX2_open_46 : decode cX2_open 46 = .ok (.invokevirtual 34, 3) := by decide +kernel
theorem dX2_open_49 : decode cX2_open 49 = .ok (.aload_n 0, 1) := by decide +kernel
theorem dX2_open_50 : decode cX2_open 50 = .ok (.iload_n 1, 1) := by decide +kernel
theorem dX2_open_51 : decode cX2_open 51 = .ok (.putfield 23, 3) := by decide +kernel
theorem dX2_open_54 : decode cX2_open 54 = .ok (.return_, 1) := by decide +kernel
set_option maxRecDepth 20000 in
theorem ggX2_add_X2_requireElement : GoodIn wsX2_add wsX2_requireElement := goodIn_ca (goodIn_r _ [6, 7, 8, 9, 5, 10, 11, 12, 13, 14, 15, 16, 17, 18, 19, 38, 39, 40] (by decide +kernel) (by decide +kernel)) (goodIn_sub (fun _ h => List.mem_cons_of_mem _ (List.mem_append_right _ h)) (by decide +kernel))
set_option maxRecDepth 20000 in
theorem gX2_add_X2_requireElement : GoodIn wsX2_add (wsV RX2 37 RX2 yX2_requireElement wsX2_requireElement) := goodIn_app (goodIn_of _ (by decide +kernel)) ggX2_add_X2_requireElement
set_option maxRecDepth 20000 in
theorem ggX2_add_X2_placeOfElement : GoodIn wsX2_add wsX2_placeOfElement := goodIn_r _ [22] (by decide +kernel) (by decide +kernel)
set_option maxRecDepth 20000 in
theorem gX2_add_X2_placeOfElement : GoodIn wsX2_add (va_wsS RX2 41 yX2_placeOfElement wsX2_placeOfElement) := goodIn_app (goodIn_of _ (by decide +kernel)) ggX2_add_X2_placeOfElement
set_option maxRecDepth 20000 in
theorem ggX2_add_X0_forget : GoodIn wsX2_add wsX0_forget := goodIn_r _ [27, 28, 29, 30, 31, 26, 32, 41, 42, 43, 44, 45] (by decide +kernel) (by decide +kernel)
set_option maxRecDepth 20000 in
theorem gX2_add_X0_forget : GoodIn wsX2_add (wsV RX2 45 RX0 yX0_forget wsX0_forget) := goodIn_app (goodIn_of _ (by decide +kernel)) ggX2_add_X0_forget
set_option maxRecDepth 20000 in
theorem ggX2_add_X0_makeDot : GoodIn wsX2_add wsX0_makeDot := goodIn_r _ [36, 37, 28, 41, 42, 43, 44, 45] (by decide +kernel) (by decide +kernel)
set_option maxRecDepth 20000 in
theorem gX2_add_X0_makeDot : GoodIn wsX2_add (wsV RX2 49 RX0 yX0_makeDot wsX0_makeDot) := goodIn_app (goodIn_of _ (by decide +kernel)) ggX2_add_X0_makeDot
theorem dX2_add_0 : decode cX2_add 0 = .ok (.aload_n 0, 1) := by decide +kernel
theorem dX2_add_1 : decode cX2_add 1 = .ok (.iload_n 1, 1) := by decide +kernel
theorem dX2_add_2 : decode cX2_add 2 = .ok (.iload_n 2, 1) := by decide +kernel
theorem dX2_add_3 : decode cX2_add 3 = .ok (.iload_n 3, 1) := by decide +kernel
theorem dX2_add_4 : decode cX2_add 4 = .ok (.invokevirtual 37, 3) := by decide +kernel
theorem dX2_add_7 : decode cX2_add 7 = .ok (.aload_n 0, 1) := by decide +kernel
theorem dX2_add_8 : decode cX2_add 8 = .ok (.getfield 11, 3) := by decide +kernel
theorem dX2_add_11 : decode cX2_add 11 = .ok (.iload_n 1, 1) := by decide +kernel
theorem dX2_add_12 : decode cX2_add 12 = .ok (.aaload, 1) := by decide +kernel
theorem dX2_add_13 : decode cX2_add 13 = .ok (.astore 4, 2) := by decide +kernel
theorem dX2_add_15 : decode cX2_add 15 = .ok (.iload_n 2, 1) := by decide +kernel
theorem dX2_add_16 : decode cX2_add 16 = .ok (.iload_n 3, 1) := by decide +kernel
theorem dX2_add_17 : decode cX2_add 17 = .ok (.invokestatic 41, 3) := by decide +kernel
theorem dX2_add_20 : decode cX2_add 20 = .ok (.istore 5, 2) := by decide +kernel
theorem dX2_add_22 : decode cX2_add 22 = .ok (.aload 4, 2) := by decide +kernel
theorem dX2_add_24 : decode cX2_add 24 = .ok (.iload 5, 2) := by decide +kernel
theorem dX2_add_26 : decode cX2_add 26 = .ok (.invokevirtual 45, 3) := by decide +kernel
theorem dX2_add_29 : decode cX2_add 29 = .ok (.pop, 1) := by decide +kernel
theorem dX2_add_30 : decode cX2_add 30 = .ok (.aload 4, 2) := by decide +kernel
theorem dX2_add_32 : decode cX2_add 32 = .ok (.iload 5, 2) := by decide +kernel
theorem dX2_add_34 : decode cX2_add 34 = .ok (.iload_n 1, 1) := by decide +kernel
theorem dX2_add_35 : decode cX2_add 35 = .ok (.invokevirtual 49, 3) := by decide +kernel
theorem dX2_add_38 : decode cX2_add 38 = .ok (.ireturn, 1) := by decide +kernel
set_option maxRecDepth 20000 in
theorem ggX2_remove_X2_requireElement : GoodIn wsX2_remove wsX2_requireElement := goodIn_ca (goodIn_r _ [6, 7, 8, 9, 5, 10, 11, 12, 13, 14, 15, 16, 17, 18, 19, 33, 34, 35] (by decide +kernel) (by decide +kernel)) (goodIn_sub (fun _ h => List.mem_cons_of_mem _ (List.mem_append_right _ h)) (by decide +kernel))
set_option maxRecDepth 20000 in
theorem gX2_remove_X2_requireElement : GoodIn wsX2_remove (wsV RX2 37 RX2 yX2_requireElement wsX2_requireElement) := goodIn_app (goodIn_of _ (by decide +kernel)) ggX2_remove_X2_requireElement
set_option maxRecDepth 20000 in
theorem ggX2_remove_X2_placeOfElement : GoodIn wsX2_remove wsX2_placeOfElement := goodIn_r _ [22] (by decide +kernel) (by decide +kernel)
set_option maxRecDepth 20000 in
theorem gX2_remove_X2_placeOfElement : GoodIn wsX2_remove (va_wsS RX2 41 yX2_placeOfElement wsX2_placeOfElement) := goodIn_app (goodIn_of _ (by decide +kernel)) ggX2_remove_X2_placeOfElement
set_option maxRecDepth 20000 in
theorem ggX2_remove_X0_forget : GoodIn wsX2_remove wsX0_forget := goodIn_r _ [27, 28, 29, 30, 31, 26, 32, 36, 37, 38, 39, 40] (by decide +kernel) (by decide +kernel)
set_option maxRecDepth 20000 in
theorem gX2_remove_X0_forget : GoodIn wsX2_remove (wsV RX2 45 RX0 yX0_forget wsX0_forget) := goodIn_app (goodIn_of _ (by decide +kernel)) ggX2_remove_X0_forget
theorem dX2_remove_0 : decode cX2_remove 0 = .ok (.aload_n 0, 1) := by decide +kernel
theorem dX2_remove_1 : decode cX2_remove 1 = .ok (.iload_n 1, 1) := by decide +kernel
theorem dX2_remove_2 : decode cX2_remove 2 = .ok (.iload_n 2, 1) := by decide +kernel
theorem dX2_remove_3 : decode cX2_remove 3 = .ok (.iload_n 3, 1) := by decide +kernel
theorem dX2_remove_4 : decode cX2_remove 4 = .ok (.invokevirtual 37, 3) := by decide +kernel
theorem dX2_remove_7 : decode cX2_remove 7 = .ok (.aload_n 0, 1) := by decide +kernel
theorem dX2_remove_8 : decode cX2_remove 8 = .ok (.getfield 11, 3) := by decide +kernel
theorem dX2_remove_11 : decode cX2_remove 11 = .ok (.iload_n 1, 1) := by decide +kernel
theorem dX2_remove_12 : decode cX2_remove 12 = .ok (.aaload, 1) := by decide +kernel
theorem dX2_remove_13 : decode cX2_remove 13 = .ok (.iload_n 2, 1) := by decide +kernel
theorem dX2_remove_14 : decode cX2_remove 14 = .ok (.iload_n 3, 1) := by decide +kernel
theorem dX2_remove_15 : decode cX2_remove 15 = .ok (.invokestatic 41, 3) := by decide +kernel
theorem dX2_remove_18 : decode cX2_remove 18 = .ok (.invokevirtual 45, 3) := by decide +kernel
theorem dX2_remove_21 : decode cX2_remove 21 = .ok (.ireturn, 1) := by decide +kernel
set_option maxRecDepth 20000 in
theorem ggX2_clear_X2_requireReplica : GoodIn wsX2_clear wsX2_requireReplica := goodIn_ca (goodIn_r _ [6, 7, 8, 9, 5, 10, 11, 12, 13, 14, 15, 29, 30, 31] (by decide +kernel) (by decide +kernel)) (goodIn_sub (fun _ h => List.mem_cons_of_mem _ (List.mem_append_right _ h)) (by decide +kernel))
set_option maxRecDepth 20000 in
theorem gX2_clear_X2_requireReplica : GoodIn wsX2_clear (wsV RX2 52 RX2 yX2_requireReplica wsX2_requireReplica) := goodIn_app (goodIn_of _ (by decide +kernel)) ggX2_clear_X2_requireReplica
set_option maxRecDepth 20000 in
theorem ggX2_clear_X2_requireIndex : GoodIn wsX2_clear wsX2_requireIndex := goodIn_ca (goodIn_r _ [10, 11, 12, 5, 13, 14, 15] (by decide +kernel) (by decide +kernel)) (goodIn_sub (fun _ h => List.mem_cons_of_mem _ (List.mem_append_right _ h)) (by decide +kernel))
set_option maxRecDepth 20000 in
theorem gX2_clear_X2_requireIndex : GoodIn wsX2_clear (va_wsS RX2 56 yX2_requireIndex wsX2_requireIndex) := goodIn_app (goodIn_of _ (by decide +kernel)) ggX2_clear_X2_requireIndex
set_option maxRecDepth 20000 in
theorem ggX2_clear_X2_placeOfElement : GoodIn wsX2_clear wsX2_placeOfElement := goodIn_r _ [18] (by decide +kernel) (by decide +kernel)
set_option maxRecDepth 20000 in
theorem gX2_clear_X2_placeOfElement : GoodIn wsX2_clear (va_wsS RX2 41 yX2_placeOfElement wsX2_placeOfElement) := goodIn_app (goodIn_of _ (by decide +kernel)) ggX2_clear_X2_placeOfElement
set_option maxRecDepth 20000 in
theorem ggX2_clear_X0_forget : GoodIn wsX2_clear wsX0_forget := goodIn_r _ [23, 24, 25, 26, 27, 22, 28, 32, 33, 34, 35, 36] (by decide +kernel) (by decide +kernel)
set_option maxRecDepth 20000 in
theorem gX2_clear_X0_forget : GoodIn wsX2_clear (wsV RX2 45 RX0 yX0_forget wsX0_forget) := goodIn_app (goodIn_of _ (by decide +kernel)) ggX2_clear_X0_forget
theorem dX2_clear_0 : decode cX2_clear 0 = .ok (.aload_n 0, 1) := by decide +kernel
theorem dX2_clear_1 : decode cX2_clear 1 = .ok (.iload_n 1, 1) := by decide +kernel
theorem dX2_clear_2 : decode cX2_clear 2 = .ok (.invokevirtual 52, 3) := by decide +kernel
theorem dX2_clear_5 : decode cX2_clear 5 = .ok (.iload_n 2, 1) := by decide +kernel
theorem dX2_clear_6 : decode cX2_clear 6 = .ok (.iconst 4, 1) := by decide +kernel
theorem dX2_clear_7 : decode cX2_clear 7 = .ok (.invokestatic 56, 3) := by decide +kernel
theorem dX2_clear_10 : decode cX2_clear 10 = .ok (.iconst 0, 1) := by decide +kernel
theorem dX2_clear_11 : decode cX2_clear 11 = .ok (.istore_n 3, 1) := by decide +kernel
theorem dX2_clear_12 : decode cX2_clear 12 = .ok (.iconst 0, 1) := by decide +kernel
theorem dX2_clear_13 : decode cX2_clear 13 = .ok (.istore 4, 2) := by decide +kernel
theorem dX2_clear_15 : decode cX2_clear 15 = .ok (.iload 4, 2) := by decide +kernel
theorem dX2_clear_17 : decode cX2_clear 17 = .ok (.bipush 16, 2) := by decide +kernel
theorem dX2_clear_19 : decode cX2_clear 19 = .ok (.if_icmp .ge 30, 3) := by decide +kernel
theorem dX2_clear_22 : decode cX2_clear 22 = .ok (.aload_n 0, 1) := by decide +kernel
theorem dX2_clear_23 : decode cX2_clear 23 = .ok (.getfield 11, 3) := by decide +kernel
theorem dX2_clear_26 : decode cX2_clear 26 = .ok (.iload_n 1, 1) := by decide +kernel
theorem dX2_clear_27 : decode cX2_clear 27 = .ok (.aaload, 1) := by decide +kernel
theorem dX2_clear_28 : decode cX2_clear 28 = .ok (.iload_n 2, 1) := by decide +kernel
theorem dX2_clear_29 : decode cX2_clear 29 = .ok (.iload 4, 2) := by decide +kernel
theorem dX2_clear_31 : decode cX2_clear 31 = .ok (.invokestatic 41, 3) := by decide +kernel
theorem dX2_clear_34 : decode cX2_clear 34 = .ok (.invokevirtual 45, 3) := by decide +kernel
theorem dX2_clear_37 : decode cX2_clear 37 = .ok (.ifCond .le 6, 3) := by decide +kernel
theorem dX2_clear_40 : decode cX2_clear 40 = .ok (.iinc 3 1, 3) := by decide +kernel
theorem dX2_clear_43 : decode cX2_clear 43 = .ok (.iinc 4 1, 3) := by decide +kernel
theorem dX2_clear_46 : decode cX2_clear 46 = .ok (.goto (-31), 3) := by decide +kernel
theorem dX2_clear_49 : decode cX2_clear 49 = .ok (.iload_n 3, 1) := by decide +kernel
theorem dX2_clear_50 : decode cX2_clear 50 = .ok (.ireturn, 1) := by decide +kernel
set_option maxRecDepth 20000 in
theorem ggX2_write_X2_requireReplica : GoodIn wsX2_write wsX2_requireReplica := goodIn_ca (goodIn_r _ [7, 8, 9, 10, 6, 11, 12, 13, 14, 15, 16, 32, 33, 34] (by decide +kernel) (by decide +kernel)) (goodIn_sub (fun _ h => List.mem_cons_of_mem _ (List.mem_append_right _ h)) (by decide +kernel))
set_option maxRecDepth 20000 in
theorem gX2_write_X2_requireReplica : GoodIn wsX2_write (wsV RX2 52 RX2 yX2_requireReplica wsX2_requireReplica) := goodIn_app (goodIn_of _ (by decide +kernel)) ggX2_write_X2_requireReplica
set_option maxRecDepth 20000 in
theorem ggX2_write_X2_requireIndex : GoodIn wsX2_write wsX2_requireIndex := goodIn_ca (goodIn_r _ [11, 12, 13, 6, 14, 15, 16] (by decide +kernel) (by decide +kernel)) (goodIn_sub (fun _ h => List.mem_cons_of_mem _ (List.mem_append_right _ h)) (by decide +kernel))
set_option maxRecDepth 20000 in
theorem gX2_write_X2_requireIndex : GoodIn wsX2_write (va_wsS RX2 56 yX2_requireIndex wsX2_requireIndex) := goodIn_app (goodIn_of _ (by decide +kernel)) ggX2_write_X2_requireIndex
set_option maxRecDepth 20000 in
theorem ggX2_write_X0_forget : GoodIn wsX2_write wsX0_forget := goodIn_r _ [21, 22, 23, 24, 25, 20, 26, 35, 36, 37, 38, 39] (by decide +kernel) (by decide +kernel)
set_option maxRecDepth 20000 in
theorem gX2_write_X0_forget : GoodIn wsX2_write (wsV RX2 45 RX0 yX0_forget wsX0_forget) := goodIn_app (goodIn_of _ (by decide +kernel)) ggX2_write_X0_forget
set_option maxRecDepth 20000 in
theorem ggX2_write_X0_makeDot : GoodIn wsX2_write wsX0_makeDot := goodIn_r _ [30, 31, 22, 35, 36, 37, 38, 39] (by decide +kernel) (by decide +kernel)
set_option maxRecDepth 20000 in
theorem gX2_write_X0_makeDot : GoodIn wsX2_write (wsV RX2 49 RX0 yX0_makeDot wsX0_makeDot) := goodIn_app (goodIn_of _ (by decide +kernel)) ggX2_write_X0_makeDot
theorem dX2_write_0 : decode cX2_write 0 = .ok (.aload_n 0, 1) := by decide +kernel
theorem dX2_write_1 : decode cX2_write 1 = .ok (.iload_n 1, 1) := by decide +kernel
theorem dX2_write_2 : decode cX2_write 2 = .ok (.invokevirtual 52, 3) := by decide +kernel
theorem dX2_write_5 : decode cX2_write 5 = .ok (.iload_n 2, 1) := by decide +kernel
theorem dX2_write_6 : decode cX2_write 6 = .ok (.iconst 4, 1) := by decide +kernel
theorem dX2_write_7 : decode cX2_write 7 = .ok (.invokestatic 56, 3) := by decide +kernel
theorem dX2_write_10 : decode cX2_write 10 = .ok (.aload_n 0, 1) := by decide +kernel
theorem dX2_write_11 : decode cX2_write 11 = .ok (.getfield 11, 3) := by decide +kernel
theorem dX2_write_14 : decode cX2_write 14 = .ok (.iload_n 1, 1) := by decide +kernel
theorem dX2_write_15 : decode cX2_write 15 = .ok (.aaload, 1) := by decide +kernel
theorem dX2_write_16 : decode cX2_write 16 = .ok (.astore 4, 2) := by decide +kernel
theorem dX2_write_18 : decode cX2_write 18 = .ok (.bipush 64, 2) := by decide +kernel
theorem dX2_write_20 : decode cX2_write 20 = .ok (.iload_n 2, 1) := by decide +kernel
theorem dX2_write_21 : decode cX2_write 21 = .ok (.iadd, 1) := by decide +kernel
theorem dX2_write_22 : decode cX2_write 22 = .ok (.istore 5, 2) := by decide +kernel
theorem dX2_write_24 : decode cX2_write 24 = .ok (.aload 4, 2) := by decide +kernel
theorem dX2_write_26 : decode cX2_write 26 = .ok (.iload 5, 2) := by decide +kernel
theorem dX2_write_28 : decode cX2_write 28 = .ok (.invokevirtual 45, 3) := by decide +kernel
theorem dX2_write_31 : decode cX2_write 31 = .ok (.istore 6, 2) := by decide +kernel
theorem dX2_write_33 : decode cX2_write 33 = .ok (.aload 4, 2) := by decide +kernel
