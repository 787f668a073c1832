theorem dL_same_17 : decode cL_same 17 = .ok (.goto 7, 3) := by decide +kernel
theorem dL_same_20 : decode cL_same 20 = .ok (.astore 4, 2) := by decide +kernel
theorem dL_same_22 : decode cL_same 22 = .ok (.iconst 1, 1) := by decide +kernel
theorem dL_same_23 : decode cL_same 23 = .ok (.ireturn, 1) := by decide +kernel
theorem dL_same_24 : decode cL_same 24 = .ok (.iconst 0, 1) := by decide +kernel
theorem dL_same_25 : decode cL_same 25 = .ok (.ireturn, 1) := by decide +kernel
set_option maxRecDepth 20000 in
theorem ggL_message_X2_message : GoodIn wsL_message wsX2_message := goodIn_ca (goodIn_r _ [6, 7, 8, 9, 10, 11, 12, 13, 14, 15, 16, 17, 18, 19, 20, 21, 5, 22, 23, 24, 25, 26, 27, 28, 29, 30, 31, 32, 33, 34, 35, 36, 37, 38, 39, 40, 41, 42, 43, 44, 45, 46, 47, 48, 49, 50, 51, 52, 53, 54, 55, 56, 57, 58] (by decide +kernel) (by decide +kernel)) (goodIn_sub (fun _ h => List.mem_cons_of_mem _ (List.mem_append_right _ h)) (by decide +kernel))
set_option maxRecDepth 20000 in
theorem gL_message_X2_message : GoodIn wsL_message (wsV RL 80 RX2 yX2_message wsX2_message) := goodIn_app (goodIn_of _ (by decide +kernel)) ggL_message_X2_message
theorem dL_message_0 : decode cL_message 0 = .ok (.aload_n 3, 1) := by decide +kernel
theorem dL_message_1 : decode cL_message 1 = .ok (.iconst 0, 1) := by decide +kernel
theorem dL_message_2 : decode cL_message 2 = .ok (.aload_n 0, 1) := by decide +kernel
theorem dL_message_3 : decode cL_message 3 = .ok (.iload_n 1, 1) := by decide +kernel
theorem dL_message_4 : decode cL_message 4 = .ok (.iload_n 2, 1) := by decide +kernel
theorem dL_message_5 : decode cL_message 5 = .ok (.invokevirtual 80, 3) := by decide +kernel
theorem dL_message_8 : decode cL_message 8 = .ok (.i2l, 1) := by decide +kernel
theorem dL_message_9 : decode cL_message 9 = .ok (.lastore, 1) := by decide +kernel
theorem dL_message_10 : decode cL_message 10 = .ok (.goto 7, 3) := by decide +kernel
theorem dL_message_13 : decode cL_message 13 = .ok (.astore 4, 2) := by decide +kernel
theorem dL_message_15 : decode cL_message 15 = .ok (.iconst 1, 1) := by decide +kernel
theorem dL_message_16 : decode cL_message 16 = .ok (.ireturn, 1) := by decide +kernel
theorem dL_message_17 : decode cL_message 17 = .ok (.iconst 0, 1) := by decide +kernel
theorem dL_message_18 : decode cL_message 18 = .ok (.ireturn, 1) := by decide +kernel
set_option maxRecDepth 20000 in
theorem ggL_law_X2_init : GoodIn wsL_law wsX2_init := goodIn_r _ [9, 10, 11, 12, 13, 14, 15, 16, 17, 18, 19, 20, 21, 22, 23, 24, 25, 26, 27, 28, 29, 6, 30, 31, 32, 33, 34, 35, 36, 37, 38, 39, 40, 41, 42, 43, 44, 45, 46, 534, 535, 536, 545, 546, 547, 548, 549, 550, 551, 552] (by decide +kernel) (by decide +kernel)
set_option maxRecDepth 20000 in
theorem gL_law_X2_init : GoodIn wsL_law (wsX2_init) := ggL_law_X2_init
set_option maxRecDepth 20000 in
theorem ggL_law_X3_init : GoodIn wsL_law wsX3_init := goodIn_r _ [49, 50, 11, 12, 51, 52, 26, 53, 54, 6, 55, 56, 57, 537, 538, 539, 540, 541, 542, 543, 544] (by decide +kernel) (by decide +kernel)
set_option maxRecDepth 20000 in
theorem gL_law_X3_init : GoodIn wsL_law (wsX3_init) := ggL_law_X3_init
set_option maxRecDepth 20000 in
theorem ggL_law_L_open : GoodIn wsL_law wsL_open := goodIn_ca (goodIn_r _ [61, 62, 63, 64, 65, 2, 66, 14, 20, 21, 67, 68, 69, 70, 71, 72, 73, 74, 16, 75, 27, 28, 29, 30, 31, 76, 77, 78, 79, 80, 81, 82, 83, 84, 85, 19, 86, 87, 88, 36, 89, 534, 535, 536, 545, 546, 547, 548, 549, 550, 551, 552] (by decide +kernel) (by decide +kernel)) (goodIn_sub (fun _ h => List.mem_append_left _ (List.mem_append_right _ h)) (by decide +kernel))
set_option maxRecDepth 20000 in
theorem gL_law_L_open : GoodIn wsL_law (va_wsS RL 87 yL_open wsL_open) := goodIn_app (goodIn_of _ (by decide +kernel)) ggL_law_L_open
set_option maxRecDepth 20000 in
theorem ggL_law_X3_open : GoodIn wsL_law wsX3_open := goodIn_r _ [93, 51, 94, 53, 54, 55, 95, 96, 97, 5, 98, 99, 537, 538, 539, 540, 541, 542, 543, 544] (by decide +kernel) (by decide +kernel)
set_option maxRecDepth 20000 in
theorem gL_law_X3_open : GoodIn wsL_law (wsV RL 92 RX3 yX3_open wsX3_open) := goodIn_app (goodIn_of _ (by decide +kernel)) ggL_law_X3_open
set_option maxRecDepth 20000 in
theorem ggL_law_X3_thrown : GoodIn wsL_law wsX3_thrown := goodIn_r _ [103, 99, 537, 538, 539, 540, 541, 542, 543, 544] (by decide +kernel) (by decide +kernel)
set_option maxRecDepth 20000 in
theorem gL_law_X3_thrown : GoodIn wsL_law (wsV RL 93 RX3 yX3_thrown wsX3_thrown) := goodIn_app (goodIn_of _ (by decide +kernel)) ggL_law_X3_thrown
set_option maxRecDepth 20000 in
theorem ggL_law_L_add : GoodIn wsL_law wsL_add := goodIn_ca (goodIn_r _ [106, 62, 107, 108, 109, 2, 110, 14, 111, 112, 113, 114, 115, 116, 117, 118, 21, 119, 120, 121, 67, 68, 69, 70, 71, 122, 123, 124, 125, 126, 127, 16, 128, 28, 129, 130, 131, 132, 133, 134, 135, 136, 27, 534, 535, 536, 545, 546, 547, 548, 549] (by decide +kernel) (by decide +kernel)) (goodIn_sub (fun _ h => List.mem_append_left _ (List.mem_append_right _ h)) (by decide +kernel))
set_option maxRecDepth 20000 in
theorem gL_law_L_add : GoodIn wsL_law (va_wsS RL 97 yL_add wsL_add) := goodIn_app (goodIn_of _ (by decide +kernel)) ggL_law_L_add
set_option maxRecDepth 20000 in
theorem ggL_law_X3_add : GoodIn wsL_law wsX3_add := goodIn_r _ [140, 141, 142, 143, 5, 144, 145, 146, 147, 148, 51, 95, 96, 97, 98, 99, 149, 150, 151, 152, 53, 153, 154, 155, 156, 157, 158, 159, 160, 161, 162, 537, 538, 539, 540, 541, 542, 543, 544] (by decide +kernel) (by decide +kernel)
set_option maxRecDepth 20000 in
theorem gL_law_X3_add : GoodIn wsL_law (wsV RL 100 RX3 yX3_add wsX3_add) := goodIn_app (goodIn_of _ (by decide +kernel)) ggL_law_X3_add
set_option maxRecDepth 20000 in
theorem ggL_law_L_remove : GoodIn wsL_law wsL_remove := goodIn_ca (goodIn_r _ [165, 62, 166, 167, 168, 2, 169, 14, 111, 112, 113, 114, 115, 116, 117, 118, 21, 119, 120, 121, 67, 68, 69, 70, 71, 122, 123, 124, 125, 126, 127, 16, 128, 28, 129, 130, 131, 132, 534, 535, 536, 545, 546, 547, 548, 549] (by decide +kernel) (by decide +kernel)) (goodIn_sub (fun _ h => List.mem_append_left _ (List.mem_append_right _ h)) (by decide +kernel))
set_option maxRecDepth 20000 in
theorem gL_law_L_remove : GoodIn wsL_law (va_wsS RL 101 yL_remove wsL_remove) := goodIn_app (goodIn_of _ (by decide +kernel)) ggL_law_L_remove
set_option maxRecDepth 20000 in
theorem ggL_law_X3_remove : GoodIn wsL_law wsX3_remove := goodIn_r _ [173, 141, 142, 143, 5, 144, 145, 146, 147, 148, 51, 95, 96, 97, 98, 99, 174, 175, 176, 177, 53, 160, 161, 162, 156, 157, 158, 159, 537, 538, 539, 540, 541, 542, 543, 544] (by decide +kernel) (by decide +kernel)
set_option maxRecDepth 20000 in
theorem gL_law_X3_remove : GoodIn wsL_law (wsV RL 103 RX3 yX3_remove wsX3_remove) := goodIn_app (goodIn_of _ (by decide +kernel)) ggL_law_X3_remove
set_option maxRecDepth 20000 in
theorem ggL_law_L_clear : GoodIn wsL_law wsL_clear := goodIn_ca (goodIn_r _ [180, 62, 181, 182, 183, 2, 184, 14, 115, 116, 117, 118, 21, 119, 120, 121, 67, 68, 69, 70, 71, 122, 123, 124, 125, 126, 127, 16, 128, 28, 129, 130, 131, 132, 534, 535, 536, 545, 546, 547, 548, 549] (by decide +kernel) (by decide +kernel)) (goodIn_sub (fun _ h => List.mem_append_left _ (List.mem_append_right _ h)) (by decide +kernel))
set_option maxRecDepth 20000 in
theorem gL_law_L_clear : GoodIn wsL_law (va_wsS RL 104 yL_clear wsL_clear) := goodIn_app (goodIn_of _ (by decide +kernel)) ggL_law_L_clear
set_option maxRecDepth 20000 in
theorem ggL_law_X3_clear : GoodIn wsL_law wsX3_clear := goodIn_r _ [188, 141, 142, 143, 5, 144, 145, 146, 147, 148, 51, 95, 96, 97, 98, 99, 174, 175, 176, 177, 53, 160, 161, 162, 156, 157, 158, 159, 537, 538, 539, 540, 541, 542, 543, 544] (by decide +kernel) (by decide +kernel)
set_option maxRecDepth 20000 in
theorem gL_law_X3_clear : GoodIn wsL_law (wsV RL 107 RX3 yX3_clear wsX3_clear) := goodIn_app (goodIn_of _ (by decide +kernel)) ggL_law_X3_clear
set_option maxRecDepth 20000 in
theorem ggL_law_L_write : GoodIn wsL_law wsL_write := goodIn_ca (goodIn_r _ [191, 62, 192, 193, 194, 2, 195, 14, 196, 115, 116, 117, 118, 21, 119, 120, 121, 67, 68, 69, 70, 71, 125, 126, 127, 16, 128, 28, 129, 130, 131, 132, 133, 134, 135, 136, 27, 534, 535, 536, 545, 546, 547, 548, 549] (by decide +kernel) (by decide +kernel)) (goodIn_sub (fun _ h => List.mem_append_left _ (List.mem_append_right _ h)) (by decide +kernel))
set_option maxRecDepth 20000 in
theorem gL_law_L_write : GoodIn wsL_law (va_wsS RL 108 yL_write wsL_write) := goodIn_app (goodIn_of _ (by decide +kernel)) ggL_law_L_write
set_option maxRecDepth 20000 in
theorem ggL_law_X3_write : GoodIn wsL_law wsX3_write := goodIn_r _ [200, 54, 201, 202, 203, 5, 204, 145, 146, 147, 148, 51, 95, 96, 97, 98, 99, 174, 175, 176, 177, 53, 160, 161, 162, 149, 150, 151, 152, 153, 154, 155, 156, 157, 158, 159, 537, 538, 539, 540, 541, 542, 543, 544] (by decide +kernel) (by decide +kernel)
set_option maxRecDepth 20000 in
theorem gL_law_X3_write : GoodIn wsL_law (wsV RL 110 RX3 yX3_write wsX3_write) := goodIn_app (goodIn_of _ (by decide +kernel)) ggL_law_X3_write
set_option maxRecDepth 20000 in
theorem ggL_law_L_count : GoodIn wsL_law wsL_count := goodIn_ca (goodIn_r _ [207, 62, 208, 209, 210, 2, 211, 14, 212, 213, 115, 116, 117, 118, 21, 119, 120, 121, 67, 68, 69, 70, 71, 214, 215, 216, 16, 217, 30, 31, 534, 535, 536, 545, 546, 547, 548, 549] (by decide +kernel) (by decide +kernel)) (goodIn_sub (fun _ h => List.mem_append_left _ (List.mem_append_right _ h)) (by decide +kernel))
set_option maxRecDepth 20000 in
theorem gL_law_L_count : GoodIn wsL_law (va_wsS RL 111 yL_count wsL_count) := goodIn_app (goodIn_of _ (by decide +kernel)) ggL_law_L_count
set_option maxRecDepth 20000 in
theorem ggL_law_X3_count : GoodIn wsL_law wsX3_count := goodIn_r _ [221, 55, 201, 202, 203, 5, 204, 145, 146, 147, 148, 51, 95, 96, 97, 98, 99, 222, 223, 224, 225, 537, 538, 539, 540, 541, 542, 543, 544] (by decide +kernel) (by decide +kernel)
set_option maxRecDepth 20000 in
theorem gL_law_X3_count : GoodIn wsL_law (wsV RL 113 RX3 yX3_count wsX3_count) := goodIn_app (goodIn_of _ (by decide +kernel)) ggL_law_X3_count
set_option maxRecDepth 20000 in
theorem ggL_law_L_gossip : GoodIn wsL_law wsL_gossip := goodIn_ca (goodIn_ca (goodIn_r _ [228, 62, 229, 230, 231, 232, 2, 233, 234, 235, 20, 236, 237, 238, 14, 115, 116, 117, 118, 21, 119, 120, 121, 67, 68, 69, 70, 71, 239, 240, 241, 19, 242, 89, 243, 244, 245, 16, 246, 247, 15, 27, 248, 249, 250, 251, 28, 29, 30, 31, 252, 23, 24, 25, 11, 12, 26, 6, 253, 254, 255, 256, 257, 258, 259, 260, 261, 262, 263, 87, 88, 36, 264, 265, 266, 267, 268, 269, 270, 271, 272, 273, 274, 275, 35, 276, 277, 278, 279, 280, 281, 282, 283, 284, 285, 286, 287, 288, 289, 290, 291, 78, 292, 293, 294, 295, 296, 297, 298, 299, 300, 301, 302, 303, 304, 305, 534, 535, 536, 553, 554, 555, 550, 551, 552, 545, 546, 547, 548, 549] (by decide +kernel) (by decide +kernel)) (goodIn_sub (fun _ h => List.mem_append_right _ h) (by decide +kernel))) (goodIn_sub (fun _ h => List.mem_append_left _ (List.mem_append_right _ h)) (by decide +kernel))
set_option maxRecDepth 20000 in
theorem gL_law_L_gossip : GoodIn wsL_law (va_wsS RL 114 yL_gossip wsL_gossip) := goodIn_app (goodIn_of _ (by decide +kernel)) ggL_law_L_gossip
set_option maxRecDepth 20000 in
theorem ggL_law_X3_gossip : GoodIn wsL_law wsX3_gossip := goodIn_r _ [309, 94, 56, 57, 145, 146, 147, 5, 148, 51, 95, 96, 97, 98, 99, 310, 311, 312, 313, 53, 54, 55, 537, 538, 539, 540, 541, 542, 543, 544] (by decide +kernel) (by decide +kernel)
set_option maxRecDepth 20000 in
theorem gL_law_X3_gossip : GoodIn wsL_law (wsV RL 116 RX3 yX3_gossip wsX3_gossip) := goodIn_app (goodIn_of _ (by decide +kernel)) ggL_law_X3_gossip
set_option maxRecDepth 20000 in
theorem ggL_law_L_deliver : GoodIn wsL_law wsL_deliver := goodIn_ca (goodIn_r _ [316, 62, 317, 318, 319, 2, 320, 20, 321, 14, 322, 323, 239, 240, 241, 19, 242, 89, 119, 120, 121, 67, 68, 69, 70, 71, 324, 325, 326, 327, 36, 328, 329, 330, 331, 332, 333, 334, 335, 336, 337, 338, 339, 87, 88, 340, 249, 250, 251, 341, 342, 343, 16, 344, 27, 345, 277, 278, 279, 30, 346, 347, 348, 31, 349, 350, 351, 352, 28, 29, 534, 535, 536, 553, 554, 555, 550, 551, 552, 545, 546, 547, 548, 549] (by decide +kernel) (by decide +kernel)) (goodIn_sub (fun _ h => List.mem_append_left _ (List.mem_append_right _ h)) (by decide +kernel))
set_option maxRecDepth 20000 in
theorem gL_law_L_deliver : GoodIn wsL_law (va_wsS RL 117 yL_deliver wsL_deliver) := goodIn_app (goodIn_of _ (by decide +kernel)) ggL_law_L_deliver
set_option maxRecDepth 20000 in
theorem ggL_law_X3_deliver : GoodIn wsL_law wsX3_deliver := goodIn_r _ [356, 57, 357, 358, 359, 5, 360, 94, 95, 96, 97, 98, 99, 361, 362, 363, 364, 53, 54, 55, 160, 161, 162, 153, 154, 155, 365, 366, 367, 368, 56, 310, 311, 312, 313, 537, 538, 539, 540, 541, 542, 543, 544] (by decide +kernel) (by decide +kernel)
set_option maxRecDepth 20000 in
theorem gL_law_X3_deliver : GoodIn wsL_law (wsV RL 120 RX3 yX3_deliver wsX3_deliver) := goodIn_app (goodIn_of _ (by decide +kernel)) ggL_law_X3_deliver
set_option maxRecDepth 20000 in
theorem ggL_law_L_drop : GoodIn wsL_law wsL_drop := goodIn_ca (goodIn_r _ [371, 62, 372, 373, 374, 2, 375, 20, 321, 322, 239, 240, 241, 19, 242, 89, 119, 120, 121, 67, 68, 69, 70, 71, 324, 325, 326, 327, 36, 328, 329, 330, 331, 332, 333, 334, 335, 336, 337, 338, 339, 87, 88, 340, 249, 250, 251, 534, 535, 536, 553, 554, 555, 550, 551, 552] (by decide +kernel) (by decide +kernel)) (goodIn_sub (fun _ h => List.mem_append_left _ (List.mem_append_right _ h)) (by decide +kernel))
set_option maxRecDepth 20000 in
theorem gL_law_L_drop : GoodIn wsL_law (va_wsS RL 121 yL_drop wsL_drop) := goodIn_app (goodIn_of _ (by decide +kernel)) ggL_law_L_drop
set_option maxRecDepth 20000 in
theorem ggL_law_X3_drop : GoodIn wsL_law wsX3_drop := goodIn_r _ [379, 57, 357, 358, 359, 5, 360, 94, 95, 96, 97, 98, 99, 365, 366, 367, 368, 56, 310, 311, 312, 313, 53, 54, 55, 537, 538, 539, 540, 541, 542, 543, 544] (by decide +kernel) (by decide +kernel)
set_option maxRecDepth 20000 in
theorem gL_law_X3_drop : GoodIn wsL_law (wsV RL 123 RX3 yX3_drop wsX3_drop) := goodIn_app (goodIn_of _ (by decide +kernel)) ggL_law_X3_drop
set_option maxRecDepth 20000 in
theorem ggL_law_L_copy : GoodIn wsL_law wsL_copy := goodIn_ca (goodIn_r _ [382, 62, 383, 384, 385, 2, 386, 20, 321, 236, 237, 238, 387, 322, 323, 239, 240, 241, 19, 242, 89, 119, 120, 121, 67, 68, 69, 70, 71, 388, 389, 390, 391, 328, 329, 330, 331, 332, 333, 334, 335, 392, 393, 394, 395, 36, 253, 254, 255, 256, 11, 12, 257, 258, 259, 260, 261, 262, 263, 87, 88, 264, 265, 266, 267, 268, 269, 270, 271, 272, 273, 274, 275, 35, 276, 277, 278, 279, 280, 281, 282, 283, 284, 285, 286, 287, 288, 289, 290, 291, 78, 292, 293, 294, 295, 296, 297, 298, 299, 300, 301, 302, 303, 304, 305, 249, 250, 251, 534, 535, 536, 553, 554, 555, 550, 551, 552] (by decide +kernel) (by decide +kernel)) (goodIn_sub (fun _ h => List.mem_append_left _ (List.mem_append_right _ h)) (by decide +kernel))
set_option maxRecDepth 20000 in
theorem gL_law_L_copy : GoodIn wsL_law (va_wsS RL 124 yL_copy wsL_copy) := goodIn_app (goodIn_of _ (by decide +kernel)) ggL_law_L_copy
set_option maxRecDepth 20000 in
theorem ggL_law_X3_copy : GoodIn wsL_law wsX3_copy := goodIn_r _ [399, 94, 56, 57, 357, 358, 359, 5, 360, 95, 96, 97, 98, 99, 310, 311, 312, 313, 53, 54, 55, 537, 538, 539, 540, 541, 542, 543, 544] (by decide +kernel) (by decide +kernel)
set_option maxRecDepth 20000 in
theorem gL_law_X3_copy : GoodIn wsL_law (wsV RL 126 RX3 yX3_copy wsX3_copy) := goodIn_app (goodIn_of _ (by decide +kernel)) ggL_law_X3_copy
set_option maxRecDepth 20000 in
theorem ggL_law_L_turn : GoodIn wsL_law wsL_turn := goodIn_ca (goodIn_r _ [402, 62, 403, 404, 405, 2, 406, 20, 321, 322, 239, 240, 241, 19, 242, 89, 119, 120, 121, 67, 68, 69, 70, 71, 115, 116, 117, 118, 21, 388, 389, 390, 391, 328, 329, 330, 331, 332, 333, 334, 335, 392, 393, 394, 395, 36, 534, 535, 536, 553, 554, 555, 550, 551, 552] (by decide +kernel) (by decide +kernel)) (goodIn_sub (fun _ h => List.mem_append_left _ (List.mem_append_right _ h)) (by decide +kernel))
set_option maxRecDepth 20000 in
theorem gL_law_L_turn : GoodIn wsL_law (va_wsS RL 127 yL_turn wsL_turn) := goodIn_app (goodIn_of _ (by decide +kernel)) ggL_law_L_turn
set_option maxRecDepth 20000 in
theorem ggL_law_X3_turn : GoodIn wsL_law wsX3_turn := goodIn_r _ [410, 57, 357, 358, 359, 5, 360, 94, 145, 146, 147, 148, 51, 95, 96, 97, 98, 99, 537, 538, 539, 540, 541, 542, 543, 544] (by decide +kernel) (by decide +kernel)
set_option maxRecDepth 20000 in
theorem gL_law_X3_turn : GoodIn wsL_law (wsV RL 130 RX3 yX3_turn wsX3_turn) := goodIn_app (goodIn_of _ (by decide +kernel)) ggL_law_X3_turn
set_option maxRecDepth 20000 in
theorem ggL_law_L_contains : GoodIn wsL_law wsL_contains := goodIn_ca (goodIn_r _ [413, 62, 414, 415, 416, 2, 417, 14, 111, 112, 113, 114, 115, 116, 117, 118, 21, 119, 120, 121, 67, 68, 69, 70, 71, 122, 123, 124, 418, 130, 131, 16, 132, 28, 534, 535, 536, 545, 546, 547, 548, 549] (by decide +kernel) (by decide +kernel)) (goodIn_sub (fun _ h => List.mem_append_left _ (List.mem_append_right _ h)) (by decide +kernel))
set_option maxRecDepth 20000 in
theorem gL_law_L_contains : GoodIn wsL_law (va_wsS RL 131 yL_contains wsL_contains) := goodIn_app (goodIn_of _ (by decide +kernel)) ggL_law_L_contains
set_option maxRecDepth 20000 in
theorem ggL_law_X3_contains : GoodIn wsL_law wsX3_contains := goodIn_r _ [422, 141, 142, 143, 5, 144, 145, 146, 147, 148, 51, 95, 96, 97, 98, 99, 174, 175, 176, 177, 53, 160, 161, 162, 537, 538, 539, 540, 541, 542, 543, 544] (by decide +kernel) (by decide +kernel)
set_option maxRecDepth 20000 in
theorem gL_law_X3_contains : GoodIn wsL_law (wsV RL 133 RX3 yX3_contains wsX3_contains) := goodIn_app (goodIn_of _ (by decide +kernel)) ggL_law_X3_contains
set_option maxRecDepth 20000 in
theorem ggL_law_L_size : GoodIn wsL_law wsL_size := goodIn_ca (goodIn_r _ [425, 62, 426, 427, 428, 2, 429, 14, 115, 116, 117, 118, 21, 119, 120, 121, 67, 68, 69, 70, 71, 122, 123, 124, 418, 130, 131, 16, 132, 28, 534, 535, 536, 545, 546, 547, 548, 549] (by decide +kernel) (by decide +kernel)) (goodIn_sub (fun _ h => List.mem_append_left _ (List.mem_append_right _ h)) (by decide +kernel))
set_option maxRecDepth 20000 in
theorem gL_law_L_size : GoodIn wsL_law (va_wsS RL 134 yL_size wsL_size) := goodIn_app (goodIn_of _ (by decide +kernel)) ggL_law_L_size
set_option maxRecDepth 20000 in
theorem ggL_law_X3_size : GoodIn wsL_law wsX3_size := goodIn_r _ [433, 141, 142, 143, 5, 144, 145, 146, 147, 148, 51, 95, 96, 97, 98, 99, 174, 175, 176, 177, 53, 160, 161, 162, 537, 538, 539, 540, 541, 542, 543, 544] (by decide +kernel) (by decide +kernel)
set_option maxRecDepth 20000 in
theorem gL_law_X3_size : GoodIn wsL_law (wsV RL 136 RX3 yX3_size wsX3_size) := goodIn_app (goodIn_of _ (by decide +kernel)) ggL_law_X3_size
set_option maxRecDepth 20000 in
theorem ggL_law_L_dot : GoodIn wsL_law wsL_dot := goodIn_ca (goodIn_r _ [436, 62, 437, 438, 439, 2, 440, 14, 111, 112, 113, 114, 115, 116, 117, 118, 21, 119, 120, 121, 67, 68, 69, 70, 71, 122, 123, 124, 441, 442, 443, 16, 444, 28, 445, 446, 447, 448, 534, 535, 536, 545, 546, 547, 548, 549] (by decide +kernel) (by decide +kernel)) (goodIn_sub (fun _ h => List.mem_append_left _ (List.mem_append_right _ h)) (by decide +kernel))
set_option maxRecDepth 20000 in
theorem gL_law_L_dot : GoodIn wsL_law (va_wsS RL 137 yL_dot wsL_dot) := goodIn_app (goodIn_of _ (by decide +kernel)) ggL_law_L_dot
set_option maxRecDepth 20000 in
theorem ggL_law_X3_dot : GoodIn wsL_law wsX3_dot := goodIn_r _ [452, 53, 141, 142, 143, 5, 144, 145, 146, 147, 148, 51, 95, 96, 97, 98, 99, 453, 454, 455, 456, 160, 161, 162, 537, 538, 539, 540, 541, 542, 543, 544] (by decide +kernel) (by decide +kernel)
set_option maxRecDepth 20000 in
theorem gL_law_X3_dot : GoodIn wsL_law (wsV RL 140 RX3 yX3_dot wsX3_dot) := goodIn_app (goodIn_of _ (by decide +kernel)) ggL_law_X3_dot
set_option maxRecDepth 20000 in
theorem ggL_law_L_value : GoodIn wsL_law wsL_value := goodIn_ca (goodIn_r _ [459, 62, 460, 461, 462, 2, 463, 14, 196, 115, 116, 117, 118, 21, 119, 120, 121, 67, 68, 69, 70, 71, 441, 442, 443, 16, 444, 28, 445, 446, 447, 448, 534, 535, 536, 545, 546, 547, 548, 549] (by decide +kernel) (by decide +kernel)) (goodIn_sub (fun _ h => List.mem_append_left _ (List.mem_append_right _ h)) (by decide +kernel))
set_option maxRecDepth 20000 in
theorem gL_law_L_value : GoodIn wsL_law (va_wsS RL 141 yL_value wsL_value) := goodIn_app (goodIn_of _ (by decide +kernel)) ggL_law_L_value
set_option maxRecDepth 20000 in
theorem ggL_law_X3_value : GoodIn wsL_law wsX3_value := goodIn_r _ [467, 53, 54, 201, 202, 203, 5, 204, 145, 146, 147, 148, 51, 95, 96, 97, 98, 99, 453, 454, 455, 456, 160, 161, 162, 537, 538, 539, 540, 541, 542, 543, 544] (by decide +kernel) (by decide +kernel)
set_option maxRecDepth 20000 in
theorem gL_law_X3_value : GoodIn wsL_law (wsV RL 144 RX3 yX3_value wsX3_value) := goodIn_app (goodIn_of _ (by decide +kernel)) ggL_law_X3_value
set_option maxRecDepth 20000 in
theorem ggL_law_L_values : GoodIn wsL_law wsL_values := goodIn_ca (goodIn_r _ [470, 62, 471, 472, 473, 2, 474, 14, 115, 116, 117, 118, 21, 119, 120, 121, 67, 68, 69, 70, 71, 418, 130, 131, 16, 132, 28, 534, 535, 536, 545, 546, 547, 548, 549] (by decide +kernel) (by decide +kernel)) (goodIn_sub (fun _ h => List.mem_append_left _ (List.mem_append_right _ h)) (by decide +kernel))
set_option maxRecDepth 20000 in
theorem gL_law_L_values : GoodIn wsL_law (va_wsS RL 145 yL_values wsL_values) := goodIn_app (goodIn_of _ (by decide +kernel)) ggL_law_L_values
set_option maxRecDepth 20000 in
theorem ggL_law_X3_values : GoodIn wsL_law wsX3_values := goodIn_r _ [478, 201, 202, 203, 5, 204, 145, 146, 147, 148, 51, 95, 96, 97, 98, 99, 174, 175, 176, 177, 53, 160, 161, 162, 537, 538, 539, 540, 541, 542, 543, 544] (by decide +kernel) (by decide +kernel)
set_option maxRecDepth 20000 in
theorem gL_law_X3_values : GoodIn wsL_law (wsV RL 147 RX3 yX3_values wsX3_values) := goodIn_app (goodIn_of _ (by decide +kernel)) ggL_law_X3_values
set_option maxRecDepth 20000 in
theorem ggL_law_L_total : GoodIn wsL_law wsL_total := goodIn_ca (goodIn_r _ [481, 62, 482, 483, 484, 2, 485, 14, 115, 116, 117, 118, 21, 119, 120, 121, 67, 68, 69, 70, 71, 214, 215, 216, 16, 217, 30, 31, 534, 535, 536, 545, 546, 547, 548, 549] (by decide +kernel) (by decide +kernel)) (goodIn_sub (fun _ h => List.mem_append_left _ (List.mem_append_right _ h)) (by decide +kernel))
set_option maxRecDepth 20000 in
theorem gL_law_L_total : GoodIn wsL_law (va_wsS RL 148 yL_total wsL_total) := goodIn_app (goodIn_of _ (by decide +kernel)) ggL_law_L_total
set_option maxRecDepth 20000 in
theorem ggL_law_X3_total : GoodIn wsL_law wsX3_total := goodIn_r _ [489, 201, 202, 203, 5, 204, 145, 146, 147, 148, 51, 95, 96, 97, 98, 99, 222, 223, 224, 225, 55, 537, 538, 539, 540, 541, 542, 543, 544] (by decide +kernel) (by decide +kernel)
set_option maxRecDepth 20000 in
theorem gL_law_X3_total : GoodIn wsL_law (wsV RL 150 RX3 yX3_total wsX3_total) := goodIn_app (goodIn_of _ (by decide +kernel)) ggL_law_X3_total
set_option maxRecDepth 20000 in
theorem ggL_law_L_vector : GoodIn wsL_law wsL_vector := goodIn_ca (goodIn_r _ [492, 62, 493, 494, 495, 2, 496, 14, 497, 115, 116, 117, 118, 21, 119, 120, 121, 67, 68, 69, 70, 71, 534, 535, 536, 545, 546, 547, 548, 549] (by decide +kernel) (by decide +kernel)) (goodIn_sub (fun _ h => List.mem_append_left _ (List.mem_append_right _ h)) (by decide +kernel))
set_option maxRecDepth 20000 in
theorem gL_law_L_vector : GoodIn wsL_law (va_wsS RL 151 yL_vector wsL_vector) := goodIn_app (goodIn_of _ (by decide +kernel)) ggL_law_L_vector
set_option maxRecDepth 20000 in
theorem ggL_law_X3_vector : GoodIn wsL_law wsX3_vector := goodIn_r _ [501, 53, 145, 146, 147, 5, 148, 51, 95, 96, 97, 98, 99, 153, 154, 155, 537, 538, 539, 540, 541, 542, 543, 544] (by decide +kernel) (by decide +kernel)
set_option maxRecDepth 20000 in
theorem gL_law_X3_vector : GoodIn wsL_law (wsV RL 153 RX3 yX3_vector wsX3_vector) := goodIn_app (goodIn_of _ (by decide +kernel)) ggL_law_X3_vector
set_option maxRecDepth 20000 in
theorem ggL_law_L_same : GoodIn wsL_law wsL_same := goodIn_ca (goodIn_r _ [504, 62, 505, 506, 507, 2, 508, 14, 115, 116, 117, 118, 21, 119, 120, 121, 67, 68, 69, 70, 71, 509, 510, 511, 16, 512, 27, 28, 30, 31, 513, 514, 515, 516, 517, 518, 534, 535, 536, 545, 546, 547, 548, 549] (by decide +kernel) (by decide +kernel)) (goodIn_sub (fun _ h => List.mem_append_left _ (List.mem_append_right _ h)) (by decide +kernel))
set_option maxRecDepth 20000 in
theorem gL_law_L_same : GoodIn wsL_law (va_wsS RL 154 yL_same wsL_same) := goodIn_app (goodIn_of _ (by decide +kernel)) ggL_law_L_same
set_option maxRecDepth 20000 in
theorem ggL_law_X3_same : GoodIn wsL_law wsX3_same := goodIn_r _ [522, 53, 54, 55, 145, 146, 147, 5, 148, 51, 95, 96, 97, 98, 99, 160, 161, 162, 537, 538, 539, 540, 541, 542, 543, 544] (by decide +kernel) (by decide +kernel)
set_option maxRecDepth 20000 in
theorem gL_law_X3_same : GoodIn wsL_law (wsV RL 156 RX3 yX3_same wsX3_same) := goodIn_app (goodIn_of _ (by decide +kernel)) ggL_law_X3_same
set_option maxRecDepth 20000 in
theorem ggL_law_L_message : GoodIn wsL_law wsL_message := goodIn_ca (goodIn_r _ [525, 62, 526, 527, 528, 2, 529, 21, 20, 321, 387, 322, 323, 497, 239, 240, 241, 19, 242, 89, 119, 120, 121, 67, 68, 69, 70, 71, 388, 389, 390, 391, 328, 329, 330, 331, 332, 333, 334, 335, 392, 393, 394, 395, 36, 534, 535, 536, 553, 554, 555, 545, 546, 547, 548, 549, 550, 551, 552] (by decide +kernel) (by decide +kernel)) (goodIn_sub (fun _ h => List.mem_append_left _ (List.mem_append_right _ h)) (by decide +kernel))
set_option maxRecDepth 20000 in
theorem gL_law_L_message : GoodIn wsL_law (va_wsS RL 157 yL_message wsL_message) := goodIn_app (goodIn_of _ (by decide +kernel)) ggL_law_L_message
set_option maxRecDepth 20000 in
theorem ggL_law_X3_message : GoodIn wsL_law wsX3_message := goodIn_r _ [533, 99, 51, 94, 56, 57, 53, 357, 358, 359, 5, 360, 95, 96, 97, 98, 153, 154, 155, 537, 538, 539, 540, 541, 542, 543, 544] (by decide +kernel) (by decide +kernel)
set_option maxRecDepth 20000 in
theorem gL_law_X3_message : GoodIn wsL_law (wsV RL 159 RX3 yX3_message wsX3_message) := goodIn_app (goodIn_of _ (by decide +kernel)) ggL_law_X3_message
