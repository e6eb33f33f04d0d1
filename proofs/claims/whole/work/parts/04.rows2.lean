theorem dX7_undo_36 : decode cX7_undo 36 = .ok (.invokevirtual 260, 3) := by decide +kernel
theorem dX7_undo_39 : decode cX7_undo 39 = .ok (.ireturn, 1) := by decide +kernel
set_option maxRecDepth 20000 in
theorem ggX7_save_X0_copyTo : GoodIn wsX7_save wsX0_copyTo := goodIn_r _ [8, 9, 10, 11, 12, 13, 29] rfl (by decide +kernel)
set_option maxRecDepth 20000 in
theorem gX7_save_X0_copyTo : GoodIn wsX7_save (wsV RX7 268 RX0 yX0_copyTo wsX0_copyTo) := goodIn_app (goodIn_r _ [4, 5, 6, 7] rfl (by decide +kernel)) ggX7_save_X0_copyTo
set_option maxRecDepth 20000 in
theorem ggX7_save_X0_get : GoodIn wsX7_save wsX0_get := goodIn_ca (goodIn_r _ [17, 9, 29] rfl (by decide +kernel)) (goodIn_sub (fun _ h => List.mem_cons_of_mem _ (List.mem_append_right _ h)) (by decide +kernel))
set_option maxRecDepth 20000 in
theorem gX7_save_X0_get : GoodIn wsX7_save (wsV RX7 84 RX0 yX0_get wsX0_get) := goodIn_app (goodIn_r _ [14, 15, 16, 7] rfl (by decide +kernel)) ggX7_save_X0_get
theorem dX7_save_0 : decode cX7_save 0 = .ok (.aload_n 0, 1) := by decide +kernel
theorem dX7_save_1 : decode cX7_save 1 = .ok (.getfield 10, 3) := by decide +kernel
theorem dX7_save_4 : decode cX7_save 4 = .ok (.aload_n 0, 1) := by decide +kernel
theorem dX7_save_5 : decode cX7_save 5 = .ok (.getfield 44, 3) := by decide +kernel
theorem dX7_save_8 : decode cX7_save 8 = .ok (.iconst 0, 1) := by decide +kernel
theorem dX7_save_9 : decode cX7_save 9 = .ok (.invokevirtual 268, 3) := by decide +kernel
theorem dX7_save_12 : decode cX7_save 12 = .ok (.aload_n 0, 1) := by decide +kernel
theorem dX7_save_13 : decode cX7_save 13 = .ok (.iconst 1, 1) := by decide +kernel
theorem dX7_save_14 : decode cX7_save 14 = .ok (.putfield 48, 3) := by decide +kernel
theorem dX7_save_17 : decode cX7_save 17 = .ok (.aload_n 0, 1) := by decide +kernel
theorem dX7_save_18 : decode cX7_save 18 = .ok (.getfield 10, 3) := by decide +kernel
theorem dX7_save_21 : decode cX7_save 21 = .ok (.iconst 0, 1) := by decide +kernel
theorem dX7_save_22 : decode cX7_save 22 = .ok (.invokevirtual 84, 3) := by decide +kernel
theorem dX7_save_25 : decode cX7_save 25 = .ok (.ireturn, 1) := by decide +kernel
set_option maxRecDepth 20000 in
theorem ggX7_restore_X0_copyFrom : GoodIn wsX7_restore wsX0_copyFrom := goodIn_r _ [11, 12, 13, 14, 15, 16, 38] rfl (by decide +kernel)
set_option maxRecDepth 20000 in
theorem gX7_restore_X0_copyFrom : GoodIn wsX7_restore (wsV RX7 274 RX0 yX0_copyFrom wsX0_copyFrom) := goodIn_app (goodIn_r _ [7, 8, 9, 10] rfl (by decide +kernel)) ggX7_restore_X0_copyFrom
set_option maxRecDepth 20000 in
theorem ggX7_restore_X2_forget : GoodIn wsX7_restore wsX2_forget := goodIn_r _ [21, 22, 39, 40, 41] rfl (by decide +kernel)
set_option maxRecDepth 20000 in
theorem gX7_restore_X2_forget : GoodIn wsX7_restore (wsV RX7 277 RX2 yX2_forget wsX2_forget) := goodIn_app (goodIn_r _ [17, 18, 19, 20] rfl (by decide +kernel)) ggX7_restore_X2_forget
set_option maxRecDepth 20000 in
theorem ggX7_restore_X0_get : GoodIn wsX7_restore wsX0_get := goodIn_ca (goodIn_r _ [26, 12, 38] rfl (by decide +kernel)) (goodIn_sub (fun _ h => List.mem_cons_of_mem _ (List.mem_append_right _ h)) (by decide +kernel))
set_option maxRecDepth 20000 in
theorem gX7_restore_X0_get : GoodIn wsX7_restore (wsV RX7 84 RX0 yX0_get wsX0_get) := goodIn_app (goodIn_r _ [23, 24, 25, 10] rfl (by decide +kernel)) ggX7_restore_X0_get
theorem dX7_restore_0 : decode cX7_restore 0 = .ok (.aload_n 0, 1) := by decide +kernel
theorem dX7_restore_1 : decode cX7_restore 1 = .ok (.getfield 48, 3) := by decide +kernel
theorem dX7_restore_4 : decode cX7_restore 4 = .ok (.ifCond .ne 14, 3) := by decide +kernel
theorem dX7_restore_7 : decode cX7_restore 7 = .ok (.new 172, 3) := by decide +kernel
theorem dX7_restore_10 : decode cX7_restore 10 = .ok (.dup, 1) := by decide +kernel
theorem dX7_restore_11 : decode cX7_restore 11 = .ok (.ldc_w 272, 3) := by decide +kernel
theorem dX7_restore_14 : decode cX7_restore 14 = .ok (.invokespecial 176, 3) := by decide +kernel
theorem dX7_restore_17 : decode cX7_restore 17 = .ok (.athrow, 1) := by decide +kernel
theorem dX7_restore_18 : decode cX7_restore 18 = .ok (.aload_n 0, 1) := by decide +kernel
theorem dX7_restore_19 : decode cX7_restore 19 = .ok (.getfield 10, 3) := by decide +kernel
theorem dX7_restore_22 : decode cX7_restore 22 = .ok (.aload_n 0, 1) := by decide +kernel
theorem dX7_restore_23 : decode cX7_restore 23 = .ok (.getfield 44, 3) := by decide +kernel
theorem dX7_restore_26 : decode cX7_restore 26 = .ok (.iconst 0, 1) := by decide +kernel
theorem dX7_restore_27 : decode cX7_restore 27 = .ok (.invokevirtual 274, 3) := by decide +kernel
theorem dX7_restore_30 : decode cX7_restore 30 = .ok (.aload_n 0, 1) := by decide +kernel
theorem dX7_restore_31 : decode cX7_restore 31 = .ok (.getfield 26, 3) := by decide +kernel
theorem dX7_restore_34 : decode cX7_restore 34 = .ok (.invokevirtual 277, 3) := by decide +kernel
theorem dX7_restore_37 : decode cX7_restore 37 = .ok (.aload_n 0, 1) := by decide +kernel
theorem dX7_restore_38 : decode cX7_restore 38 = .ok (.getfield 10, 3) := by decide +kernel
theorem dX7_restore_41 : decode cX7_restore 41 = .ok (.iconst 0, 1) := by decide +kernel
theorem dX7_restore_42 : decode cX7_restore 42 = .ok (.invokevirtual 84, 3) := by decide +kernel
theorem dX7_restore_45 : decode cX7_restore 45 = .ok (.ireturn, 1) := by decide +kernel
set_option maxRecDepth 20000 in
theorem ggX7_change_X2_prepare : GoodIn wsX7_change wsX2_prepare := goodIn_r _ [10, 11, 12, 13, 14, 15, 16, 17, 18, 19, 20, 21, 22, 238, 239, 240, 241] rfl (by decide +kernel)
set_option maxRecDepth 20000 in
theorem gX7_change_X2_prepare : GoodIn wsX7_change (wsV RX7 192 RX2 yX2_prepare wsX2_prepare) := goodIn_app (goodIn_r _ [6, 7, 8, 9] rfl (by decide +kernel)) ggX7_change_X2_prepare
set_option maxRecDepth 20000 in
theorem ggX7_change_X6_carryOut : GoodIn wsX7_change wsX6_carryOut := goodIn_ca (goodIn_ca (goodIn_r _ [27, 28, 29, 30, 31, 32, 26, 33, 34, 35, 36, 37, 38, 39, 40, 41, 42, 43, 16, 44, 18, 45, 46, 47, 48, 49, 50, 51, 52, 53, 54, 55, 56, 57, 58, 59, 60, 61, 62, 63, 64, 65, 66, 67, 68, 69, 70, 71, 72, 73, 74, 75, 76, 77, 78, 79, 80, 81, 82, 83, 84, 85, 86, 87, 88, 89, 90, 91, 92, 93, 94, 95, 96, 97, 98, 99, 100, 101, 102, 103, 104, 105, 106, 107, 108, 109, 110, 111, 112, 113, 114, 115, 116, 117, 118, 119, 120, 121, 122, 123, 124, 125, 126, 127, 128, 129, 130, 131, 132, 133, 134, 135, 136, 137, 138, 139, 140, 141, 142, 143, 144, 145, 146, 147, 148, 149, 150, 151, 152, 153, 154, 155, 156, 157, 158, 159, 160, 161, 162, 163, 164, 165, 166, 167, 168, 169, 170, 171, 172, 173, 174, 175, 176, 177, 178, 179, 180, 181, 182, 183, 184, 185, 186, 187, 188, 189, 190, 191, 192, 193, 194, 195, 196, 197, 198, 199, 242, 243, 241] rfl (by decide +kernel)) (goodIn_sub (fun _ h => List.mem_cons_of_mem _ (List.mem_append_left _ (List.mem_append_right _ h))) (by decide +kernel))) (goodIn_sub (fun _ h => List.mem_cons_of_mem _ (List.mem_append_right _ h)) (by decide +kernel))
set_option maxRecDepth 20000 in
theorem gX7_change_X6_carryOut : GoodIn wsX7_change (wsV RX7 205 RX6 yX6_carryOut wsX6_carryOut) := goodIn_app (goodIn_r _ [23, 24, 25, 26] rfl (by decide +kernel)) ggX7_change_X6_carryOut
set_option maxRecDepth 20000 in
theorem ggX7_change_X6_isRefused : GoodIn wsX7_change wsX6_isRefused := goodIn_r _ [203, 28, 242, 243] rfl (by decide +kernel)
set_option maxRecDepth 20000 in
theorem gX7_change_X6_isRefused : GoodIn wsX7_change (wsV RX7 209 RX6 yX6_isRefused wsX6_isRefused) := goodIn_app (goodIn_r _ [200, 201, 202, 26] rfl (by decide +kernel)) ggX7_change_X6_isRefused
set_option maxRecDepth 20000 in
theorem ggX7_change_X7_keepReason : GoodIn wsX7_change wsX7_keepReason := goodIn_r _ [207, 5, 208, 209, 210, 211, 212, 213, 26, 214, 28, 215, 216, 217, 218, 29, 227, 228, 229, 230, 231, 232, 233, 234, 235, 236, 237, 242, 243] rfl (by decide +kernel)
set_option maxRecDepth 20000 in
theorem gX7_change_X7_keepReason : GoodIn wsX7_change (wsV RX7 215 RX7 yX7_keepReason wsX7_keepReason) := goodIn_app (goodIn_r _ [204, 205, 206, 35] rfl (by decide +kernel)) ggX7_change_X7_keepReason
set_option maxRecDepth 20000 in
theorem ggX7_change_X2_accept : GoodIn wsX7_change wsX2_accept := goodIn_r _ [222, 12, 223, 224, 225, 106, 226, 238, 239, 240] rfl (by decide +kernel)
set_option maxRecDepth 20000 in
theorem gX7_change_X2_accept : GoodIn wsX7_change (wsV RX7 223 RX2 yX2_accept wsX2_accept) := goodIn_app (goodIn_r _ [219, 220, 221, 9] rfl (by decide +kernel)) ggX7_change_X2_accept
theorem dX7_change_0 : decode cX7_change 0 = .ok (.aload_n 0, 1) := by decide +kernel
theorem dX7_change_1 : decode cX7_change 1 = .ok (.getfield 26, 3) := by decide +kernel
theorem dX7_change_4 : decode cX7_change 4 = .ok (.aload_n 0, 1) := by decide +kernel
theorem dX7_change_5 : decode cX7_change 5 = .ok (.getfield 10, 3) := by decide +kernel
theorem dX7_change_8 : decode cX7_change 8 = .ok (.invokevirtual 192, 3) := by decide +kernel
theorem dX7_change_11 : decode cX7_change 11 = .ok (.aload_n 0, 1) := by decide +kernel
theorem dX7_change_12 : decode cX7_change 12 = .ok (.getfield 19, 3) := by decide +kernel
theorem dX7_change_15 : decode cX7_change 15 = .ok (.aload_n 0, 1) := by decide +kernel
theorem dX7_change_16 : decode cX7_change 16 = .ok (.getfield 10, 3) := by decide +kernel
theorem dX7_change_19 : decode cX7_change 19 = .ok (.iload_n 1, 1) := by decide +kernel
theorem dX7_change_20 : decode cX7_change 20 = .ok (.iload_n 2, 1) := by decide +kernel
theorem dX7_change_21 : decode cX7_change 21 = .ok (.iload_n 3, 1) := by decide +kernel
theorem dX7_change_22 : decode cX7_change 22 = .ok (.iload 4, 2) := by decide +kernel
theorem dX7_change_24 : decode cX7_change 24 = .ok (.invokevirtual 205, 3) := by decide +kernel
theorem dX7_change_27 : decode cX7_change 27 = .ok (.istore 5, 2) := by decide +kernel
theorem dX7_change_29 : decode cX7_change 29 = .ok (.aload_n 0, 1) := by decide +kernel
theorem dX7_change_30 : decode cX7_change 30 = .ok (.getfield 19, 3) := by decide +kernel
theorem dX7_change_33 : decode cX7_change 33 = .ok (.invokevirtual 209, 3) := by decide +kernel
theorem dX7_change_36 : decode cX7_change 36 = .ok (.ifCond .eq 19, 3) := by decide +kernel
theorem dX7_change_39 : decode cX7_change 39 = .ok (.aload_n 0, 1) := by decide +kernel
theorem dX7_change_40 : decode cX7_change 40 = .ok (.iconst 0, 1) := by decide +kernel
theorem dX7_change_41 : decode cX7_change 41 = .ok (.invokevirtual 215, 3) := by decide +kernel
theorem dX7_change_44 : decode cX7_change 44 = .ok (.new 218, 3) := by decide +kernel
theorem dX7_change_47 : decode cX7_change 47 = .ok (.dup, 1) := by decide +kernel
theorem dX7_change_48 : decode cX7_change 48 = .ok (.ldc_w 280, 3) := by decide +kernel
theorem dX7_change_51 : decode cX7_change 51 = .ok (.invokespecial 222, 3) := by decide +kernel
theorem dX7_change_54 : decode cX7_change 54 = .ok (.athrow, 1) := by decide +kernel
theorem dX7_change_55 : decode cX7_change 55 = .ok (.aload_n 0, 1) := by decide +kernel
theorem dX7_change_56 : decode cX7_change 56 = .ok (.getfield 26, 3) := by decide +kernel
theorem dX7_change_59 : decode cX7_change 59 = .ok (.invokevirtual 223, 3) := by decide +kernel
theorem dX7_change_62 : decode cX7_change 62 = .ok (.iload 5, 2) := by decide +kernel
theorem dX7_change_64 : decode cX7_change 64 = .ok (.ireturn, 1) := by decide +kernel
set_option maxRecDepth 20000 in
theorem ggX7_keepReason_X6_latestReason : GoodIn wsX7_keepReason wsX6_latestReason := goodIn_r _ [9, 10, 27, 28] rfl (by decide +kernel)
set_option maxRecDepth 20000 in
theorem gX7_keepReason_X6_latestReason : GoodIn wsX7_keepReason (wsV RX7 282 RX6 yX6_latestReason wsX6_latestReason) := goodIn_app (goodIn_r _ [5, 6, 7, 8] rfl (by decide +kernel)) ggX7_keepReason_X6_latestReason
set_option maxRecDepth 20000 in
theorem ggX7_keepReason_X6_latestDetail : GoodIn wsX7_keepReason wsX6_latestDetail := goodIn_r _ [14, 15, 27, 28] rfl (by decide +kernel)
set_option maxRecDepth 20000 in
theorem gX7_keepReason_X6_latestDetail : GoodIn wsX7_keepReason (wsV RX7 285 RX6 yX6_latestDetail wsX6_latestDetail) := goodIn_app (goodIn_r _ [11, 12, 13, 8] rfl (by decide +kernel)) ggX7_keepReason_X6_latestDetail
theorem dX7_keepReason_0 : decode cX7_keepReason 0 = .ok (.aload_n 0, 1) := by decide +kernel
theorem dX7_keepReason_1 : decode cX7_keepReason 1 = .ok (.aload_n 0, 1) := by decide +kernel
theorem dX7_keepReason_2 : decode cX7_keepReason 2 = .ok (.getfield 19, 3) := by decide +kernel
theorem dX7_keepReason_5 : decode cX7_keepReason 5 = .ok (.invokevirtual 282, 3) := by decide +kernel
theorem dX7_keepReason_8 : decode cX7_keepReason 8 = .ok (.putfield 56, 3) := by decide +kernel
theorem dX7_keepReason_11 : decode cX7_keepReason 11 = .ok (.aload_n 0, 1) := by decide +kernel
theorem dX7_keepReason_12 : decode cX7_keepReason 12 = .ok (.aload_n 0, 1) := by decide +kernel
theorem dX7_keepReason_13 : decode cX7_keepReason 13 = .ok (.getfield 19, 3) := by decide +kernel
theorem dX7_keepReason_16 : decode cX7_keepReason 16 = .ok (.invokevirtual 285, 3) := by decide +kernel
theorem dX7_keepReason_19 : decode cX7_keepReason 19 = .ok (.putfield 59, 3) := by decide +kernel
theorem dX7_keepReason_22 : decode cX7_keepReason 22 = .ok (.aload_n 0, 1) := by decide +kernel
theorem dX7_keepReason_23 : decode cX7_keepReason 23 = .ok (.iload_n 1, 1) := by decide +kernel
theorem dX7_keepReason_24 : decode cX7_keepReason 24 = .ok (.putfield 62, 3) := by decide +kernel
theorem dX7_keepReason_27 : decode cX7_keepReason 27 = .ok (.return_, 1) := by decide +kernel
set_option maxRecDepth 20000 in
theorem ggX7_refuseStranger_X0_isMember : GoodIn wsX7_refuseStranger wsX0_isMember := goodIn_ca (goodIn_r _ [8, 9, 21] rfl (by decide +kernel)) (goodIn_sub (fun _ h => List.mem_cons_of_mem _ (List.mem_append_right _ h)) (by decide +kernel))
set_option maxRecDepth 20000 in
theorem gX7_refuseStranger_X0_isMember : GoodIn wsX7_refuseStranger (wsV RX7 288 RX0 yX0_isMember wsX0_isMember) := goodIn_app (goodIn_r _ [4, 5, 6, 7] rfl (by decide +kernel)) ggX7_refuseStranger_X0_isMember
theorem dX7_refuseStranger_0 : decode cX7_refuseStranger 0 = .ok (.aload_n 0, 1) := by decide +kernel
theorem dX7_refuseStranger_1 : decode cX7_refuseStranger 1 = .ok (.getfield 10, 3) := by decide +kernel
theorem dX7_refuseStranger_4 : decode cX7_refuseStranger 4 = .ok (.iload_n 1, 1) := by decide +kernel
theorem dX7_refuseStranger_5 : decode cX7_refuseStranger 5 = .ok (.invokevirtual 288, 3) := by decide +kernel
theorem dX7_refuseStranger_8 : decode cX7_refuseStranger 8 = .ok (.ifCond .ne 14, 3) := by decide +kernel
theorem dX7_refuseStranger_11 : decode cX7_refuseStranger 11 = .ok (.new 238, 3) := by decide +kernel
theorem dX7_refuseStranger_14 : decode cX7_refuseStranger 14 = .ok (.dup, 1) := by decide +kernel
theorem dX7_refuseStranger_15 : decode cX7_refuseStranger 15 = .ok (.ldc_w 291, 3) := by decide +kernel
theorem dX7_refuseStranger_18 : decode cX7_refuseStranger 18 = .ok (.invokespecial 242, 3) := by decide +kernel
theorem dX7_refuseStranger_21 : decode cX7_refuseStranger 21 = .ok (.athrow, 1) := by decide +kernel
theorem dX7_refuseStranger_22 : decode cX7_refuseStranger 22 = .ok (.return_, 1) := by decide +kernel
theorem dX7_isHeight_0 : decode cX7_isHeight 0 = .ok (.iload_n 0, 1) := by decide +kernel
theorem dX7_isHeight_1 : decode cX7_isHeight 1 = .ok (.ifCond .lt 13, 3) := by decide +kernel
theorem dX7_isHeight_4 : decode cX7_isHeight 4 = .ok (.iload_n 0, 1) := by decide +kernel
theorem dX7_isHeight_5 : decode cX7_isHeight 5 = .ok (.bipush 9, 2) := by decide +kernel
theorem dX7_isHeight_7 : decode cX7_isHeight 7 = .ok (.if_icmp .gt 7, 3) := by decide +kernel
theorem dX7_isHeight_10 : decode cX7_isHeight 10 = .ok (.iconst 1, 1) := by decide +kernel
theorem dX7_isHeight_11 : decode cX7_isHeight 11 = .ok (.goto 4, 3) := by decide +kernel
theorem dX7_isHeight_14 : decode cX7_isHeight 14 = .ok (.iconst 0, 1) := by decide +kernel
theorem dX7_isHeight_15 : decode cX7_isHeight 15 = .ok (.ireturn, 1) := by decide +kernel
theorem dX7_isChange_0 : decode cX7_isChange 0 = .ok (.iload_n 0, 1) := by decide +kernel
theorem dX7_isChange_1 : decode cX7_isChange 1 = .ok (.bipush (-40), 2) := by decide +kernel
theorem dX7_isChange_3 : decode cX7_isChange 3 = .ok (.if_icmp .lt 13, 3) := by decide +kernel
theorem dX7_isChange_6 : decode cX7_isChange 6 = .ok (.iload_n 0, 1) := by decide +kernel
theorem dX7_isChange_7 : decode cX7_isChange 7 = .ok (.bipush 40, 2) := by decide +kernel
theorem dX7_isChange_9 : decode cX7_isChange 9 = .ok (.if_icmp .gt 7, 3) := by decide +kernel
theorem dX7_isChange_12 : decode cX7_isChange 12 = .ok (.iconst 1, 1) := by decide +kernel
theorem dX7_isChange_13 : decode cX7_isChange 13 = .ok (.goto 4, 3) := by decide +kernel
theorem dX7_isChange_16 : decode cX7_isChange 16 = .ok (.iconst 0, 1) := by decide +kernel
theorem dX7_isChange_17 : decode cX7_isChange 17 = .ok (.ireturn, 1) := by decide +kernel
theorem dX7_isPressure_0 : decode cX7_isPressure 0 = .ok (.iload_n 0, 1) := by decide +kernel
theorem dX7_isPressure_1 : decode cX7_isPressure 1 = .ok (.sipush 900, 3) := by decide +kernel
theorem dX7_isPressure_4 : decode cX7_isPressure 4 = .ok (.if_icmp .lt 14, 3) := by decide +kernel
theorem dX7_isPressure_7 : decode cX7_isPressure 7 = .ok (.iload_n 0, 1) := by decide +kernel
theorem dX7_isPressure_8 : decode cX7_isPressure 8 = .ok (.sipush 1100, 3) := by decide +kernel
theorem dX7_isPressure_11 : decode cX7_isPressure 11 = .ok (.if_icmp .gt 7, 3) := by decide +kernel
theorem dX7_isPressure_14 : decode cX7_isPressure 14 = .ok (.iconst 1, 1) := by decide +kernel
theorem dX7_isPressure_15 : decode cX7_isPressure 15 = .ok (.goto 4, 3) := by decide +kernel
theorem dX7_isPressure_18 : decode cX7_isPressure 18 = .ok (.iconst 0, 1) := by decide +kernel
theorem dX7_isPressure_19 : decode cX7_isPressure 19 = .ok (.ireturn, 1) := by decide +kernel
theorem dX7_signOf_0 : decode cX7_signOf 0 = .ok (.iload_n 0, 1) := by decide +kernel
theorem dX7_signOf_1 : decode cX7_signOf 1 = .ok (.ifCond .ne 5, 3) := by decide +kernel
theorem dX7_signOf_4 : decode cX7_signOf 4 = .ok (.iconst 0, 1) := by decide +kernel
theorem dX7_signOf_5 : decode cX7_signOf 5 = .ok (.ireturn, 1) := by decide +kernel
theorem dX7_signOf_6 : decode cX7_signOf 6 = .ok (.iload_n 0, 1) := by decide +kernel
theorem dX7_signOf_7 : decode cX7_signOf 7 = .ok (.ifCond .le 7, 3) := by decide +kernel
theorem dX7_signOf_10 : decode cX7_signOf 10 = .ok (.iconst 1, 1) := by decide +kernel
theorem dX7_signOf_11 : decode cX7_signOf 11 = .ok (.goto 4, 3) := by decide +kernel
theorem dX7_signOf_14 : decode cX7_signOf 14 = .ok (.iconst (-1), 1) := by decide +kernel
theorem dX7_signOf_15 : decode cX7_signOf 15 = .ok (.ireturn, 1) := by decide +kernel
theorem dX7_held_0 : decode cX7_held 0 = .ok (.iload_n 1, 1) := by decide +kernel
theorem dX7_held_1 : decode cX7_held 1 = .ok (.iload_n 2, 1) := by decide +kernel
theorem dX7_held_2 : decode cX7_held 2 = .ok (.iload_n 0, 1) := by decide +kernel
theorem dX7_held_3 : decode cX7_held 3 = .ok (.invokestatic 293, 3) := by decide +kernel
theorem dX7_held_6 : decode cX7_held 6 = .ok (.invokestatic 298, 3) := by decide +kernel
theorem dX7_held_9 : decode cX7_held 9 = .ok (.ireturn, 1) := by decide +kernel
theorem dX8_init_0 : decode cX8_init 0 = .ok (.aload_n 0, 1) := by decide +kernel
theorem dX8_init_1 : decode cX8_init 1 = .ok (.invokespecial 3, 3) := by decide +kernel
theorem dX8_init_4 : decode cX8_init 4 = .ok (.aload_n 0, 1) := by decide +kernel
theorem dX8_init_5 : decode cX8_init 5 = .ok (.bipush 55, 2) := by decide +kernel
theorem dX8_init_7 : decode cX8_init 7 = .ok (.newarray .int, 2) := by decide +kernel
theorem dX8_init_9 : decode cX8_init 9 = .ok (.putfield 9, 3) := by decide +kernel
theorem dX8_init_12 : decode cX8_init 12 = .ok (.aload_n 0, 1) := by decide +kernel
theorem dX8_init_13 : decode cX8_init 13 = .ok (.bipush 55, 2) := by decide +kernel
theorem dX8_init_15 : decode cX8_init 15 = .ok (.newarray .int, 2) := by decide +kernel
theorem dX8_init_17 : decode cX8_init 17 = .ok (.putfield 13, 3) := by decide +kernel
theorem dX8_init_20 : decode cX8_init 20 = .ok (.aload_n 0, 1) := by decide +kernel
theorem dX8_init_21 : decode cX8_init 21 = .ok (.sipush 440, 3) := by decide +kernel
theorem dX8_init_24 : decode cX8_init 24 = .ok (.newarray .int, 2) := by decide +kernel
theorem dX8_init_26 : decode cX8_init 26 = .ok (.putfield 16, 3) := by decide +kernel
theorem dX8_init_29 : decode cX8_init 29 = .ok (.aload_n 0, 1) := by decide +kernel
theorem dX8_init_30 : decode cX8_init 30 = .ok (.bipush 55, 2) := by decide +kernel
theorem dX8_init_32 : decode cX8_init 32 = .ok (.newarray .int, 2) := by decide +kernel
theorem dX8_init_34 : decode cX8_init 34 = .ok (.putfield 19, 3) := by decide +kernel
theorem dX8_init_37 : decode cX8_init 37 = .ok (.aload_n 0, 1) := by decide +kernel
theorem dX8_init_38 : decode cX8_init 38 = .ok (.bipush 60, 2) := by decide +kernel
theorem dX8_init_40 : decode cX8_init 40 = .ok (.newarray .char, 2) := by decide +kernel
theorem dX8_init_42 : decode cX8_init 42 = .ok (.putfield 22, 3) := by decide +kernel
theorem dX8_init_45 : decode cX8_init 45 = .ok (.aload_n 0, 1) := by decide +kernel
theorem dX8_init_46 : decode cX8_init 46 = .ok (.bipush 60, 2) := by decide +kernel
theorem dX8_init_48 : decode cX8_init 48 = .ok (.newarray .char, 2) := by decide +kernel
theorem dX8_init_50 : decode cX8_init 50 = .ok (.putfield 26, 3) := by decide +kernel
theorem dX8_init_53 : decode cX8_init 53 = .ok (.aload_n 0, 1) := by decide +kernel
theorem dX8_init_54 : decode cX8_init 54 = .ok (.iconst 3, 1) := by decide +kernel
theorem dX8_init_55 : decode cX8_init 55 = .ok (.newarray .int, 2) := by decide +kernel
theorem dX8_init_57 : decode cX8_init 57 = .ok (.putfield 29, 3) := by decide +kernel
theorem dX8_init_60 : decode cX8_init 60 = .ok (.aload_n 0, 1) := by decide +kernel
theorem dX8_init_61 : decode cX8_init 61 = .ok (.iconst (-1), 1) := by decide +kernel
theorem dX8_init_62 : decode cX8_init 62 = .ok (.putfield 32, 3) := by decide +kernel
theorem dX8_init_65 : decode cX8_init 65 = .ok (.aload_n 0, 1) := by decide +kernel
theorem dX8_init_66 : decode cX8_init 66 = .ok (.getfield 9, 3) := by decide +kernel
theorem dX8_init_69 : decode cX8_init 69 = .ok (.iconst 1, 1) := by decide +kernel
theorem dX8_init_70 : decode cX8_init 70 = .ok (.sipush 1000, 3) := by decide +kernel
theorem dX8_init_73 : decode cX8_init 73 = .ok (.iastore, 1) := by decide +kernel
theorem dX8_init_74 : decode cX8_init 74 = .ok (.return_, 1) := by decide +kernel
theorem dX8_thrown_0 : decode cX8_thrown 0 = .ok (.aload_n 0, 1) := by decide +kernel
theorem dX8_thrown_1 : decode cX8_thrown 1 = .ok (.getfield 36, 3) := by decide +kernel
theorem dX8_thrown_4 : decode cX8_thrown 4 = .ok (.ireturn, 1) := by decide +kernel
theorem dX8_raises_0 : decode cX8_raises 0 = .ok (.aload_n 0, 1) := by decide +kernel
theorem dX8_raises_1 : decode cX8_raises 1 = .ok (.iload_n 1, 1) := by decide +kernel
theorem dX8_raises_2 : decode cX8_raises 2 = .ok (.putfield 36, 3) := by decide +kernel
theorem dX8_raises_5 : decode cX8_raises 5 = .ok (.iconst 0, 1) := by decide +kernel
theorem dX8_raises_6 : decode cX8_raises 6 = .ok (.ireturn, 1) := by decide +kernel
theorem dX8_in_0 : decode cX8_in 0 = .ok (.iload_n 0, 1) := by decide +kernel
theorem dX8_in_1 : decode cX8_in 1 = .ok (.iload_n 1, 1) := by decide +kernel
theorem dX8_in_2 : decode cX8_in 2 = .ok (.if_icmp .lt 12, 3) := by decide +kernel
theorem dX8_in_5 : decode cX8_in 5 = .ok (.iload_n 0, 1) := by decide +kernel
theorem dX8_in_6 : decode cX8_in 6 = .ok (.iload_n 2, 1) := by decide +kernel
theorem dX8_in_7 : decode cX8_in 7 = .ok (.if_icmp .gt 7, 3) := by decide +kernel
theorem dX8_in_10 : decode cX8_in 10 = .ok (.iconst 1, 1) := by decide +kernel
theorem dX8_in_11 : decode cX8_in 11 = .ok (.goto 4, 3) := by decide +kernel
theorem dX8_in_14 : decode cX8_in 14 = .ok (.iconst 0, 1) := by decide +kernel
theorem dX8_in_15 : decode cX8_in 15 = .ok (.ireturn, 1) := by decide +kernel
theorem dX8_tries_0 : decode cX8_tries 0 = .ok (.aload_n 0, 1) := by decide +kernel
theorem dX8_tries_1 : decode cX8_tries 1 = .ok (.iconst 0, 1) := by decide +kernel
theorem dX8_tries_2 : decode cX8_tries 2 = .ok (.putfield 36, 3) := by decide +kernel
theorem dX8_tries_5 : decode cX8_tries 5 = .ok (.iconst 0, 1) := by decide +kernel
theorem dX8_tries_6 : decode cX8_tries 6 = .ok (.istore_n 1, 1) := by decide +kernel
theorem dX8_tries_7 : decode cX8_tries 7 = .ok (.iload_n 1, 1) := by decide +kernel
theorem dX8_tries_8 : decode cX8_tries 8 = .ok (.bipush 55, 2) := by decide +kernel
theorem dX8_tries_10 : decode cX8_tries 10 = .ok (.if_icmp .ge 21, 3) := by decide +kernel
theorem dX8_tries_13 : decode cX8_tries 13 = .ok (.aload_n 0, 1) := by decide +kernel
theorem dX8_tries_14 : decode cX8_tries 14 = .ok (.getfield 13, 3) := by decide +kernel
theorem dX8_tries_17 : decode cX8_tries 17 = .ok (.iload_n 1, 1) := by decide +kernel
theorem dX8_tries_18 : decode cX8_tries 18 = .ok (.aload_n 0, 1) := by decide +kernel
theorem dX8_tries_19 : decode cX8_tries 19 = .ok (.getfield 9, 3) := by decide +kernel
theorem dX8_tries_22 : decode cX8_tries 22 = .ok (.iload_n 1, 1) := by decide +kernel
theorem dX8_tries_23 : decode cX8_tries 23 = .ok (.iaload, 1) := by decide +kernel
theorem dX8_tries_24 : decode cX8_tries 24 = .ok (.iastore, 1) := by decide +kernel
theorem dX8_tries_25 : decode cX8_tries 25 = .ok (.iinc 1 1, 3) := by decide +kernel
theorem dX8_tries_28 : decode cX8_tries 28 = .ok (.goto (-21), 3) := by decide +kernel
theorem dX8_tries_31 : decode cX8_tries 31 = .ok (.return_, 1) := by decide +kernel
theorem dX8_keeps_0 : decode cX8_keeps 0 = .ok (.aload_n 0, 1) := by decide +kernel
theorem dX8_keeps_1 : decode cX8_keeps 1 = .ok (.getfield 39, 3) := by decide +kernel
theorem dX8_keeps_4 : decode cX8_keeps 4 = .ok (.bipush 8, 2) := by decide +kernel
theorem dX8_keeps_6 : decode cX8_keeps 6 = .ok (.if_icmp .ne 43, 3) := by decide +kernel
theorem dX8_keeps_9 : decode cX8_keeps 9 = .ok (.iconst 0, 1) := by decide +kernel
theorem dX8_keeps_10 : decode cX8_keeps 10 = .ok (.istore_n 2, 1) := by decide +kernel
theorem dX8_keeps_11 : decode cX8_keeps 11 = .ok (.iload_n 2, 1) := by decide +kernel
theorem dX8_keeps_12 : decode cX8_keeps 12 = .ok (.sipush 385, 3) := by decide +kernel
theorem dX8_keeps_15 : decode cX8_keeps 15 = .ok (.if_icmp .ge 24, 3) := by decide +kernel
theorem dX8_keeps_18 : decode cX8_keeps 18 = .ok (.aload_n 0, 1) := by decide +kernel
theorem dX8_keeps_19 : decode cX8_keeps 19 = .ok (.getfield 16, 3) := by decide +kernel
theorem dX8_keeps_22 : decode cX8_keeps 22 = .ok (.iload_n 2, 1) := by decide +kernel
theorem dX8_keeps_23 : decode cX8_keeps 23 = .ok (.aload_n 0, 1) := by decide +kernel
theorem dX8_keeps_24 : decode cX8_keeps 24 = .ok (.getfield 16, 3) := by decide +kernel
theorem dX8_keeps_27 : decode cX8_keeps 27 = .ok (.bipush 55, 2) := by decide +kernel
theorem dX8_keeps_29 : decode cX8_keeps 29 = .ok (.iload_n 2, 1) := by decide +kernel
theorem dX8_keeps_30 : decode cX8_keeps 30 = .ok (.iadd, 1) := by decide +kernel
theorem dX8_keeps_31 : decode cX8_keeps 31 = .ok (.iaload, 1) := by decide +kernel
theorem dX8_keeps_32 : decode cX8_keeps 32 = .ok (.iastore, 1) := by decide +kernel
theorem dX8_keeps_33 : decode cX8_keeps 33 = .ok (.iinc 2 1, 3) := by decide +kernel
theorem dX8_keeps_36 : decode cX8_keeps 36 = .ok (.goto (-25), 3) := by decide +kernel
theorem dX8_keeps_39 : decode cX8_keeps 39 = .ok (.aload_n 0, 1) := by decide +kernel
theorem dX8_keeps_40 : decode cX8_keeps 40 = .ok (.dup, 1) := by decide +kernel
theorem dX8_keeps_41 : decode cX8_keeps 41 = .ok (.getfield 39, 3) := by decide +kernel
theorem dX8_keeps_44 : decode cX8_keeps 44 = .ok (.iconst 1, 1) := by decide +kernel
theorem dX8_keeps_45 : decode cX8_keeps 45 = .ok (.isub, 1) := by decide +kernel
theorem dX8_keeps_46 : decode cX8_keeps 46 = .ok (.putfield 39, 3) := by decide +kernel
theorem dX8_keeps_49 : decode cX8_keeps 49 = .ok (.iconst 0, 1) := by decide +kernel
theorem dX8_keeps_50 : decode cX8_keeps 50 = .ok (.istore_n 2, 1) := by decide +kernel
theorem dX8_keeps_51 : decode cX8_keeps 51 = .ok (.iload_n 2, 1) := by decide +kernel
theorem dX8_keeps_52 : decode cX8_keeps 52 = .ok (.bipush 55, 2) := by decide +kernel
theorem dX8_keeps_54 : decode cX8_keeps 54 = .ok (.if_icmp .ge 29, 3) := by decide +kernel
theorem dX8_keeps_57 : decode cX8_keeps 57 = .ok (.aload_n 0, 1) := by decide +kernel
theorem dX8_keeps_58 : decode cX8_keeps 58 = .ok (.getfield 16, 3) := by decide +kernel
theorem dX8_keeps_61 : decode cX8_keeps 61 = .ok (.bipush 55, 2) := by decide +kernel
theorem dX8_keeps_63 : decode cX8_keeps 63 = .ok (.aload_n 0, 1) := by decide +kernel
theorem dX8_keeps_64 : decode cX8_keeps 64 = .ok (.getfield 39, 3) := by decide +kernel
theorem dX8_keeps_67 : decode cX8_keeps 67 = .ok (.imul, 1) := by decide +kernel
theorem dX8_keeps_68 : decode cX8_keeps 68 = .ok (.iload_n 2, 1) := by decide +kernel
theorem dX8_keeps_69 : decode cX8_keeps 69 = .ok (.iadd, 1) := by decide +kernel
theorem dX8_keeps_70 : decode cX8_keeps 70 = .ok (.aload_n 0, 1) := by decide +kernel
theorem dX8_keeps_71 : decode cX8_keeps 71 = .ok (.getfield 13, 3) := by decide +kernel
theorem dX8_keeps_74 : decode cX8_keeps 74 = .ok (.iload_n 2, 1) := by decide +kernel
theorem dX8_keeps_75 : decode cX8_keeps 75 = .ok (.iaload, 1) := by decide +kernel
theorem dX8_keeps_76 : decode cX8_keeps 76 = .ok (.iastore, 1) := by decide +kernel
theorem dX8_keeps_77 : decode cX8_keeps 77 = .ok (.iinc 2 1, 3) := by decide +kernel
theorem dX8_keeps_80 : decode cX8_keeps 80 = .ok (.goto (-29), 3) := by decide +kernel
theorem dX8_keeps_83 : decode cX8_keeps 83 = .ok (.aload_n 0, 1) := by decide +kernel
theorem dX8_keeps_84 : decode cX8_keeps 84 = .ok (.dup, 1) := by decide +kernel
theorem dX8_keeps_85 : decode cX8_keeps 85 = .ok (.getfield 39, 3) := by decide +kernel
theorem dX8_keeps_88 : decode cX8_keeps 88 = .ok (.iconst 1, 1) := by decide +kernel
theorem dX8_keeps_89 : decode cX8_keeps 89 = .ok (.iadd, 1) := by decide +kernel
theorem dX8_keeps_90 : decode cX8_keeps 90 = .ok (.putfield 39, 3) := by decide +kernel
theorem dX8_keeps_93 : decode cX8_keeps 93 = .ok (.iload_n 1, 1) := by decide +kernel
theorem dX8_keeps_94 : decode cX8_keeps 94 = .ok (.ireturn, 1) := by decide +kernel
theorem dX8_does_0 : decode cX8_does 0 = .ok (.aload_n 0, 1) := by decide +kernel
theorem dX8_does_1 : decode cX8_does 1 = .ok (.iload_n 1, 1) := by decide +kernel
theorem dX8_does_2 : decode cX8_does 2 = .ok (.putfield 42, 3) := by decide +kernel
theorem dX8_does_5 : decode cX8_does 5 = .ok (.iconst 1, 1) := by decide +kernel
theorem dX8_does_6 : decode cX8_does 6 = .ok (.ireturn, 1) := by decide +kernel
theorem dX8_refuses_0 : decode cX8_refuses 0 = .ok (.aload_n 0, 1) := by decide +kernel
theorem dX8_refuses_1 : decode cX8_refuses 1 = .ok (.iload_n 1, 1) := by decide +kernel
theorem dX8_refuses_2 : decode cX8_refuses 2 = .ok (.putfield 45, 3) := by decide +kernel
theorem dX8_refuses_5 : decode cX8_refuses 5 = .ok (.aload_n 0, 1) := by decide +kernel
theorem dX8_refuses_6 : decode cX8_refuses 6 = .ok (.iload_n 2, 1) := by decide +kernel
theorem dX8_refuses_7 : decode cX8_refuses 7 = .ok (.putfield 48, 3) := by decide +kernel
theorem dX8_refuses_10 : decode cX8_refuses 10 = .ok (.aload_n 0, 1) := by decide +kernel
theorem dX8_refuses_11 : decode cX8_refuses 11 = .ok (.iconst 0, 1) := by decide +kernel
theorem dX8_refuses_12 : decode cX8_refuses 12 = .ok (.putfield 51, 3) := by decide +kernel
theorem dX8_refuses_15 : decode cX8_refuses 15 = .ok (.iconst 0, 1) := by decide +kernel
theorem dX8_refuses_16 : decode cX8_refuses 16 = .ok (.ireturn, 1) := by decide +kernel
set_option maxRecDepth 20000 in
theorem ggX8_ends_X8_keeps : GoodIn wsX8_ends wsX8_keeps := goodIn_ca (goodIn_r _ [6, 7, 8, 9, 15, 16, 17, 18, 19, 20, 21, 22, 23, 24, 25, 26, 27, 28, 29, 30, 31, 32, 33] rfl (by decide +kernel)) (goodIn_sub (fun _ h => List.mem_cons_of_mem _ (List.mem_append_right _ h)) (by decide +kernel))
set_option maxRecDepth 20000 in
theorem gX8_ends_X8_keeps : GoodIn wsX8_ends (wsV RX8 54 RX8 yX8_keeps wsX8_keeps) := goodIn_app (goodIn_r _ [2, 3, 4, 5] rfl (by decide +kernel)) ggX8_ends_X8_keeps
set_option maxRecDepth 20000 in
theorem ggX8_ends_X8_raises : GoodIn wsX8_ends wsX8_raises := goodIn_r _ [13, 14, 15, 16, 17, 18, 19, 20, 21, 22, 23, 24, 25, 26, 27, 28, 29, 30, 31, 32, 33] rfl (by decide +kernel)
set_option maxRecDepth 20000 in
theorem gX8_ends_X8_raises : GoodIn wsX8_ends (wsV RX8 58 RX8 yX8_raises wsX8_raises) := goodIn_app (goodIn_r _ [10, 11, 12, 5] rfl (by decide +kernel)) ggX8_ends_X8_raises
theorem dX8_ends_0 : decode cX8_ends 0 = .ok (.iload_n 1, 1) := by decide +kernel
theorem dX8_ends_1 : decode cX8_ends 1 = .ok (.ifCond .eq 14, 3) := by decide +kernel
theorem dX8_ends_4 : decode cX8_ends 4 = .ok (.aload_n 0, 1) := by decide +kernel
theorem dX8_ends_5 : decode cX8_ends 5 = .ok (.aload_n 0, 1) := by decide +kernel
theorem dX8_ends_6 : decode cX8_ends 6 = .ok (.getfield 42, 3) := by decide +kernel
theorem dX8_ends_9 : decode cX8_ends 9 = .ok (.invokevirtual 54, 3) := by decide +kernel
theorem dX8_ends_12 : decode cX8_ends 12 = .ok (.goto 8, 3) := by decide +kernel
theorem dX8_ends_15 : decode cX8_ends 15 = .ok (.aload_n 0, 1) := by decide +kernel
theorem dX8_ends_16 : decode cX8_ends 16 = .ok (.iconst 1, 1) := by decide +kernel
theorem dX8_ends_17 : decode cX8_ends 17 = .ok (.invokevirtual 58, 3) := by decide +kernel
theorem dX8_ends_20 : decode cX8_ends 20 = .ok (.ireturn, 1) := by decide +kernel
set_option maxRecDepth 20000 in
theorem ggX8_isMember_X8_in : GoodIn wsX8_isMember wsX8_in := goodIn_r _ [5] rfl (by decide +kernel)
set_option maxRecDepth 20000 in
theorem gX8_isMember_X8_in : GoodIn wsX8_isMember (va_wsS RX8 61 yX8_in wsX8_in) := goodIn_app (goodIn_r _ [2, 3, 4] rfl (by decide +kernel)) ggX8_isMember_X8_in
theorem dX8_isMember_0 : decode cX8_isMember 0 = .ok (.iload_n 1, 1) := by decide +kernel
theorem dX8_isMember_1 : decode cX8_isMember 1 = .ok (.iconst 0, 1) := by decide +kernel
theorem dX8_isMember_2 : decode cX8_isMember 2 = .ok (.aload_n 0, 1) := by decide +kernel
theorem dX8_isMember_3 : decode cX8_isMember 3 = .ok (.getfield 9, 3) := by decide +kernel
theorem dX8_isMember_6 : decode cX8_isMember 6 = .ok (.iconst 0, 1) := by decide +kernel
theorem dX8_isMember_7 : decode cX8_isMember 7 = .ok (.iaload, 1) := by decide +kernel
theorem dX8_isMember_8 : decode cX8_isMember 8 = .ok (.iconst 1, 1) := by decide +kernel
theorem dX8_isMember_9 : decode cX8_isMember 9 = .ok (.isub, 1) := by decide +kernel
theorem dX8_isMember_10 : decode cX8_isMember 10 = .ok (.invokestatic 61, 3) := by decide +kernel
theorem dX8_isMember_13 : decode cX8_isMember 13 = .ok (.ireturn, 1) := by decide +kernel
set_option maxRecDepth 20000 in
theorem ggX8_isThere_X8_isMember : GoodIn wsX8_isThere wsX8_isMember := goodIn_ca (goodIn_r _ [6, 1, 7, 8, 5, 9, 17, 18, 19, 20, 21, 22, 23, 24, 25, 26, 27, 28, 29, 30, 31, 32, 33, 34, 35] rfl (by decide +kernel)) (goodIn_sub (fun _ h => List.mem_cons_of_mem _ (List.mem_append_right _ h)) (by decide +kernel))
set_option maxRecDepth 20000 in
theorem gX8_isThere_X8_isMember : GoodIn wsX8_isThere (wsV RX8 65 RX8 yX8_isMember wsX8_isMember) := goodIn_app (goodIn_r _ [2, 3, 4, 5] rfl (by decide +kernel)) ggX8_isThere_X8_isMember
set_option maxRecDepth 20000 in
theorem ggX8_isThere_X8_refuses : GoodIn wsX8_isThere wsX8_refuses := goodIn_r _ [13, 14, 15, 16, 17, 18, 19, 20, 21, 22, 23, 24, 25, 26, 27, 28, 29, 30, 31, 32, 33, 34, 35] rfl (by decide +kernel)
set_option maxRecDepth 20000 in
theorem gX8_isThere_X8_refuses : GoodIn wsX8_isThere (wsV RX8 69 RX8 yX8_refuses wsX8_refuses) := goodIn_app (goodIn_r _ [10, 11, 12, 5] rfl (by decide +kernel)) ggX8_isThere_X8_refuses
theorem dX8_isThere_0 : decode cX8_isThere 0 = .ok (.aload_n 0, 1) := by decide +kernel
theorem dX8_isThere_1 : decode cX8_isThere 1 = .ok (.iload_n 1, 1) := by decide +kernel
theorem dX8_isThere_2 : decode cX8_isThere 2 = .ok (.invokevirtual 65, 3) := by decide +kernel
theorem dX8_isThere_5 : decode cX8_isThere 5 = .ok (.ifCond .ne 17, 3) := by decide +kernel
theorem dX8_isThere_8 : decode cX8_isThere 8 = .ok (.aload_n 0, 1) := by decide +kernel
theorem dX8_isThere_9 : decode cX8_isThere 9 = .ok (.iconst 4, 1) := by decide +kernel
theorem dX8_isThere_10 : decode cX8_isThere 10 = .ok (.aload_n 0, 1) := by decide +kernel
theorem dX8_isThere_11 : decode cX8_isThere 11 = .ok (.getfield 9, 3) := by decide +kernel
theorem dX8_isThere_14 : decode cX8_isThere 14 = .ok (.iconst 0, 1) := by decide +kernel
theorem dX8_isThere_15 : decode cX8_isThere 15 = .ok (.iaload, 1) := by decide +kernel
theorem dX8_isThere_16 : decode cX8_isThere 16 = .ok (.invokevirtual 69, 3) := by decide +kernel
theorem dX8_isThere_19 : decode cX8_isThere 19 = .ok (.ifCond .eq 7, 3) := by decide +kernel
theorem dX8_isThere_22 : decode cX8_isThere 22 = .ok (.iconst 1, 1) := by decide +kernel
theorem dX8_isThere_23 : decode cX8_isThere 23 = .ok (.goto 4, 3) := by decide +kernel
theorem dX8_isThere_26 : decode cX8_isThere 26 = .ok (.iconst 0, 1) := by decide +kernel
theorem dX8_isThere_27 : decode cX8_isThere 27 = .ok (.ireturn, 1) := by decide +kernel
theorem dX8_of_0 : decode cX8_of 0 = .ok (.aload_n 0, 1) := by decide +kernel
theorem dX8_of_1 : decode cX8_of 1 = .ok (.getfield 9, 3) := by decide +kernel
theorem dX8_of_4 : decode cX8_of 4 = .ok (.bipush 13, 2) := by decide +kernel
theorem dX8_of_6 : decode cX8_of 6 = .ok (.bipush 7, 2) := by decide +kernel
theorem dX8_of_8 : decode cX8_of 8 = .ok (.iload_n 1, 1) := by decide +kernel
theorem dX8_of_9 : decode cX8_of 9 = .ok (.imul, 1) := by decide +kernel
theorem dX8_of_10 : decode cX8_of 10 = .ok (.iadd, 1) := by decide +kernel
theorem dX8_of_11 : decode cX8_of 11 = .ok (.iload_n 2, 1) := by decide +kernel
theorem dX8_of_12 : decode cX8_of 12 = .ok (.iadd, 1) := by decide +kernel
theorem dX8_of_13 : decode cX8_of 13 = .ok (.iaload, 1) := by decide +kernel
theorem dX8_of_14 : decode cX8_of 14 = .ok (.ireturn, 1) := by decide +kernel
theorem dX8_sets_0 : decode cX8_sets 0 = .ok (.aload_n 0, 1) := by decide +kernel
theorem dX8_sets_1 : decode cX8_sets 1 = .ok (.getfield 9, 3) := by decide +kernel
theorem dX8_sets_4 : decode cX8_sets 4 = .ok (.bipush 13, 2) := by decide +kernel
theorem dX8_sets_6 : decode cX8_sets 6 = .ok (.bipush 7, 2) := by decide +kernel
theorem dX8_sets_8 : decode cX8_sets 8 = .ok (.iload_n 1, 1) := by decide +kernel
theorem dX8_sets_9 : decode cX8_sets 9 = .ok (.imul, 1) := by decide +kernel
theorem dX8_sets_10 : decode cX8_sets 10 = .ok (.iadd, 1) := by decide +kernel
theorem dX8_sets_11 : decode cX8_sets 11 = .ok (.iload_n 2, 1) := by decide +kernel
theorem dX8_sets_12 : decode cX8_sets 12 = .ok (.iadd, 1) := by decide +kernel
theorem dX8_sets_13 : decode cX8_sets 13 = .ok (.iload_n 3, 1) := by decide +kernel
theorem dX8_sets_14 : decode cX8_sets 14 = .ok (.iastore, 1) := by decide +kernel
theorem dX8_sets_15 : decode cX8_sets 15 = .ok (.return_, 1) := by decide +kernel
set_option maxRecDepth 20000 in
theorem ggX8_ownerOf_X8_of : GoodIn wsX8_ownerOf wsX8_of := goodIn_ca (goodIn_r _ [6, 1, 7, 8, 9, 10, 11, 12, 13, 14, 15, 16, 17, 18, 19, 20, 21, 22, 23, 24, 25] rfl (by decide +kernel)) (goodIn_sub (fun _ h => List.mem_cons_of_mem _ (List.mem_append_right _ h)) (by decide +kernel))
set_option maxRecDepth 20000 in
theorem gX8_ownerOf_X8_of : GoodIn wsX8_ownerOf (wsV RX8 73 RX8 yX8_of wsX8_of) := goodIn_app (goodIn_r _ [2, 3, 4, 5] rfl (by decide +kernel)) ggX8_ownerOf_X8_of
theorem dX8_ownerOf_0 : decode cX8_ownerOf 0 = .ok (.iconst 0, 1) := by decide +kernel
theorem dX8_ownerOf_1 : decode cX8_ownerOf 1 = .ok (.istore_n 2, 1) := by decide +kernel
theorem dX8_ownerOf_2 : decode cX8_ownerOf 2 = .ok (.iload_n 2, 1) := by decide +kernel
theorem dX8_ownerOf_3 : decode cX8_ownerOf 3 = .ok (.aload_n 0, 1) := by decide +kernel
theorem dX8_ownerOf_4 : decode cX8_ownerOf 4 = .ok (.getfield 9, 3) := by decide +kernel
theorem dX8_ownerOf_7 : decode cX8_ownerOf 7 = .ok (.iconst 0, 1) := by decide +kernel
theorem dX8_ownerOf_8 : decode cX8_ownerOf 8 = .ok (.iaload, 1) := by decide +kernel
theorem dX8_ownerOf_9 : decode cX8_ownerOf 9 = .ok (.if_icmp .ge 21, 3) := by decide +kernel
theorem dX8_ownerOf_12 : decode cX8_ownerOf 12 = .ok (.aload_n 0, 1) := by decide +kernel
theorem dX8_ownerOf_13 : decode cX8_ownerOf 13 = .ok (.iload_n 2, 1) := by decide +kernel
theorem dX8_ownerOf_14 : decode cX8_ownerOf 14 = .ok (.iconst 1, 1) := by decide +kernel
theorem dX8_ownerOf_15 : decode cX8_ownerOf 15 = .ok (.invokevirtual 73, 3) := by decide +kernel
theorem dX8_ownerOf_18 : decode cX8_ownerOf 18 = .ok (.iload_n 1, 1) := by decide +kernel
theorem dX8_ownerOf_19 : decode cX8_ownerOf 19 = .ok (.if_icmp .ne 5, 3) := by decide +kernel
theorem dX8_ownerOf_22 : decode cX8_ownerOf 22 = .ok (.iload_n 2, 1) := by decide +kernel
theorem dX8_ownerOf_23 : decode cX8_ownerOf 23 = .ok (.ireturn, 1) := by decide +kernel
theorem dX8_ownerOf_24 : decode cX8_ownerOf 24 = .ok (.iinc 2 1, 3) := by decide +kernel
theorem dX8_ownerOf_27 : decode cX8_ownerOf 27 = .ok (.goto (-25), 3) := by decide +kernel
theorem dX8_ownerOf_30 : decode cX8_ownerOf 30 = .ok (.iconst (-1), 1) := by decide +kernel
theorem dX8_ownerOf_31 : decode cX8_ownerOf 31 = .ok (.ireturn, 1) := by decide +kernel
set_option maxRecDepth 20000 in
theorem ggX8_hasWagered_X8_of : GoodIn wsX8_hasWagered wsX8_of := goodIn_ca (goodIn_r _ [5, 6, 7, 8, 9, 10, 11, 12, 13, 14, 15, 16, 17, 18, 19, 20, 21, 22, 23, 24, 25] rfl (by decide +kernel)) (goodIn_sub (fun _ h => List.mem_cons_of_mem _ (List.mem_append_right _ h)) (by decide +kernel))
set_option maxRecDepth 20000 in
theorem gX8_hasWagered_X8_of : GoodIn wsX8_hasWagered (wsV RX8 73 RX8 yX8_of wsX8_of) := goodIn_app (goodIn_r _ [1, 2, 3, 4] rfl (by decide +kernel)) ggX8_hasWagered_X8_of
theorem dX8_hasWagered_0 : decode cX8_hasWagered 0 = .ok (.aload_n 0, 1) := by decide +kernel
theorem dX8_hasWagered_1 : decode cX8_hasWagered 1 = .ok (.iload_n 1, 1) := by decide +kernel
theorem dX8_hasWagered_2 : decode cX8_hasWagered 2 = .ok (.iconst 3, 1) := by decide +kernel
theorem dX8_hasWagered_3 : decode cX8_hasWagered 3 = .ok (.invokevirtual 73, 3) := by decide +kernel
theorem dX8_hasWagered_6 : decode cX8_hasWagered 6 = .ok (.ifCond .le 7, 3) := by decide +kernel
theorem dX8_hasWagered_9 : decode cX8_hasWagered 9 = .ok (.iconst 1, 1) := by decide +kernel
theorem dX8_hasWagered_10 : decode cX8_hasWagered 10 = .ok (.goto 4, 3) := by decide +kernel
theorem dX8_hasWagered_13 : decode cX8_hasWagered 13 = .ok (.iconst 0, 1) := by decide +kernel
theorem dX8_hasWagered_14 : decode cX8_hasWagered 14 = .ok (.ireturn, 1) := by decide +kernel
set_option maxRecDepth 20000 in
theorem ggX8_pays_X8_of : GoodIn wsX8_pays wsX8_of := goodIn_ca (goodIn_r _ [6, 1, 18, 19, 20, 21, 22, 23, 24, 25, 26, 27, 28, 29, 30, 31, 32, 33, 34, 35, 36] rfl (by decide +kernel)) (goodIn_sub (fun _ h => List.mem_cons_of_mem _ (List.mem_append_right _ h)) (by decide +kernel))
set_option maxRecDepth 20000 in
theorem gX8_pays_X8_of : GoodIn wsX8_pays (wsV RX8 73 RX8 yX8_of wsX8_of) := goodIn_app (goodIn_r _ [2, 3, 4, 5] rfl (by decide +kernel)) ggX8_pays_X8_of
set_option maxRecDepth 20000 in
theorem ggX8_pays_X8_refuses : GoodIn wsX8_pays wsX8_refuses := goodIn_r _ [10, 11, 12, 13, 18, 19, 20, 21, 22, 23, 24, 25, 26, 27, 28, 29, 30, 31, 32, 33, 34, 35, 36] rfl (by decide +kernel)
set_option maxRecDepth 20000 in
theorem gX8_pays_X8_refuses : GoodIn wsX8_pays (wsV RX8 69 RX8 yX8_refuses wsX8_refuses) := goodIn_app (goodIn_r _ [7, 8, 9, 5] rfl (by decide +kernel)) ggX8_pays_X8_refuses
set_option maxRecDepth 20000 in
theorem ggX8_pays_X8_sets : GoodIn wsX8_pays wsX8_sets := goodIn_ca (goodIn_r _ [17, 1, 18, 19, 20, 21, 22, 23, 24, 25, 26, 27, 28, 29, 30, 31, 32, 33, 34, 35, 36] rfl (by decide +kernel)) (goodIn_sub (fun _ h => List.mem_cons_of_mem _ (List.mem_append_right _ h)) (by decide +kernel))
set_option maxRecDepth 20000 in
theorem gX8_pays_X8_sets : GoodIn wsX8_pays (wsV RX8 77 RX8 yX8_sets wsX8_sets) := goodIn_app (goodIn_r _ [14, 15, 16, 5] rfl (by decide +kernel)) ggX8_pays_X8_sets
theorem dX8_pays_0 : decode cX8_pays 0 = .ok (.aload_n 0, 1) := by decide +kernel
theorem dX8_pays_1 : decode cX8_pays 1 = .ok (.iload_n 1, 1) := by decide +kernel
theorem dX8_pays_2 : decode cX8_pays 2 = .ok (.iconst 0, 1) := by decide +kernel
theorem dX8_pays_3 : decode cX8_pays 3 = .ok (.invokevirtual 73, 3) := by decide +kernel
theorem dX8_pays_6 : decode cX8_pays 6 = .ok (.iload_n 2, 1) := by decide +kernel
theorem dX8_pays_7 : decode cX8_pays 7 = .ok (.if_icmp .ge 17, 3) := by decide +kernel
theorem dX8_pays_10 : decode cX8_pays 10 = .ok (.aload_n 0, 1) := by decide +kernel
theorem dX8_pays_11 : decode cX8_pays 11 = .ok (.iconst 5, 1) := by decide +kernel
theorem dX8_pays_12 : decode cX8_pays 12 = .ok (.iload_n 2, 1) := by decide +kernel
theorem dX8_pays_13 : decode cX8_pays 13 = .ok (.aload_n 0, 1) := by decide +kernel
theorem dX8_pays_14 : decode cX8_pays 14 = .ok (.iload_n 1, 1) := by decide +kernel
theorem dX8_pays_15 : decode cX8_pays 15 = .ok (.iconst 0, 1) := by decide +kernel
theorem dX8_pays_16 : decode cX8_pays 16 = .ok (.invokevirtual 73, 3) := by decide +kernel
theorem dX8_pays_19 : decode cX8_pays 19 = .ok (.isub, 1) := by decide +kernel
theorem dX8_pays_20 : decode cX8_pays 20 = .ok (.invokevirtual 69, 3) := by decide +kernel
theorem dX8_pays_23 : decode cX8_pays 23 = .ok (.ireturn, 1) := by decide +kernel
theorem dX8_pays_24 : decode cX8_pays 24 = .ok (.aload_n 0, 1) := by decide +kernel
theorem dX8_pays_25 : decode cX8_pays 25 = .ok (.iload_n 1, 1) := by decide +kernel
theorem dX8_pays_26 : decode cX8_pays 26 = .ok (.iconst 0, 1) := by decide +kernel
theorem dX8_pays_27 : decode cX8_pays 27 = .ok (.aload_n 0, 1) := by decide +kernel
theorem dX8_pays_28 : decode cX8_pays 28 = .ok (.iload_n 1, 1) := by decide +kernel
theorem dX8_pays_29 : decode cX8_pays 29 = .ok (.iconst 0, 1) := by decide +kernel
theorem dX8_pays_30 : decode cX8_pays 30 = .ok (.invokevirtual 73, 3) := by decide +kernel
theorem dX8_pays_33 : decode cX8_pays 33 = .ok (.iload_n 2, 1) := by decide +kernel
theorem dX8_pays_34 : decode cX8_pays 34 = .ok (.isub, 1) := by decide +kernel
theorem dX8_pays_35 : decode cX8_pays 35 = .ok (.invokevirtual 77, 3) := by decide +kernel
theorem dX8_pays_38 : decode cX8_pays 38 = .ok (.aload_n 0, 1) := by decide +kernel
theorem dX8_pays_39 : decode cX8_pays 39 = .ok (.getfield 9, 3) := by decide +kernel
theorem dX8_pays_42 : decode cX8_pays 42 = .ok (.bipush 7, 2) := by decide +kernel
theorem dX8_pays_44 : decode cX8_pays 44 = .ok (.dup2, 1) := by decide +kernel
theorem dX8_pays_45 : decode cX8_pays 45 = .ok (.iaload, 1) := by decide +kernel
theorem dX8_pays_46 : decode cX8_pays 46 = .ok (.iload_n 2, 1) := by decide +kernel
theorem dX8_pays_47 : decode cX8_pays 47 = .ok (.iadd, 1) := by decide +kernel
theorem dX8_pays_48 : decode cX8_pays 48 = .ok (.iastore, 1) := by decide +kernel
theorem dX8_pays_49 : decode cX8_pays 49 = .ok (.iconst 1, 1) := by decide +kernel
theorem dX8_pays_50 : decode cX8_pays 50 = .ok (.ireturn, 1) := by decide +kernel
set_option maxRecDepth 20000 in
theorem ggX8_joins_X8_in : GoodIn wsX8_joins wsX8_in := goodIn_r _ [5] rfl (by decide +kernel)
set_option maxRecDepth 20000 in
theorem gX8_joins_X8_in : GoodIn wsX8_joins (va_wsS RX8 61 yX8_in wsX8_in) := goodIn_app (goodIn_r _ [2, 3, 4] rfl (by decide +kernel)) ggX8_joins_X8_in
set_option maxRecDepth 20000 in
theorem ggX8_joins_X8_refuses : GoodIn wsX8_joins wsX8_refuses := goodIn_r _ [9, 10, 11, 12, 30, 31, 32, 33, 34, 35, 36, 37, 38, 39, 40, 41, 42, 43, 44, 45, 46, 47, 48] rfl (by decide +kernel)
set_option maxRecDepth 20000 in
theorem gX8_joins_X8_refuses : GoodIn wsX8_joins (wsV RX8 69 RX8 yX8_refuses wsX8_refuses) := goodIn_app (goodIn_r _ [6, 7, 8, 4] rfl (by decide +kernel)) ggX8_joins_X8_refuses
set_option maxRecDepth 20000 in
theorem ggX8_joins_X8_ownerOf : GoodIn wsX8_joins wsX8_ownerOf := goodIn_ca (goodIn_r _ [16, 1, 17, 18, 19, 4, 20, 30, 31, 32, 33, 34, 35, 36, 37, 38, 39, 40, 41, 42, 43, 44, 45, 46, 47, 48] rfl (by decide +kernel)) (goodIn_sub (fun _ h => List.mem_cons_of_mem _ (List.mem_append_right _ h)) (by decide +kernel))
set_option maxRecDepth 20000 in
theorem gX8_joins_X8_ownerOf : GoodIn wsX8_joins (wsV RX8 81 RX8 yX8_ownerOf wsX8_ownerOf) := goodIn_app (goodIn_r _ [13, 14, 15, 4] rfl (by decide +kernel)) ggX8_joins_X8_ownerOf
set_option maxRecDepth 20000 in
theorem ggX8_joins_X8_sets : GoodIn wsX8_joins wsX8_sets := goodIn_ca (goodIn_r _ [24, 1, 30, 31, 32, 33, 34, 35, 36, 37, 38, 39, 40, 41, 42, 43, 44, 45, 46, 47, 48] rfl (by decide +kernel)) (goodIn_sub (fun _ h => List.mem_cons_of_mem _ (List.mem_append_right _ h)) (by decide +kernel))
set_option maxRecDepth 20000 in
theorem gX8_joins_X8_sets : GoodIn wsX8_joins (wsV RX8 77 RX8 yX8_sets wsX8_sets) := goodIn_app (goodIn_r _ [21, 22, 23, 4] rfl (by decide +kernel)) ggX8_joins_X8_sets
set_option maxRecDepth 20000 in
theorem ggX8_joins_X8_does : GoodIn wsX8_joins wsX8_does := goodIn_r _ [28, 29, 30, 31, 32, 33, 34, 35, 36, 37, 38, 39, 40, 41, 42, 43, 44, 45, 46, 47, 48] rfl (by decide +kernel)
set_option maxRecDepth 20000 in
theorem gX8_joins_X8_does : GoodIn wsX8_joins (wsV RX8 84 RX8 yX8_does wsX8_does) := goodIn_app (goodIn_r _ [25, 26, 27, 4] rfl (by decide +kernel)) ggX8_joins_X8_does
theorem dX8_joins_0 : decode cX8_joins 0 = .ok (.iload_n 1, 1) := by decide +kernel
theorem dX8_joins_1 : decode cX8_joins 1 = .ok (.iconst 0, 1) := by decide +kernel
theorem dX8_joins_2 : decode cX8_joins 2 = .ok (.bipush 9, 2) := by decide +kernel
theorem dX8_joins_4 : decode cX8_joins 4 = .ok (.invokestatic 61, 3) := by decide +kernel
theorem dX8_joins_7 : decode cX8_joins 7 = .ok (.ifCond .ne 10, 3) := by decide +kernel
theorem dX8_joins_10 : decode cX8_joins 10 = .ok (.aload_n 0, 1) := by decide +kernel
theorem dX8_joins_11 : decode cX8_joins 11 = .ok (.iconst 1, 1) := by decide +kernel
theorem dX8_joins_12 : decode cX8_joins 12 = .ok (.iconst 0, 1) := by decide +kernel
theorem dX8_joins_13 : decode cX8_joins 13 = .ok (.invokevirtual 69, 3) := by decide +kernel
theorem dX8_joins_16 : decode cX8_joins 16 = .ok (.ireturn, 1) := by decide +kernel
theorem dX8_joins_17 : decode cX8_joins 17 = .ok (.aload_n 0, 1) := by decide +kernel
theorem dX8_joins_18 : decode cX8_joins 18 = .ok (.getfield 9, 3) := by decide +kernel
theorem dX8_joins_21 : decode cX8_joins 21 = .ok (.iconst 0, 1) := by decide +kernel
theorem dX8_joins_22 : decode cX8_joins 22 = .ok (.iaload, 1) := by decide +kernel
theorem dX8_joins_23 : decode cX8_joins 23 = .ok (.bipush 6, 2) := by decide +kernel
theorem dX8_joins_25 : decode cX8_joins 25 = .ok (.if_icmp .ne 11, 3) := by decide +kernel
theorem dX8_joins_28 : decode cX8_joins 28 = .ok (.aload_n 0, 1) := by decide +kernel
theorem dX8_joins_29 : decode cX8_joins 29 = .ok (.iconst 2, 1) := by decide +kernel
theorem dX8_joins_30 : decode cX8_joins 30 = .ok (.bipush 6, 2) := by decide +kernel
theorem dX8_joins_32 : decode cX8_joins 32 = .ok (.invokevirtual 69, 3) := by decide +kernel
theorem dX8_joins_35 : decode cX8_joins 35 = .ok (.ireturn, 1) := by decide +kernel
theorem dX8_joins_36 : decode cX8_joins 36 = .ok (.aload_n 0, 1) := by decide +kernel
theorem dX8_joins_37 : decode cX8_joins 37 = .ok (.iload_n 1, 1) := by decide +kernel
theorem dX8_joins_38 : decode cX8_joins 38 = .ok (.invokevirtual 81, 3) := by decide +kernel
theorem dX8_joins_41 : decode cX8_joins 41 = .ok (.ifCond .lt 14, 3) := by decide +kernel
theorem dX8_joins_44 : decode cX8_joins 44 = .ok (.aload_n 0, 1) := by decide +kernel
theorem dX8_joins_45 : decode cX8_joins 45 = .ok (.iconst 3, 1) := by decide +kernel
theorem dX8_joins_46 : decode cX8_joins 46 = .ok (.aload_n 0, 1) := by decide +kernel
theorem dX8_joins_47 : decode cX8_joins 47 = .ok (.iload_n 1, 1) := by decide +kernel
theorem dX8_joins_48 : decode cX8_joins 48 = .ok (.invokevirtual 81, 3) := by decide +kernel
theorem dX8_joins_51 : decode cX8_joins 51 = .ok (.invokevirtual 69, 3) := by decide +kernel
theorem dX8_joins_54 : decode cX8_joins 54 = .ok (.ireturn, 1) := by decide +kernel
theorem dX8_joins_55 : decode cX8_joins 55 = .ok (.aload_n 0, 1) := by decide +kernel
theorem dX8_joins_56 : decode cX8_joins 56 = .ok (.getfield 9, 3) := by decide +kernel
theorem dX8_joins_59 : decode cX8_joins 59 = .ok (.iconst 0, 1) := by decide +kernel
theorem dX8_joins_60 : decode cX8_joins 60 = .ok (.dup2, 1) := by decide +kernel
theorem dX8_joins_61 : decode cX8_joins 61 = .ok (.iaload, 1) := by decide +kernel
theorem dX8_joins_62 : decode cX8_joins 62 = .ok (.dup_x2, 1) := by decide +kernel
theorem dX8_joins_63 : decode cX8_joins 63 = .ok (.iconst 1, 1) := by decide +kernel
theorem dX8_joins_64 : decode cX8_joins 64 = .ok (.iadd, 1) := by decide +kernel
theorem dX8_joins_65 : decode cX8_joins 65 = .ok (.iastore, 1) := by decide +kernel
theorem dX8_joins_66 : decode cX8_joins 66 = .ok (.istore_n 2, 1) := by decide +kernel
theorem dX8_joins_67 : decode cX8_joins 67 = .ok (.iconst 0, 1) := by decide +kernel
theorem dX8_joins_68 : decode cX8_joins 68 = .ok (.istore_n 3, 1) := by decide +kernel
theorem dX8_joins_69 : decode cX8_joins 69 = .ok (.iload_n 3, 1) := by decide +kernel
theorem dX8_joins_70 : decode cX8_joins 70 = .ok (.bipush 7, 2) := by decide +kernel
theorem dX8_joins_72 : decode cX8_joins 72 = .ok (.if_icmp .ge 16, 3) := by decide +kernel
theorem dX8_joins_75 : decode cX8_joins 75 = .ok (.aload_n 0, 1) := by decide +kernel
theorem dX8_joins_76 : decode cX8_joins 76 = .ok (.iload_n 2, 1) := by decide +kernel
theorem dX8_joins_77 : decode cX8_joins 77 = .ok (.iload_n 3, 1) := by decide +kernel
theorem dX8_joins_78 : decode cX8_joins 78 = .ok (.iconst 0, 1) := by decide +kernel
theorem dX8_joins_79 : decode cX8_joins 79 = .ok (.invokevirtual 77, 3) := by decide +kernel
theorem dX8_joins_82 : decode cX8_joins 82 = .ok (.iinc 3 1, 3) := by decide +kernel
theorem dX8_joins_85 : decode cX8_joins 85 = .ok (.goto (-16), 3) := by decide +kernel
theorem dX8_joins_88 : decode cX8_joins 88 = .ok (.aload_n 0, 1) := by decide +kernel
theorem dX8_joins_89 : decode cX8_joins 89 = .ok (.iload_n 2, 1) := by decide +kernel
theorem dX8_joins_90 : decode cX8_joins 90 = .ok (.iconst 0, 1) := by decide +kernel
theorem dX8_joins_91 : decode cX8_joins 91 = .ok (.bipush 50, 2) := by decide +kernel
theorem dX8_joins_93 : decode cX8_joins 93 = .ok (.invokevirtual 77, 3) := by decide +kernel
theorem dX8_joins_96 : decode cX8_joins 96 = .ok (.aload_n 0, 1) := by decide +kernel
theorem dX8_joins_97 : decode cX8_joins 97 = .ok (.iload_n 2, 1) := by decide +kernel
theorem dX8_joins_98 : decode cX8_joins 98 = .ok (.iconst 1, 1) := by decide +kernel
theorem dX8_joins_99 : decode cX8_joins 99 = .ok (.iload_n 1, 1) := by decide +kernel
theorem dX8_joins_100 : decode cX8_joins 100 = .ok (.invokevirtual 77, 3) := by decide +kernel
theorem dX8_joins_103 : decode cX8_joins 103 = .ok (.aload_n 0, 1) := by decide +kernel
theorem dX8_joins_104 : decode cX8_joins 104 = .ok (.getfield 9, 3) := by decide +kernel
theorem dX8_joins_107 : decode cX8_joins 107 = .ok (.bipush 11, 2) := by decide +kernel
theorem dX8_joins_109 : decode cX8_joins 109 = .ok (.dup2, 1) := by decide +kernel
theorem dX8_joins_110 : decode cX8_joins 110 = .ok (.iaload, 1) := by decide +kernel
theorem dX8_joins_111 : decode cX8_joins 111 = .ok (.bipush 50, 2) := by decide +kernel
theorem dX8_joins_113 : decode cX8_joins 113 = .ok (.iadd, 1) := by decide +kernel
theorem dX8_joins_114 : decode cX8_joins 114 = .ok (.iastore, 1) := by decide +kernel
theorem dX8_joins_115 : decode cX8_joins 115 = .ok (.aload_n 0, 1) := by decide +kernel
theorem dX8_joins_116 : decode cX8_joins 116 = .ok (.iload_n 2, 1) := by decide +kernel
theorem dX8_joins_117 : decode cX8_joins 117 = .ok (.invokevirtual 84, 3) := by decide +kernel
theorem dX8_joins_120 : decode cX8_joins 120 = .ok (.ireturn, 1) := by decide +kernel
set_option maxRecDepth 20000 in
theorem ggX8_join_X8_tries : GoodIn wsX8_join wsX8_tries := goodIn_ca (goodIn_r _ [5, 6, 7, 8, 54, 55, 56, 57, 58, 59, 60, 61, 62, 63, 64, 65, 66, 67, 68, 69, 70, 71, 72] rfl (by decide +kernel)) (goodIn_sub (fun _ h => List.mem_cons_of_mem _ (List.mem_append_right _ h)) (by decide +kernel))
set_option maxRecDepth 20000 in
theorem gX8_join_X8_tries : GoodIn wsX8_join (wsV RX8 87 RX8 yX8_tries wsX8_tries) := goodIn_app (goodIn_r _ [1, 2, 3, 4] rfl (by decide +kernel)) ggX8_join_X8_tries
set_option maxRecDepth 20000 in
theorem ggX8_join_X8_joins : GoodIn wsX8_join wsX8_joins := goodIn_ca (goodIn_r _ [12, 8, 13, 14, 4, 15, 16, 17, 18, 19, 20, 21, 22, 23, 24, 25, 26, 27, 28, 29, 30, 31, 32, 33, 34, 35, 36, 37, 38, 39, 54, 55, 56, 57, 58, 59, 60, 61, 62, 63, 64, 65, 66, 67, 68, 69, 70, 71, 72] rfl (by decide +kernel)) (goodIn_sub (fun _ h => List.mem_cons_of_mem _ (List.mem_append_right _ h)) (by decide +kernel))
set_option maxRecDepth 20000 in
theorem gX8_join_X8_joins : GoodIn wsX8_join (wsV RX8 90 RX8 yX8_joins wsX8_joins) := goodIn_app (goodIn_r _ [9, 10, 11, 4] rfl (by decide +kernel)) ggX8_join_X8_joins
set_option maxRecDepth 20000 in
theorem ggX8_join_X8_ends : GoodIn wsX8_join wsX8_ends := goodIn_ca (goodIn_r _ [43, 39, 44, 45, 46, 4, 47, 48, 49, 7, 50, 51, 52, 53, 6, 54, 55, 56, 57, 58, 59, 60, 61, 62, 63, 64, 65, 66, 67, 68, 69, 70, 71, 72] rfl (by decide +kernel)) (goodIn_sub (fun _ h => List.mem_cons_of_mem _ (List.mem_append_right _ h)) (by decide +kernel))
set_option maxRecDepth 20000 in
theorem gX8_join_X8_ends : GoodIn wsX8_join (wsV RX8 93 RX8 yX8_ends wsX8_ends) := goodIn_app (goodIn_r _ [40, 41, 42, 4] rfl (by decide +kernel)) ggX8_join_X8_ends
theorem dX8_join_0 : decode cX8_join 0 = .ok (.aload_n 0, 1) := by decide +kernel
theorem dX8_join_1 : decode cX8_join 1 = .ok (.invokevirtual 87, 3) := by decide +kernel
theorem dX8_join_4 : decode cX8_join 4 = .ok (.aload_n 0, 1) := by decide +kernel
theorem dX8_join_5 : decode cX8_join 5 = .ok (.aload_n 0, 1) := by decide +kernel
theorem dX8_join_6 : decode cX8_join 6 = .ok (.iload_n 1, 1) := by decide +kernel
theorem dX8_join_7 : decode cX8_join 7 = .ok (.invokevirtual 90, 3) := by decide +kernel
theorem dX8_join_10 : decode cX8_join 10 = .ok (.invokevirtual 93, 3) := by decide +kernel
theorem dX8_join_13 : decode cX8_join 13 = .ok (.ireturn, 1) := by decide +kernel
set_option maxRecDepth 20000 in
theorem ggX8_leaves_X8_isThere : GoodIn wsX8_leaves wsX8_isThere := goodIn_ca (goodIn_r _ [6, 1, 7, 8, 9, 5, 10, 11, 12, 13, 14, 15, 16, 17, 18, 19, 20, 34, 35, 36, 37, 38, 39, 40, 41, 42, 43, 44, 45, 46, 47, 48, 49, 50, 51, 52] rfl (by decide +kernel)) (goodIn_sub (fun _ h => List.mem_cons_of_mem _ (List.mem_append_right _ h)) (by decide +kernel))
set_option maxRecDepth 20000 in
theorem gX8_leaves_X8_isThere : GoodIn wsX8_leaves (wsV RX8 97 RX8 yX8_isThere wsX8_isThere) := goodIn_app (goodIn_r _ [2, 3, 4, 5] rfl (by decide +kernel)) ggX8_leaves_X8_isThere
set_option maxRecDepth 20000 in
theorem ggX8_leaves_X8_hasWagered : GoodIn wsX8_leaves wsX8_hasWagered := goodIn_ca (goodIn_r _ [24, 25, 26, 27, 5, 28, 1, 34, 35, 36, 37, 38, 39, 40, 41, 42, 43, 44, 45, 46, 47, 48, 49, 50, 51, 52] rfl (by decide +kernel)) (goodIn_sub (fun _ h => List.mem_cons_of_mem _ (List.mem_append_right _ h)) (by decide +kernel))
set_option maxRecDepth 20000 in
theorem gX8_leaves_X8_hasWagered : GoodIn wsX8_leaves (wsV RX8 100 RX8 yX8_hasWagered wsX8_hasWagered) := goodIn_app (goodIn_r _ [21, 22, 23, 5] rfl (by decide +kernel)) ggX8_leaves_X8_hasWagered
set_option maxRecDepth 20000 in
theorem ggX8_leaves_X8_of : GoodIn wsX8_leaves wsX8_of := goodIn_ca (goodIn_r _ [28, 1, 34, 35, 36, 37, 38, 39, 40, 41, 42, 43, 44, 45, 46, 47, 48, 49, 50, 51, 52] rfl (by decide +kernel)) (goodIn_sub (fun _ h => List.mem_cons_of_mem _ (List.mem_append_right _ h)) (by decide +kernel))
set_option maxRecDepth 20000 in
theorem gX8_leaves_X8_of : GoodIn wsX8_leaves (wsV RX8 73 RX8 yX8_of wsX8_of) := goodIn_app (goodIn_r _ [25, 26, 27, 5] rfl (by decide +kernel)) ggX8_leaves_X8_of
set_option maxRecDepth 20000 in
theorem ggX8_leaves_X8_refuses : GoodIn wsX8_leaves wsX8_refuses := goodIn_r _ [17, 18, 19, 20, 34, 35, 36, 37, 38, 39, 40, 41, 42, 43, 44, 45, 46, 47, 48, 49, 50, 51, 52] rfl (by decide +kernel)
set_option maxRecDepth 20000 in
theorem gX8_leaves_X8_refuses : GoodIn wsX8_leaves (wsV RX8 69 RX8 yX8_refuses wsX8_refuses) := goodIn_app (goodIn_r _ [14, 15, 16, 5] rfl (by decide +kernel)) ggX8_leaves_X8_refuses
set_option maxRecDepth 20000 in
theorem ggX8_leaves_X8_does : GoodIn wsX8_leaves wsX8_does := goodIn_r _ [32, 33, 34, 35, 36, 37, 38, 39, 40, 41, 42, 43, 44, 45, 46, 47, 48, 49, 50, 51, 52] rfl (by decide +kernel)
set_option maxRecDepth 20000 in
theorem gX8_leaves_X8_does : GoodIn wsX8_leaves (wsV RX8 84 RX8 yX8_does wsX8_does) := goodIn_app (goodIn_r _ [29, 30, 31, 5] rfl (by decide +kernel)) ggX8_leaves_X8_does
theorem dX8_leaves_0 : decode cX8_leaves 0 = .ok (.aload_n 0, 1) := by decide +kernel
theorem dX8_leaves_1 : decode cX8_leaves 1 = .ok (.iload_n 1, 1) := by decide +kernel
theorem dX8_leaves_2 : decode cX8_leaves 2 = .ok (.invokevirtual 97, 3) := by decide +kernel
theorem dX8_leaves_5 : decode cX8_leaves 5 = .ok (.ifCond .ne 5, 3) := by decide +kernel
theorem dX8_leaves_8 : decode cX8_leaves 8 = .ok (.iconst 0, 1) := by decide +kernel
theorem dX8_leaves_9 : decode cX8_leaves 9 = .ok (.ireturn, 1) := by decide +kernel
theorem dX8_leaves_10 : decode cX8_leaves 10 = .ok (.aload_n 0, 1) := by decide +kernel
theorem dX8_leaves_11 : decode cX8_leaves 11 = .ok (.iload_n 1, 1) := by decide +kernel
theorem dX8_leaves_12 : decode cX8_leaves 12 = .ok (.invokevirtual 100, 3) := by decide +kernel
theorem dX8_leaves_15 : decode cX8_leaves 15 = .ok (.ifCond .eq 16, 3) := by decide +kernel
theorem dX8_leaves_18 : decode cX8_leaves 18 = .ok (.aload_n 0, 1) := by decide +kernel
theorem dX8_leaves_19 : decode cX8_leaves 19 = .ok (.bipush 7, 2) := by decide +kernel
theorem dX8_leaves_21 : decode cX8_leaves 21 = .ok (.aload_n 0, 1) := by decide +kernel
theorem dX8_leaves_22 : decode cX8_leaves 22 = .ok (.iload_n 1, 1) := by decide +kernel
theorem dX8_leaves_23 : decode cX8_leaves 23 = .ok (.iconst 2, 1) := by decide +kernel
theorem dX8_leaves_24 : decode cX8_leaves 24 = .ok (.invokevirtual 73, 3) := by decide +kernel
theorem dX8_leaves_27 : decode cX8_leaves 27 = .ok (.invokevirtual 69, 3) := by decide +kernel
theorem dX8_leaves_30 : decode cX8_leaves 30 = .ok (.ireturn, 1) := by decide +kernel
theorem dX8_leaves_31 : decode cX8_leaves 31 = .ok (.aload_n 0, 1) := by decide +kernel
theorem dX8_leaves_32 : decode cX8_leaves 32 = .ok (.iload_n 1, 1) := by decide +kernel
theorem dX8_leaves_33 : decode cX8_leaves 33 = .ok (.iconst 0, 1) := by decide +kernel
theorem dX8_leaves_34 : decode cX8_leaves 34 = .ok (.invokevirtual 73, 3) := by decide +kernel
theorem dX8_leaves_37 : decode cX8_leaves 37 = .ok (.istore_n 2, 1) := by decide +kernel
theorem dX8_leaves_38 : decode cX8_leaves 38 = .ok (.aload_n 0, 1) := by decide +kernel
theorem dX8_leaves_39 : decode cX8_leaves 39 = .ok (.getfield 9, 3) := by decide +kernel
theorem dX8_leaves_42 : decode cX8_leaves 42 = .ok (.bipush 12, 2) := by decide +kernel
theorem dX8_leaves_44 : decode cX8_leaves 44 = .ok (.dup2, 1) := by decide +kernel
theorem dX8_leaves_45 : decode cX8_leaves 45 = .ok (.iaload, 1) := by decide +kernel
theorem dX8_leaves_46 : decode cX8_leaves 46 = .ok (.iload_n 2, 1) := by decide +kernel
theorem dX8_leaves_47 : decode cX8_leaves 47 = .ok (.iadd, 1) := by decide +kernel
theorem dX8_leaves_48 : decode cX8_leaves 48 = .ok (.iastore, 1) := by decide +kernel
theorem dX8_leaves_49 : decode cX8_leaves 49 = .ok (.aload_n 0, 1) := by decide +kernel
theorem dX8_leaves_50 : decode cX8_leaves 50 = .ok (.getfield 9, 3) := by decide +kernel
theorem dX8_leaves_53 : decode cX8_leaves 53 = .ok (.iconst 0, 1) := by decide +kernel
theorem dX8_leaves_54 : decode cX8_leaves 54 = .ok (.dup2, 1) := by decide +kernel
theorem dX8_leaves_55 : decode cX8_leaves 55 = .ok (.iaload, 1) := by decide +kernel
theorem dX8_leaves_56 : decode cX8_leaves 56 = .ok (.iconst 1, 1) := by decide +kernel
theorem dX8_leaves_57 : decode cX8_leaves 57 = .ok (.isub, 1) := by decide +kernel
theorem dX8_leaves_58 : decode cX8_leaves 58 = .ok (.iastore, 1) := by decide +kernel
theorem dX8_leaves_59 : decode cX8_leaves 59 = .ok (.bipush 13, 2) := by decide +kernel
theorem dX8_leaves_61 : decode cX8_leaves 61 = .ok (.bipush 7, 2) := by decide +kernel
theorem dX8_leaves_63 : decode cX8_leaves 63 = .ok (.iload_n 1, 1) := by decide +kernel
theorem dX8_leaves_64 : decode cX8_leaves 64 = .ok (.imul, 1) := by decide +kernel
theorem dX8_leaves_65 : decode cX8_leaves 65 = .ok (.iadd, 1) := by decide +kernel
theorem dX8_leaves_66 : decode cX8_leaves 66 = .ok (.istore_n 3, 1) := by decide +kernel
theorem dX8_leaves_67 : decode cX8_leaves 67 = .ok (.iload_n 3, 1) := by decide +kernel
theorem dX8_leaves_68 : decode cX8_leaves 68 = .ok (.bipush 13, 2) := by decide +kernel
theorem dX8_leaves_70 : decode cX8_leaves 70 = .ok (.bipush 7, 2) := by decide +kernel
theorem dX8_leaves_72 : decode cX8_leaves 72 = .ok (.aload_n 0, 1) := by decide +kernel
theorem dX8_leaves_73 : decode cX8_leaves 73 = .ok (.getfield 9, 3) := by decide +kernel
theorem dX8_leaves_76 : decode cX8_leaves 76 = .ok (.iconst 0, 1) := by decide +kernel
theorem dX8_leaves_77 : decode cX8_leaves 77 = .ok (.iaload, 1) := by decide +kernel
theorem dX8_leaves_78 : decode cX8_leaves 78 = .ok (.imul, 1) := by decide +kernel
theorem dX8_leaves_79 : decode cX8_leaves 79 = .ok (.iadd, 1) := by decide +kernel
theorem dX8_leaves_80 : decode cX8_leaves 80 = .ok (.if_icmp .ge 24, 3) := by decide +kernel
theorem dX8_leaves_83 : decode cX8_leaves 83 = .ok (.aload_n 0, 1) := by decide +kernel
theorem dX8_leaves_84 : decode cX8_leaves 84 = .ok (.getfield 9, 3) := by decide +kernel
theorem dX8_leaves_87 : decode cX8_leaves 87 = .ok (.iload_n 3, 1) := by decide +kernel
theorem dX8_leaves_88 : decode cX8_leaves 88 = .ok (.aload_n 0, 1) := by decide +kernel
theorem dX8_leaves_89 : decode cX8_leaves 89 = .ok (.getfield 9, 3) := by decide +kernel
theorem dX8_leaves_92 : decode cX8_leaves 92 = .ok (.iload_n 3, 1) := by decide +kernel
theorem dX8_leaves_93 : decode cX8_leaves 93 = .ok (.bipush 7, 2) := by decide +kernel
theorem dX8_leaves_95 : decode cX8_leaves 95 = .ok (.iadd, 1) := by decide +kernel
theorem dX8_leaves_96 : decode cX8_leaves 96 = .ok (.iaload, 1) := by decide +kernel
theorem dX8_leaves_97 : decode cX8_leaves 97 = .ok (.iastore, 1) := by decide +kernel
theorem dX8_leaves_98 : decode cX8_leaves 98 = .ok (.iinc 3 1, 3) := by decide +kernel
theorem dX8_leaves_101 : decode cX8_leaves 101 = .ok (.goto (-34), 3) := by decide +kernel
theorem dX8_leaves_104 : decode cX8_leaves 104 = .ok (.aload_n 0, 1) := by decide +kernel
theorem dX8_leaves_105 : decode cX8_leaves 105 = .ok (.iload_n 2, 1) := by decide +kernel
theorem dX8_leaves_106 : decode cX8_leaves 106 = .ok (.invokevirtual 84, 3) := by decide +kernel
theorem dX8_leaves_109 : decode cX8_leaves 109 = .ok (.ireturn, 1) := by decide +kernel
set_option maxRecDepth 20000 in
theorem ggX8_leave_X8_tries : GoodIn wsX8_leave wsX8_tries := goodIn_ca (goodIn_r _ [5, 6, 7, 8, 58, 59, 60, 61, 62, 63, 64, 65, 66, 67, 68, 69, 70, 71, 72, 73, 74, 75, 76] rfl (by decide +kernel)) (goodIn_sub (fun _ h => List.mem_cons_of_mem _ (List.mem_append_right _ h)) (by decide +kernel))
set_option maxRecDepth 20000 in
theorem gX8_leave_X8_tries : GoodIn wsX8_leave (wsV RX8 87 RX8 yX8_tries wsX8_tries) := goodIn_app (goodIn_r _ [1, 2, 3, 4] rfl (by decide +kernel)) ggX8_leave_X8_tries
set_option maxRecDepth 20000 in
theorem ggX8_leave_X8_leaves : GoodIn wsX8_leave wsX8_leaves := goodIn_ca (goodIn_r _ [12, 8, 13, 14, 15, 4, 16, 17, 18, 19, 20, 21, 22, 23, 24, 25, 26, 27, 28, 29, 30, 31, 32, 33, 34, 35, 36, 37, 38, 39, 40, 41, 42, 43, 58, 59, 60, 61, 62, 63, 64, 65, 66, 67, 68, 69, 70, 71, 72, 73, 74, 75, 76] rfl (by decide +kernel)) (goodIn_sub (fun _ h => List.mem_cons_of_mem _ (List.mem_append_right _ h)) (by decide +kernel))
set_option maxRecDepth 20000 in
theorem gX8_leave_X8_leaves : GoodIn wsX8_leave (wsV RX8 103 RX8 yX8_leaves wsX8_leaves) := goodIn_app (goodIn_r _ [9, 10, 11, 4] rfl (by decide +kernel)) ggX8_leave_X8_leaves
set_option maxRecDepth 20000 in
theorem ggX8_leave_X8_ends : GoodIn wsX8_leave wsX8_ends := goodIn_ca (goodIn_r _ [47, 43, 48, 49, 50, 4, 51, 52, 53, 7, 54, 55, 56, 57, 6, 58, 59, 60, 61, 62, 63, 64, 65, 66, 67, 68, 69, 70, 71, 72, 73, 74, 75, 76] rfl (by decide +kernel)) (goodIn_sub (fun _ h => List.mem_cons_of_mem _ (List.mem_append_right _ h)) (by decide +kernel))
set_option maxRecDepth 20000 in
theorem gX8_leave_X8_ends : GoodIn wsX8_leave (wsV RX8 93 RX8 yX8_ends wsX8_ends) := goodIn_app (goodIn_r _ [44, 45, 46, 4] rfl (by decide +kernel)) ggX8_leave_X8_ends
theorem dX8_leave_0 : decode cX8_leave 0 = .ok (.aload_n 0, 1) := by decide +kernel
theorem dX8_leave_1 : decode cX8_leave 1 = .ok (.invokevirtual 87, 3) := by decide +kernel
theorem dX8_leave_4 : decode cX8_leave 4 = .ok (.aload_n 0, 1) := by decide +kernel
theorem dX8_leave_5 : decode cX8_leave 5 = .ok (.aload_n 0, 1) := by decide +kernel
theorem dX8_leave_6 : decode cX8_leave 6 = .ok (.iload_n 1, 1) := by decide +kernel
theorem dX8_leave_7 : decode cX8_leave 7 = .ok (.invokevirtual 103, 3) := by decide +kernel
theorem dX8_leave_10 : decode cX8_leave 10 = .ok (.invokevirtual 93, 3) := by decide +kernel
theorem dX8_leave_13 : decode cX8_leave 13 = .ok (.ireturn, 1) := by decide +kernel
theorem dX8_apart_0 : decode cX8_apart 0 = .ok (.iload_n 0, 1) := by decide +kernel
theorem dX8_apart_1 : decode cX8_apart 1 = .ok (.iload_n 1, 1) := by decide +kernel
theorem dX8_apart_2 : decode cX8_apart 2 = .ok (.isub, 1) := by decide +kernel
theorem dX8_apart_3 : decode cX8_apart 3 = .ok (.invokestatic 106, 3) := by decide +kernel
theorem dX8_apart_6 : decode cX8_apart 6 = .ok (.ireturn, 1) := by decide +kernel
set_option maxRecDepth 20000 in
theorem ggX8_moves_X8_isThere : GoodIn wsX8_moves wsX8_isThere := goodIn_ca (goodIn_r _ [6, 1, 7, 8, 9, 5, 10, 11, 12, 13, 14, 15, 16, 17, 18, 19, 20, 49, 50, 51, 52, 53, 54, 55, 56, 57, 58, 59, 60, 61, 62, 63, 64, 65, 66, 67] rfl (by decide +kernel)) (goodIn_sub (fun _ h => List.mem_cons_of_mem _ (List.mem_append_right _ h)) (by decide +kernel))
set_option maxRecDepth 20000 in
theorem gX8_moves_X8_isThere : GoodIn wsX8_moves (wsV RX8 97 RX8 yX8_isThere wsX8_isThere) := goodIn_app (goodIn_r _ [2, 3, 4, 5] rfl (by decide +kernel)) ggX8_moves_X8_isThere
set_option maxRecDepth 20000 in
theorem ggX8_moves_X8_in : GoodIn wsX8_moves wsX8_in := goodIn_r _ [13] rfl (by decide +kernel)
set_option maxRecDepth 20000 in
theorem gX8_moves_X8_in : GoodIn wsX8_moves (va_wsS RX8 61 yX8_in wsX8_in) := goodIn_app (goodIn_r _ [11, 12, 5] rfl (by decide +kernel)) ggX8_moves_X8_in
set_option maxRecDepth 20000 in
theorem ggX8_moves_X8_refuses : GoodIn wsX8_moves wsX8_refuses := goodIn_r _ [17, 18, 19, 20, 49, 50, 51, 52, 53, 54, 55, 56, 57, 58, 59, 60, 61, 62, 63, 64, 65, 66, 67] rfl (by decide +kernel)
set_option maxRecDepth 20000 in
theorem gX8_moves_X8_refuses : GoodIn wsX8_moves (wsV RX8 69 RX8 yX8_refuses wsX8_refuses) := goodIn_app (goodIn_r _ [14, 15, 16, 5] rfl (by decide +kernel)) ggX8_moves_X8_refuses
set_option maxRecDepth 20000 in
theorem ggX8_moves_X8_ownerOf : GoodIn wsX8_moves wsX8_ownerOf := goodIn_ca (goodIn_r _ [24, 1, 25, 26, 27, 5, 28, 49, 50, 51, 52, 53, 54, 55, 56, 57, 58, 59, 60, 61, 62, 63, 64, 65, 66, 67] rfl (by decide +kernel)) (goodIn_sub (fun _ h => List.mem_cons_of_mem _ (List.mem_append_right _ h)) (by decide +kernel))
set_option maxRecDepth 20000 in
theorem gX8_moves_X8_ownerOf : GoodIn wsX8_moves (wsV RX8 81 RX8 yX8_ownerOf wsX8_ownerOf) := goodIn_app (goodIn_r _ [21, 22, 23, 5] rfl (by decide +kernel)) ggX8_moves_X8_ownerOf
set_option maxRecDepth 20000 in
theorem ggX8_moves_X8_of : GoodIn wsX8_moves wsX8_of := goodIn_ca (goodIn_r _ [28, 1, 49, 50, 51, 52, 53, 54, 55, 56, 57, 58, 59, 60, 61, 62, 63, 64, 65, 66, 67] rfl (by decide +kernel)) (goodIn_sub (fun _ h => List.mem_cons_of_mem _ (List.mem_append_right _ h)) (by decide +kernel))
set_option maxRecDepth 20000 in
theorem gX8_moves_X8_of : GoodIn wsX8_moves (wsV RX8 73 RX8 yX8_of wsX8_of) := goodIn_app (goodIn_r _ [25, 26, 27, 5] rfl (by decide +kernel)) ggX8_moves_X8_of
set_option maxRecDepth 20000 in
theorem ggX8_moves_X8_apart : GoodIn wsX8_moves wsX8_apart := goodIn_r _ [31, 32, 33, 34, 35] rfl (by decide +kernel)
set_option maxRecDepth 20000 in
theorem gX8_moves_X8_apart : GoodIn wsX8_moves (va_wsS RX8 111 yX8_apart wsX8_apart) := goodIn_app (goodIn_r _ [29, 30, 5] rfl (by decide +kernel)) ggX8_moves_X8_apart
set_option maxRecDepth 20000 in
theorem ggX8_moves_X8_pays : GoodIn wsX8_moves wsX8_pays := goodIn_ca (goodIn_r _ [39, 1, 25, 26, 27, 5, 28, 14, 15, 16, 17, 18, 19, 20, 40, 41, 42, 43, 49, 50, 51, 52, 53, 54, 55, 56, 57, 58, 59, 60, 61, 62, 63, 64, 65, 66, 67] rfl (by decide +kernel)) (goodIn_sub (fun _ h => List.mem_cons_of_mem _ (List.mem_append_right _ h)) (by decide +kernel))
set_option maxRecDepth 20000 in
theorem gX8_moves_X8_pays : GoodIn wsX8_moves (wsV RX8 114 RX8 yX8_pays wsX8_pays) := goodIn_app (goodIn_r _ [36, 37, 38, 5] rfl (by decide +kernel)) ggX8_moves_X8_pays
set_option maxRecDepth 20000 in
theorem ggX8_moves_X8_sets : GoodIn wsX8_moves wsX8_sets := goodIn_ca (goodIn_r _ [43, 1, 49, 50, 51, 52, 53, 54, 55, 56, 57, 58, 59, 60, 61, 62, 63, 64, 65, 66, 67] rfl (by decide +kernel)) (goodIn_sub (fun _ h => List.mem_cons_of_mem _ (List.mem_append_right _ h)) (by decide +kernel))
set_option maxRecDepth 20000 in
theorem gX8_moves_X8_sets : GoodIn wsX8_moves (wsV RX8 77 RX8 yX8_sets wsX8_sets) := goodIn_app (goodIn_r _ [40, 41, 42, 5] rfl (by decide +kernel)) ggX8_moves_X8_sets
set_option maxRecDepth 20000 in
theorem ggX8_moves_X8_does : GoodIn wsX8_moves wsX8_does := goodIn_r _ [47, 48, 49, 50, 51, 52, 53, 54, 55, 56, 57, 58, 59, 60, 61, 62, 63, 64, 65, 66, 67] rfl (by decide +kernel)
set_option maxRecDepth 20000 in
theorem gX8_moves_X8_does : GoodIn wsX8_moves (wsV RX8 84 RX8 yX8_does wsX8_does) := goodIn_app (goodIn_r _ [44, 45, 46, 5] rfl (by decide +kernel)) ggX8_moves_X8_does
theorem dX8_moves_0 : decode cX8_moves 0 = .ok (.aload_n 0, 1) := by decide +kernel
theorem dX8_moves_1 : decode cX8_moves 1 = .ok (.iload_n 1, 1) := by decide +kernel
theorem dX8_moves_2 : decode cX8_moves 2 = .ok (.invokevirtual 97, 3) := by decide +kernel
theorem dX8_moves_5 : decode cX8_moves 5 = .ok (.ifCond .ne 5, 3) := by decide +kernel
theorem dX8_moves_8 : decode cX8_moves 8 = .ok (.iconst 0, 1) := by decide +kernel
theorem dX8_moves_9 : decode cX8_moves 9 = .ok (.ireturn, 1) := by decide +kernel
theorem dX8_moves_10 : decode cX8_moves 10 = .ok (.iload_n 2, 1) := by decide +kernel
theorem dX8_moves_11 : decode cX8_moves 11 = .ok (.iconst 0, 1) := by decide +kernel
theorem dX8_moves_12 : decode cX8_moves 12 = .ok (.bipush 9, 2) := by decide +kernel
theorem dX8_moves_14 : decode cX8_moves 14 = .ok (.invokestatic 61, 3) := by decide +kernel
theorem dX8_moves_17 : decode cX8_moves 17 = .ok (.ifCond .ne 10, 3) := by decide +kernel
theorem dX8_moves_20 : decode cX8_moves 20 = .ok (.aload_n 0, 1) := by decide +kernel
theorem dX8_moves_21 : decode cX8_moves 21 = .ok (.iconst 1, 1) := by decide +kernel
theorem dX8_moves_22 : decode cX8_moves 22 = .ok (.iconst 0, 1) := by decide +kernel
theorem dX8_moves_23 : decode cX8_moves 23 = .ok (.invokevirtual 69, 3) := by decide +kernel
theorem dX8_moves_26 : decode cX8_moves 26 = .ok (.ireturn, 1) := by decide +kernel
theorem dX8_moves_27 : decode cX8_moves 27 = .ok (.aload_n 0, 1) := by decide +kernel
theorem dX8_moves_28 : decode cX8_moves 28 = .ok (.iload_n 2, 1) := by decide +kernel
theorem dX8_moves_29 : decode cX8_moves 29 = .ok (.invokevirtual 81, 3) := by decide +kernel
theorem dX8_moves_32 : decode cX8_moves 32 = .ok (.ifCond .lt 14, 3) := by decide +kernel
theorem dX8_moves_35 : decode cX8_moves 35 = .ok (.aload_n 0, 1) := by decide +kernel
theorem dX8_moves_36 : decode cX8_moves 36 = .ok (.iconst 3, 1) := by decide +kernel
theorem dX8_moves_37 : decode cX8_moves 37 = .ok (.aload_n 0, 1) := by decide +kernel
theorem dX8_moves_38 : decode cX8_moves 38 = .ok (.iload_n 2, 1) := by decide +kernel
theorem dX8_moves_39 : decode cX8_moves 39 = .ok (.invokevirtual 81, 3) := by decide +kernel
theorem dX8_moves_42 : decode cX8_moves 42 = .ok (.invokevirtual 69, 3) := by decide +kernel
theorem dX8_moves_45 : decode cX8_moves 45 = .ok (.ireturn, 1) := by decide +kernel
theorem dX8_moves_46 : decode cX8_moves 46 = .ok (.iconst 2, 1) := by decide +kernel
theorem dX8_moves_47 : decode cX8_moves 47 = .ok (.iload_n 2, 1) := by decide +kernel
theorem dX8_moves_48 : decode cX8_moves 48 = .ok (.aload_n 0, 1) := by decide +kernel
theorem dX8_moves_49 : decode cX8_moves 49 = .ok (.iload_n 1, 1) := by decide +kernel
theorem dX8_moves_50 : decode cX8_moves 50 = .ok (.iconst 1, 1) := by decide +kernel
theorem dX8_moves_51 : decode cX8_moves 51 = .ok (.invokevirtual 73, 3) := by decide +kernel
theorem dX8_moves_54 : decode cX8_moves 54 = .ok (.invokestatic 111, 3) := by decide +kernel
theorem dX8_moves_57 : decode cX8_moves 57 = .ok (.imul, 1) := by decide +kernel
theorem dX8_moves_58 : decode cX8_moves 58 = .ok (.istore_n 3, 1) := by decide +kernel
theorem dX8_moves_59 : decode cX8_moves 59 = .ok (.aload_n 0, 1) := by decide +kernel
theorem dX8_moves_60 : decode cX8_moves 60 = .ok (.iload_n 1, 1) := by decide +kernel
theorem dX8_moves_61 : decode cX8_moves 61 = .ok (.iload_n 3, 1) := by decide +kernel
theorem dX8_moves_62 : decode cX8_moves 62 = .ok (.invokevirtual 114, 3) := by decide +kernel
theorem dX8_moves_65 : decode cX8_moves 65 = .ok (.ifCond .ne 5, 3) := by decide +kernel
theorem dX8_moves_68 : decode cX8_moves 68 = .ok (.iconst 0, 1) := by decide +kernel
theorem dX8_moves_69 : decode cX8_moves 69 = .ok (.ireturn, 1) := by decide +kernel
theorem dX8_moves_70 : decode cX8_moves 70 = .ok (.aload_n 0, 1) := by decide +kernel
theorem dX8_moves_71 : decode cX8_moves 71 = .ok (.getfield 9, 3) := by decide +kernel
theorem dX8_moves_74 : decode cX8_moves 74 = .ok (.bipush 10, 2) := by decide +kernel
theorem dX8_moves_76 : decode cX8_moves 76 = .ok (.dup2, 1) := by decide +kernel
theorem dX8_moves_77 : decode cX8_moves 77 = .ok (.iaload, 1) := by decide +kernel
theorem dX8_moves_78 : decode cX8_moves 78 = .ok (.iload_n 3, 1) := by decide +kernel
theorem dX8_moves_79 : decode cX8_moves 79 = .ok (.iadd, 1) := by decide +kernel
theorem dX8_moves_80 : decode cX8_moves 80 = .ok (.iastore, 1) := by decide +kernel
theorem dX8_moves_81 : decode cX8_moves 81 = .ok (.aload_n 0, 1) := by decide +kernel
theorem dX8_moves_82 : decode cX8_moves 82 = .ok (.iload_n 1, 1) := by decide +kernel
theorem dX8_moves_83 : decode cX8_moves 83 = .ok (.iconst 1, 1) := by decide +kernel
theorem dX8_moves_84 : decode cX8_moves 84 = .ok (.iload_n 2, 1) := by decide +kernel
theorem dX8_moves_85 : decode cX8_moves 85 = .ok (.invokevirtual 77, 3) := by decide +kernel
theorem dX8_moves_88 : decode cX8_moves 88 = .ok (.aload_n 0, 1) := by decide +kernel
theorem dX8_moves_89 : decode cX8_moves 89 = .ok (.aload_n 0, 1) := by decide +kernel
theorem dX8_moves_90 : decode cX8_moves 90 = .ok (.iload_n 1, 1) := by decide +kernel
theorem dX8_moves_91 : decode cX8_moves 91 = .ok (.iconst 0, 1) := by decide +kernel
theorem dX8_moves_92 : decode cX8_moves 92 = .ok (.invokevirtual 73, 3) := by decide +kernel
theorem dX8_moves_95 : decode cX8_moves 95 = .ok (.invokevirtual 84, 3) := by decide +kernel
theorem dX8_moves_98 : decode cX8_moves 98 = .ok (.ireturn, 1) := by decide +kernel
set_option maxRecDepth 20000 in
theorem ggX8_move_X8_tries : GoodIn wsX8_move wsX8_tries := goodIn_ca (goodIn_r _ [5, 6, 7, 8, 73, 74, 75, 76, 77, 78, 79, 80, 81, 82, 83, 84, 85, 86, 87, 88, 89, 90, 91] rfl (by decide +kernel)) (goodIn_sub (fun _ h => List.mem_cons_of_mem _ (List.mem_append_right _ h)) (by decide +kernel))
set_option maxRecDepth 20000 in
theorem gX8_move_X8_tries : GoodIn wsX8_move (wsV RX8 87 RX8 yX8_tries wsX8_tries) := goodIn_app (goodIn_r _ [1, 2, 3, 4] rfl (by decide +kernel)) ggX8_move_X8_tries
set_option maxRecDepth 20000 in
theorem ggX8_move_X8_moves : GoodIn wsX8_move wsX8_moves := goodIn_ca (goodIn_r _ [12, 8, 13, 14, 15, 4, 16, 17, 18, 19, 20, 21, 22, 23, 24, 25, 26, 27, 28, 29, 30, 31, 32, 33, 34, 35, 36, 37, 38, 39, 40, 41, 42, 43, 44, 45, 46, 47, 48, 49, 50, 51, 52, 53, 54, 55, 56, 57, 58, 73, 74, 75, 76, 77, 78, 79, 80, 81, 82, 83, 84, 85, 86, 87, 88, 89, 90, 91] rfl (by decide +kernel)) (goodIn_sub (fun _ h => List.mem_cons_of_mem _ (List.mem_append_right _ h)) (by decide +kernel))
set_option maxRecDepth 20000 in
theorem gX8_move_X8_moves : GoodIn wsX8_move (wsV RX8 117 RX8 yX8_moves wsX8_moves) := goodIn_app (goodIn_r _ [9, 10, 11, 4] rfl (by decide +kernel)) ggX8_move_X8_moves
set_option maxRecDepth 20000 in
theorem ggX8_move_X8_ends : GoodIn wsX8_move wsX8_ends := goodIn_ca (goodIn_r _ [62, 58, 63, 64, 65, 4, 66, 67, 68, 7, 69, 70, 71, 72, 6, 73, 74, 75, 76, 77, 78, 79, 80, 81, 82, 83, 84, 85, 86, 87, 88, 89, 90, 91] rfl (by decide +kernel)) (goodIn_sub (fun _ h => List.mem_cons_of_mem _ (List.mem_append_right _ h)) (by decide +kernel))
set_option maxRecDepth 20000 in
theorem gX8_move_X8_ends : GoodIn wsX8_move (wsV RX8 93 RX8 yX8_ends wsX8_ends) := goodIn_app (goodIn_r _ [59, 60, 61, 4] rfl (by decide +kernel)) ggX8_move_X8_ends
theorem dX8_move_0 : decode cX8_move 0 = .ok (.aload_n 0, 1) := by decide +kernel
theorem dX8_move_1 : decode cX8_move 1 = .ok (.invokevirtual 87, 3) := by decide +kernel
theorem dX8_move_4 : decode cX8_move 4 = .ok (.aload_n 0, 1) := by decide +kernel
theorem dX8_move_5 : decode cX8_move 5 = .ok (.aload_n 0, 1) := by decide +kernel
theorem dX8_move_6 : decode cX8_move 6 = .ok (.iload_n 1, 1) := by decide +kernel
theorem dX8_move_7 : decode cX8_move 7 = .ok (.iload_n 2, 1) := by decide +kernel
theorem dX8_move_8 : decode cX8_move 8 = .ok (.invokevirtual 117, 3) := by decide +kernel
theorem dX8_move_11 : decode cX8_move 11 = .ok (.invokevirtual 93, 3) := by decide +kernel
theorem dX8_move_14 : decode cX8_move 14 = .ok (.ireturn, 1) := by decide +kernel
set_option maxRecDepth 20000 in
theorem ggX8_exchanges_X8_isThere : GoodIn wsX8_exchanges wsX8_isThere := goodIn_ca (goodIn_r _ [5, 6, 7, 8, 9, 4, 10, 11, 12, 13, 14, 15, 16, 17, 18, 19, 20, 41, 42, 43, 44, 45, 46, 47, 48, 49, 50, 51, 52, 53, 54, 55, 56, 57, 58, 59] rfl (by decide +kernel)) (goodIn_sub (fun _ h => List.mem_cons_of_mem _ (List.mem_append_right _ h)) (by decide +kernel))
set_option maxRecDepth 20000 in
theorem gX8_exchanges_X8_isThere : GoodIn wsX8_exchanges (wsV RX8 97 RX8 yX8_isThere wsX8_isThere) := goodIn_app (goodIn_r _ [1, 2, 3, 4] rfl (by decide +kernel)) ggX8_exchanges_X8_isThere
set_option maxRecDepth 20000 in
theorem ggX8_exchanges_X8_refuses : GoodIn wsX8_exchanges wsX8_refuses := goodIn_r _ [17, 18, 19, 20, 41, 42, 43, 44, 45, 46, 47, 48, 49, 50, 51, 52, 53, 54, 55, 56, 57, 58, 59] rfl (by decide +kernel)
set_option maxRecDepth 20000 in
theorem gX8_exchanges_X8_refuses : GoodIn wsX8_exchanges (wsV RX8 69 RX8 yX8_refuses wsX8_refuses) := goodIn_app (goodIn_r _ [14, 15, 16, 4] rfl (by decide +kernel)) ggX8_exchanges_X8_refuses
set_option maxRecDepth 20000 in
theorem ggX8_exchanges_X8_of : GoodIn wsX8_exchanges wsX8_of := goodIn_ca (goodIn_r _ [24, 6, 41, 42, 43, 44, 45, 46, 47, 48, 49, 50, 51, 52, 53, 54, 55, 56, 57, 58, 59] rfl (by decide +kernel)) (goodIn_sub (fun _ h => List.mem_cons_of_mem _ (List.mem_append_right _ h)) (by decide +kernel))
set_option maxRecDepth 20000 in
theorem gX8_exchanges_X8_of : GoodIn wsX8_exchanges (wsV RX8 73 RX8 yX8_of wsX8_of) := goodIn_app (goodIn_r _ [21, 22, 23, 4] rfl (by decide +kernel)) ggX8_exchanges_X8_of
set_option maxRecDepth 20000 in
theorem ggX8_exchanges_X8_sets : GoodIn wsX8_exchanges wsX8_sets := goodIn_ca (goodIn_r _ [28, 6, 41, 42, 43, 44, 45, 46, 47, 48, 49, 50, 51, 52, 53, 54, 55, 56, 57, 58, 59] rfl (by decide +kernel)) (goodIn_sub (fun _ h => List.mem_cons_of_mem _ (List.mem_append_right _ h)) (by decide +kernel))
set_option maxRecDepth 20000 in
theorem gX8_exchanges_X8_sets : GoodIn wsX8_exchanges (wsV RX8 77 RX8 yX8_sets wsX8_sets) := goodIn_app (goodIn_r _ [25, 26, 27, 4] rfl (by decide +kernel)) ggX8_exchanges_X8_sets
set_option maxRecDepth 20000 in
theorem ggX8_exchanges_X8_apart : GoodIn wsX8_exchanges wsX8_apart := goodIn_r _ [31, 32, 33, 34, 35] rfl (by decide +kernel)
set_option maxRecDepth 20000 in
theorem gX8_exchanges_X8_apart : GoodIn wsX8_exchanges (va_wsS RX8 111 yX8_apart wsX8_apart) := goodIn_app (goodIn_r _ [29, 30, 4] rfl (by decide +kernel)) ggX8_exchanges_X8_apart
set_option maxRecDepth 20000 in
theorem ggX8_exchanges_X8_does : GoodIn wsX8_exchanges wsX8_does := goodIn_r _ [39, 40, 41, 42, 43, 44, 45, 46, 47, 48, 49, 50, 51, 52, 53, 54, 55, 56, 57, 58, 59] rfl (by decide +kernel)
set_option maxRecDepth 20000 in
theorem gX8_exchanges_X8_does : GoodIn wsX8_exchanges (wsV RX8 84 RX8 yX8_does wsX8_does) := goodIn_app (goodIn_r _ [36, 37, 38, 4] rfl (by decide +kernel)) ggX8_exchanges_X8_does
theorem dX8_exchanges_0 : decode cX8_exchanges 0 = .ok (.aload_n 0, 1) := by decide +kernel
theorem dX8_exchanges_1 : decode cX8_exchanges 1 = .ok (.iload_n 1, 1) := by decide +kernel
theorem dX8_exchanges_2 : decode cX8_exchanges 2 = .ok (.invokevirtual 97, 3) := by decide +kernel
theorem dX8_exchanges_5 : decode cX8_exchanges 5 = .ok (.ifCond .eq 11, 3) := by decide +kernel
theorem dX8_exchanges_8 : decode cX8_exchanges 8 = .ok (.aload_n 0, 1) := by decide +kernel
theorem dX8_exchanges_9 : decode cX8_exchanges 9 = .ok (.iload_n 2, 1) := by decide +kernel
theorem dX8_exchanges_10 : decode cX8_exchanges 10 = .ok (.invokevirtual 97, 3) := by decide +kernel
theorem dX8_exchanges_13 : decode cX8_exchanges 13 = .ok (.ifCond .ne 5, 3) := by decide +kernel
theorem dX8_exchanges_16 : decode cX8_exchanges 16 = .ok (.iconst 0, 1) := by decide +kernel
theorem dX8_exchanges_17 : decode cX8_exchanges 17 = .ok (.ireturn, 1) := by decide +kernel
theorem dX8_exchanges_18 : decode cX8_exchanges 18 = .ok (.iload_n 1, 1) := by decide +kernel
theorem dX8_exchanges_19 : decode cX8_exchanges 19 = .ok (.iload_n 2, 1) := by decide +kernel
theorem dX8_exchanges_20 : decode cX8_exchanges 20 = .ok (.if_icmp .ne 11, 3) := by decide +kernel
theorem dX8_exchanges_23 : decode cX8_exchanges 23 = .ok (.aload_n 0, 1) := by decide +kernel
theorem dX8_exchanges_24 : decode cX8_exchanges 24 = .ok (.bipush 6, 2) := by decide +kernel
theorem dX8_exchanges_26 : decode cX8_exchanges 26 = .ok (.iload_n 1, 1) := by decide +kernel
theorem dX8_exchanges_27 : decode cX8_exchanges 27 = .ok (.invokevirtual 69, 3) := by decide +kernel
theorem dX8_exchanges_30 : decode cX8_exchanges 30 = .ok (.ireturn, 1) := by decide +kernel
theorem dX8_exchanges_31 : decode cX8_exchanges 31 = .ok (.aload_n 0, 1) := by decide +kernel
theorem dX8_exchanges_32 : decode cX8_exchanges 32 = .ok (.iload_n 1, 1) := by decide +kernel
theorem dX8_exchanges_33 : decode cX8_exchanges 33 = .ok (.iconst 1, 1) := by decide +kernel
theorem dX8_exchanges_34 : decode cX8_exchanges 34 = .ok (.invokevirtual 73, 3) := by decide +kernel
theorem dX8_exchanges_37 : decode cX8_exchanges 37 = .ok (.istore_n 3, 1) := by decide +kernel
theorem dX8_exchanges_38 : decode cX8_exchanges 38 = .ok (.aload_n 0, 1) := by decide +kernel
theorem dX8_exchanges_39 : decode cX8_exchanges 39 = .ok (.iload_n 1, 1) := by decide +kernel
theorem dX8_exchanges_40 : decode cX8_exchanges 40 = .ok (.iconst 1, 1) := by decide +kernel
theorem dX8_exchanges_41 : decode cX8_exchanges 41 = .ok (.aload_n 0, 1) := by decide +kernel
theorem dX8_exchanges_42 : decode cX8_exchanges 42 = .ok (.iload_n 2, 1) := by decide +kernel
theorem dX8_exchanges_43 : decode cX8_exchanges 43 = .ok (.iconst 1, 1) := by decide +kernel
theorem dX8_exchanges_44 : decode cX8_exchanges 44 = .ok (.invokevirtual 73, 3) := by decide +kernel
theorem dX8_exchanges_47 : decode cX8_exchanges 47 = .ok (.invokevirtual 77, 3) := by decide +kernel
theorem dX8_exchanges_50 : decode cX8_exchanges 50 = .ok (.aload_n 0, 1) := by decide +kernel
theorem dX8_exchanges_51 : decode cX8_exchanges 51 = .ok (.iload_n 2, 1) := by decide +kernel
theorem dX8_exchanges_52 : decode cX8_exchanges 52 = .ok (.iconst 1, 1) := by decide +kernel
theorem dX8_exchanges_53 : decode cX8_exchanges 53 = .ok (.iload_n 3, 1) := by decide +kernel
theorem dX8_exchanges_54 : decode cX8_exchanges 54 = .ok (.invokevirtual 77, 3) := by decide +kernel
theorem dX8_exchanges_57 : decode cX8_exchanges 57 = .ok (.aload_n 0, 1) := by decide +kernel
theorem dX8_exchanges_58 : decode cX8_exchanges 58 = .ok (.iload_n 3, 1) := by decide +kernel
theorem dX8_exchanges_59 : decode cX8_exchanges 59 = .ok (.aload_n 0, 1) := by decide +kernel
theorem dX8_exchanges_60 : decode cX8_exchanges 60 = .ok (.iload_n 1, 1) := by decide +kernel
theorem dX8_exchanges_61 : decode cX8_exchanges 61 = .ok (.iconst 1, 1) := by decide +kernel
theorem dX8_exchanges_62 : decode cX8_exchanges 62 = .ok (.invokevirtual 73, 3) := by decide +kernel
theorem dX8_exchanges_65 : decode cX8_exchanges 65 = .ok (.invokestatic 111, 3) := by decide +kernel
theorem dX8_exchanges_68 : decode cX8_exchanges 68 = .ok (.invokevirtual 84, 3) := by decide +kernel
theorem dX8_exchanges_71 : decode cX8_exchanges 71 = .ok (.ireturn, 1) := by decide +kernel
set_option maxRecDepth 20000 in
theorem ggX8_exchange_X8_tries : GoodIn wsX8_exchange wsX8_tries := goodIn_ca (goodIn_r _ [5, 6, 7, 8, 65, 66, 67, 68, 69, 70, 71, 72, 73, 74, 75, 76, 77, 78, 79, 80, 81, 82, 83] rfl (by decide +kernel)) (goodIn_sub (fun _ h => List.mem_cons_of_mem _ (List.mem_append_right _ h)) (by decide +kernel))
set_option maxRecDepth 20000 in
theorem gX8_exchange_X8_tries : GoodIn wsX8_exchange (wsV RX8 87 RX8 yX8_tries wsX8_tries) := goodIn_app (goodIn_r _ [1, 2, 3, 4] rfl (by decide +kernel)) ggX8_exchange_X8_tries
set_option maxRecDepth 20000 in
theorem ggX8_exchange_X8_exchanges : GoodIn wsX8_exchange wsX8_exchanges := goodIn_ca (goodIn_r _ [12, 13, 14, 15, 4, 16, 8, 17, 18, 19, 20, 21, 22, 23, 24, 25, 26, 27, 28, 29, 30, 31, 32, 33, 34, 35, 36, 37, 38, 39, 40, 41, 42, 43, 44, 45, 46, 47, 48, 49, 50, 65, 66, 67, 68, 69, 70, 71, 72, 73, 74, 75, 76, 77, 78, 79, 80, 81, 82, 83] rfl (by decide +kernel)) (goodIn_sub (fun _ h => List.mem_cons_of_mem _ (List.mem_append_right _ h)) (by decide +kernel))
set_option maxRecDepth 20000 in
theorem gX8_exchange_X8_exchanges : GoodIn wsX8_exchange (wsV RX8 120 RX8 yX8_exchanges wsX8_exchanges) := goodIn_app (goodIn_r _ [9, 10, 11, 4] rfl (by decide +kernel)) ggX8_exchange_X8_exchanges
set_option maxRecDepth 20000 in
theorem ggX8_exchange_X8_ends : GoodIn wsX8_exchange wsX8_ends := goodIn_ca (goodIn_r _ [54, 50, 55, 56, 57, 4, 58, 59, 60, 7, 61, 62, 63, 64, 6, 65, 66, 67, 68, 69, 70, 71, 72, 73, 74, 75, 76, 77, 78, 79, 80, 81, 82, 83] rfl (by decide +kernel)) (goodIn_sub (fun _ h => List.mem_cons_of_mem _ (List.mem_append_right _ h)) (by decide +kernel))
set_option maxRecDepth 20000 in
theorem gX8_exchange_X8_ends : GoodIn wsX8_exchange (wsV RX8 93 RX8 yX8_ends wsX8_ends) := goodIn_app (goodIn_r _ [51, 52, 53, 4] rfl (by decide +kernel)) ggX8_exchange_X8_ends
theorem dX8_exchange_0 : decode cX8_exchange 0 = .ok (.aload_n 0, 1) := by decide +kernel
theorem dX8_exchange_1 : decode cX8_exchange 1 = .ok (.invokevirtual 87, 3) := by decide +kernel
theorem dX8_exchange_4 : decode cX8_exchange 4 = .ok (.aload_n 0, 1) := by decide +kernel
theorem dX8_exchange_5 : decode cX8_exchange 5 = .ok (.aload_n 0, 1) := by decide +kernel
theorem dX8_exchange_6 : decode cX8_exchange 6 = .ok (.iload_n 1, 1) := by decide +kernel
theorem dX8_exchange_7 : decode cX8_exchange 7 = .ok (.iload_n 2, 1) := by decide +kernel
theorem dX8_exchange_8 : decode cX8_exchange 8 = .ok (.invokevirtual 120, 3) := by decide +kernel
theorem dX8_exchange_11 : decode cX8_exchange 11 = .ok (.invokevirtual 93, 3) := by decide +kernel
theorem dX8_exchange_14 : decode cX8_exchange 14 = .ok (.ireturn, 1) := by decide +kernel
set_option maxRecDepth 20000 in
theorem ggX8_wagers_X8_isThere : GoodIn wsX8_wagers wsX8_isThere := goodIn_ca (goodIn_r _ [6, 1, 7, 8, 9, 5, 10, 11, 12, 13, 14, 15, 16, 17, 18, 19, 20, 42, 43, 44, 45, 46, 47, 48, 49, 50, 51, 52, 53, 54, 55, 56, 57, 58, 59, 60] rfl (by decide +kernel)) (goodIn_sub (fun _ h => List.mem_cons_of_mem _ (List.mem_append_right _ h)) (by decide +kernel))
set_option maxRecDepth 20000 in
theorem gX8_wagers_X8_isThere : GoodIn wsX8_wagers (wsV RX8 97 RX8 yX8_isThere wsX8_isThere) := goodIn_app (goodIn_r _ [2, 3, 4, 5] rfl (by decide +kernel)) ggX8_wagers_X8_isThere
set_option maxRecDepth 20000 in
theorem ggX8_wagers_X8_in : GoodIn wsX8_wagers wsX8_in := goodIn_r _ [13] rfl (by decide +kernel)
set_option maxRecDepth 20000 in
theorem gX8_wagers_X8_in : GoodIn wsX8_wagers (va_wsS RX8 61 yX8_in wsX8_in) := goodIn_app (goodIn_r _ [11, 12, 5] rfl (by decide +kernel)) ggX8_wagers_X8_in
set_option maxRecDepth 20000 in
theorem ggX8_wagers_X8_refuses : GoodIn wsX8_wagers wsX8_refuses := goodIn_r _ [17, 18, 19, 20, 42, 43, 44, 45, 46, 47, 48, 49, 50, 51, 52, 53, 54, 55, 56, 57, 58, 59, 60] rfl (by decide +kernel)
set_option maxRecDepth 20000 in
theorem gX8_wagers_X8_refuses : GoodIn wsX8_wagers (wsV RX8 69 RX8 yX8_refuses wsX8_refuses) := goodIn_app (goodIn_r _ [14, 15, 16, 5] rfl (by decide +kernel)) ggX8_wagers_X8_refuses
set_option maxRecDepth 20000 in
theorem ggX8_wagers_X8_hasWagered : GoodIn wsX8_wagers wsX8_hasWagered := goodIn_ca (goodIn_r _ [24, 25, 26, 27, 5, 28, 1, 42, 43, 44, 45, 46, 47, 48, 49, 50, 51, 52, 53, 54, 55, 56, 57, 58, 59, 60] rfl (by decide +kernel)) (goodIn_sub (fun _ h => List.mem_cons_of_mem _ (List.mem_append_right _ h)) (by decide +kernel))
set_option maxRecDepth 20000 in
theorem gX8_wagers_X8_hasWagered : GoodIn wsX8_wagers (wsV RX8 100 RX8 yX8_hasWagered wsX8_hasWagered) := goodIn_app (goodIn_r _ [21, 22, 23, 5] rfl (by decide +kernel)) ggX8_wagers_X8_hasWagered
set_option maxRecDepth 20000 in
theorem ggX8_wagers_X8_of : GoodIn wsX8_wagers wsX8_of := goodIn_ca (goodIn_r _ [28, 1, 42, 43, 44, 45, 46, 47, 48, 49, 50, 51, 52, 53, 54, 55, 56, 57, 58, 59, 60] rfl (by decide +kernel)) (goodIn_sub (fun _ h => List.mem_cons_of_mem _ (List.mem_append_right _ h)) (by decide +kernel))
set_option maxRecDepth 20000 in
theorem gX8_wagers_X8_of : GoodIn wsX8_wagers (wsV RX8 73 RX8 yX8_of wsX8_of) := goodIn_app (goodIn_r _ [25, 26, 27, 5] rfl (by decide +kernel)) ggX8_wagers_X8_of
set_option maxRecDepth 20000 in
theorem ggX8_wagers_X8_pays : GoodIn wsX8_wagers wsX8_pays := goodIn_ca (goodIn_r _ [32, 1, 25, 26, 27, 5, 28, 14, 15, 16, 17, 18, 19, 20, 33, 34, 35, 36, 42, 43, 44, 45, 46, 47, 48, 49, 50, 51, 52, 53, 54, 55, 56, 57, 58, 59, 60] rfl (by decide +kernel)) (goodIn_sub (fun _ h => List.mem_cons_of_mem _ (List.mem_append_right _ h)) (by decide +kernel))
set_option maxRecDepth 20000 in
theorem gX8_wagers_X8_pays : GoodIn wsX8_wagers (wsV RX8 114 RX8 yX8_pays wsX8_pays) := goodIn_app (goodIn_r _ [29, 30, 31, 5] rfl (by decide +kernel)) ggX8_wagers_X8_pays
set_option maxRecDepth 20000 in
theorem ggX8_wagers_X8_sets : GoodIn wsX8_wagers wsX8_sets := goodIn_ca (goodIn_r _ [36, 1, 42, 43, 44, 45, 46, 47, 48, 49, 50, 51, 52, 53, 54, 55, 56, 57, 58, 59, 60] rfl (by decide +kernel)) (goodIn_sub (fun _ h => List.mem_cons_of_mem _ (List.mem_append_right _ h)) (by decide +kernel))
set_option maxRecDepth 20000 in
theorem gX8_wagers_X8_sets : GoodIn wsX8_wagers (wsV RX8 77 RX8 yX8_sets wsX8_sets) := goodIn_app (goodIn_r _ [33, 34, 35, 5] rfl (by decide +kernel)) ggX8_wagers_X8_sets
set_option maxRecDepth 20000 in
theorem ggX8_wagers_X8_does : GoodIn wsX8_wagers wsX8_does := goodIn_r _ [40, 41, 42, 43, 44, 45, 46, 47, 48, 49, 50, 51, 52, 53, 54, 55, 56, 57, 58, 59, 60] rfl (by decide +kernel)
set_option maxRecDepth 20000 in
theorem gX8_wagers_X8_does : GoodIn wsX8_wagers (wsV RX8 84 RX8 yX8_does wsX8_does) := goodIn_app (goodIn_r _ [37, 38, 39, 5] rfl (by decide +kernel)) ggX8_wagers_X8_does
theorem dX8_wagers_0 : decode cX8_wagers 0 = .ok (.aload_n 0, 1) := by decide +kernel
theorem dX8_wagers_1 : decode cX8_wagers 1 = .ok (.iload_n 1, 1) := by decide +kernel
theorem dX8_wagers_2 : decode cX8_wagers 2 = .ok (.invokevirtual 97, 3) := by decide +kernel
theorem dX8_wagers_5 : decode cX8_wagers 5 = .ok (.ifCond .ne 5, 3) := by decide +kernel
theorem dX8_wagers_8 : decode cX8_wagers 8 = .ok (.iconst 0, 1) := by decide +kernel
theorem dX8_wagers_9 : decode cX8_wagers 9 = .ok (.ireturn, 1) := by decide +kernel
theorem dX8_wagers_10 : decode cX8_wagers 10 = .ok (.iload_n 2, 1) := by decide +kernel
theorem dX8_wagers_11 : decode cX8_wagers 11 = .ok (.sipush 700, 3) := by decide +kernel
theorem dX8_wagers_14 : decode cX8_wagers 14 = .ok (.sipush 1100, 3) := by decide +kernel
theorem dX8_wagers_17 : decode cX8_wagers 17 = .ok (.invokestatic 61, 3) := by decide +kernel
theorem dX8_wagers_20 : decode cX8_wagers 20 = .ok (.ifCond .eq 13, 3) := by decide +kernel
theorem dX8_wagers_23 : decode cX8_wagers 23 = .ok (.iload_n 3, 1) := by decide +kernel
theorem dX8_wagers_24 : decode cX8_wagers 24 = .ok (.iconst 1, 1) := by decide +kernel
theorem dX8_wagers_25 : decode cX8_wagers 25 = .ok (.bipush 9, 2) := by decide +kernel
theorem dX8_wagers_27 : decode cX8_wagers 27 = .ok (.invokestatic 61, 3) := by decide +kernel
theorem dX8_wagers_30 : decode cX8_wagers 30 = .ok (.ifCond .ne 10, 3) := by decide +kernel
theorem dX8_wagers_33 : decode cX8_wagers 33 = .ok (.aload_n 0, 1) := by decide +kernel
theorem dX8_wagers_34 : decode cX8_wagers 34 = .ok (.iconst 1, 1) := by decide +kernel
theorem dX8_wagers_35 : decode cX8_wagers 35 = .ok (.iconst 0, 1) := by decide +kernel
theorem dX8_wagers_36 : decode cX8_wagers 36 = .ok (.invokevirtual 69, 3) := by decide +kernel
theorem dX8_wagers_39 : decode cX8_wagers 39 = .ok (.ireturn, 1) := by decide +kernel
theorem dX8_wagers_40 : decode cX8_wagers 40 = .ok (.aload_n 0, 1) := by decide +kernel
theorem dX8_wagers_41 : decode cX8_wagers 41 = .ok (.iload_n 1, 1) := by decide +kernel
theorem dX8_wagers_42 : decode cX8_wagers 42 = .ok (.invokevirtual 100, 3) := by decide +kernel
theorem dX8_wagers_45 : decode cX8_wagers 45 = .ok (.ifCond .eq 16, 3) := by decide +kernel
theorem dX8_wagers_48 : decode cX8_wagers 48 = .ok (.aload_n 0, 1) := by decide +kernel
theorem dX8_wagers_49 : decode cX8_wagers 49 = .ok (.bipush 7, 2) := by decide +kernel
theorem dX8_wagers_51 : decode cX8_wagers 51 = .ok (.aload_n 0, 1) := by decide +kernel
theorem dX8_wagers_52 : decode cX8_wagers 52 = .ok (.iload_n 1, 1) := by decide +kernel
theorem dX8_wagers_53 : decode cX8_wagers 53 = .ok (.iconst 2, 1) := by decide +kernel
theorem dX8_wagers_54 : decode cX8_wagers 54 = .ok (.invokevirtual 73, 3) := by decide +kernel
theorem dX8_wagers_57 : decode cX8_wagers 57 = .ok (.invokevirtual 69, 3) := by decide +kernel
theorem dX8_wagers_60 : decode cX8_wagers 60 = .ok (.ireturn, 1) := by decide +kernel
theorem dX8_wagers_61 : decode cX8_wagers 61 = .ok (.aload_n 0, 1) := by decide +kernel
theorem dX8_wagers_62 : decode cX8_wagers 62 = .ok (.iload_n 1, 1) := by decide +kernel
theorem dX8_wagers_63 : decode cX8_wagers 63 = .ok (.iload_n 3, 1) := by decide +kernel
theorem dX8_wagers_64 : decode cX8_wagers 64 = .ok (.invokevirtual 114, 3) := by decide +kernel
theorem dX8_wagers_67 : decode cX8_wagers 67 = .ok (.ifCond .ne 5, 3) := by decide +kernel
theorem dX8_wagers_70 : decode cX8_wagers 70 = .ok (.iconst 0, 1) := by decide +kernel
theorem dX8_wagers_71 : decode cX8_wagers 71 = .ok (.ireturn, 1) := by decide +kernel
theorem dX8_wagers_72 : decode cX8_wagers 72 = .ok (.aload_n 0, 1) := by decide +kernel
theorem dX8_wagers_73 : decode cX8_wagers 73 = .ok (.iload_n 1, 1) := by decide +kernel
theorem dX8_wagers_74 : decode cX8_wagers 74 = .ok (.iconst 2, 1) := by decide +kernel
theorem dX8_wagers_75 : decode cX8_wagers 75 = .ok (.iload_n 2, 1) := by decide +kernel
theorem dX8_wagers_76 : decode cX8_wagers 76 = .ok (.invokevirtual 77, 3) := by decide +kernel
theorem dX8_wagers_79 : decode cX8_wagers 79 = .ok (.aload_n 0, 1) := by decide +kernel
theorem dX8_wagers_80 : decode cX8_wagers 80 = .ok (.iload_n 1, 1) := by decide +kernel
theorem dX8_wagers_81 : decode cX8_wagers 81 = .ok (.iconst 3, 1) := by decide +kernel
theorem dX8_wagers_82 : decode cX8_wagers 82 = .ok (.iload_n 3, 1) := by decide +kernel
theorem dX8_wagers_83 : decode cX8_wagers 83 = .ok (.invokevirtual 77, 3) := by decide +kernel
theorem dX8_wagers_86 : decode cX8_wagers 86 = .ok (.aload_n 0, 1) := by decide +kernel
theorem dX8_wagers_87 : decode cX8_wagers 87 = .ok (.aload_n 0, 1) := by decide +kernel
theorem dX8_wagers_88 : decode cX8_wagers 88 = .ok (.getfield 9, 3) := by decide +kernel
theorem dX8_wagers_91 : decode cX8_wagers 91 = .ok (.bipush 7, 2) := by decide +kernel
theorem dX8_wagers_93 : decode cX8_wagers 93 = .ok (.iaload, 1) := by decide +kernel
theorem dX8_wagers_94 : decode cX8_wagers 94 = .ok (.invokevirtual 84, 3) := by decide +kernel
theorem dX8_wagers_97 : decode cX8_wagers 97 = .ok (.ireturn, 1) := by decide +kernel
set_option maxRecDepth 20000 in
theorem ggX8_wager_X8_tries : GoodIn wsX8_wager wsX8_tries := goodIn_ca (goodIn_r _ [5, 6, 7, 8, 66, 67, 68, 69, 70, 71, 72, 73, 74, 75, 76, 77, 78, 79, 80, 81, 82, 83, 84] rfl (by decide +kernel)) (goodIn_sub (fun _ h => List.mem_cons_of_mem _ (List.mem_append_right _ h)) (by decide +kernel))
set_option maxRecDepth 20000 in
theorem gX8_wager_X8_tries : GoodIn wsX8_wager (wsV RX8 87 RX8 yX8_tries wsX8_tries) := goodIn_app (goodIn_r _ [1, 2, 3, 4] rfl (by decide +kernel)) ggX8_wager_X8_tries
set_option maxRecDepth 20000 in
theorem ggX8_wager_X8_wagers : GoodIn wsX8_wager wsX8_wagers := goodIn_ca (goodIn_r _ [12, 8, 13, 14, 15, 4, 16, 17, 18, 19, 20, 21, 22, 23, 24, 25, 26, 27, 28, 29, 30, 31, 32, 33, 34, 35, 36, 37, 38, 39, 40, 41, 42, 43, 44, 45, 46, 47, 48, 49, 50, 51, 66, 67, 68, 69, 70, 71, 72, 73, 74, 75, 76, 77, 78, 79, 80, 81, 82, 83, 84] rfl (by decide +kernel)) (goodIn_sub (fun _ h => List.mem_cons_of_mem _ (List.mem_append_right _ h)) (by decide +kernel))
set_option maxRecDepth 20000 in
theorem gX8_wager_X8_wagers : GoodIn wsX8_wager (wsV RX8 123 RX8 yX8_wagers wsX8_wagers) := goodIn_app (goodIn_r _ [9, 10, 11, 4] rfl (by decide +kernel)) ggX8_wager_X8_wagers
set_option maxRecDepth 20000 in
theorem ggX8_wager_X8_ends : GoodIn wsX8_wager wsX8_ends := goodIn_ca (goodIn_r _ [55, 51, 56, 57, 58, 4, 59, 60, 61, 7, 62, 63, 64, 65, 6, 66, 67, 68, 69, 70, 71, 72, 73, 74, 75, 76, 77, 78, 79, 80, 81, 82, 83, 84] rfl (by decide +kernel)) (goodIn_sub (fun _ h => List.mem_cons_of_mem _ (List.mem_append_right _ h)) (by decide +kernel))
set_option maxRecDepth 20000 in
theorem gX8_wager_X8_ends : GoodIn wsX8_wager (wsV RX8 93 RX8 yX8_ends wsX8_ends) := goodIn_app (goodIn_r _ [52, 53, 54, 4] rfl (by decide +kernel)) ggX8_wager_X8_ends
theorem dX8_wager_0 : decode cX8_wager 0 = .ok (.aload_n 0, 1) := by decide +kernel
theorem dX8_wager_1 : decode cX8_wager 1 = .ok (.invokevirtual 87, 3) := by decide +kernel
theorem dX8_wager_4 : decode cX8_wager 4 = .ok (.aload_n 0, 1) := by decide +kernel
theorem dX8_wager_5 : decode cX8_wager 5 = .ok (.aload_n 0, 1) := by decide +kernel
theorem dX8_wager_6 : decode cX8_wager 6 = .ok (.iload_n 1, 1) := by decide +kernel
theorem dX8_wager_7 : decode cX8_wager 7 = .ok (.iload_n 2, 1) := by decide +kernel
theorem dX8_wager_8 : decode cX8_wager 8 = .ok (.iload_n 3, 1) := by decide +kernel
theorem dX8_wager_9 : decode cX8_wager 9 = .ok (.invokevirtual 123, 3) := by decide +kernel
theorem dX8_wager_12 : decode cX8_wager 12 = .ok (.invokevirtual 93, 3) := by decide +kernel
theorem dX8_wager_15 : decode cX8_wager 15 = .ok (.ireturn, 1) := by decide +kernel
set_option maxRecDepth 20000 in
theorem ggX8_taps_X8_isThere : GoodIn wsX8_taps wsX8_isThere := goodIn_ca (goodIn_r _ [6, 1, 7, 8, 9, 5, 10, 11, 12, 13, 14, 15, 16, 17, 18, 19, 20, 42, 43, 44, 45, 46, 47, 48, 49, 50, 51, 52, 53, 54, 55, 56, 57, 58, 59, 60] rfl (by decide +kernel)) (goodIn_sub (fun _ h => List.mem_cons_of_mem _ (List.mem_append_right _ h)) (by decide +kernel))
set_option maxRecDepth 20000 in
theorem gX8_taps_X8_isThere : GoodIn wsX8_taps (wsV RX8 97 RX8 yX8_isThere wsX8_isThere) := goodIn_app (goodIn_r _ [2, 3, 4, 5] rfl (by decide +kernel)) ggX8_taps_X8_isThere
set_option maxRecDepth 20000 in
theorem ggX8_taps_X8_hasWagered : GoodIn wsX8_taps wsX8_hasWagered := goodIn_ca (goodIn_r _ [24, 25, 26, 27, 5, 28, 1, 42, 43, 44, 45, 46, 47, 48, 49, 50, 51, 52, 53, 54, 55, 56, 57, 58, 59, 60] rfl (by decide +kernel)) (goodIn_sub (fun _ h => List.mem_cons_of_mem _ (List.mem_append_right _ h)) (by decide +kernel))
set_option maxRecDepth 20000 in
theorem gX8_taps_X8_hasWagered : GoodIn wsX8_taps (wsV RX8 100 RX8 yX8_hasWagered wsX8_hasWagered) := goodIn_app (goodIn_r _ [21, 22, 23, 5] rfl (by decide +kernel)) ggX8_taps_X8_hasWagered
set_option maxRecDepth 20000 in
theorem ggX8_taps_X8_refuses : GoodIn wsX8_taps wsX8_refuses := goodIn_r _ [17, 18, 19, 20, 42, 43, 44, 45, 46, 47, 48, 49, 50, 51, 52, 53, 54, 55, 56, 57, 58, 59, 60] rfl (by decide +kernel)
set_option maxRecDepth 20000 in
theorem gX8_taps_X8_refuses : GoodIn wsX8_taps (wsV RX8 69 RX8 yX8_refuses wsX8_refuses) := goodIn_app (goodIn_r _ [14, 15, 16, 5] rfl (by decide +kernel)) ggX8_taps_X8_refuses
set_option maxRecDepth 20000 in
theorem ggX8_taps_X8_of : GoodIn wsX8_taps wsX8_of := goodIn_ca (goodIn_r _ [28, 1, 42, 43, 44, 45, 46, 47, 48, 49, 50, 51, 52, 53, 54, 55, 56, 57, 58, 59, 60] rfl (by decide +kernel)) (goodIn_sub (fun _ h => List.mem_cons_of_mem _ (List.mem_append_right _ h)) (by decide +kernel))
set_option maxRecDepth 20000 in
theorem gX8_taps_X8_of : GoodIn wsX8_taps (wsV RX8 73 RX8 yX8_of wsX8_of) := goodIn_app (goodIn_r _ [25, 26, 27, 5] rfl (by decide +kernel)) ggX8_taps_X8_of
set_option maxRecDepth 20000 in
theorem ggX8_taps_X8_pays : GoodIn wsX8_taps wsX8_pays := goodIn_ca (goodIn_r _ [32, 1, 25, 26, 27, 5, 28, 14, 15, 16, 17, 18, 19, 20, 33, 34, 35, 36, 42, 43, 44, 45, 46, 47, 48, 49, 50, 51, 52, 53, 54, 55, 56, 57, 58, 59, 60] rfl (by decide +kernel)) (goodIn_sub (fun _ h => List.mem_cons_of_mem _ (List.mem_append_right _ h)) (by decide +kernel))
set_option maxRecDepth 20000 in
theorem gX8_taps_X8_pays : GoodIn wsX8_taps (wsV RX8 114 RX8 yX8_pays wsX8_pays) := goodIn_app (goodIn_r _ [29, 30, 31, 5] rfl (by decide +kernel)) ggX8_taps_X8_pays
set_option maxRecDepth 20000 in
theorem ggX8_taps_X8_sets : GoodIn wsX8_taps wsX8_sets := goodIn_ca (goodIn_r _ [36, 1, 42, 43, 44, 45, 46, 47, 48, 49, 50, 51, 52, 53, 54, 55, 56, 57, 58, 59, 60] rfl (by decide +kernel)) (goodIn_sub (fun _ h => List.mem_cons_of_mem _ (List.mem_append_right _ h)) (by decide +kernel))
set_option maxRecDepth 20000 in
theorem gX8_taps_X8_sets : GoodIn wsX8_taps (wsV RX8 77 RX8 yX8_sets wsX8_sets) := goodIn_app (goodIn_r _ [33, 34, 35, 5] rfl (by decide +kernel)) ggX8_taps_X8_sets
set_option maxRecDepth 20000 in
theorem ggX8_taps_X8_does : GoodIn wsX8_taps wsX8_does := goodIn_r _ [40, 41, 42, 43, 44, 45, 46, 47, 48, 49, 50, 51, 52, 53, 54, 55, 56, 57, 58, 59, 60] rfl (by decide +kernel)
set_option maxRecDepth 20000 in
theorem gX8_taps_X8_does : GoodIn wsX8_taps (wsV RX8 84 RX8 yX8_does wsX8_does) := goodIn_app (goodIn_r _ [37, 38, 39, 5] rfl (by decide +kernel)) ggX8_taps_X8_does
theorem dX8_taps_0 : decode cX8_taps 0 = .ok (.aload_n 0, 1) := by decide +kernel
theorem dX8_taps_1 : decode cX8_taps 1 = .ok (.iload_n 1, 1) := by decide +kernel
theorem dX8_taps_2 : decode cX8_taps 2 = .ok (.invokevirtual 97, 3) := by decide +kernel
theorem dX8_taps_5 : decode cX8_taps 5 = .ok (.ifCond .ne 5, 3) := by decide +kernel
theorem dX8_taps_8 : decode cX8_taps 8 = .ok (.iconst 0, 1) := by decide +kernel
theorem dX8_taps_9 : decode cX8_taps 9 = .ok (.ireturn, 1) := by decide +kernel
theorem dX8_taps_10 : decode cX8_taps 10 = .ok (.aload_n 0, 1) := by decide +kernel
theorem dX8_taps_11 : decode cX8_taps 11 = .ok (.iload_n 1, 1) := by decide +kernel
theorem dX8_taps_12 : decode cX8_taps 12 = .ok (.invokevirtual 100, 3) := by decide +kernel
theorem dX8_taps_15 : decode cX8_taps 15 = .ok (.ifCond .ne 11, 3) := by decide +kernel
theorem dX8_taps_18 : decode cX8_taps 18 = .ok (.aload_n 0, 1) := by decide +kernel
theorem dX8_taps_19 : decode cX8_taps 19 = .ok (.bipush 8, 2) := by decide +kernel
theorem dX8_taps_21 : decode cX8_taps 21 = .ok (.iconst 0, 1) := by decide +kernel
theorem dX8_taps_22 : decode cX8_taps 22 = .ok (.invokevirtual 69, 3) := by decide +kernel
theorem dX8_taps_25 : decode cX8_taps 25 = .ok (.ireturn, 1) := by decide +kernel
theorem dX8_taps_26 : decode cX8_taps 26 = .ok (.aload_n 0, 1) := by decide +kernel
theorem dX8_taps_27 : decode cX8_taps 27 = .ok (.iload_n 1, 1) := by decide +kernel
theorem dX8_taps_28 : decode cX8_taps 28 = .ok (.iconst 4, 1) := by decide +kernel
theorem dX8_taps_29 : decode cX8_taps 29 = .ok (.invokevirtual 73, 3) := by decide +kernel
theorem dX8_taps_32 : decode cX8_taps 32 = .ok (.iconst 1, 1) := by decide +kernel
theorem dX8_taps_33 : decode cX8_taps 33 = .ok (.if_icmp .ne 16, 3) := by decide +kernel
theorem dX8_taps_36 : decode cX8_taps 36 = .ok (.aload_n 0, 1) := by decide +kernel
theorem dX8_taps_37 : decode cX8_taps 37 = .ok (.bipush 9, 2) := by decide +kernel
theorem dX8_taps_39 : decode cX8_taps 39 = .ok (.aload_n 0, 1) := by decide +kernel
theorem dX8_taps_40 : decode cX8_taps 40 = .ok (.iload_n 1, 1) := by decide +kernel
theorem dX8_taps_41 : decode cX8_taps 41 = .ok (.iconst 3, 1) := by decide +kernel
theorem dX8_taps_42 : decode cX8_taps 42 = .ok (.invokevirtual 73, 3) := by decide +kernel
theorem dX8_taps_45 : decode cX8_taps 45 = .ok (.invokevirtual 69, 3) := by decide +kernel
theorem dX8_taps_48 : decode cX8_taps 48 = .ok (.ireturn, 1) := by decide +kernel
theorem dX8_taps_49 : decode cX8_taps 49 = .ok (.aload_n 0, 1) := by decide +kernel
theorem dX8_taps_50 : decode cX8_taps 50 = .ok (.iload_n 1, 1) := by decide +kernel
theorem dX8_taps_51 : decode cX8_taps 51 = .ok (.iconst 1, 1) := by decide +kernel
theorem dX8_taps_52 : decode cX8_taps 52 = .ok (.invokevirtual 114, 3) := by decide +kernel
theorem dX8_taps_55 : decode cX8_taps 55 = .ok (.ifCond .ne 5, 3) := by decide +kernel
theorem dX8_taps_58 : decode cX8_taps 58 = .ok (.iconst 0, 1) := by decide +kernel
theorem dX8_taps_59 : decode cX8_taps 59 = .ok (.ireturn, 1) := by decide +kernel
theorem dX8_taps_60 : decode cX8_taps 60 = .ok (.aload_n 0, 1) := by decide +kernel
theorem dX8_taps_61 : decode cX8_taps 61 = .ok (.getfield 9, 3) := by decide +kernel
theorem dX8_taps_64 : decode cX8_taps 64 = .ok (.bipush 10, 2) := by decide +kernel
theorem dX8_taps_66 : decode cX8_taps 66 = .ok (.dup2, 1) := by decide +kernel
theorem dX8_taps_67 : decode cX8_taps 67 = .ok (.iaload, 1) := by decide +kernel
theorem dX8_taps_68 : decode cX8_taps 68 = .ok (.iconst 1, 1) := by decide +kernel
theorem dX8_taps_69 : decode cX8_taps 69 = .ok (.iadd, 1) := by decide +kernel
theorem dX8_taps_70 : decode cX8_taps 70 = .ok (.iastore, 1) := by decide +kernel
theorem dX8_taps_71 : decode cX8_taps 71 = .ok (.aload_n 0, 1) := by decide +kernel
theorem dX8_taps_72 : decode cX8_taps 72 = .ok (.iload_n 1, 1) := by decide +kernel
theorem dX8_taps_73 : decode cX8_taps 73 = .ok (.iconst 4, 1) := by decide +kernel
theorem dX8_taps_74 : decode cX8_taps 74 = .ok (.iconst 1, 1) := by decide +kernel
theorem dX8_taps_75 : decode cX8_taps 75 = .ok (.invokevirtual 77, 3) := by decide +kernel
theorem dX8_taps_78 : decode cX8_taps 78 = .ok (.aload_n 0, 1) := by decide +kernel
theorem dX8_taps_79 : decode cX8_taps 79 = .ok (.aload_n 0, 1) := by decide +kernel
theorem dX8_taps_80 : decode cX8_taps 80 = .ok (.getfield 9, 3) := by decide +kernel
theorem dX8_taps_83 : decode cX8_taps 83 = .ok (.iconst 2, 1) := by decide +kernel
theorem dX8_taps_84 : decode cX8_taps 84 = .ok (.iaload, 1) := by decide +kernel
theorem dX8_taps_85 : decode cX8_taps 85 = .ok (.ifCond .le 7, 3) := by decide +kernel
theorem dX8_taps_88 : decode cX8_taps 88 = .ok (.iconst 1, 1) := by decide +kernel
theorem dX8_taps_89 : decode cX8_taps 89 = .ok (.goto 17, 3) := by decide +kernel
theorem dX8_taps_92 : decode cX8_taps 92 = .ok (.aload_n 0, 1) := by decide +kernel
theorem dX8_taps_93 : decode cX8_taps 93 = .ok (.getfield 9, 3) := by decide +kernel
theorem dX8_taps_96 : decode cX8_taps 96 = .ok (.iconst 2, 1) := by decide +kernel
theorem dX8_taps_97 : decode cX8_taps 97 = .ok (.iaload, 1) := by decide +kernel
theorem dX8_taps_98 : decode cX8_taps 98 = .ok (.ifCond .ge 7, 3) := by decide +kernel
theorem dX8_taps_101 : decode cX8_taps 101 = .ok (.iconst (-1), 1) := by decide +kernel
theorem dX8_taps_102 : decode cX8_taps 102 = .ok (.goto 4, 3) := by decide +kernel
theorem dX8_taps_105 : decode cX8_taps 105 = .ok (.iconst 0, 1) := by decide +kernel
theorem dX8_taps_106 : decode cX8_taps 106 = .ok (.invokevirtual 84, 3) := by decide +kernel
theorem dX8_taps_109 : decode cX8_taps 109 = .ok (.ireturn, 1) := by decide +kernel
set_option maxRecDepth 20000 in
theorem ggX8_tap_X8_tries : GoodIn wsX8_tap wsX8_tries := goodIn_ca (goodIn_r _ [5, 6, 7, 8, 66, 67, 68, 69, 70, 71, 72, 73, 74, 75, 76, 77, 78, 79, 80, 81, 82, 83, 84] rfl (by decide +kernel)) (goodIn_sub (fun _ h => List.mem_cons_of_mem _ (List.mem_append_right _ h)) (by decide +kernel))
set_option maxRecDepth 20000 in
theorem gX8_tap_X8_tries : GoodIn wsX8_tap (wsV RX8 87 RX8 yX8_tries wsX8_tries) := goodIn_app (goodIn_r _ [1, 2, 3, 4] rfl (by decide +kernel)) ggX8_tap_X8_tries
set_option maxRecDepth 20000 in
theorem ggX8_tap_X8_taps : GoodIn wsX8_tap wsX8_taps := goodIn_ca (goodIn_r _ [12, 8, 13, 14, 15, 4, 16, 17, 18, 19, 20, 21, 22, 23, 24, 25, 26, 27, 28, 29, 30, 31, 32, 33, 34, 35, 36, 37, 38, 39, 40, 41, 42, 43, 44, 45, 46, 47, 48, 49, 50, 51, 66, 67, 68, 69, 70, 71, 72, 73, 74, 75, 76, 77, 78, 79, 80, 81, 82, 83, 84] rfl (by decide +kernel)) (goodIn_sub (fun _ h => List.mem_cons_of_mem _ (List.mem_append_right _ h)) (by decide +kernel))
set_option maxRecDepth 20000 in
theorem gX8_tap_X8_taps : GoodIn wsX8_tap (wsV RX8 126 RX8 yX8_taps wsX8_taps) := goodIn_app (goodIn_r _ [9, 10, 11, 4] rfl (by decide +kernel)) ggX8_tap_X8_taps
set_option maxRecDepth 20000 in
theorem ggX8_tap_X8_ends : GoodIn wsX8_tap wsX8_ends := goodIn_ca (goodIn_r _ [55, 51, 56, 57, 58, 4, 59, 60, 61, 7, 62, 63, 64, 65, 6, 66, 67, 68, 69, 70, 71, 72, 73, 74, 75, 76, 77, 78, 79, 80, 81, 82, 83, 84] rfl (by decide +kernel)) (goodIn_sub (fun _ h => List.mem_cons_of_mem _ (List.mem_append_right _ h)) (by decide +kernel))
set_option maxRecDepth 20000 in
theorem gX8_tap_X8_ends : GoodIn wsX8_tap (wsV RX8 93 RX8 yX8_ends wsX8_ends) := goodIn_app (goodIn_r _ [52, 53, 54, 4] rfl (by decide +kernel)) ggX8_tap_X8_ends
theorem dX8_tap_0 : decode cX8_tap 0 = .ok (.aload_n 0, 1) := by decide +kernel
theorem dX8_tap_1 : decode cX8_tap 1 = .ok (.invokevirtual 87, 3) := by decide +kernel
theorem dX8_tap_4 : decode cX8_tap 4 = .ok (.aload_n 0, 1) := by decide +kernel
theorem dX8_tap_5 : decode cX8_tap 5 = .ok (.aload_n 0, 1) := by decide +kernel
theorem dX8_tap_6 : decode cX8_tap 6 = .ok (.iload_n 1, 1) := by decide +kernel
theorem dX8_tap_7 : decode cX8_tap 7 = .ok (.invokevirtual 126, 3) := by decide +kernel
theorem dX8_tap_10 : decode cX8_tap 10 = .ok (.invokevirtual 93, 3) := by decide +kernel
theorem dX8_tap_13 : decode cX8_tap 13 = .ok (.ireturn, 1) := by decide +kernel
set_option maxRecDepth 20000 in
theorem ggX8_goesBy_X8_in : GoodIn wsX8_goesBy wsX8_in := goodIn_r _ [5] rfl (by decide +kernel)
set_option maxRecDepth 20000 in
theorem gX8_goesBy_X8_in : GoodIn wsX8_goesBy (va_wsS RX8 61 yX8_in wsX8_in) := goodIn_app (goodIn_r _ [2, 3, 4] rfl (by decide +kernel)) ggX8_goesBy_X8_in
set_option maxRecDepth 20000 in
theorem ggX8_goesBy_X8_refuses : GoodIn wsX8_goesBy wsX8_refuses := goodIn_r _ [9, 10, 11, 12, 18, 19, 20, 21, 22, 23, 24, 25, 26, 27, 28, 29, 30, 31, 32, 33, 34, 35, 36] rfl (by decide +kernel)
set_option maxRecDepth 20000 in
theorem gX8_goesBy_X8_refuses : GoodIn wsX8_goesBy (wsV RX8 69 RX8 yX8_refuses wsX8_refuses) := goodIn_app (goodIn_r _ [6, 7, 8, 4] rfl (by decide +kernel)) ggX8_goesBy_X8_refuses
set_option maxRecDepth 20000 in
theorem ggX8_goesBy_X8_does : GoodIn wsX8_goesBy wsX8_does := goodIn_r _ [16, 17, 18, 19, 20, 21, 22, 23, 24, 25, 26, 27, 28, 29, 30, 31, 32, 33, 34, 35, 36] rfl (by decide +kernel)
set_option maxRecDepth 20000 in
theorem gX8_goesBy_X8_does : GoodIn wsX8_goesBy (wsV RX8 84 RX8 yX8_does wsX8_does) := goodIn_app (goodIn_r _ [13, 14, 15, 4] rfl (by decide +kernel)) ggX8_goesBy_X8_does
theorem dX8_goesBy_0 : decode cX8_goesBy 0 = .ok (.iload_n 1, 1) := by decide +kernel
theorem dX8_goesBy_1 : decode cX8_goesBy 1 = .ok (.bipush (-40), 2) := by decide +kernel
theorem dX8_goesBy_3 : decode cX8_goesBy 3 = .ok (.bipush 40, 2) := by decide +kernel
theorem dX8_goesBy_5 : decode cX8_goesBy 5 = .ok (.invokestatic 61, 3) := by decide +kernel
theorem dX8_goesBy_8 : decode cX8_goesBy 8 = .ok (.ifCond .ne 10, 3) := by decide +kernel
theorem dX8_goesBy_11 : decode cX8_goesBy 11 = .ok (.aload_n 0, 1) := by decide +kernel
theorem dX8_goesBy_12 : decode cX8_goesBy 12 = .ok (.iconst 1, 1) := by decide +kernel
theorem dX8_goesBy_13 : decode cX8_goesBy 13 = .ok (.iconst 0, 1) := by decide +kernel
theorem dX8_goesBy_14 : decode cX8_goesBy 14 = .ok (.invokevirtual 69, 3) := by decide +kernel
theorem dX8_goesBy_17 : decode cX8_goesBy 17 = .ok (.ireturn, 1) := by decide +kernel
theorem dX8_goesBy_18 : decode cX8_goesBy 18 = .ok (.aload_n 0, 1) := by decide +kernel
theorem dX8_goesBy_19 : decode cX8_goesBy 19 = .ok (.getfield 9, 3) := by decide +kernel
theorem dX8_goesBy_22 : decode cX8_goesBy 22 = .ok (.iconst 1, 1) := by decide +kernel
theorem dX8_goesBy_23 : decode cX8_goesBy 23 = .ok (.iaload, 1) := by decide +kernel
theorem dX8_goesBy_24 : decode cX8_goesBy 24 = .ok (.iload_n 1, 1) := by decide +kernel
theorem dX8_goesBy_25 : decode cX8_goesBy 25 = .ok (.iadd, 1) := by decide +kernel
theorem dX8_goesBy_26 : decode cX8_goesBy 26 = .ok (.istore_n 2, 1) := by decide +kernel
theorem dX8_goesBy_27 : decode cX8_goesBy 27 = .ok (.iload_n 2, 1) := by decide +kernel
theorem dX8_goesBy_28 : decode cX8_goesBy 28 = .ok (.sipush 900, 3) := by decide +kernel
theorem dX8_goesBy_31 : decode cX8_goesBy 31 = .ok (.sipush 1100, 3) := by decide +kernel
theorem dX8_goesBy_34 : decode cX8_goesBy 34 = .ok (.invokestatic 61, 3) := by decide +kernel
theorem dX8_goesBy_37 : decode cX8_goesBy 37 = .ok (.ifCond .ne 11, 3) := by decide +kernel
theorem dX8_goesBy_40 : decode cX8_goesBy 40 = .ok (.aload_n 0, 1) := by decide +kernel
theorem dX8_goesBy_41 : decode cX8_goesBy 41 = .ok (.bipush 13, 2) := by decide +kernel
theorem dX8_goesBy_43 : decode cX8_goesBy 43 = .ok (.iload_n 2, 1) := by decide +kernel
theorem dX8_goesBy_44 : decode cX8_goesBy 44 = .ok (.invokevirtual 69, 3) := by decide +kernel
theorem dX8_goesBy_47 : decode cX8_goesBy 47 = .ok (.ireturn, 1) := by decide +kernel
theorem dX8_goesBy_48 : decode cX8_goesBy 48 = .ok (.aload_n 0, 1) := by decide +kernel
theorem dX8_goesBy_49 : decode cX8_goesBy 49 = .ok (.getfield 9, 3) := by decide +kernel
theorem dX8_goesBy_52 : decode cX8_goesBy 52 = .ok (.iconst 1, 1) := by decide +kernel
theorem dX8_goesBy_53 : decode cX8_goesBy 53 = .ok (.iload_n 2, 1) := by decide +kernel
theorem dX8_goesBy_54 : decode cX8_goesBy 54 = .ok (.iastore, 1) := by decide +kernel
theorem dX8_goesBy_55 : decode cX8_goesBy 55 = .ok (.aload_n 0, 1) := by decide +kernel
theorem dX8_goesBy_56 : decode cX8_goesBy 56 = .ok (.getfield 9, 3) := by decide +kernel
theorem dX8_goesBy_59 : decode cX8_goesBy 59 = .ok (.iconst 2, 1) := by decide +kernel
theorem dX8_goesBy_60 : decode cX8_goesBy 60 = .ok (.iload_n 1, 1) := by decide +kernel
theorem dX8_goesBy_61 : decode cX8_goesBy 61 = .ok (.iastore, 1) := by decide +kernel
theorem dX8_goesBy_62 : decode cX8_goesBy 62 = .ok (.aload_n 0, 1) := by decide +kernel
theorem dX8_goesBy_63 : decode cX8_goesBy 63 = .ok (.getfield 9, 3) := by decide +kernel
theorem dX8_goesBy_66 : decode cX8_goesBy 66 = .ok (.iconst 3, 1) := by decide +kernel
theorem dX8_goesBy_67 : decode cX8_goesBy 67 = .ok (.iload_n 1, 1) := by decide +kernel
theorem dX8_goesBy_68 : decode cX8_goesBy 68 = .ok (.bipush (-20), 2) := by decide +kernel
theorem dX8_goesBy_70 : decode cX8_goesBy 70 = .ok (.if_icmp .gt 7, 3) := by decide +kernel
theorem dX8_goesBy_73 : decode cX8_goesBy 73 = .ok (.iconst 1, 1) := by decide +kernel
theorem dX8_goesBy_74 : decode cX8_goesBy 74 = .ok (.goto 4, 3) := by decide +kernel
theorem dX8_goesBy_77 : decode cX8_goesBy 77 = .ok (.iconst 0, 1) := by decide +kernel
theorem dX8_goesBy_78 : decode cX8_goesBy 78 = .ok (.iastore, 1) := by decide +kernel
theorem dX8_goesBy_79 : decode cX8_goesBy 79 = .ok (.aload_n 0, 1) := by decide +kernel
theorem dX8_goesBy_80 : decode cX8_goesBy 80 = .ok (.getfield 9, 3) := by decide +kernel
theorem dX8_goesBy_83 : decode cX8_goesBy 83 = .ok (.iconst 5, 1) := by decide +kernel
theorem dX8_goesBy_84 : decode cX8_goesBy 84 = .ok (.dup2, 1) := by decide +kernel
theorem dX8_goesBy_85 : decode cX8_goesBy 85 = .ok (.iaload, 1) := by decide +kernel
theorem dX8_goesBy_86 : decode cX8_goesBy 86 = .ok (.aload_n 0, 1) := by decide +kernel
theorem dX8_goesBy_87 : decode cX8_goesBy 87 = .ok (.getfield 9, 3) := by decide +kernel
theorem dX8_goesBy_90 : decode cX8_goesBy 90 = .ok (.iconst 3, 1) := by decide +kernel
theorem dX8_goesBy_91 : decode cX8_goesBy 91 = .ok (.iaload, 1) := by decide +kernel
theorem dX8_goesBy_92 : decode cX8_goesBy 92 = .ok (.iadd, 1) := by decide +kernel
theorem dX8_goesBy_93 : decode cX8_goesBy 93 = .ok (.iastore, 1) := by decide +kernel
theorem dX8_goesBy_94 : decode cX8_goesBy 94 = .ok (.aload_n 0, 1) := by decide +kernel
theorem dX8_goesBy_95 : decode cX8_goesBy 95 = .ok (.getfield 9, 3) := by decide +kernel
theorem dX8_goesBy_98 : decode cX8_goesBy 98 = .ok (.iconst 4, 1) := by decide +kernel
theorem dX8_goesBy_99 : decode cX8_goesBy 99 = .ok (.dup2, 1) := by decide +kernel
theorem dX8_goesBy_100 : decode cX8_goesBy 100 = .ok (.iaload, 1) := by decide +kernel
theorem dX8_goesBy_101 : decode cX8_goesBy 101 = .ok (.iconst 1, 1) := by decide +kernel
theorem dX8_goesBy_102 : decode cX8_goesBy 102 = .ok (.iadd, 1) := by decide +kernel
theorem dX8_goesBy_103 : decode cX8_goesBy 103 = .ok (.iastore, 1) := by decide +kernel
theorem dX8_goesBy_104 : decode cX8_goesBy 104 = .ok (.aload_n 0, 1) := by decide +kernel
theorem dX8_goesBy_105 : decode cX8_goesBy 105 = .ok (.iload_n 2, 1) := by decide +kernel
theorem dX8_goesBy_106 : decode cX8_goesBy 106 = .ok (.invokevirtual 84, 3) := by decide +kernel
theorem dX8_goesBy_109 : decode cX8_goesBy 109 = .ok (.ireturn, 1) := by decide +kernel
set_option maxRecDepth 20000 in
theorem ggX8_day_X8_tries : GoodIn wsX8_day wsX8_tries := goodIn_ca (goodIn_r _ [5, 6, 7, 8, 42, 43, 44, 45, 46, 47, 48, 49, 50, 51, 52, 53, 54, 55, 56, 57, 58, 59, 60] rfl (by decide +kernel)) (goodIn_sub (fun _ h => List.mem_cons_of_mem _ (List.mem_append_right _ h)) (by decide +kernel))
set_option maxRecDepth 20000 in
theorem gX8_day_X8_tries : GoodIn wsX8_day (wsV RX8 87 RX8 yX8_tries wsX8_tries) := goodIn_app (goodIn_r _ [1, 2, 3, 4] rfl (by decide +kernel)) ggX8_day_X8_tries
set_option maxRecDepth 20000 in
theorem ggX8_day_X8_goesBy : GoodIn wsX8_day wsX8_goesBy := goodIn_ca (goodIn_r _ [12, 8, 13, 14, 4, 15, 16, 17, 18, 19, 20, 21, 22, 23, 24, 25, 26, 27, 42, 43, 44, 45, 46, 47, 48, 49, 50, 51, 52, 53, 54, 55, 56, 57, 58, 59, 60] rfl (by decide +kernel)) (goodIn_sub (fun _ h => List.mem_cons_of_mem _ (List.mem_append_right _ h)) (by decide +kernel))
set_option maxRecDepth 20000 in
theorem gX8_day_X8_goesBy : GoodIn wsX8_day (wsV RX8 129 RX8 yX8_goesBy wsX8_goesBy) := goodIn_app (goodIn_r _ [9, 10, 11, 4] rfl (by decide +kernel)) ggX8_day_X8_goesBy
set_option maxRecDepth 20000 in
theorem ggX8_day_X8_ends : GoodIn wsX8_day wsX8_ends := goodIn_ca (goodIn_r _ [31, 27, 32, 33, 34, 4, 35, 36, 37, 7, 38, 39, 40, 41, 6, 42, 43, 44, 45, 46, 47, 48, 49, 50, 51, 52, 53, 54, 55, 56, 57, 58, 59, 60] rfl (by decide +kernel)) (goodIn_sub (fun _ h => List.mem_cons_of_mem _ (List.mem_append_right _ h)) (by decide +kernel))
set_option maxRecDepth 20000 in
theorem gX8_day_X8_ends : GoodIn wsX8_day (wsV RX8 93 RX8 yX8_ends wsX8_ends) := goodIn_app (goodIn_r _ [28, 29, 30, 4] rfl (by decide +kernel)) ggX8_day_X8_ends
theorem dX8_day_0 : decode cX8_day 0 = .ok (.aload_n 0, 1) := by decide +kernel
theorem dX8_day_1 : decode cX8_day 1 = .ok (.invokevirtual 87, 3) := by decide +kernel
theorem dX8_day_4 : decode cX8_day 4 = .ok (.aload_n 0, 1) := by decide +kernel
theorem dX8_day_5 : decode cX8_day 5 = .ok (.aload_n 0, 1) := by decide +kernel
theorem dX8_day_6 : decode cX8_day 6 = .ok (.iload_n 1, 1) := by decide +kernel
theorem dX8_day_7 : decode cX8_day 7 = .ok (.invokevirtual 129, 3) := by decide +kernel
theorem dX8_day_10 : decode cX8_day 10 = .ok (.invokevirtual 93, 3) := by decide +kernel
theorem dX8_day_13 : decode cX8_day 13 = .ok (.ireturn, 1) := by decide +kernel
set_option maxRecDepth 20000 in
theorem ggX8_bottles_X8_isThere : GoodIn wsX8_bottles wsX8_isThere := goodIn_ca (goodIn_r _ [6, 1, 7, 8, 9, 5, 10, 11, 12, 13, 14, 15, 16, 17, 18, 19, 20, 34, 35, 36, 37, 38, 39, 40, 41, 42, 43, 44, 45, 46, 47, 48, 49, 50, 51, 52] rfl (by decide +kernel)) (goodIn_sub (fun _ h => List.mem_cons_of_mem _ (List.mem_append_right _ h)) (by decide +kernel))
set_option maxRecDepth 20000 in
theorem gX8_bottles_X8_isThere : GoodIn wsX8_bottles (wsV RX8 97 RX8 yX8_isThere wsX8_isThere) := goodIn_app (goodIn_r _ [2, 3, 4, 5] rfl (by decide +kernel)) ggX8_bottles_X8_isThere
set_option maxRecDepth 20000 in
theorem ggX8_bottles_X8_refuses : GoodIn wsX8_bottles wsX8_refuses := goodIn_r _ [17, 18, 19, 20, 34, 35, 36, 37, 38, 39, 40, 41, 42, 43, 44, 45, 46, 47, 48, 49, 50, 51, 52] rfl (by decide +kernel)
set_option maxRecDepth 20000 in
theorem gX8_bottles_X8_refuses : GoodIn wsX8_bottles (wsV RX8 69 RX8 yX8_refuses wsX8_refuses) := goodIn_app (goodIn_r _ [14, 15, 16, 5] rfl (by decide +kernel)) ggX8_bottles_X8_refuses
set_option maxRecDepth 20000 in
theorem ggX8_bottles_X8_of : GoodIn wsX8_bottles wsX8_of := goodIn_ca (goodIn_r _ [24, 1, 34, 35, 36, 37, 38, 39, 40, 41, 42, 43, 44, 45, 46, 47, 48, 49, 50, 51, 52] rfl (by decide +kernel)) (goodIn_sub (fun _ h => List.mem_cons_of_mem _ (List.mem_append_right _ h)) (by decide +kernel))
set_option maxRecDepth 20000 in
theorem gX8_bottles_X8_of : GoodIn wsX8_bottles (wsV RX8 73 RX8 yX8_of wsX8_of) := goodIn_app (goodIn_r _ [21, 22, 23, 5] rfl (by decide +kernel)) ggX8_bottles_X8_of
set_option maxRecDepth 20000 in
theorem ggX8_bottles_X8_sets : GoodIn wsX8_bottles wsX8_sets := goodIn_ca (goodIn_r _ [28, 1, 34, 35, 36, 37, 38, 39, 40, 41, 42, 43, 44, 45, 46, 47, 48, 49, 50, 51, 52] rfl (by decide +kernel)) (goodIn_sub (fun _ h => List.mem_cons_of_mem _ (List.mem_append_right _ h)) (by decide +kernel))
set_option maxRecDepth 20000 in
theorem gX8_bottles_X8_sets : GoodIn wsX8_bottles (wsV RX8 77 RX8 yX8_sets wsX8_sets) := goodIn_app (goodIn_r _ [25, 26, 27, 5] rfl (by decide +kernel)) ggX8_bottles_X8_sets
set_option maxRecDepth 20000 in
theorem ggX8_bottles_X8_does : GoodIn wsX8_bottles wsX8_does := goodIn_r _ [32, 33, 34, 35, 36, 37, 38, 39, 40, 41, 42, 43, 44, 45, 46, 47, 48, 49, 50, 51, 52] rfl (by decide +kernel)
set_option maxRecDepth 20000 in
theorem gX8_bottles_X8_does : GoodIn wsX8_bottles (wsV RX8 84 RX8 yX8_does wsX8_does) := goodIn_app (goodIn_r _ [29, 30, 31, 5] rfl (by decide +kernel)) ggX8_bottles_X8_does
theorem dX8_bottles_0 : decode cX8_bottles 0 = .ok (.aload_n 0, 1) := by decide +kernel
theorem dX8_bottles_1 : decode cX8_bottles 1 = .ok (.iload_n 1, 1) := by decide +kernel
theorem dX8_bottles_2 : decode cX8_bottles 2 = .ok (.invokevirtual 97, 3) := by decide +kernel
theorem dX8_bottles_5 : decode cX8_bottles 5 = .ok (.ifCond .ne 5, 3) := by decide +kernel
theorem dX8_bottles_8 : decode cX8_bottles 8 = .ok (.iconst 0, 1) := by decide +kernel
theorem dX8_bottles_9 : decode cX8_bottles 9 = .ok (.ireturn, 1) := by decide +kernel
theorem dX8_bottles_10 : decode cX8_bottles 10 = .ok (.aload_n 0, 1) := by decide +kernel
theorem dX8_bottles_11 : decode cX8_bottles 11 = .ok (.getfield 9, 3) := by decide +kernel
theorem dX8_bottles_14 : decode cX8_bottles 14 = .ok (.iconst 3, 1) := by decide +kernel
theorem dX8_bottles_15 : decode cX8_bottles 15 = .ok (.iaload, 1) := by decide +kernel
theorem dX8_bottles_16 : decode cX8_bottles 16 = .ok (.ifCond .ne 16, 3) := by decide +kernel
theorem dX8_bottles_19 : decode cX8_bottles 19 = .ok (.aload_n 0, 1) := by decide +kernel
theorem dX8_bottles_20 : decode cX8_bottles 20 = .ok (.bipush 10, 2) := by decide +kernel
theorem dX8_bottles_22 : decode cX8_bottles 22 = .ok (.aload_n 0, 1) := by decide +kernel
theorem dX8_bottles_23 : decode cX8_bottles 23 = .ok (.getfield 9, 3) := by decide +kernel
theorem dX8_bottles_26 : decode cX8_bottles 26 = .ok (.iconst 2, 1) := by decide +kernel
theorem dX8_bottles_27 : decode cX8_bottles 27 = .ok (.iaload, 1) := by decide +kernel
theorem dX8_bottles_28 : decode cX8_bottles 28 = .ok (.invokevirtual 69, 3) := by decide +kernel
theorem dX8_bottles_31 : decode cX8_bottles 31 = .ok (.ireturn, 1) := by decide +kernel
theorem dX8_bottles_32 : decode cX8_bottles 32 = .ok (.aload_n 0, 1) := by decide +kernel
theorem dX8_bottles_33 : decode cX8_bottles 33 = .ok (.iload_n 1, 1) := by decide +kernel
theorem dX8_bottles_34 : decode cX8_bottles 34 = .ok (.iconst 5, 1) := by decide +kernel
theorem dX8_bottles_35 : decode cX8_bottles 35 = .ok (.invokevirtual 73, 3) := by decide +kernel
theorem dX8_bottles_38 : decode cX8_bottles 38 = .ok (.iconst 3, 1) := by decide +kernel
theorem dX8_bottles_39 : decode cX8_bottles 39 = .ok (.if_icmp .ne 11, 3) := by decide +kernel
theorem dX8_bottles_42 : decode cX8_bottles 42 = .ok (.aload_n 0, 1) := by decide +kernel
theorem dX8_bottles_43 : decode cX8_bottles 43 = .ok (.bipush 11, 2) := by decide +kernel
theorem dX8_bottles_45 : decode cX8_bottles 45 = .ok (.iconst 3, 1) := by decide +kernel
theorem dX8_bottles_46 : decode cX8_bottles 46 = .ok (.invokevirtual 69, 3) := by decide +kernel
theorem dX8_bottles_49 : decode cX8_bottles 49 = .ok (.ireturn, 1) := by decide +kernel
theorem dX8_bottles_50 : decode cX8_bottles 50 = .ok (.aload_n 0, 1) := by decide +kernel
theorem dX8_bottles_51 : decode cX8_bottles 51 = .ok (.getfield 9, 3) := by decide +kernel
theorem dX8_bottles_54 : decode cX8_bottles 54 = .ok (.iconst 3, 1) := by decide +kernel
theorem dX8_bottles_55 : decode cX8_bottles 55 = .ok (.iconst 0, 1) := by decide +kernel
theorem dX8_bottles_56 : decode cX8_bottles 56 = .ok (.iastore, 1) := by decide +kernel
theorem dX8_bottles_57 : decode cX8_bottles 57 = .ok (.aload_n 0, 1) := by decide +kernel
theorem dX8_bottles_58 : decode cX8_bottles 58 = .ok (.iload_n 1, 1) := by decide +kernel
theorem dX8_bottles_59 : decode cX8_bottles 59 = .ok (.iconst 5, 1) := by decide +kernel
theorem dX8_bottles_60 : decode cX8_bottles 60 = .ok (.aload_n 0, 1) := by decide +kernel
theorem dX8_bottles_61 : decode cX8_bottles 61 = .ok (.iload_n 1, 1) := by decide +kernel
theorem dX8_bottles_62 : decode cX8_bottles 62 = .ok (.iconst 5, 1) := by decide +kernel
theorem dX8_bottles_63 : decode cX8_bottles 63 = .ok (.invokevirtual 73, 3) := by decide +kernel
theorem dX8_bottles_66 : decode cX8_bottles 66 = .ok (.iconst 1, 1) := by decide +kernel
theorem dX8_bottles_67 : decode cX8_bottles 67 = .ok (.iadd, 1) := by decide +kernel
theorem dX8_bottles_68 : decode cX8_bottles 68 = .ok (.invokevirtual 77, 3) := by decide +kernel
theorem dX8_bottles_71 : decode cX8_bottles 71 = .ok (.aload_n 0, 1) := by decide +kernel
theorem dX8_bottles_72 : decode cX8_bottles 72 = .ok (.aload_n 0, 1) := by decide +kernel
theorem dX8_bottles_73 : decode cX8_bottles 73 = .ok (.iload_n 1, 1) := by decide +kernel
theorem dX8_bottles_74 : decode cX8_bottles 74 = .ok (.iconst 5, 1) := by decide +kernel
theorem dX8_bottles_75 : decode cX8_bottles 75 = .ok (.invokevirtual 73, 3) := by decide +kernel
theorem dX8_bottles_78 : decode cX8_bottles 78 = .ok (.invokevirtual 84, 3) := by decide +kernel
theorem dX8_bottles_81 : decode cX8_bottles 81 = .ok (.ireturn, 1) := by decide +kernel
set_option maxRecDepth 20000 in
theorem ggX8_bottle_X8_tries : GoodIn wsX8_bottle wsX8_tries := goodIn_ca (goodIn_r _ [5, 6, 7, 8, 58, 59, 60, 61, 62, 63, 64, 65, 66, 67, 68, 69, 70, 71, 72, 73, 74, 75, 76] rfl (by decide +kernel)) (goodIn_sub (fun _ h => List.mem_cons_of_mem _ (List.mem_append_right _ h)) (by decide +kernel))
set_option maxRecDepth 20000 in
theorem gX8_bottle_X8_tries : GoodIn wsX8_bottle (wsV RX8 87 RX8 yX8_tries wsX8_tries) := goodIn_app (goodIn_r _ [1, 2, 3, 4] rfl (by decide +kernel)) ggX8_bottle_X8_tries
set_option maxRecDepth 20000 in
theorem ggX8_bottle_X8_bottles : GoodIn wsX8_bottle wsX8_bottles := goodIn_ca (goodIn_r _ [12, 8, 13, 14, 15, 4, 16, 17, 18, 19, 20, 21, 22, 23, 24, 25, 26, 27, 28, 29, 30, 31, 32, 33, 34, 35, 36, 37, 38, 39, 40, 41, 42, 43, 58, 59, 60, 61, 62, 63, 64, 65, 66, 67, 68, 69, 70, 71, 72, 73, 74, 75, 76] rfl (by decide +kernel)) (goodIn_sub (fun _ h => List.mem_cons_of_mem _ (List.mem_append_right _ h)) (by decide +kernel))
set_option maxRecDepth 20000 in
theorem gX8_bottle_X8_bottles : GoodIn wsX8_bottle (wsV RX8 132 RX8 yX8_bottles wsX8_bottles) := goodIn_app (goodIn_r _ [9, 10, 11, 4] rfl (by decide +kernel)) ggX8_bottle_X8_bottles
set_option maxRecDepth 20000 in
theorem ggX8_bottle_X8_ends : GoodIn wsX8_bottle wsX8_ends := goodIn_ca (goodIn_r _ [47, 43, 48, 49, 50, 4, 51, 52, 53, 7, 54, 55, 56, 57, 6, 58, 59, 60, 61, 62, 63, 64, 65, 66, 67, 68, 69, 70, 71, 72, 73, 74, 75, 76] rfl (by decide +kernel)) (goodIn_sub (fun _ h => List.mem_cons_of_mem _ (List.mem_append_right _ h)) (by decide +kernel))
set_option maxRecDepth 20000 in
theorem gX8_bottle_X8_ends : GoodIn wsX8_bottle (wsV RX8 93 RX8 yX8_ends wsX8_ends) := goodIn_app (goodIn_r _ [44, 45, 46, 4] rfl (by decide +kernel)) ggX8_bottle_X8_ends
theorem dX8_bottle_0 : decode cX8_bottle 0 = .ok (.aload_n 0, 1) := by decide +kernel
theorem dX8_bottle_1 : decode cX8_bottle 1 = .ok (.invokevirtual 87, 3) := by decide +kernel
theorem dX8_bottle_4 : decode cX8_bottle 4 = .ok (.aload_n 0, 1) := by decide +kernel
theorem dX8_bottle_5 : decode cX8_bottle 5 = .ok (.aload_n 0, 1) := by decide +kernel
theorem dX8_bottle_6 : decode cX8_bottle 6 = .ok (.iload_n 1, 1) := by decide +kernel
theorem dX8_bottle_7 : decode cX8_bottle 7 = .ok (.invokevirtual 132, 3) := by decide +kernel
theorem dX8_bottle_10 : decode cX8_bottle 10 = .ok (.invokevirtual 93, 3) := by decide +kernel
theorem dX8_bottle_13 : decode cX8_bottle 13 = .ok (.ireturn, 1) := by decide +kernel
set_option maxRecDepth 20000 in
theorem ggX8_letsOut_X8_isThere : GoodIn wsX8_letsOut wsX8_isThere := goodIn_ca (goodIn_r _ [6, 1, 7, 8, 9, 5, 10, 11, 12, 13, 14, 15, 16, 17, 18, 19, 20, 34, 35, 36, 37, 38, 39, 40, 41, 42, 43, 44, 45, 46, 47, 48, 49, 50, 51, 52] rfl (by decide +kernel)) (goodIn_sub (fun _ h => List.mem_cons_of_mem _ (List.mem_append_right _ h)) (by decide +kernel))
set_option maxRecDepth 20000 in
theorem gX8_letsOut_X8_isThere : GoodIn wsX8_letsOut (wsV RX8 97 RX8 yX8_isThere wsX8_isThere) := goodIn_app (goodIn_r _ [2, 3, 4, 5] rfl (by decide +kernel)) ggX8_letsOut_X8_isThere
set_option maxRecDepth 20000 in
theorem ggX8_letsOut_X8_of : GoodIn wsX8_letsOut wsX8_of := goodIn_ca (goodIn_r _ [24, 1, 34, 35, 36, 37, 38, 39, 40, 41, 42, 43, 44, 45, 46, 47, 48, 49, 50, 51, 52] rfl (by decide +kernel)) (goodIn_sub (fun _ h => List.mem_cons_of_mem _ (List.mem_append_right _ h)) (by decide +kernel))
set_option maxRecDepth 20000 in
theorem gX8_letsOut_X8_of : GoodIn wsX8_letsOut (wsV RX8 73 RX8 yX8_of wsX8_of) := goodIn_app (goodIn_r _ [21, 22, 23, 5] rfl (by decide +kernel)) ggX8_letsOut_X8_of
set_option maxRecDepth 20000 in
theorem ggX8_letsOut_X8_refuses : GoodIn wsX8_letsOut wsX8_refuses := goodIn_r _ [17, 18, 19, 20, 34, 35, 36, 37, 38, 39, 40, 41, 42, 43, 44, 45, 46, 47, 48, 49, 50, 51, 52] rfl (by decide +kernel)
set_option maxRecDepth 20000 in
theorem gX8_letsOut_X8_refuses : GoodIn wsX8_letsOut (wsV RX8 69 RX8 yX8_refuses wsX8_refuses) := goodIn_app (goodIn_r _ [14, 15, 16, 5] rfl (by decide +kernel)) ggX8_letsOut_X8_refuses
set_option maxRecDepth 20000 in
theorem ggX8_letsOut_X8_sets : GoodIn wsX8_letsOut wsX8_sets := goodIn_ca (goodIn_r _ [28, 1, 34, 35, 36, 37, 38, 39, 40, 41, 42, 43, 44, 45, 46, 47, 48, 49, 50, 51, 52] rfl (by decide +kernel)) (goodIn_sub (fun _ h => List.mem_cons_of_mem _ (List.mem_append_right _ h)) (by decide +kernel))
set_option maxRecDepth 20000 in
theorem gX8_letsOut_X8_sets : GoodIn wsX8_letsOut (wsV RX8 77 RX8 yX8_sets wsX8_sets) := goodIn_app (goodIn_r _ [25, 26, 27, 5] rfl (by decide +kernel)) ggX8_letsOut_X8_sets
set_option maxRecDepth 20000 in
theorem ggX8_letsOut_X8_does : GoodIn wsX8_letsOut wsX8_does := goodIn_r _ [32, 33, 34, 35, 36, 37, 38, 39, 40, 41, 42, 43, 44, 45, 46, 47, 48, 49, 50, 51, 52] rfl (by decide +kernel)
set_option maxRecDepth 20000 in
theorem gX8_letsOut_X8_does : GoodIn wsX8_letsOut (wsV RX8 84 RX8 yX8_does wsX8_does) := goodIn_app (goodIn_r _ [29, 30, 31, 5] rfl (by decide +kernel)) ggX8_letsOut_X8_does
theorem dX8_letsOut_0 : decode cX8_letsOut 0 = .ok (.aload_n 0, 1) := by decide +kernel
theorem dX8_letsOut_1 : decode cX8_letsOut 1 = .ok (.iload_n 1, 1) := by decide +kernel
theorem dX8_letsOut_2 : decode cX8_letsOut 2 = .ok (.invokevirtual 97, 3) := by decide +kernel
theorem dX8_letsOut_5 : decode cX8_letsOut 5 = .ok (.ifCond .ne 5, 3) := by decide +kernel
theorem dX8_letsOut_8 : decode cX8_letsOut 8 = .ok (.iconst 0, 1) := by decide +kernel
theorem dX8_letsOut_9 : decode cX8_letsOut 9 = .ok (.ireturn, 1) := by decide +kernel
theorem dX8_letsOut_10 : decode cX8_letsOut 10 = .ok (.aload_n 0, 1) := by decide +kernel
theorem dX8_letsOut_11 : decode cX8_letsOut 11 = .ok (.iload_n 1, 1) := by decide +kernel
theorem dX8_letsOut_12 : decode cX8_letsOut 12 = .ok (.iconst 5, 1) := by decide +kernel
theorem dX8_letsOut_13 : decode cX8_letsOut 13 = .ok (.invokevirtual 73, 3) := by decide +kernel
theorem dX8_letsOut_16 : decode cX8_letsOut 16 = .ok (.ifCond .ne 11, 3) := by decide +kernel
theorem dX8_letsOut_19 : decode cX8_letsOut 19 = .ok (.aload_n 0, 1) := by decide +kernel
theorem dX8_letsOut_20 : decode cX8_letsOut 20 = .ok (.bipush 12, 2) := by decide +kernel
theorem dX8_letsOut_22 : decode cX8_letsOut 22 = .ok (.iconst 0, 1) := by decide +kernel
theorem dX8_letsOut_23 : decode cX8_letsOut 23 = .ok (.invokevirtual 69, 3) := by decide +kernel
theorem dX8_letsOut_26 : decode cX8_letsOut 26 = .ok (.ireturn, 1) := by decide +kernel
theorem dX8_letsOut_27 : decode cX8_letsOut 27 = .ok (.aload_n 0, 1) := by decide +kernel
theorem dX8_letsOut_28 : decode cX8_letsOut 28 = .ok (.getfield 9, 3) := by decide +kernel
theorem dX8_letsOut_31 : decode cX8_letsOut 31 = .ok (.iconst 1, 1) := by decide +kernel
theorem dX8_letsOut_32 : decode cX8_letsOut 32 = .ok (.iaload, 1) := by decide +kernel
theorem dX8_letsOut_33 : decode cX8_letsOut 33 = .ok (.bipush 15, 2) := by decide +kernel
theorem dX8_letsOut_35 : decode cX8_letsOut 35 = .ok (.isub, 1) := by decide +kernel
theorem dX8_letsOut_36 : decode cX8_letsOut 36 = .ok (.istore_n 2, 1) := by decide +kernel
theorem dX8_letsOut_37 : decode cX8_letsOut 37 = .ok (.iload_n 2, 1) := by decide +kernel
theorem dX8_letsOut_38 : decode cX8_letsOut 38 = .ok (.sipush 900, 3) := by decide +kernel
theorem dX8_letsOut_41 : decode cX8_letsOut 41 = .ok (.if_icmp .ge 11, 3) := by decide +kernel
theorem dX8_letsOut_44 : decode cX8_letsOut 44 = .ok (.aload_n 0, 1) := by decide +kernel
theorem dX8_letsOut_45 : decode cX8_letsOut 45 = .ok (.bipush 13, 2) := by decide +kernel
theorem dX8_letsOut_47 : decode cX8_letsOut 47 = .ok (.iload_n 2, 1) := by decide +kernel
theorem dX8_letsOut_48 : decode cX8_letsOut 48 = .ok (.invokevirtual 69, 3) := by decide +kernel
theorem dX8_letsOut_51 : decode cX8_letsOut 51 = .ok (.ireturn, 1) := by decide +kernel
theorem dX8_letsOut_52 : decode cX8_letsOut 52 = .ok (.aload_n 0, 1) := by decide +kernel
theorem dX8_letsOut_53 : decode cX8_letsOut 53 = .ok (.iload_n 1, 1) := by decide +kernel
theorem dX8_letsOut_54 : decode cX8_letsOut 54 = .ok (.iconst 5, 1) := by decide +kernel
theorem dX8_letsOut_55 : decode cX8_letsOut 55 = .ok (.aload_n 0, 1) := by decide +kernel
theorem dX8_letsOut_56 : decode cX8_letsOut 56 = .ok (.iload_n 1, 1) := by decide +kernel
theorem dX8_letsOut_57 : decode cX8_letsOut 57 = .ok (.iconst 5, 1) := by decide +kernel
theorem dX8_letsOut_58 : decode cX8_letsOut 58 = .ok (.invokevirtual 73, 3) := by decide +kernel
theorem dX8_letsOut_61 : decode cX8_letsOut 61 = .ok (.iconst 1, 1) := by decide +kernel
theorem dX8_letsOut_62 : decode cX8_letsOut 62 = .ok (.isub, 1) := by decide +kernel
theorem dX8_letsOut_63 : decode cX8_letsOut 63 = .ok (.invokevirtual 77, 3) := by decide +kernel
theorem dX8_letsOut_66 : decode cX8_letsOut 66 = .ok (.aload_n 0, 1) := by decide +kernel
theorem dX8_letsOut_67 : decode cX8_letsOut 67 = .ok (.getfield 9, 3) := by decide +kernel
theorem dX8_letsOut_70 : decode cX8_letsOut 70 = .ok (.iconst 1, 1) := by decide +kernel
theorem dX8_letsOut_71 : decode cX8_letsOut 71 = .ok (.iload_n 2, 1) := by decide +kernel
theorem dX8_letsOut_72 : decode cX8_letsOut 72 = .ok (.iastore, 1) := by decide +kernel
theorem dX8_letsOut_73 : decode cX8_letsOut 73 = .ok (.aload_n 0, 1) := by decide +kernel
theorem dX8_letsOut_74 : decode cX8_letsOut 74 = .ok (.getfield 9, 3) := by decide +kernel
theorem dX8_letsOut_77 : decode cX8_letsOut 77 = .ok (.iconst 2, 1) := by decide +kernel
theorem dX8_letsOut_78 : decode cX8_letsOut 78 = .ok (.bipush (-15), 2) := by decide +kernel
theorem dX8_letsOut_80 : decode cX8_letsOut 80 = .ok (.iastore, 1) := by decide +kernel
theorem dX8_letsOut_81 : decode cX8_letsOut 81 = .ok (.aload_n 0, 1) := by decide +kernel
theorem dX8_letsOut_82 : decode cX8_letsOut 82 = .ok (.getfield 9, 3) := by decide +kernel
theorem dX8_letsOut_85 : decode cX8_letsOut 85 = .ok (.iconst 3, 1) := by decide +kernel
theorem dX8_letsOut_86 : decode cX8_letsOut 86 = .ok (.iconst 0, 1) := by decide +kernel
theorem dX8_letsOut_87 : decode cX8_letsOut 87 = .ok (.iastore, 1) := by decide +kernel
theorem dX8_letsOut_88 : decode cX8_letsOut 88 = .ok (.aload_n 0, 1) := by decide +kernel
theorem dX8_letsOut_89 : decode cX8_letsOut 89 = .ok (.getfield 9, 3) := by decide +kernel
theorem dX8_letsOut_92 : decode cX8_letsOut 92 = .ok (.bipush 6, 2) := by decide +kernel
theorem dX8_letsOut_94 : decode cX8_letsOut 94 = .ok (.dup2, 1) := by decide +kernel
theorem dX8_letsOut_95 : decode cX8_letsOut 95 = .ok (.iaload, 1) := by decide +kernel
theorem dX8_letsOut_96 : decode cX8_letsOut 96 = .ok (.iconst 1, 1) := by decide +kernel
theorem dX8_letsOut_97 : decode cX8_letsOut 97 = .ok (.iadd, 1) := by decide +kernel
theorem dX8_letsOut_98 : decode cX8_letsOut 98 = .ok (.iastore, 1) := by decide +kernel
theorem dX8_letsOut_99 : decode cX8_letsOut 99 = .ok (.aload_n 0, 1) := by decide +kernel
theorem dX8_letsOut_100 : decode cX8_letsOut 100 = .ok (.iload_n 2, 1) := by decide +kernel
theorem dX8_letsOut_101 : decode cX8_letsOut 101 = .ok (.invokevirtual 84, 3) := by decide +kernel
theorem dX8_letsOut_104 : decode cX8_letsOut 104 = .ok (.ireturn, 1) := by decide +kernel
set_option maxRecDepth 20000 in
theorem ggX8_letOut_X8_tries : GoodIn wsX8_letOut wsX8_tries := goodIn_ca (goodIn_r _ [5, 6, 7, 8, 58, 59, 60, 61, 62, 63, 64, 65, 66, 67, 68, 69, 70, 71, 72, 73, 74, 75, 76] rfl (by decide +kernel)) (goodIn_sub (fun _ h => List.mem_cons_of_mem _ (List.mem_append_right _ h)) (by decide +kernel))
set_option maxRecDepth 20000 in
theorem gX8_letOut_X8_tries : GoodIn wsX8_letOut (wsV RX8 87 RX8 yX8_tries wsX8_tries) := goodIn_app (goodIn_r _ [1, 2, 3, 4] rfl (by decide +kernel)) ggX8_letOut_X8_tries
set_option maxRecDepth 20000 in
theorem ggX8_letOut_X8_letsOut : GoodIn wsX8_letOut wsX8_letsOut := goodIn_ca (goodIn_r _ [12, 8, 13, 14, 15, 4, 16, 17, 18, 19, 20, 21, 22, 23, 24, 25, 26, 27, 28, 29, 30, 31, 32, 33, 34, 35, 36, 37, 38, 39, 40, 41, 42, 43, 58, 59, 60, 61, 62, 63, 64, 65, 66, 67, 68, 69, 70, 71, 72, 73, 74, 75, 76] rfl (by decide +kernel)) (goodIn_sub (fun _ h => List.mem_cons_of_mem _ (List.mem_append_right _ h)) (by decide +kernel))
set_option maxRecDepth 20000 in
theorem gX8_letOut_X8_letsOut : GoodIn wsX8_letOut (wsV RX8 135 RX8 yX8_letsOut wsX8_letsOut) := goodIn_app (goodIn_r _ [9, 10, 11, 4] rfl (by decide +kernel)) ggX8_letOut_X8_letsOut
set_option maxRecDepth 20000 in
theorem ggX8_letOut_X8_ends : GoodIn wsX8_letOut wsX8_ends := goodIn_ca (goodIn_r _ [47, 43, 48, 49, 50, 4, 51, 52, 53, 7, 54, 55, 56, 57, 6, 58, 59, 60, 61, 62, 63, 64, 65, 66, 67, 68, 69, 70, 71, 72, 73, 74, 75, 76] rfl (by decide +kernel)) (goodIn_sub (fun _ h => List.mem_cons_of_mem _ (List.mem_append_right _ h)) (by decide +kernel))
set_option maxRecDepth 20000 in
theorem gX8_letOut_X8_ends : GoodIn wsX8_letOut (wsV RX8 93 RX8 yX8_ends wsX8_ends) := goodIn_app (goodIn_r _ [44, 45, 46, 4] rfl (by decide +kernel)) ggX8_letOut_X8_ends
theorem dX8_letOut_0 : decode cX8_letOut 0 = .ok (.aload_n 0, 1) := by decide +kernel
theorem dX8_letOut_1 : decode cX8_letOut 1 = .ok (.invokevirtual 87, 3) := by decide +kernel
theorem dX8_letOut_4 : decode cX8_letOut 4 = .ok (.aload_n 0, 1) := by decide +kernel
theorem dX8_letOut_5 : decode cX8_letOut 5 = .ok (.aload_n 0, 1) := by decide +kernel
theorem dX8_letOut_6 : decode cX8_letOut 6 = .ok (.iload_n 1, 1) := by decide +kernel
theorem dX8_letOut_7 : decode cX8_letOut 7 = .ok (.invokevirtual 135, 3) := by decide +kernel
theorem dX8_letOut_10 : decode cX8_letOut 10 = .ok (.invokevirtual 93, 3) := by decide +kernel
theorem dX8_letOut_13 : decode cX8_letOut 13 = .ok (.ireturn, 1) := by decide +kernel
set_option maxRecDepth 20000 in
theorem ggX8_reads_X8_wagered : GoodIn wsX8_reads wsX8_wagered := goodIn_ca (goodIn_r _ [6, 1, 7, 8, 9, 5, 10, 11, 12, 13, 14, 57, 58, 59, 60, 61, 62, 63, 64, 65, 66, 67, 68, 69, 70, 71, 72, 73, 74, 75] rfl (by decide +kernel)) (goodIn_sub (fun _ h => List.mem_cons_of_mem _ (List.mem_append_left _ (List.mem_append_right _ h))) (by decide +kernel))
set_option maxRecDepth 20000 in
theorem gX8_reads_X8_wagered : GoodIn wsX8_reads (wsV RX8 138 RX8 yX8_wagered wsX8_wagered) := goodIn_app (goodIn_r _ [2, 3, 4, 5] rfl (by decide +kernel)) ggX8_reads_X8_wagered
set_option maxRecDepth 20000 in
theorem ggX8_reads_X8_refuses : GoodIn wsX8_reads wsX8_refuses := goodIn_r _ [18, 19, 20, 21, 57, 58, 59, 60, 61, 62, 63, 64, 65, 66, 67, 68, 69, 70, 71, 72, 73, 74, 75] rfl (by decide +kernel)
set_option maxRecDepth 20000 in
theorem gX8_reads_X8_refuses : GoodIn wsX8_reads (wsV RX8 69 RX8 yX8_refuses wsX8_refuses) := goodIn_app (goodIn_r _ [15, 16, 17, 5] rfl (by decide +kernel)) ggX8_reads_X8_refuses
set_option maxRecDepth 20000 in
theorem ggX8_reads_X8_winnersAt : GoodIn wsX8_reads wsX8_winnersAt := goodIn_ca (goodIn_r _ [25, 26, 1, 27, 28, 29, 30, 7, 8, 9, 5, 10, 11, 12, 13, 14, 31, 32, 33, 34, 35, 36, 37, 38, 39, 40, 57, 58, 59, 60, 61, 62, 63, 64, 65, 66, 67, 68, 69, 70, 71, 72, 73, 74, 75] rfl (by decide +kernel)) (goodIn_sub (fun _ h => List.mem_cons_of_mem _ (List.mem_append_left _ (List.mem_append_right _ h))) (by decide +kernel))
set_option maxRecDepth 20000 in
theorem gX8_reads_X8_winnersAt : GoodIn wsX8_reads (wsV RX8 142 RX8 yX8_winnersAt wsX8_winnersAt) := goodIn_app (goodIn_r _ [22, 23, 24, 5] rfl (by decide +kernel)) ggX8_reads_X8_winnersAt
set_option maxRecDepth 20000 in
theorem ggX8_reads_J6_bitCount_0f7a4 : GoodIn wsX8_reads wsJ6_bitCount_0f7a4 := goodIn_r _ [44, 45, 46, 47] rfl (by decide +kernel)
set_option maxRecDepth 20000 in
theorem gX8_reads_J6_bitCount_0f7a4 : GoodIn wsX8_reads (va_wsS RX8 145 yJ6_bitCount_0f7a4 wsJ6_bitCount_0f7a4) := goodIn_app (goodIn_r _ [41, 42, 43] rfl (by decide +kernel)) ggX8_reads_J6_bitCount_0f7a4
set_option maxRecDepth 20000 in
theorem ggX8_reads_X8_of : GoodIn wsX8_reads wsX8_of := goodIn_ca (goodIn_r _ [14, 1, 57, 58, 59, 60, 61, 62, 63, 64, 65, 66, 67, 68, 69, 70, 71, 72, 73, 74, 75] rfl (by decide +kernel)) (goodIn_sub (fun _ h => List.mem_cons_of_mem _ (List.mem_append_left _ (List.mem_append_right _ h))) (by decide +kernel))
set_option maxRecDepth 20000 in
theorem gX8_reads_X8_of : GoodIn wsX8_reads (wsV RX8 73 RX8 yX8_of wsX8_of) := goodIn_app (goodIn_r _ [11, 12, 13, 5] rfl (by decide +kernel)) ggX8_reads_X8_of
set_option maxRecDepth 20000 in
theorem ggX8_reads_X8_sets : GoodIn wsX8_reads wsX8_sets := goodIn_ca (goodIn_r _ [51, 1, 57, 58, 59, 60, 61, 62, 63, 64, 65, 66, 67, 68, 69, 70, 71, 72, 73, 74, 75] rfl (by decide +kernel)) (goodIn_sub (fun _ h => List.mem_cons_of_mem _ (List.mem_append_left _ (List.mem_append_right _ h))) (by decide +kernel))
set_option maxRecDepth 20000 in
theorem gX8_reads_X8_sets : GoodIn wsX8_reads (wsV RX8 77 RX8 yX8_sets wsX8_sets) := goodIn_app (goodIn_r _ [48, 49, 50, 5] rfl (by decide +kernel)) ggX8_reads_X8_sets
set_option maxRecDepth 20000 in
theorem ggX8_reads_X8_does : GoodIn wsX8_reads wsX8_does := goodIn_r _ [55, 56, 57, 58, 59, 60, 61, 62, 63, 64, 65, 66, 67, 68, 69, 70, 71, 72, 73, 74, 75] rfl (by decide +kernel)
set_option maxRecDepth 20000 in
theorem gX8_reads_X8_does : GoodIn wsX8_reads (wsV RX8 84 RX8 yX8_does wsX8_does) := goodIn_app (goodIn_r _ [52, 53, 54, 5] rfl (by decide +kernel)) ggX8_reads_X8_does
theorem dX8_reads_0 : decode cX8_reads 0 = .ok (.aload_n 0, 1) := by decide +kernel
theorem dX8_reads_1 : decode cX8_reads 1 = .ok (.invokevirtual 138, 3) := by decide +kernel
theorem dX8_reads_4 : decode cX8_reads 4 = .ok (.ifCond .ne 17, 3) := by decide +kernel
theorem dX8_reads_7 : decode cX8_reads 7 = .ok (.aload_n 0, 1) := by decide +kernel
theorem dX8_reads_8 : decode cX8_reads 8 = .ok (.bipush 14, 2) := by decide +kernel
theorem dX8_reads_10 : decode cX8_reads 10 = .ok (.aload_n 0, 1) := by decide +kernel
theorem dX8_reads_11 : decode cX8_reads 11 = .ok (.getfield 9, 3) := by decide +kernel
theorem dX8_reads_14 : decode cX8_reads 14 = .ok (.bipush 7, 2) := by decide +kernel
theorem dX8_reads_16 : decode cX8_reads 16 = .ok (.iaload, 1) := by decide +kernel
theorem dX8_reads_17 : decode cX8_reads 17 = .ok (.invokevirtual 69, 3) := by decide +kernel
theorem dX8_reads_20 : decode cX8_reads 20 = .ok (.ireturn, 1) := by decide +kernel
theorem dX8_reads_21 : decode cX8_reads 21 = .ok (.aload_n 0, 1) := by decide +kernel
theorem dX8_reads_22 : decode cX8_reads 22 = .ok (.aload_n 0, 1) := by decide +kernel
theorem dX8_reads_23 : decode cX8_reads 23 = .ok (.getfield 9, 3) := by decide +kernel
theorem dX8_reads_26 : decode cX8_reads 26 = .ok (.iconst 1, 1) := by decide +kernel
theorem dX8_reads_27 : decode cX8_reads 27 = .ok (.iaload, 1) := by decide +kernel
theorem dX8_reads_28 : decode cX8_reads 28 = .ok (.invokevirtual 142, 3) := by decide +kernel
theorem dX8_reads_31 : decode cX8_reads 31 = .ok (.istore_n 1, 1) := by decide +kernel
theorem dX8_reads_32 : decode cX8_reads 32 = .ok (.iload_n 1, 1) := by decide +kernel
theorem dX8_reads_33 : decode cX8_reads 33 = .ok (.invokestatic 145, 3) := by decide +kernel
theorem dX8_reads_36 : decode cX8_reads 36 = .ok (.istore_n 2, 1) := by decide +kernel
theorem dX8_reads_37 : decode cX8_reads 37 = .ok (.iload_n 2, 1) := by decide +kernel
theorem dX8_reads_38 : decode cX8_reads 38 = .ok (.ifCond .ne 7, 3) := by decide +kernel
theorem dX8_reads_41 : decode cX8_reads 41 = .ok (.iconst 0, 1) := by decide +kernel
theorem dX8_reads_42 : decode cX8_reads 42 = .ok (.goto 12, 3) := by decide +kernel
theorem dX8_reads_45 : decode cX8_reads 45 = .ok (.aload_n 0, 1) := by decide +kernel
theorem dX8_reads_46 : decode cX8_reads 46 = .ok (.getfield 9, 3) := by decide +kernel
theorem dX8_reads_49 : decode cX8_reads 49 = .ok (.bipush 7, 2) := by decide +kernel
theorem dX8_reads_51 : decode cX8_reads 51 = .ok (.iaload, 1) := by decide +kernel
theorem dX8_reads_52 : decode cX8_reads 52 = .ok (.iload_n 2, 1) := by decide +kernel
theorem dX8_reads_53 : decode cX8_reads 53 = .ok (.idiv, 1) := by decide +kernel
theorem dX8_reads_54 : decode cX8_reads 54 = .ok (.istore_n 3, 1) := by decide +kernel
theorem dX8_reads_55 : decode cX8_reads 55 = .ok (.iconst 0, 1) := by decide +kernel
theorem dX8_reads_56 : decode cX8_reads 56 = .ok (.istore 4, 2) := by decide +kernel
theorem dX8_reads_58 : decode cX8_reads 58 = .ok (.iload 4, 2) := by decide +kernel
theorem dX8_reads_60 : decode cX8_reads 60 = .ok (.aload_n 0, 1) := by decide +kernel
theorem dX8_reads_61 : decode cX8_reads 61 = .ok (.getfield 9, 3) := by decide +kernel
theorem dX8_reads_64 : decode cX8_reads 64 = .ok (.iconst 0, 1) := by decide +kernel
theorem dX8_reads_65 : decode cX8_reads 65 = .ok (.iaload, 1) := by decide +kernel
theorem dX8_reads_66 : decode cX8_reads 66 = .ok (.if_icmp .ge 77, 3) := by decide +kernel
theorem dX8_reads_69 : decode cX8_reads 69 = .ok (.iload_n 1, 1) := by decide +kernel
theorem dX8_reads_70 : decode cX8_reads 70 = .ok (.iload 4, 2) := by decide +kernel
theorem dX8_reads_72 : decode cX8_reads 72 = .ok (.ishr, 1) := by decide +kernel
theorem dX8_reads_73 : decode cX8_reads 73 = .ok (.iconst 1, 1) := by decide +kernel
theorem dX8_reads_74 : decode cX8_reads 74 = .ok (.iand, 1) := by decide +kernel
theorem dX8_reads_75 : decode cX8_reads 75 = .ok (.iconst 1, 1) := by decide +kernel
theorem dX8_reads_76 : decode cX8_reads 76 = .ok (.if_icmp .ne 37, 3) := by decide +kernel
theorem dX8_reads_79 : decode cX8_reads 79 = .ok (.aload_n 0, 1) := by decide +kernel
theorem dX8_reads_80 : decode cX8_reads 80 = .ok (.iload 4, 2) := by decide +kernel
theorem dX8_reads_82 : decode cX8_reads 82 = .ok (.iconst 0, 1) := by decide +kernel
theorem dX8_reads_83 : decode cX8_reads 83 = .ok (.aload_n 0, 1) := by decide +kernel
theorem dX8_reads_84 : decode cX8_reads 84 = .ok (.iload 4, 2) := by decide +kernel
theorem dX8_reads_86 : decode cX8_reads 86 = .ok (.iconst 0, 1) := by decide +kernel
theorem dX8_reads_87 : decode cX8_reads 87 = .ok (.invokevirtual 73, 3) := by decide +kernel
theorem dX8_reads_90 : decode cX8_reads 90 = .ok (.iload_n 3, 1) := by decide +kernel
theorem dX8_reads_91 : decode cX8_reads 91 = .ok (.iadd, 1) := by decide +kernel
theorem dX8_reads_92 : decode cX8_reads 92 = .ok (.invokevirtual 77, 3) := by decide +kernel
theorem dX8_reads_95 : decode cX8_reads 95 = .ok (.aload_n 0, 1) := by decide +kernel
theorem dX8_reads_96 : decode cX8_reads 96 = .ok (.iload 4, 2) := by decide +kernel
theorem dX8_reads_98 : decode cX8_reads 98 = .ok (.bipush 6, 2) := by decide +kernel
theorem dX8_reads_100 : decode cX8_reads 100 = .ok (.aload_n 0, 1) := by decide +kernel
theorem dX8_reads_101 : decode cX8_reads 101 = .ok (.iload 4, 2) := by decide +kernel
theorem dX8_reads_103 : decode cX8_reads 103 = .ok (.bipush 6, 2) := by decide +kernel
theorem dX8_reads_105 : decode cX8_reads 105 = .ok (.invokevirtual 73, 3) := by decide +kernel
theorem dX8_reads_108 : decode cX8_reads 108 = .ok (.iconst 1, 1) := by decide +kernel
theorem dX8_reads_109 : decode cX8_reads 109 = .ok (.iadd, 1) := by decide +kernel
theorem dX8_reads_110 : decode cX8_reads 110 = .ok (.invokevirtual 77, 3) := by decide +kernel
theorem dX8_reads_113 : decode cX8_reads 113 = .ok (.aload_n 0, 1) := by decide +kernel
theorem dX8_reads_114 : decode cX8_reads 114 = .ok (.iload 4, 2) := by decide +kernel
theorem dX8_reads_116 : decode cX8_reads 116 = .ok (.iconst 2, 1) := by decide +kernel
theorem dX8_reads_117 : decode cX8_reads 117 = .ok (.iconst 0, 1) := by decide +kernel
theorem dX8_reads_118 : decode cX8_reads 118 = .ok (.invokevirtual 77, 3) := by decide +kernel
theorem dX8_reads_121 : decode cX8_reads 121 = .ok (.aload_n 0, 1) := by decide +kernel
theorem dX8_reads_122 : decode cX8_reads 122 = .ok (.iload 4, 2) := by decide +kernel
theorem dX8_reads_124 : decode cX8_reads 124 = .ok (.iconst 3, 1) := by decide +kernel
theorem dX8_reads_125 : decode cX8_reads 125 = .ok (.iconst 0, 1) := by decide +kernel
theorem dX8_reads_126 : decode cX8_reads 126 = .ok (.invokevirtual 77, 3) := by decide +kernel
theorem dX8_reads_129 : decode cX8_reads 129 = .ok (.aload_n 0, 1) := by decide +kernel
theorem dX8_reads_130 : decode cX8_reads 130 = .ok (.iload 4, 2) := by decide +kernel
theorem dX8_reads_132 : decode cX8_reads 132 = .ok (.iconst 4, 1) := by decide +kernel
theorem dX8_reads_133 : decode cX8_reads 133 = .ok (.iconst 0, 1) := by decide +kernel
theorem dX8_reads_134 : decode cX8_reads 134 = .ok (.invokevirtual 77, 3) := by decide +kernel
theorem dX8_reads_137 : decode cX8_reads 137 = .ok (.iinc 4 1, 3) := by decide +kernel
theorem dX8_reads_140 : decode cX8_reads 140 = .ok (.goto (-82), 3) := by decide +kernel
theorem dX8_reads_143 : decode cX8_reads 143 = .ok (.aload_n 0, 1) := by decide +kernel
theorem dX8_reads_144 : decode cX8_reads 144 = .ok (.getfield 9, 3) := by decide +kernel
theorem dX8_reads_147 : decode cX8_reads 147 = .ok (.bipush 7, 2) := by decide +kernel
theorem dX8_reads_149 : decode cX8_reads 149 = .ok (.dup2, 1) := by decide +kernel
theorem dX8_reads_150 : decode cX8_reads 150 = .ok (.iaload, 1) := by decide +kernel
theorem dX8_reads_151 : decode cX8_reads 151 = .ok (.iload_n 3, 1) := by decide +kernel
theorem dX8_reads_152 : decode cX8_reads 152 = .ok (.iload_n 2, 1) := by decide +kernel
theorem dX8_reads_153 : decode cX8_reads 153 = .ok (.imul, 1) := by decide +kernel
theorem dX8_reads_154 : decode cX8_reads 154 = .ok (.isub, 1) := by decide +kernel
theorem dX8_reads_155 : decode cX8_reads 155 = .ok (.iastore, 1) := by decide +kernel
theorem dX8_reads_156 : decode cX8_reads 156 = .ok (.aload_n 0, 1) := by decide +kernel
theorem dX8_reads_157 : decode cX8_reads 157 = .ok (.getfield 9, 3) := by decide +kernel
theorem dX8_reads_160 : decode cX8_reads 160 = .ok (.bipush 9, 2) := by decide +kernel
theorem dX8_reads_162 : decode cX8_reads 162 = .ok (.dup2, 1) := by decide +kernel
theorem dX8_reads_163 : decode cX8_reads 163 = .ok (.iaload, 1) := by decide +kernel
theorem dX8_reads_164 : decode cX8_reads 164 = .ok (.iload_n 3, 1) := by decide +kernel
theorem dX8_reads_165 : decode cX8_reads 165 = .ok (.iload_n 2, 1) := by decide +kernel
theorem dX8_reads_166 : decode cX8_reads 166 = .ok (.imul, 1) := by decide +kernel
theorem dX8_reads_167 : decode cX8_reads 167 = .ok (.iadd, 1) := by decide +kernel
theorem dX8_reads_168 : decode cX8_reads 168 = .ok (.iastore, 1) := by decide +kernel
theorem dX8_reads_169 : decode cX8_reads 169 = .ok (.aload_n 0, 1) := by decide +kernel
theorem dX8_reads_170 : decode cX8_reads 170 = .ok (.getfield 9, 3) := by decide +kernel
theorem dX8_reads_173 : decode cX8_reads 173 = .ok (.bipush 8, 2) := by decide +kernel
theorem dX8_reads_175 : decode cX8_reads 175 = .ok (.dup2, 1) := by decide +kernel
theorem dX8_reads_176 : decode cX8_reads 176 = .ok (.iaload, 1) := by decide +kernel
theorem dX8_reads_177 : decode cX8_reads 177 = .ok (.iconst 1, 1) := by decide +kernel
theorem dX8_reads_178 : decode cX8_reads 178 = .ok (.iadd, 1) := by decide +kernel
theorem dX8_reads_179 : decode cX8_reads 179 = .ok (.iastore, 1) := by decide +kernel
theorem dX8_reads_180 : decode cX8_reads 180 = .ok (.aload_n 0, 1) := by decide +kernel
theorem dX8_reads_181 : decode cX8_reads 181 = .ok (.iload_n 2, 1) := by decide +kernel
theorem dX8_reads_182 : decode cX8_reads 182 = .ok (.invokevirtual 84, 3) := by decide +kernel
theorem dX8_reads_185 : decode cX8_reads 185 = .ok (.ireturn, 1) := by decide +kernel
set_option maxRecDepth 20000 in
theorem ggX8_read_X8_tries : GoodIn wsX8_read wsX8_tries := goodIn_ca (goodIn_r _ [5, 6, 7, 8, 81, 82, 83, 84, 85, 86, 87, 88, 89, 90, 91, 92, 93, 94, 95, 96, 97, 98, 99] rfl (by decide +kernel)) (goodIn_sub (fun _ h => List.mem_cons_of_mem _ (List.mem_append_left _ (List.mem_append_right _ h))) (by decide +kernel))
set_option maxRecDepth 20000 in
theorem gX8_read_X8_tries : GoodIn wsX8_read (wsV RX8 87 RX8 yX8_tries wsX8_tries) := goodIn_app (goodIn_r _ [1, 2, 3, 4] rfl (by decide +kernel)) ggX8_read_X8_tries
set_option maxRecDepth 20000 in
theorem ggX8_read_X8_reads : GoodIn wsX8_read wsX8_reads := goodIn_ca (goodIn_ca (goodIn_r _ [12, 8, 13, 14, 15, 4, 16, 17, 18, 19, 20, 21, 22, 23, 24, 25, 26, 27, 28, 29, 30, 31, 32, 33, 34, 35, 36, 37, 38, 39, 40, 41, 42, 43, 44, 45, 46, 47, 48, 49, 50, 51, 52, 53, 54, 55, 56, 57, 58, 59, 60, 61, 62, 63, 64, 65, 66, 81, 82, 83, 84, 85, 86, 87, 88, 89, 90, 91, 92, 93, 94, 95, 96, 97, 98, 99] rfl (by decide +kernel)) (goodIn_sub (fun _ h => List.mem_cons_of_mem _ (List.mem_append_left _ (List.mem_append_right _ h))) (by decide +kernel))) (goodIn_sub (fun _ h => List.mem_cons_of_mem _ (List.mem_append_right _ h)) (by decide +kernel))
set_option maxRecDepth 20000 in
theorem gX8_read_X8_reads : GoodIn wsX8_read (wsV RX8 150 RX8 yX8_reads wsX8_reads) := goodIn_app (goodIn_r _ [9, 10, 11, 4] rfl (by decide +kernel)) ggX8_read_X8_reads
set_option maxRecDepth 20000 in
theorem ggX8_read_X8_ends : GoodIn wsX8_read wsX8_ends := goodIn_ca (goodIn_r _ [70, 66, 71, 72, 73, 4, 74, 75, 76, 7, 77, 78, 79, 80, 6, 81, 82, 83, 84, 85, 86, 87, 88, 89, 90, 91, 92, 93, 94, 95, 96, 97, 98, 99] rfl (by decide +kernel)) (goodIn_sub (fun _ h => List.mem_cons_of_mem _ (List.mem_append_left _ (List.mem_append_right _ h))) (by decide +kernel))
set_option maxRecDepth 20000 in
theorem gX8_read_X8_ends : GoodIn wsX8_read (wsV RX8 93 RX8 yX8_ends wsX8_ends) := goodIn_app (goodIn_r _ [67, 68, 69, 4] rfl (by decide +kernel)) ggX8_read_X8_ends
theorem dX8_read_0 : decode cX8_read 0 = .ok (.aload_n 0, 1) := by decide +kernel
theorem dX8_read_1 : decode cX8_read 1 = .ok (.invokevirtual 87, 3) := by decide +kernel
theorem dX8_read_4 : decode cX8_read 4 = .ok (.aload_n 0, 1) := by decide +kernel
theorem dX8_read_5 : decode cX8_read 5 = .ok (.aload_n 0, 1) := by decide +kernel
theorem dX8_read_6 : decode cX8_read 6 = .ok (.invokevirtual 150, 3) := by decide +kernel
theorem dX8_read_9 : decode cX8_read 9 = .ok (.invokevirtual 93, 3) := by decide +kernel
theorem dX8_read_12 : decode cX8_read 12 = .ok (.ireturn, 1) := by decide +kernel
set_option maxRecDepth 20000 in
theorem ggX8_memberOf_X8_isMember : GoodIn wsX8_memberOf wsX8_isMember := goodIn_ca (goodIn_r _ [6, 7, 8, 9, 5, 10, 23, 24, 25, 26, 27, 28, 29, 30, 31, 32, 33, 34, 35, 36, 37, 38, 39, 40, 41] rfl (by decide +kernel)) (goodIn_sub (fun _ h => List.mem_cons_of_mem _ (List.mem_append_right _ h)) (by decide +kernel))
set_option maxRecDepth 20000 in
theorem gX8_memberOf_X8_isMember : GoodIn wsX8_memberOf (wsV RX8 65 RX8 yX8_isMember wsX8_isMember) := goodIn_app (goodIn_r _ [2, 3, 4, 5] rfl (by decide +kernel)) ggX8_memberOf_X8_isMember
set_option maxRecDepth 20000 in
theorem ggX8_memberOf_X8_raises : GoodIn wsX8_memberOf wsX8_raises := goodIn_r _ [14, 1, 23, 24, 25, 26, 27, 28, 29, 30, 31, 32, 33, 34, 35, 36, 37, 38, 39, 40, 41] rfl (by decide +kernel)
set_option maxRecDepth 20000 in
theorem gX8_memberOf_X8_raises : GoodIn wsX8_memberOf (wsV RX8 58 RX8 yX8_raises wsX8_raises) := goodIn_app (goodIn_r _ [11, 12, 13, 5] rfl (by decide +kernel)) ggX8_memberOf_X8_raises
set_option maxRecDepth 20000 in
theorem ggX8_memberOf_X8_in : GoodIn wsX8_memberOf wsX8_in := goodIn_r _ [10] rfl (by decide +kernel)
set_option maxRecDepth 20000 in
theorem gX8_memberOf_X8_in : GoodIn wsX8_memberOf (va_wsS RX8 61 yX8_in wsX8_in) := goodIn_app (goodIn_r _ [8, 9, 5] rfl (by decide +kernel)) ggX8_memberOf_X8_in
set_option maxRecDepth 20000 in
theorem ggX8_memberOf_X8_hasWagered : GoodIn wsX8_memberOf wsX8_hasWagered := goodIn_ca (goodIn_r _ [18, 19, 20, 21, 5, 22, 7, 23, 24, 25, 26, 27, 28, 29, 30, 31, 32, 33, 34, 35, 36, 37, 38, 39, 40, 41] rfl (by decide +kernel)) (goodIn_sub (fun _ h => List.mem_cons_of_mem _ (List.mem_append_right _ h)) (by decide +kernel))
set_option maxRecDepth 20000 in
theorem gX8_memberOf_X8_hasWagered : GoodIn wsX8_memberOf (wsV RX8 100 RX8 yX8_hasWagered wsX8_hasWagered) := goodIn_app (goodIn_r _ [15, 16, 17, 5] rfl (by decide +kernel)) ggX8_memberOf_X8_hasWagered
set_option maxRecDepth 20000 in
theorem ggX8_memberOf_X8_of : GoodIn wsX8_memberOf wsX8_of := goodIn_ca (goodIn_r _ [22, 7, 23, 24, 25, 26, 27, 28, 29, 30, 31, 32, 33, 34, 35, 36, 37, 38, 39, 40, 41] rfl (by decide +kernel)) (goodIn_sub (fun _ h => List.mem_cons_of_mem _ (List.mem_append_right _ h)) (by decide +kernel))
set_option maxRecDepth 20000 in
theorem gX8_memberOf_X8_of : GoodIn wsX8_memberOf (wsV RX8 73 RX8 yX8_of wsX8_of) := goodIn_app (goodIn_r _ [19, 20, 21, 5] rfl (by decide +kernel)) ggX8_memberOf_X8_of
theorem dX8_memberOf_0 : decode cX8_memberOf 0 = .ok (.aload_n 0, 1) := by decide +kernel
theorem dX8_memberOf_1 : decode cX8_memberOf 1 = .ok (.iconst 0, 1) := by decide +kernel
theorem dX8_memberOf_2 : decode cX8_memberOf 2 = .ok (.putfield 36, 3) := by decide +kernel
theorem dX8_memberOf_5 : decode cX8_memberOf 5 = .ok (.aload_n 0, 1) := by decide +kernel
theorem dX8_memberOf_6 : decode cX8_memberOf 6 = .ok (.iload_n 1, 1) := by decide +kernel
theorem dX8_memberOf_7 : decode cX8_memberOf 7 = .ok (.invokevirtual 65, 3) := by decide +kernel
theorem dX8_memberOf_10 : decode cX8_memberOf 10 = .ok (.ifCond .ne 9, 3) := by decide +kernel
theorem dX8_memberOf_13 : decode cX8_memberOf 13 = .ok (.aload_n 0, 1) := by decide +kernel
theorem dX8_memberOf_14 : decode cX8_memberOf 14 = .ok (.iconst 1, 1) := by decide +kernel
theorem dX8_memberOf_15 : decode cX8_memberOf 15 = .ok (.invokevirtual 58, 3) := by decide +kernel
theorem dX8_memberOf_18 : decode cX8_memberOf 18 = .ok (.ireturn, 1) := by decide +kernel
theorem dX8_memberOf_19 : decode cX8_memberOf 19 = .ok (.iload_n 2, 1) := by decide +kernel
theorem dX8_memberOf_20 : decode cX8_memberOf 20 = .ok (.iconst 0, 1) := by decide +kernel
theorem dX8_memberOf_21 : decode cX8_memberOf 21 = .ok (.bipush 6, 2) := by decide +kernel
theorem dX8_memberOf_23 : decode cX8_memberOf 23 = .ok (.invokestatic 61, 3) := by decide +kernel
theorem dX8_memberOf_26 : decode cX8_memberOf 26 = .ok (.ifCond .ne 9, 3) := by decide +kernel
theorem dX8_memberOf_29 : decode cX8_memberOf 29 = .ok (.aload_n 0, 1) := by decide +kernel
theorem dX8_memberOf_30 : decode cX8_memberOf 30 = .ok (.iconst 2, 1) := by decide +kernel
theorem dX8_memberOf_31 : decode cX8_memberOf 31 = .ok (.invokevirtual 58, 3) := by decide +kernel
theorem dX8_memberOf_34 : decode cX8_memberOf 34 = .ok (.ireturn, 1) := by decide +kernel
theorem dX8_memberOf_35 : decode cX8_memberOf 35 = .ok (.iload_n 2, 1) := by decide +kernel
theorem dX8_memberOf_36 : decode cX8_memberOf 36 = .ok (.iconst 2, 1) := by decide +kernel
theorem dX8_memberOf_37 : decode cX8_memberOf 37 = .ok (.if_icmp .ne 15, 3) := by decide +kernel
theorem dX8_memberOf_40 : decode cX8_memberOf 40 = .ok (.aload_n 0, 1) := by decide +kernel
theorem dX8_memberOf_41 : decode cX8_memberOf 41 = .ok (.iload_n 1, 1) := by decide +kernel
theorem dX8_memberOf_42 : decode cX8_memberOf 42 = .ok (.invokevirtual 100, 3) := by decide +kernel
theorem dX8_memberOf_45 : decode cX8_memberOf 45 = .ok (.ifCond .ne 7, 3) := by decide +kernel
theorem dX8_memberOf_48 : decode cX8_memberOf 48 = .ok (.iconst (-1), 1) := by decide +kernel
theorem dX8_memberOf_49 : decode cX8_memberOf 49 = .ok (.goto 9, 3) := by decide +kernel
theorem dX8_memberOf_52 : decode cX8_memberOf 52 = .ok (.aload_n 0, 1) := by decide +kernel
theorem dX8_memberOf_53 : decode cX8_memberOf 53 = .ok (.iload_n 1, 1) := by decide +kernel
theorem dX8_memberOf_54 : decode cX8_memberOf 54 = .ok (.iload_n 2, 1) := by decide +kernel
theorem dX8_memberOf_55 : decode cX8_memberOf 55 = .ok (.invokevirtual 73, 3) := by decide +kernel
theorem dX8_memberOf_58 : decode cX8_memberOf 58 = .ok (.ireturn, 1) := by decide +kernel
set_option maxRecDepth 20000 in
theorem ggX8_needleAt_X8_of : GoodIn wsX8_needleAt wsX8_of := goodIn_ca (goodIn_r _ [5, 6, 7, 8, 9, 10, 11, 12, 13, 14, 15, 16, 17, 18, 19, 20, 21, 22, 23, 24, 25] rfl (by decide +kernel)) (goodIn_sub (fun _ h => List.mem_cons_of_mem _ (List.mem_append_right _ h)) (by decide +kernel))
set_option maxRecDepth 20000 in
theorem gX8_needleAt_X8_of : GoodIn wsX8_needleAt (wsV RX8 73 RX8 yX8_of wsX8_of) := goodIn_app (goodIn_r _ [1, 2, 3, 4] rfl (by decide +kernel)) ggX8_needleAt_X8_of
theorem dX8_needleAt_0 : decode cX8_needleAt 0 = .ok (.iload_n 2, 1) := by decide +kernel
theorem dX8_needleAt_1 : decode cX8_needleAt 1 = .ok (.bipush 12, 2) := by decide +kernel
theorem dX8_needleAt_3 : decode cX8_needleAt 3 = .ok (.aload_n 0, 1) := by decide +kernel
theorem dX8_needleAt_4 : decode cX8_needleAt 4 = .ok (.iload_n 1, 1) := by decide +kernel
theorem dX8_needleAt_5 : decode cX8_needleAt 5 = .ok (.iconst 1, 1) := by decide +kernel
theorem dX8_needleAt_6 : decode cX8_needleAt 6 = .ok (.invokevirtual 73, 3) := by decide +kernel
theorem dX8_needleAt_9 : decode cX8_needleAt 9 = .ok (.imul, 1) := by decide +kernel
theorem dX8_needleAt_10 : decode cX8_needleAt 10 = .ok (.isub, 1) := by decide +kernel
theorem dX8_needleAt_11 : decode cX8_needleAt 11 = .ok (.ireturn, 1) := by decide +kernel
set_option maxRecDepth 20000 in
theorem ggX8_needle_X8_isMember : GoodIn wsX8_needle wsX8_isMember := goodIn_ca (goodIn_r _ [7, 2, 8, 9, 6, 10, 19, 20, 21, 22, 23, 24, 25, 26, 27, 28, 29, 30, 31, 32, 33, 34, 35, 36, 37] rfl (by decide +kernel)) (goodIn_sub (fun _ h => List.mem_cons_of_mem _ (List.mem_append_right _ h)) (by decide +kernel))
set_option maxRecDepth 20000 in
theorem gX8_needle_X8_isMember : GoodIn wsX8_needle (wsV RX8 65 RX8 yX8_isMember wsX8_isMember) := goodIn_app (goodIn_r _ [3, 4, 5, 6] rfl (by decide +kernel)) ggX8_needle_X8_isMember
set_option maxRecDepth 20000 in
theorem ggX8_needle_X8_needleAt : GoodIn wsX8_needle wsX8_needleAt := goodIn_ca (goodIn_r _ [14, 15, 16, 17, 6, 18, 2, 19, 20, 21, 22, 23, 24, 25, 26, 27, 28, 29, 30, 31, 32, 33, 34, 35, 36, 37] rfl (by decide +kernel)) (goodIn_sub (fun _ h => List.mem_cons_of_mem _ (List.mem_append_right _ h)) (by decide +kernel))
set_option maxRecDepth 20000 in
theorem gX8_needle_X8_needleAt : GoodIn wsX8_needle (wsV RX8 154 RX8 yX8_needleAt wsX8_needleAt) := goodIn_app (goodIn_r _ [11, 12, 13, 6] rfl (by decide +kernel)) ggX8_needle_X8_needleAt
theorem dX8_needle_0 : decode cX8_needle 0 = .ok (.aload_n 0, 1) := by decide +kernel
theorem dX8_needle_1 : decode cX8_needle 1 = .ok (.aload_n 0, 1) := by decide +kernel
theorem dX8_needle_2 : decode cX8_needle 2 = .ok (.iload_n 1, 1) := by decide +kernel
theorem dX8_needle_3 : decode cX8_needle 3 = .ok (.invokevirtual 65, 3) := by decide +kernel
theorem dX8_needle_6 : decode cX8_needle 6 = .ok (.ifCond .eq 7, 3) := by decide +kernel
theorem dX8_needle_9 : decode cX8_needle 9 = .ok (.iconst 0, 1) := by decide +kernel
theorem dX8_needle_10 : decode cX8_needle 10 = .ok (.goto 4, 3) := by decide +kernel
theorem dX8_needle_13 : decode cX8_needle 13 = .ok (.iconst 1, 1) := by decide +kernel
theorem dX8_needle_14 : decode cX8_needle 14 = .ok (.putfield 36, 3) := by decide +kernel
theorem dX8_needle_17 : decode cX8_needle 17 = .ok (.aload_n 0, 1) := by decide +kernel
theorem dX8_needle_18 : decode cX8_needle 18 = .ok (.getfield 36, 3) := by decide +kernel
theorem dX8_needle_21 : decode cX8_needle 21 = .ok (.ifCond .ne 17, 3) := by decide +kernel
theorem dX8_needle_24 : decode cX8_needle 24 = .ok (.aload_n 0, 1) := by decide +kernel
theorem dX8_needle_25 : decode cX8_needle 25 = .ok (.iload_n 1, 1) := by decide +kernel
theorem dX8_needle_26 : decode cX8_needle 26 = .ok (.aload_n 0, 1) := by decide +kernel
theorem dX8_needle_27 : decode cX8_needle 27 = .ok (.getfield 9, 3) := by decide +kernel
theorem dX8_needle_30 : decode cX8_needle 30 = .ok (.iconst 1, 1) := by decide +kernel
theorem dX8_needle_31 : decode cX8_needle 31 = .ok (.iaload, 1) := by decide +kernel
theorem dX8_needle_32 : decode cX8_needle 32 = .ok (.invokevirtual 154, 3) := by decide +kernel
theorem dX8_needle_35 : decode cX8_needle 35 = .ok (.goto 4, 3) := by decide +kernel
theorem dX8_needle_38 : decode cX8_needle 38 = .ok (.iconst 0, 1) := by decide +kernel
theorem dX8_needle_39 : decode cX8_needle 39 = .ok (.ireturn, 1) := by decide +kernel
set_option maxRecDepth 20000 in
theorem ggX8_needleAgain_X8_needle : GoodIn wsX8_needleAgain wsX8_needle := goodIn_ca (goodIn_r _ [5, 6, 7, 8, 9, 10, 4, 11, 12, 13, 14, 15, 16, 17, 18, 19, 20, 21, 22, 23, 24, 25, 26, 27, 28, 29, 30, 31, 32, 33, 34, 35, 36, 37, 38, 39, 40, 41] rfl (by decide +kernel)) (goodIn_sub (fun _ h => List.mem_cons_of_mem _ (List.mem_append_right _ h)) (by decide +kernel))
set_option maxRecDepth 20000 in
theorem gX8_needleAgain_X8_needle : GoodIn wsX8_needleAgain (wsV RX8 157 RX8 yX8_needle wsX8_needle) := goodIn_app (goodIn_r _ [1, 2, 3, 4] rfl (by decide +kernel)) ggX8_needleAgain_X8_needle
theorem dX8_needleAgain_0 : decode cX8_needleAgain 0 = .ok (.aload_n 0, 1) := by decide +kernel
theorem dX8_needleAgain_1 : decode cX8_needleAgain 1 = .ok (.iload_n 1, 1) := by decide +kernel
theorem dX8_needleAgain_2 : decode cX8_needleAgain 2 = .ok (.invokevirtual 157, 3) := by decide +kernel
theorem dX8_needleAgain_5 : decode cX8_needleAgain 5 = .ok (.ireturn, 1) := by decide +kernel
set_option maxRecDepth 20000 in
theorem ggX8_off_X8_isMember : GoodIn wsX8_off wsX8_isMember := goodIn_ca (goodIn_r _ [7, 2, 8, 9, 6, 10, 34, 35, 36, 37, 38, 39, 40, 41, 42, 43, 44, 45, 46, 47, 48, 49, 50, 51, 52] rfl (by decide +kernel)) (goodIn_sub (fun _ h => List.mem_cons_of_mem _ (List.mem_append_right _ h)) (by decide +kernel))
set_option maxRecDepth 20000 in
theorem gX8_off_X8_isMember : GoodIn wsX8_off (wsV RX8 65 RX8 yX8_isMember wsX8_isMember) := goodIn_app (goodIn_r _ [3, 4, 5, 6] rfl (by decide +kernel)) ggX8_off_X8_isMember
set_option maxRecDepth 20000 in
theorem ggX8_off_X8_raises : GoodIn wsX8_off wsX8_raises := goodIn_r _ [14, 1, 34, 35, 36, 37, 38, 39, 40, 41, 42, 43, 44, 45, 46, 47, 48, 49, 50, 51, 52] rfl (by decide +kernel)
set_option maxRecDepth 20000 in
theorem gX8_off_X8_raises : GoodIn wsX8_off (wsV RX8 58 RX8 yX8_raises wsX8_raises) := goodIn_app (goodIn_r _ [11, 12, 13, 6] rfl (by decide +kernel)) ggX8_off_X8_raises
set_option maxRecDepth 20000 in
theorem ggX8_off_X8_hasWagered : GoodIn wsX8_off wsX8_hasWagered := goodIn_ca (goodIn_r _ [18, 19, 20, 21, 6, 22, 2, 34, 35, 36, 37, 38, 39, 40, 41, 42, 43, 44, 45, 46, 47, 48, 49, 50, 51, 52] rfl (by decide +kernel)) (goodIn_sub (fun _ h => List.mem_cons_of_mem _ (List.mem_append_right _ h)) (by decide +kernel))
set_option maxRecDepth 20000 in
theorem gX8_off_X8_hasWagered : GoodIn wsX8_off (wsV RX8 100 RX8 yX8_hasWagered wsX8_hasWagered) := goodIn_app (goodIn_r _ [15, 16, 17, 6] rfl (by decide +kernel)) ggX8_off_X8_hasWagered
set_option maxRecDepth 20000 in
theorem ggX8_off_X8_of : GoodIn wsX8_off wsX8_of := goodIn_ca (goodIn_r _ [22, 2, 34, 35, 36, 37, 38, 39, 40, 41, 42, 43, 44, 45, 46, 47, 48, 49, 50, 51, 52] rfl (by decide +kernel)) (goodIn_sub (fun _ h => List.mem_cons_of_mem _ (List.mem_append_right _ h)) (by decide +kernel))
set_option maxRecDepth 20000 in
theorem gX8_off_X8_of : GoodIn wsX8_off (wsV RX8 73 RX8 yX8_of wsX8_of) := goodIn_app (goodIn_r _ [19, 20, 21, 6] rfl (by decide +kernel)) ggX8_off_X8_of
set_option maxRecDepth 20000 in
theorem ggX8_off_X8_needleAt : GoodIn wsX8_off wsX8_needleAt := goodIn_ca (goodIn_r _ [26, 19, 20, 21, 6, 22, 2, 34, 35, 36, 37, 38, 39, 40, 41, 42, 43, 44, 45, 46, 47, 48, 49, 50, 51, 52] rfl (by decide +kernel)) (goodIn_sub (fun _ h => List.mem_cons_of_mem _ (List.mem_append_right _ h)) (by decide +kernel))
set_option maxRecDepth 20000 in
theorem gX8_off_X8_needleAt : GoodIn wsX8_off (wsV RX8 154 RX8 yX8_needleAt wsX8_needleAt) := goodIn_app (goodIn_r _ [23, 24, 25, 6] rfl (by decide +kernel)) ggX8_off_X8_needleAt
set_option maxRecDepth 20000 in
theorem ggX8_off_X8_apart : GoodIn wsX8_off wsX8_apart := goodIn_r _ [29, 30, 31, 32, 33] rfl (by decide +kernel)
set_option maxRecDepth 20000 in
theorem gX8_off_X8_apart : GoodIn wsX8_off (va_wsS RX8 111 yX8_apart wsX8_apart) := goodIn_app (goodIn_r _ [27, 28, 6] rfl (by decide +kernel)) ggX8_off_X8_apart
theorem dX8_off_0 : decode cX8_off 0 = .ok (.aload_n 0, 1) := by decide +kernel
theorem dX8_off_1 : decode cX8_off 1 = .ok (.iconst 0, 1) := by decide +kernel
theorem dX8_off_2 : decode cX8_off 2 = .ok (.putfield 36, 3) := by decide +kernel
theorem dX8_off_5 : decode cX8_off 5 = .ok (.aload_n 0, 1) := by decide +kernel
theorem dX8_off_6 : decode cX8_off 6 = .ok (.iload_n 1, 1) := by decide +kernel
theorem dX8_off_7 : decode cX8_off 7 = .ok (.invokevirtual 65, 3) := by decide +kernel
theorem dX8_off_10 : decode cX8_off 10 = .ok (.ifCond .ne 9, 3) := by decide +kernel
theorem dX8_off_13 : decode cX8_off 13 = .ok (.aload_n 0, 1) := by decide +kernel
theorem dX8_off_14 : decode cX8_off 14 = .ok (.iconst 1, 1) := by decide +kernel
theorem dX8_off_15 : decode cX8_off 15 = .ok (.invokevirtual 58, 3) := by decide +kernel
theorem dX8_off_18 : decode cX8_off 18 = .ok (.ireturn, 1) := by decide +kernel
theorem dX8_off_19 : decode cX8_off 19 = .ok (.aload_n 0, 1) := by decide +kernel
theorem dX8_off_20 : decode cX8_off 20 = .ok (.iload_n 1, 1) := by decide +kernel
theorem dX8_off_21 : decode cX8_off 21 = .ok (.invokevirtual 100, 3) := by decide +kernel
theorem dX8_off_24 : decode cX8_off 24 = .ok (.ifCond .eq 26, 3) := by decide +kernel
theorem dX8_off_27 : decode cX8_off 27 = .ok (.aload_n 0, 1) := by decide +kernel
theorem dX8_off_28 : decode cX8_off 28 = .ok (.iload_n 1, 1) := by decide +kernel
theorem dX8_off_29 : decode cX8_off 29 = .ok (.iconst 2, 1) := by decide +kernel
theorem dX8_off_30 : decode cX8_off 30 = .ok (.invokevirtual 73, 3) := by decide +kernel
theorem dX8_off_33 : decode cX8_off 33 = .ok (.aload_n 0, 1) := by decide +kernel
theorem dX8_off_34 : decode cX8_off 34 = .ok (.iload_n 1, 1) := by decide +kernel
theorem dX8_off_35 : decode cX8_off 35 = .ok (.aload_n 0, 1) := by decide +kernel
theorem dX8_off_36 : decode cX8_off 36 = .ok (.getfield 9, 3) := by decide +kernel
theorem dX8_off_39 : decode cX8_off 39 = .ok (.iconst 1, 1) := by decide +kernel
theorem dX8_off_40 : decode cX8_off 40 = .ok (.iaload, 1) := by decide +kernel
theorem dX8_off_41 : decode cX8_off 41 = .ok (.invokevirtual 154, 3) := by decide +kernel
theorem dX8_off_44 : decode cX8_off 44 = .ok (.invokestatic 111, 3) := by decide +kernel
theorem dX8_off_47 : decode cX8_off 47 = .ok (.goto 8, 3) := by decide +kernel
theorem dX8_off_50 : decode cX8_off 50 = .ok (.aload_n 0, 1) := by decide +kernel
theorem dX8_off_51 : decode cX8_off 51 = .ok (.iconst 2, 1) := by decide +kernel
theorem dX8_off_52 : decode cX8_off 52 = .ok (.invokevirtual 58, 3) := by decide +kernel
theorem dX8_off_55 : decode cX8_off 55 = .ok (.ireturn, 1) := by decide +kernel
set_option maxRecDepth 20000 in
theorem ggX8_owner_X8_in : GoodIn wsX8_owner wsX8_in := goodIn_r _ [5] rfl (by decide +kernel)
set_option maxRecDepth 20000 in
theorem gX8_owner_X8_in : GoodIn wsX8_owner (va_wsS RX8 61 yX8_in wsX8_in) := goodIn_app (goodIn_r _ [2, 3, 4] rfl (by decide +kernel)) ggX8_owner_X8_in
set_option maxRecDepth 20000 in
theorem ggX8_owner_X8_raises : GoodIn wsX8_owner wsX8_raises := goodIn_r _ [9, 1, 19, 20, 21, 22, 23, 24, 25, 26, 27, 28, 29, 30, 31, 32, 33, 34, 35, 36, 37] rfl (by decide +kernel)
set_option maxRecDepth 20000 in
theorem gX8_owner_X8_raises : GoodIn wsX8_owner (wsV RX8 58 RX8 yX8_raises wsX8_raises) := goodIn_app (goodIn_r _ [6, 7, 8, 4] rfl (by decide +kernel)) ggX8_owner_X8_raises
set_option maxRecDepth 20000 in
theorem ggX8_owner_X8_ownerOf : GoodIn wsX8_owner wsX8_ownerOf := goodIn_ca (goodIn_r _ [13, 14, 15, 16, 17, 4, 18, 19, 20, 21, 22, 23, 24, 25, 26, 27, 28, 29, 30, 31, 32, 33, 34, 35, 36, 37] rfl (by decide +kernel)) (goodIn_sub (fun _ h => List.mem_cons_of_mem _ (List.mem_append_right _ h)) (by decide +kernel))
set_option maxRecDepth 20000 in
theorem gX8_owner_X8_ownerOf : GoodIn wsX8_owner (wsV RX8 81 RX8 yX8_ownerOf wsX8_ownerOf) := goodIn_app (goodIn_r _ [10, 11, 12, 4] rfl (by decide +kernel)) ggX8_owner_X8_ownerOf
theorem dX8_owner_0 : decode cX8_owner 0 = .ok (.aload_n 0, 1) := by decide +kernel
theorem dX8_owner_1 : decode cX8_owner 1 = .ok (.iconst 0, 1) := by decide +kernel
theorem dX8_owner_2 : decode cX8_owner 2 = .ok (.putfield 36, 3) := by decide +kernel
theorem dX8_owner_5 : decode cX8_owner 5 = .ok (.iload_n 1, 1) := by decide +kernel
theorem dX8_owner_6 : decode cX8_owner 6 = .ok (.iconst 0, 1) := by decide +kernel
theorem dX8_owner_7 : decode cX8_owner 7 = .ok (.bipush 9, 2) := by decide +kernel
theorem dX8_owner_9 : decode cX8_owner 9 = .ok (.invokestatic 61, 3) := by decide +kernel
theorem dX8_owner_12 : decode cX8_owner 12 = .ok (.ifCond .ne 9, 3) := by decide +kernel
theorem dX8_owner_15 : decode cX8_owner 15 = .ok (.aload_n 0, 1) := by decide +kernel
theorem dX8_owner_16 : decode cX8_owner 16 = .ok (.iconst 1, 1) := by decide +kernel
theorem dX8_owner_17 : decode cX8_owner 17 = .ok (.invokevirtual 58, 3) := by decide +kernel
theorem dX8_owner_20 : decode cX8_owner 20 = .ok (.ireturn, 1) := by decide +kernel
theorem dX8_owner_21 : decode cX8_owner 21 = .ok (.aload_n 0, 1) := by decide +kernel
theorem dX8_owner_22 : decode cX8_owner 22 = .ok (.iload_n 1, 1) := by decide +kernel
theorem dX8_owner_23 : decode cX8_owner 23 = .ok (.invokevirtual 81, 3) := by decide +kernel
theorem dX8_owner_26 : decode cX8_owner 26 = .ok (.ifCond .ge 11, 3) := by decide +kernel
theorem dX8_owner_29 : decode cX8_owner 29 = .ok (.aload_n 0, 1) := by decide +kernel
theorem dX8_owner_30 : decode cX8_owner 30 = .ok (.iconst 2, 1) := by decide +kernel
theorem dX8_owner_31 : decode cX8_owner 31 = .ok (.invokevirtual 58, 3) := by decide +kernel
theorem dX8_owner_34 : decode cX8_owner 34 = .ok (.goto 8, 3) := by decide +kernel
theorem dX8_owner_37 : decode cX8_owner 37 = .ok (.aload_n 0, 1) := by decide +kernel
theorem dX8_owner_38 : decode cX8_owner 38 = .ok (.iload_n 1, 1) := by decide +kernel
theorem dX8_owner_39 : decode cX8_owner 39 = .ok (.invokevirtual 81, 3) := by decide +kernel
theorem dX8_owner_42 : decode cX8_owner 42 = .ok (.ireturn, 1) := by decide +kernel
set_option maxRecDepth 20000 in
theorem ggX8_wagered_X8_hasWagered : GoodIn wsX8_wagered wsX8_hasWagered := goodIn_ca (goodIn_r _ [6, 7, 8, 9, 5, 10, 1, 11, 12, 13, 14, 15, 16, 17, 18, 19, 20, 21, 22, 23, 24, 25, 26, 27, 28, 29] rfl (by decide +kernel)) (goodIn_sub (fun _ h => List.mem_cons_of_mem _ (List.mem_append_right _ h)) (by decide +kernel))
set_option maxRecDepth 20000 in
theorem gX8_wagered_X8_hasWagered : GoodIn wsX8_wagered (wsV RX8 100 RX8 yX8_hasWagered wsX8_hasWagered) := goodIn_app (goodIn_r _ [2, 3, 4, 5] rfl (by decide +kernel)) ggX8_wagered_X8_hasWagered
theorem dX8_wagered_0 : decode cX8_wagered 0 = .ok (.iconst 0, 1) := by decide +kernel
theorem dX8_wagered_1 : decode cX8_wagered 1 = .ok (.istore_n 1, 1) := by decide +kernel
theorem dX8_wagered_2 : decode cX8_wagered 2 = .ok (.iconst 0, 1) := by decide +kernel
theorem dX8_wagered_3 : decode cX8_wagered 3 = .ok (.istore_n 2, 1) := by decide +kernel
theorem dX8_wagered_4 : decode cX8_wagered 4 = .ok (.iload_n 2, 1) := by decide +kernel
theorem dX8_wagered_5 : decode cX8_wagered 5 = .ok (.aload_n 0, 1) := by decide +kernel
theorem dX8_wagered_6 : decode cX8_wagered 6 = .ok (.getfield 9, 3) := by decide +kernel
theorem dX8_wagered_9 : decode cX8_wagered 9 = .ok (.iconst 0, 1) := by decide +kernel
theorem dX8_wagered_10 : decode cX8_wagered 10 = .ok (.iaload, 1) := by decide +kernel
theorem dX8_wagered_11 : decode cX8_wagered 11 = .ok (.if_icmp .ge 20, 3) := by decide +kernel
theorem dX8_wagered_14 : decode cX8_wagered 14 = .ok (.aload_n 0, 1) := by decide +kernel
theorem dX8_wagered_15 : decode cX8_wagered 15 = .ok (.iload_n 2, 1) := by decide +kernel
theorem dX8_wagered_16 : decode cX8_wagered 16 = .ok (.invokevirtual 100, 3) := by decide +kernel
theorem dX8_wagered_19 : decode cX8_wagered 19 = .ok (.ifCond .eq 6, 3) := by decide +kernel
theorem dX8_wagered_22 : decode cX8_wagered 22 = .ok (.iinc 1 1, 3) := by decide +kernel
theorem dX8_wagered_25 : decode cX8_wagered 25 = .ok (.iinc 2 1, 3) := by decide +kernel
theorem dX8_wagered_28 : decode cX8_wagered 28 = .ok (.goto (-24), 3) := by decide +kernel
theorem dX8_wagered_31 : decode cX8_wagered 31 = .ok (.iload_n 1, 1) := by decide +kernel
theorem dX8_wagered_32 : decode cX8_wagered 32 = .ok (.ireturn, 1) := by decide +kernel
set_option maxRecDepth 20000 in
theorem ggX8_winnersAt_X8_hasWagered : GoodIn wsX8_winnersAt wsX8_hasWagered := goodIn_ca (goodIn_r _ [11, 12, 13, 14, 10, 15, 2, 26, 27, 28, 29, 30, 31, 32, 33, 34, 35, 36, 37, 38, 39, 40, 41, 42, 43, 44] rfl (by decide +kernel)) (goodIn_sub (fun _ h => List.mem_cons_of_mem _ (List.mem_append_right _ h)) (by decide +kernel))
set_option maxRecDepth 20000 in
theorem gX8_winnersAt_X8_hasWagered : GoodIn wsX8_winnersAt (wsV RX8 100 RX8 yX8_hasWagered wsX8_hasWagered) := goodIn_app (goodIn_r _ [7, 8, 9, 10] rfl (by decide +kernel)) ggX8_winnersAt_X8_hasWagered
set_option maxRecDepth 20000 in
theorem ggX8_winnersAt_X8_of : GoodIn wsX8_winnersAt wsX8_of := goodIn_ca (goodIn_r _ [15, 2, 26, 27, 28, 29, 30, 31, 32, 33, 34, 35, 36, 37, 38, 39, 40, 41, 42, 43, 44] rfl (by decide +kernel)) (goodIn_sub (fun _ h => List.mem_cons_of_mem _ (List.mem_append_right _ h)) (by decide +kernel))
set_option maxRecDepth 20000 in
theorem gX8_winnersAt_X8_of : GoodIn wsX8_winnersAt (wsV RX8 73 RX8 yX8_of wsX8_of) := goodIn_app (goodIn_r _ [12, 13, 14, 10] rfl (by decide +kernel)) ggX8_winnersAt_X8_of
set_option maxRecDepth 20000 in
theorem ggX8_winnersAt_X8_needleAt : GoodIn wsX8_winnersAt wsX8_needleAt := goodIn_ca (goodIn_r _ [19, 12, 13, 14, 10, 15, 2, 26, 27, 28, 29, 30, 31, 32, 33, 34, 35, 36, 37, 38, 39, 40, 41, 42, 43, 44] rfl (by decide +kernel)) (goodIn_sub (fun _ h => List.mem_cons_of_mem _ (List.mem_append_right _ h)) (by decide +kernel))
set_option maxRecDepth 20000 in
theorem gX8_winnersAt_X8_needleAt : GoodIn wsX8_winnersAt (wsV RX8 154 RX8 yX8_needleAt wsX8_needleAt) := goodIn_app (goodIn_r _ [16, 17, 18, 10] rfl (by decide +kernel)) ggX8_winnersAt_X8_needleAt
set_option maxRecDepth 20000 in
theorem ggX8_winnersAt_X8_apart : GoodIn wsX8_winnersAt wsX8_apart := goodIn_r _ [22, 23, 24, 5, 25] rfl (by decide +kernel)
set_option maxRecDepth 20000 in
theorem gX8_winnersAt_X8_apart : GoodIn wsX8_winnersAt (va_wsS RX8 111 yX8_apart wsX8_apart) := goodIn_app (goodIn_r _ [20, 21, 10] rfl (by decide +kernel)) ggX8_winnersAt_X8_apart
theorem dX8_winnersAt_0 : decode cX8_winnersAt 0 = .ok (.iconst 0, 1) := by decide +kernel
theorem dX8_winnersAt_1 : decode cX8_winnersAt 1 = .ok (.istore_n 2, 1) := by decide +kernel
theorem dX8_winnersAt_2 : decode cX8_winnersAt 2 = .ok (.ldc 160, 2) := by decide +kernel
theorem dX8_winnersAt_4 : decode cX8_winnersAt 4 = .ok (.istore_n 3, 1) := by decide +kernel
theorem dX8_winnersAt_5 : decode cX8_winnersAt 5 = .ok (.iconst 0, 1) := by decide +kernel
theorem dX8_winnersAt_6 : decode cX8_winnersAt 6 = .ok (.istore 4, 2) := by decide +kernel
theorem dX8_winnersAt_8 : decode cX8_winnersAt 8 = .ok (.iload 4, 2) := by decide +kernel
theorem dX8_winnersAt_10 : decode cX8_winnersAt 10 = .ok (.aload_n 0, 1) := by decide +kernel
theorem dX8_winnersAt_11 : decode cX8_winnersAt 11 = .ok (.getfield 9, 3) := by decide +kernel
theorem dX8_winnersAt_14 : decode cX8_winnersAt 14 = .ok (.iconst 0, 1) := by decide +kernel
theorem dX8_winnersAt_15 : decode cX8_winnersAt 15 = .ok (.iaload, 1) := by decide +kernel
theorem dX8_winnersAt_16 : decode cX8_winnersAt 16 = .ok (.if_icmp .ge 79, 3) := by decide +kernel
theorem dX8_winnersAt_19 : decode cX8_winnersAt 19 = .ok (.aload_n 0, 1) := by decide +kernel
theorem dX8_winnersAt_20 : decode cX8_winnersAt 20 = .ok (.iload 4, 2) := by decide +kernel
theorem dX8_winnersAt_22 : decode cX8_winnersAt 22 = .ok (.invokevirtual 100, 3) := by decide +kernel
theorem dX8_winnersAt_25 : decode cX8_winnersAt 25 = .ok (.ifCond .eq 64, 3) := by decide +kernel
theorem dX8_winnersAt_28 : decode cX8_winnersAt 28 = .ok (.aload_n 0, 1) := by decide +kernel
theorem dX8_winnersAt_29 : decode cX8_winnersAt 29 = .ok (.iload 4, 2) := by decide +kernel
theorem dX8_winnersAt_31 : decode cX8_winnersAt 31 = .ok (.iconst 4, 1) := by decide +kernel
theorem dX8_winnersAt_32 : decode cX8_winnersAt 32 = .ok (.invokevirtual 73, 3) := by decide +kernel
theorem dX8_winnersAt_35 : decode cX8_winnersAt 35 = .ok (.iconst 1, 1) := by decide +kernel
theorem dX8_winnersAt_36 : decode cX8_winnersAt 36 = .ok (.if_icmp .ne 6, 3) := by decide +kernel
theorem dX8_winnersAt_39 : decode cX8_winnersAt 39 = .ok (.goto 50, 3) := by decide +kernel
theorem dX8_winnersAt_42 : decode cX8_winnersAt 42 = .ok (.aload_n 0, 1) := by decide +kernel
theorem dX8_winnersAt_43 : decode cX8_winnersAt 43 = .ok (.iload 4, 2) := by decide +kernel
theorem dX8_winnersAt_45 : decode cX8_winnersAt 45 = .ok (.iconst 2, 1) := by decide +kernel
theorem dX8_winnersAt_46 : decode cX8_winnersAt 46 = .ok (.invokevirtual 73, 3) := by decide +kernel
theorem dX8_winnersAt_49 : decode cX8_winnersAt 49 = .ok (.aload_n 0, 1) := by decide +kernel
theorem dX8_winnersAt_50 : decode cX8_winnersAt 50 = .ok (.iload 4, 2) := by decide +kernel
theorem dX8_winnersAt_52 : decode cX8_winnersAt 52 = .ok (.iload_n 1, 1) := by decide +kernel
theorem dX8_winnersAt_53 : decode cX8_winnersAt 53 = .ok (.invokevirtual 154, 3) := by decide +kernel
theorem dX8_winnersAt_56 : decode cX8_winnersAt 56 = .ok (.invokestatic 111, 3) := by decide +kernel
theorem dX8_winnersAt_59 : decode cX8_winnersAt 59 = .ok (.istore 5, 2) := by decide +kernel
theorem dX8_winnersAt_61 : decode cX8_winnersAt 61 = .ok (.iload 5, 2) := by decide +kernel
theorem dX8_winnersAt_63 : decode cX8_winnersAt 63 = .ok (.iload_n 3, 1) := by decide +kernel
theorem dX8_winnersAt_64 : decode cX8_winnersAt 64 = .ok (.if_icmp .ge 5, 3) := by decide +kernel
theorem dX8_winnersAt_67 : decode cX8_winnersAt 67 = .ok (.iconst 0, 1) := by decide +kernel
theorem dX8_winnersAt_68 : decode cX8_winnersAt 68 = .ok (.istore_n 2, 1) := by decide +kernel
theorem dX8_winnersAt_69 : decode cX8_winnersAt 69 = .ok (.iload 5, 2) := by decide +kernel
theorem dX8_winnersAt_71 : decode cX8_winnersAt 71 = .ok (.iload_n 3, 1) := by decide +kernel
theorem dX8_winnersAt_72 : decode cX8_winnersAt 72 = .ok (.if_icmp .gt 10, 3) := by decide +kernel
theorem dX8_winnersAt_75 : decode cX8_winnersAt 75 = .ok (.iload_n 2, 1) := by decide +kernel
theorem dX8_winnersAt_76 : decode cX8_winnersAt 76 = .ok (.iconst 1, 1) := by decide +kernel
theorem dX8_winnersAt_77 : decode cX8_winnersAt 77 = .ok (.iload 4, 2) := by decide +kernel
theorem dX8_winnersAt_79 : decode cX8_winnersAt 79 = .ok (.ishl, 1) := by decide +kernel
theorem dX8_winnersAt_80 : decode cX8_winnersAt 80 = .ok (.ior, 1) := by decide +kernel
theorem dX8_winnersAt_81 : decode cX8_winnersAt 81 = .ok (.istore_n 2, 1) := by decide +kernel
theorem dX8_winnersAt_82 : decode cX8_winnersAt 82 = .ok (.iload_n 3, 1) := by decide +kernel
theorem dX8_winnersAt_83 : decode cX8_winnersAt 83 = .ok (.iload 5, 2) := by decide +kernel
theorem dX8_winnersAt_85 : decode cX8_winnersAt 85 = .ok (.invokestatic 161, 3) := by decide +kernel
theorem dX8_winnersAt_88 : decode cX8_winnersAt 88 = .ok (.istore_n 3, 1) := by decide +kernel
theorem dX8_winnersAt_89 : decode cX8_winnersAt 89 = .ok (.iinc 4 1, 3) := by decide +kernel
theorem dX8_winnersAt_92 : decode cX8_winnersAt 92 = .ok (.goto (-84), 3) := by decide +kernel
theorem dX8_winnersAt_95 : decode cX8_winnersAt 95 = .ok (.iload_n 2, 1) := by decide +kernel
theorem dX8_winnersAt_96 : decode cX8_winnersAt 96 = .ok (.ireturn, 1) := by decide +kernel
set_option maxRecDepth 20000 in
theorem ggX8_winners_X8_winnersAt : GoodIn wsX8_winners wsX8_winnersAt := goodIn_ca (goodIn_r _ [7, 8, 2, 9, 10, 11, 12, 13, 14, 15, 6, 16, 17, 18, 19, 20, 21, 22, 23, 24, 25, 26, 27, 28, 29, 30, 31, 32, 33, 34, 35, 36, 37, 38, 39, 40, 41, 42, 43, 44, 45, 46, 47, 48, 49] rfl (by decide +kernel)) (goodIn_sub (fun _ h => List.mem_cons_of_mem _ (List.mem_append_right _ h)) (by decide +kernel))
set_option maxRecDepth 20000 in
theorem gX8_winners_X8_winnersAt : GoodIn wsX8_winners (wsV RX8 142 RX8 yX8_winnersAt wsX8_winnersAt) := goodIn_app (goodIn_r _ [3, 4, 5, 6] rfl (by decide +kernel)) ggX8_winners_X8_winnersAt
theorem dX8_winners_0 : decode cX8_winners 0 = .ok (.aload_n 0, 1) := by decide +kernel
theorem dX8_winners_1 : decode cX8_winners 1 = .ok (.iconst 0, 1) := by decide +kernel
theorem dX8_winners_2 : decode cX8_winners 2 = .ok (.putfield 36, 3) := by decide +kernel
theorem dX8_winners_5 : decode cX8_winners 5 = .ok (.aload_n 0, 1) := by decide +kernel
theorem dX8_winners_6 : decode cX8_winners 6 = .ok (.aload_n 0, 1) := by decide +kernel
theorem dX8_winners_7 : decode cX8_winners 7 = .ok (.getfield 9, 3) := by decide +kernel
theorem dX8_winners_10 : decode cX8_winners 10 = .ok (.iconst 1, 1) := by decide +kernel
theorem dX8_winners_11 : decode cX8_winners 11 = .ok (.iaload, 1) := by decide +kernel
theorem dX8_winners_12 : decode cX8_winners 12 = .ok (.invokevirtual 142, 3) := by decide +kernel
theorem dX8_winners_15 : decode cX8_winners 15 = .ok (.ireturn, 1) := by decide +kernel
set_option maxRecDepth 20000 in
theorem ggX8_winnersAgain_X8_winners : GoodIn wsX8_winnersAgain wsX8_winners := goodIn_ca (goodIn_r _ [5, 6, 7, 8, 9, 10, 4, 11, 12, 13, 14, 15, 16, 17, 18, 19, 20, 21, 22, 23, 24, 25, 26, 27, 28, 29, 30, 31, 32, 33, 34, 35, 36, 37, 38, 39, 40, 41, 42, 43, 44, 45, 46, 47, 48, 49, 50, 51, 52, 53] rfl (by decide +kernel)) (goodIn_sub (fun _ h => List.mem_cons_of_mem _ (List.mem_append_right _ h)) (by decide +kernel))
set_option maxRecDepth 20000 in
theorem gX8_winnersAgain_X8_winners : GoodIn wsX8_winnersAgain (wsV RX8 164 RX8 yX8_winners wsX8_winners) := goodIn_app (goodIn_r _ [1, 2, 3, 4] rfl (by decide +kernel)) ggX8_winnersAgain_X8_winners
theorem dX8_winnersAgain_0 : decode cX8_winnersAgain 0 = .ok (.aload_n 0, 1) := by decide +kernel
theorem dX8_winnersAgain_1 : decode cX8_winnersAgain 1 = .ok (.invokevirtual 164, 3) := by decide +kernel
theorem dX8_winnersAgain_4 : decode cX8_winnersAgain 4 = .ok (.ireturn, 1) := by decide +kernel
set_option maxRecDepth 20000 in
theorem ggX8_share_X8_winnersAt : GoodIn wsX8_share wsX8_winnersAt := goodIn_ca (goodIn_r _ [7, 8, 2, 9, 10, 11, 12, 13, 14, 15, 6, 16, 17, 18, 19, 20, 21, 22, 23, 24, 25, 26, 27, 28, 29, 30, 38, 39, 40, 41, 42, 43, 44, 45, 46, 47, 48, 49, 50, 51, 52, 53, 54, 55, 56] rfl (by decide +kernel)) (goodIn_sub (fun _ h => List.mem_cons_of_mem _ (List.mem_append_left _ (List.mem_append_right _ h))) (by decide +kernel))
set_option maxRecDepth 20000 in
theorem gX8_share_X8_winnersAt : GoodIn wsX8_share (wsV RX8 142 RX8 yX8_winnersAt wsX8_winnersAt) := goodIn_app (goodIn_r _ [3, 4, 5, 6] rfl (by decide +kernel)) ggX8_share_X8_winnersAt
set_option maxRecDepth 20000 in
theorem ggX8_share_J6_bitCount_0f7a4 : GoodIn wsX8_share wsJ6_bitCount_0f7a4 := goodIn_r _ [34, 35, 36, 37] rfl (by decide +kernel)
set_option maxRecDepth 20000 in
theorem gX8_share_J6_bitCount_0f7a4 : GoodIn wsX8_share (va_wsS RX8 145 yJ6_bitCount_0f7a4 wsJ6_bitCount_0f7a4) := goodIn_app (goodIn_r _ [31, 32, 33] rfl (by decide +kernel)) ggX8_share_J6_bitCount_0f7a4
theorem dX8_share_0 : decode cX8_share 0 = .ok (.aload_n 0, 1) := by decide +kernel
theorem dX8_share_1 : decode cX8_share 1 = .ok (.iconst 0, 1) := by decide +kernel
theorem dX8_share_2 : decode cX8_share 2 = .ok (.putfield 36, 3) := by decide +kernel
theorem dX8_share_5 : decode cX8_share 5 = .ok (.aload_n 0, 1) := by decide +kernel
theorem dX8_share_6 : decode cX8_share 6 = .ok (.aload_n 0, 1) := by decide +kernel
theorem dX8_share_7 : decode cX8_share 7 = .ok (.getfield 9, 3) := by decide +kernel
theorem dX8_share_10 : decode cX8_share 10 = .ok (.iconst 1, 1) := by decide +kernel
theorem dX8_share_11 : decode cX8_share 11 = .ok (.iaload, 1) := by decide +kernel
theorem dX8_share_12 : decode cX8_share 12 = .ok (.invokevirtual 142, 3) := by decide +kernel
theorem dX8_share_15 : decode cX8_share 15 = .ok (.invokestatic 145, 3) := by decide +kernel
theorem dX8_share_18 : decode cX8_share 18 = .ok (.istore_n 1, 1) := by decide +kernel
theorem dX8_share_19 : decode cX8_share 19 = .ok (.iload_n 1, 1) := by decide +kernel
theorem dX8_share_20 : decode cX8_share 20 = .ok (.ifCond .ne 7, 3) := by decide +kernel
theorem dX8_share_23 : decode cX8_share 23 = .ok (.iconst 0, 1) := by decide +kernel
theorem dX8_share_24 : decode cX8_share 24 = .ok (.goto 12, 3) := by decide +kernel
theorem dX8_share_27 : decode cX8_share 27 = .ok (.aload_n 0, 1) := by decide +kernel
theorem dX8_share_28 : decode cX8_share 28 = .ok (.getfield 9, 3) := by decide +kernel
theorem dX8_share_31 : decode cX8_share 31 = .ok (.bipush 7, 2) := by decide +kernel
theorem dX8_share_33 : decode cX8_share 33 = .ok (.iaload, 1) := by decide +kernel
theorem dX8_share_34 : decode cX8_share 34 = .ok (.iload_n 1, 1) := by decide +kernel
theorem dX8_share_35 : decode cX8_share 35 = .ok (.idiv, 1) := by decide +kernel
theorem dX8_share_36 : decode cX8_share 36 = .ok (.ireturn, 1) := by decide +kernel
set_option maxRecDepth 20000 in
theorem ggX8_winnersBehind_X8_winnersAt : GoodIn wsX8_winnersBehind wsX8_winnersAt := goodIn_ca (goodIn_r _ [13, 14, 1, 2, 3, 4, 5, 15, 16, 17, 12, 18, 19, 20, 21, 22, 23, 24, 25, 26, 27, 28, 29, 30, 31, 32, 33, 34, 35, 36, 37, 38, 39, 40, 41, 42, 43, 44, 45, 46, 47, 48, 49, 50, 51] rfl (by decide +kernel)) (goodIn_sub (fun _ h => List.mem_cons_of_mem _ (List.mem_append_right _ h)) (by decide +kernel))
set_option maxRecDepth 20000 in
theorem gX8_winnersBehind_X8_winnersAt : GoodIn wsX8_winnersBehind (wsV RX8 142 RX8 yX8_winnersAt wsX8_winnersAt) := goodIn_app (goodIn_r _ [9, 10, 11, 12] rfl (by decide +kernel)) ggX8_winnersBehind_X8_winnersAt
theorem dX8_winnersBehind_0 : decode cX8_winnersBehind 0 = .ok (.aload_n 0, 1) := by decide +kernel
theorem dX8_winnersBehind_1 : decode cX8_winnersBehind 1 = .ok (.sipush 900, 3) := by decide +kernel
theorem dX8_winnersBehind_4 : decode cX8_winnersBehind 4 = .ok (.sipush 1100, 3) := by decide +kernel
theorem dX8_winnersBehind_7 : decode cX8_winnersBehind 7 = .ok (.aload_n 0, 1) := by decide +kernel
theorem dX8_winnersBehind_8 : decode cX8_winnersBehind 8 = .ok (.getfield 9, 3) := by decide +kernel
theorem dX8_winnersBehind_11 : decode cX8_winnersBehind 11 = .ok (.iconst 1, 1) := by decide +kernel
theorem dX8_winnersBehind_12 : decode cX8_winnersBehind 12 = .ok (.iaload, 1) := by decide +kernel
theorem dX8_winnersBehind_13 : decode cX8_winnersBehind 13 = .ok (.iload_n 1, 1) := by decide +kernel
theorem dX8_winnersBehind_14 : decode cX8_winnersBehind 14 = .ok (.iadd, 1) := by decide +kernel
theorem dX8_winnersBehind_15 : decode cX8_winnersBehind 15 = .ok (.invokestatic 161, 3) := by decide +kernel
theorem dX8_winnersBehind_18 : decode cX8_winnersBehind 18 = .ok (.invokestatic 167, 3) := by decide +kernel
theorem dX8_winnersBehind_21 : decode cX8_winnersBehind 21 = .ok (.invokevirtual 142, 3) := by decide +kernel
theorem dX8_winnersBehind_24 : decode cX8_winnersBehind 24 = .ok (.ireturn, 1) := by decide +kernel
set_option maxRecDepth 20000 in
theorem ggX8_wouldWin_X8_in : GoodIn wsX8_wouldWin wsX8_in := goodIn_r _ [5] rfl (by decide +kernel)
set_option maxRecDepth 20000 in
theorem gX8_wouldWin_X8_in : GoodIn wsX8_wouldWin (va_wsS RX8 61 yX8_in wsX8_in) := goodIn_app (goodIn_r _ [2, 3, 4] rfl (by decide +kernel)) ggX8_wouldWin_X8_in
set_option maxRecDepth 20000 in
theorem ggX8_wouldWin_X8_winnersBehind : GoodIn wsX8_wouldWin wsX8_winnersBehind := goodIn_ca (goodIn_r _ [9, 10, 11, 12, 13, 14, 15, 16, 17, 18, 19, 20, 4, 21, 22, 23, 24, 25, 26, 27, 28, 29, 30, 31, 32, 33, 34, 35, 36, 37, 38, 39, 40, 41, 42, 43, 44, 45, 46, 47, 48, 49, 50, 51, 52, 53, 54, 55, 56, 57, 58, 59] rfl (by decide +kernel)) (goodIn_sub (fun _ h => List.mem_cons_of_mem _ (List.mem_append_right _ h)) (by decide +kernel))
set_option maxRecDepth 20000 in
theorem gX8_wouldWin_X8_winnersBehind : GoodIn wsX8_wouldWin (wsV RX8 170 RX8 yX8_winnersBehind wsX8_winnersBehind) := goodIn_app (goodIn_r _ [6, 7, 8, 4] rfl (by decide +kernel)) ggX8_wouldWin_X8_winnersBehind
theorem dX8_wouldWin_0 : decode cX8_wouldWin 0 = .ok (.aload_n 0, 1) := by decide +kernel
theorem dX8_wouldWin_1 : decode cX8_wouldWin 1 = .ok (.iload_n 1, 1) := by decide +kernel
theorem dX8_wouldWin_2 : decode cX8_wouldWin 2 = .ok (.bipush (-40), 2) := by decide +kernel
theorem dX8_wouldWin_4 : decode cX8_wouldWin 4 = .ok (.bipush 40, 2) := by decide +kernel
theorem dX8_wouldWin_6 : decode cX8_wouldWin 6 = .ok (.invokestatic 61, 3) := by decide +kernel
theorem dX8_wouldWin_9 : decode cX8_wouldWin 9 = .ok (.ifCond .eq 7, 3) := by decide +kernel
theorem dX8_wouldWin_12 : decode cX8_wouldWin 12 = .ok (.iconst 0, 1) := by decide +kernel
theorem dX8_wouldWin_13 : decode cX8_wouldWin 13 = .ok (.goto 4, 3) := by decide +kernel
theorem dX8_wouldWin_16 : decode cX8_wouldWin 16 = .ok (.iconst 1, 1) := by decide +kernel
theorem dX8_wouldWin_17 : decode cX8_wouldWin 17 = .ok (.putfield 36, 3) := by decide +kernel
theorem dX8_wouldWin_20 : decode cX8_wouldWin 20 = .ok (.aload_n 0, 1) := by decide +kernel
theorem dX8_wouldWin_21 : decode cX8_wouldWin 21 = .ok (.getfield 36, 3) := by decide +kernel
theorem dX8_wouldWin_24 : decode cX8_wouldWin 24 = .ok (.ifCond .ne 11, 3) := by decide +kernel
theorem dX8_wouldWin_27 : decode cX8_wouldWin 27 = .ok (.aload_n 0, 1) := by decide +kernel
theorem dX8_wouldWin_28 : decode cX8_wouldWin 28 = .ok (.iload_n 1, 1) := by decide +kernel
theorem dX8_wouldWin_29 : decode cX8_wouldWin 29 = .ok (.invokevirtual 170, 3) := by decide +kernel
theorem dX8_wouldWin_32 : decode cX8_wouldWin 32 = .ok (.goto 4, 3) := by decide +kernel
theorem dX8_wouldWin_35 : decode cX8_wouldWin 35 = .ok (.iconst 0, 1) := by decide +kernel
theorem dX8_wouldWin_36 : decode cX8_wouldWin 36 = .ok (.ireturn, 1) := by decide +kernel
set_option maxRecDepth 20000 in
theorem ggX8_changeFor_X8_isMember : GoodIn wsX8_changeFor wsX8_isMember := goodIn_ca (goodIn_r _ [6, 7, 8, 9, 5, 10, 49, 50, 51, 52, 53, 54, 55, 56, 57, 58, 59, 60, 61, 62, 63, 64, 65, 66, 67] rfl (by decide +kernel)) (goodIn_sub (fun _ h => List.mem_cons_of_mem _ (List.mem_append_right _ h)) (by decide +kernel))
set_option maxRecDepth 20000 in
theorem gX8_changeFor_X8_isMember : GoodIn wsX8_changeFor (wsV RX8 65 RX8 yX8_isMember wsX8_isMember) := goodIn_app (goodIn_r _ [2, 3, 4, 5] rfl (by decide +kernel)) ggX8_changeFor_X8_isMember
set_option maxRecDepth 20000 in
theorem ggX8_changeFor_X8_raises : GoodIn wsX8_changeFor wsX8_raises := goodIn_r _ [14, 1, 49, 50, 51, 52, 53, 54, 55, 56, 57, 58, 59, 60, 61, 62, 63, 64, 65, 66, 67] rfl (by decide +kernel)
set_option maxRecDepth 20000 in
theorem gX8_changeFor_X8_raises : GoodIn wsX8_changeFor (wsV RX8 58 RX8 yX8_raises wsX8_raises) := goodIn_app (goodIn_r _ [11, 12, 13, 5] rfl (by decide +kernel)) ggX8_changeFor_X8_raises
set_option maxRecDepth 20000 in
theorem ggX8_changeFor_X8_winnersBehind : GoodIn wsX8_changeFor wsX8_winnersBehind := goodIn_ca (goodIn_r _ [18, 7, 19, 20, 21, 22, 23, 24, 25, 26, 27, 28, 5, 29, 30, 31, 32, 33, 34, 35, 36, 37, 38, 39, 40, 41, 42, 43, 44, 45, 46, 47, 48, 49, 50, 51, 52, 53, 54, 55, 56, 57, 58, 59, 60, 61, 62, 63, 64, 65, 66, 67] rfl (by decide +kernel)) (goodIn_sub (fun _ h => List.mem_cons_of_mem _ (List.mem_append_right _ h)) (by decide +kernel))
set_option maxRecDepth 20000 in
theorem gX8_changeFor_X8_winnersBehind : GoodIn wsX8_changeFor (wsV RX8 170 RX8 yX8_winnersBehind wsX8_winnersBehind) := goodIn_app (goodIn_r _ [15, 16, 17, 5] rfl (by decide +kernel)) ggX8_changeFor_X8_winnersBehind
theorem dX8_changeFor_0 : decode cX8_changeFor 0 = .ok (.aload_n 0, 1) := by decide +kernel
theorem dX8_changeFor_1 : decode cX8_changeFor 1 = .ok (.iconst 0, 1) := by decide +kernel
theorem dX8_changeFor_2 : decode cX8_changeFor 2 = .ok (.putfield 36, 3) := by decide +kernel
theorem dX8_changeFor_5 : decode cX8_changeFor 5 = .ok (.aload_n 0, 1) := by decide +kernel
theorem dX8_changeFor_6 : decode cX8_changeFor 6 = .ok (.iload_n 1, 1) := by decide +kernel
theorem dX8_changeFor_7 : decode cX8_changeFor 7 = .ok (.invokevirtual 65, 3) := by decide +kernel
theorem dX8_changeFor_10 : decode cX8_changeFor 10 = .ok (.ifCond .ne 9, 3) := by decide +kernel
theorem dX8_changeFor_13 : decode cX8_changeFor 13 = .ok (.aload_n 0, 1) := by decide +kernel
theorem dX8_changeFor_14 : decode cX8_changeFor 14 = .ok (.iconst 1, 1) := by decide +kernel
theorem dX8_changeFor_15 : decode cX8_changeFor 15 = .ok (.invokevirtual 58, 3) := by decide +kernel
theorem dX8_changeFor_18 : decode cX8_changeFor 18 = .ok (.ireturn, 1) := by decide +kernel
theorem dX8_changeFor_19 : decode cX8_changeFor 19 = .ok (.iconst 0, 1) := by decide +kernel
theorem dX8_changeFor_20 : decode cX8_changeFor 20 = .ok (.istore_n 2, 1) := by decide +kernel
theorem dX8_changeFor_21 : decode cX8_changeFor 21 = .ok (.iload_n 2, 1) := by decide +kernel
theorem dX8_changeFor_22 : decode cX8_changeFor 22 = .ok (.bipush 41, 2) := by decide +kernel
theorem dX8_changeFor_24 : decode cX8_changeFor 24 = .ok (.if_icmp .ge 37, 3) := by decide +kernel
theorem dX8_changeFor_27 : decode cX8_changeFor 27 = .ok (.aload_n 0, 1) := by decide +kernel
theorem dX8_changeFor_28 : decode cX8_changeFor 28 = .ok (.iload_n 2, 1) := by decide +kernel
theorem dX8_changeFor_29 : decode cX8_changeFor 29 = .ok (.ineg, 1) := by decide +kernel
theorem dX8_changeFor_30 : decode cX8_changeFor 30 = .ok (.invokevirtual 170, 3) := by decide +kernel
theorem dX8_changeFor_33 : decode cX8_changeFor 33 = .ok (.iconst 1, 1) := by decide +kernel
theorem dX8_changeFor_34 : decode cX8_changeFor 34 = .ok (.iload_n 1, 1) := by decide +kernel
theorem dX8_changeFor_35 : decode cX8_changeFor 35 = .ok (.ishl, 1) := by decide +kernel
theorem dX8_changeFor_36 : decode cX8_changeFor 36 = .ok (.if_icmp .ne 6, 3) := by decide +kernel
theorem dX8_changeFor_39 : decode cX8_changeFor 39 = .ok (.iload_n 2, 1) := by decide +kernel
theorem dX8_changeFor_40 : decode cX8_changeFor 40 = .ok (.ineg, 1) := by decide +kernel
theorem dX8_changeFor_41 : decode cX8_changeFor 41 = .ok (.ireturn, 1) := by decide +kernel
theorem dX8_changeFor_42 : decode cX8_changeFor 42 = .ok (.aload_n 0, 1) := by decide +kernel
theorem dX8_changeFor_43 : decode cX8_changeFor 43 = .ok (.iload_n 2, 1) := by decide +kernel
theorem dX8_changeFor_44 : decode cX8_changeFor 44 = .ok (.invokevirtual 170, 3) := by decide +kernel
theorem dX8_changeFor_47 : decode cX8_changeFor 47 = .ok (.iconst 1, 1) := by decide +kernel
theorem dX8_changeFor_48 : decode cX8_changeFor 48 = .ok (.iload_n 1, 1) := by decide +kernel
theorem dX8_changeFor_49 : decode cX8_changeFor 49 = .ok (.ishl, 1) := by decide +kernel
theorem dX8_changeFor_50 : decode cX8_changeFor 50 = .ok (.if_icmp .ne 5, 3) := by decide +kernel
theorem dX8_changeFor_53 : decode cX8_changeFor 53 = .ok (.iload_n 2, 1) := by decide +kernel
theorem dX8_changeFor_54 : decode cX8_changeFor 54 = .ok (.ireturn, 1) := by decide +kernel
theorem dX8_changeFor_55 : decode cX8_changeFor 55 = .ok (.iinc 2 1, 3) := by decide +kernel
theorem dX8_changeFor_58 : decode cX8_changeFor 58 = .ok (.goto (-37), 3) := by decide +kernel
theorem dX8_changeFor_61 : decode cX8_changeFor 61 = .ok (.aload_n 0, 1) := by decide +kernel
theorem dX8_changeFor_62 : decode cX8_changeFor 62 = .ok (.iconst 2, 1) := by decide +kernel
theorem dX8_changeFor_63 : decode cX8_changeFor 63 = .ok (.invokevirtual 58, 3) := by decide +kernel
theorem dX8_changeFor_66 : decode cX8_changeFor 66 = .ok (.ireturn, 1) := by decide +kernel
set_option maxRecDepth 20000 in
theorem ggX8_bestGuess_X8_isMember : GoodIn wsX8_bestGuess wsX8_isMember := goodIn_ca (goodIn_r _ [14, 2, 15, 16, 13, 17, 26, 27, 28, 29, 30, 31, 32, 33, 34, 35, 36, 37, 38, 39, 40, 41, 42, 43, 44] rfl (by decide +kernel)) (goodIn_sub (fun _ h => List.mem_cons_of_mem _ (List.mem_append_right _ h)) (by decide +kernel))
set_option maxRecDepth 20000 in
theorem gX8_bestGuess_X8_isMember : GoodIn wsX8_bestGuess (wsV RX8 65 RX8 yX8_isMember wsX8_isMember) := goodIn_app (goodIn_r _ [10, 11, 12, 13] rfl (by decide +kernel)) ggX8_bestGuess_X8_isMember
set_option maxRecDepth 20000 in
theorem ggX8_bestGuess_X8_needleAt : GoodIn wsX8_bestGuess wsX8_needleAt := goodIn_ca (goodIn_r _ [21, 22, 23, 24, 13, 25, 2, 26, 27, 28, 29, 30, 31, 32, 33, 34, 35, 36, 37, 38, 39, 40, 41, 42, 43, 44] rfl (by decide +kernel)) (goodIn_sub (fun _ h => List.mem_cons_of_mem _ (List.mem_append_right _ h)) (by decide +kernel))
set_option maxRecDepth 20000 in
theorem gX8_bestGuess_X8_needleAt : GoodIn wsX8_bestGuess (wsV RX8 154 RX8 yX8_needleAt wsX8_needleAt) := goodIn_app (goodIn_r _ [18, 19, 20, 13] rfl (by decide +kernel)) ggX8_bestGuess_X8_needleAt
theorem dX8_bestGuess_0 : decode cX8_bestGuess 0 = .ok (.aload_n 0, 1) := by decide +kernel
theorem dX8_bestGuess_1 : decode cX8_bestGuess 1 = .ok (.aload_n 0, 1) := by decide +kernel
theorem dX8_bestGuess_2 : decode cX8_bestGuess 2 = .ok (.iload_n 1, 1) := by decide +kernel
theorem dX8_bestGuess_3 : decode cX8_bestGuess 3 = .ok (.invokevirtual 65, 3) := by decide +kernel
theorem dX8_bestGuess_6 : decode cX8_bestGuess 6 = .ok (.ifCond .eq 7, 3) := by decide +kernel
theorem dX8_bestGuess_9 : decode cX8_bestGuess 9 = .ok (.iconst 0, 1) := by decide +kernel
theorem dX8_bestGuess_10 : decode cX8_bestGuess 10 = .ok (.goto 4, 3) := by decide +kernel
theorem dX8_bestGuess_13 : decode cX8_bestGuess 13 = .ok (.iconst 1, 1) := by decide +kernel
theorem dX8_bestGuess_14 : decode cX8_bestGuess 14 = .ok (.putfield 36, 3) := by decide +kernel
theorem dX8_bestGuess_17 : decode cX8_bestGuess 17 = .ok (.aload_n 0, 1) := by decide +kernel
theorem dX8_bestGuess_18 : decode cX8_bestGuess 18 = .ok (.getfield 36, 3) := by decide +kernel
theorem dX8_bestGuess_21 : decode cX8_bestGuess 21 = .ok (.ifCond .ne 29, 3) := by decide +kernel
theorem dX8_bestGuess_24 : decode cX8_bestGuess 24 = .ok (.sipush 700, 3) := by decide +kernel
theorem dX8_bestGuess_27 : decode cX8_bestGuess 27 = .ok (.sipush 1100, 3) := by decide +kernel
theorem dX8_bestGuess_30 : decode cX8_bestGuess 30 = .ok (.aload_n 0, 1) := by decide +kernel
theorem dX8_bestGuess_31 : decode cX8_bestGuess 31 = .ok (.iload_n 1, 1) := by decide +kernel
theorem dX8_bestGuess_32 : decode cX8_bestGuess 32 = .ok (.aload_n 0, 1) := by decide +kernel
theorem dX8_bestGuess_33 : decode cX8_bestGuess 33 = .ok (.getfield 9, 3) := by decide +kernel
theorem dX8_bestGuess_36 : decode cX8_bestGuess 36 = .ok (.iconst 1, 1) := by decide +kernel
theorem dX8_bestGuess_37 : decode cX8_bestGuess 37 = .ok (.iaload, 1) := by decide +kernel
theorem dX8_bestGuess_38 : decode cX8_bestGuess 38 = .ok (.invokevirtual 154, 3) := by decide +kernel
theorem dX8_bestGuess_41 : decode cX8_bestGuess 41 = .ok (.invokestatic 161, 3) := by decide +kernel
theorem dX8_bestGuess_44 : decode cX8_bestGuess 44 = .ok (.invokestatic 167, 3) := by decide +kernel
theorem dX8_bestGuess_47 : decode cX8_bestGuess 47 = .ok (.goto 4, 3) := by decide +kernel
theorem dX8_bestGuess_50 : decode cX8_bestGuess 50 = .ok (.iconst 0, 1) := by decide +kernel
theorem dX8_bestGuess_51 : decode cX8_bestGuess 51 = .ok (.ireturn, 1) := by decide +kernel
set_option maxRecDepth 20000 in
theorem ggX8_nearestFree_X8_isMember : GoodIn wsX8_nearestFree wsX8_isMember := goodIn_ca (goodIn_r _ [6, 7, 8, 9, 5, 10, 23, 24, 25, 26, 27, 28, 29, 30, 31, 32, 33, 34, 35, 36, 37, 38, 39, 40, 41] rfl (by decide +kernel)) (goodIn_sub (fun _ h => List.mem_cons_of_mem _ (List.mem_append_right _ h)) (by decide +kernel))
set_option maxRecDepth 20000 in
theorem gX8_nearestFree_X8_isMember : GoodIn wsX8_nearestFree (wsV RX8 65 RX8 yX8_isMember wsX8_isMember) := goodIn_app (goodIn_r _ [2, 3, 4, 5] rfl (by decide +kernel)) ggX8_nearestFree_X8_isMember
set_option maxRecDepth 20000 in
theorem ggX8_nearestFree_X8_raises : GoodIn wsX8_nearestFree wsX8_raises := goodIn_r _ [14, 1, 23, 24, 25, 26, 27, 28, 29, 30, 31, 32, 33, 34, 35, 36, 37, 38, 39, 40, 41] rfl (by decide +kernel)
set_option maxRecDepth 20000 in
theorem gX8_nearestFree_X8_raises : GoodIn wsX8_nearestFree (wsV RX8 58 RX8 yX8_raises wsX8_raises) := goodIn_app (goodIn_r _ [11, 12, 13, 5] rfl (by decide +kernel)) ggX8_nearestFree_X8_raises
set_option maxRecDepth 20000 in
theorem ggX8_nearestFree_X8_of : GoodIn wsX8_nearestFree wsX8_of := goodIn_ca (goodIn_r _ [18, 7, 23, 24, 25, 26, 27, 28, 29, 30, 31, 32, 33, 34, 35, 36, 37, 38, 39, 40, 41] rfl (by decide +kernel)) (goodIn_sub (fun _ h => List.mem_cons_of_mem _ (List.mem_append_right _ h)) (by decide +kernel))
set_option maxRecDepth 20000 in
theorem gX8_nearestFree_X8_of : GoodIn wsX8_nearestFree (wsV RX8 73 RX8 yX8_of wsX8_of) := goodIn_app (goodIn_r _ [15, 16, 17, 5] rfl (by decide +kernel)) ggX8_nearestFree_X8_of
set_option maxRecDepth 20000 in
theorem ggX8_nearestFree_X8_ownerOf : GoodIn wsX8_nearestFree wsX8_ownerOf := goodIn_ca (goodIn_r _ [22, 7, 15, 16, 17, 5, 18, 23, 24, 25, 26, 27, 28, 29, 30, 31, 32, 33, 34, 35, 36, 37, 38, 39, 40, 41] rfl (by decide +kernel)) (goodIn_sub (fun _ h => List.mem_cons_of_mem _ (List.mem_append_right _ h)) (by decide +kernel))
set_option maxRecDepth 20000 in
theorem gX8_nearestFree_X8_ownerOf : GoodIn wsX8_nearestFree (wsV RX8 81 RX8 yX8_ownerOf wsX8_ownerOf) := goodIn_app (goodIn_r _ [19, 20, 21, 5] rfl (by decide +kernel)) ggX8_nearestFree_X8_ownerOf
theorem dX8_nearestFree_0 : decode cX8_nearestFree 0 = .ok (.aload_n 0, 1) := by decide +kernel
theorem dX8_nearestFree_1 : decode cX8_nearestFree 1 = .ok (.iconst 0, 1) := by decide +kernel
theorem dX8_nearestFree_2 : decode cX8_nearestFree 2 = .ok (.putfield 36, 3) := by decide +kernel
theorem dX8_nearestFree_5 : decode cX8_nearestFree 5 = .ok (.aload_n 0, 1) := by decide +kernel
theorem dX8_nearestFree_6 : decode cX8_nearestFree 6 = .ok (.iload_n 1, 1) := by decide +kernel
theorem dX8_nearestFree_7 : decode cX8_nearestFree 7 = .ok (.invokevirtual 65, 3) := by decide +kernel
theorem dX8_nearestFree_10 : decode cX8_nearestFree 10 = .ok (.ifCond .ne 9, 3) := by decide +kernel
theorem dX8_nearestFree_13 : decode cX8_nearestFree 13 = .ok (.aload_n 0, 1) := by decide +kernel
theorem dX8_nearestFree_14 : decode cX8_nearestFree 14 = .ok (.iconst 1, 1) := by decide +kernel
theorem dX8_nearestFree_15 : decode cX8_nearestFree 15 = .ok (.invokevirtual 58, 3) := by decide +kernel
theorem dX8_nearestFree_18 : decode cX8_nearestFree 18 = .ok (.ireturn, 1) := by decide +kernel
theorem dX8_nearestFree_19 : decode cX8_nearestFree 19 = .ok (.aload_n 0, 1) := by decide +kernel
theorem dX8_nearestFree_20 : decode cX8_nearestFree 20 = .ok (.iload_n 1, 1) := by decide +kernel
theorem dX8_nearestFree_21 : decode cX8_nearestFree 21 = .ok (.iconst 1, 1) := by decide +kernel
theorem dX8_nearestFree_22 : decode cX8_nearestFree 22 = .ok (.invokevirtual 73, 3) := by decide +kernel
theorem dX8_nearestFree_25 : decode cX8_nearestFree 25 = .ok (.istore_n 2, 1) := by decide +kernel
theorem dX8_nearestFree_26 : decode cX8_nearestFree 26 = .ok (.iconst 1, 1) := by decide +kernel
theorem dX8_nearestFree_27 : decode cX8_nearestFree 27 = .ok (.istore_n 3, 1) := by decide +kernel
theorem dX8_nearestFree_28 : decode cX8_nearestFree 28 = .ok (.iload_n 3, 1) := by decide +kernel
theorem dX8_nearestFree_29 : decode cX8_nearestFree 29 = .ok (.bipush 10, 2) := by decide +kernel
theorem dX8_nearestFree_31 : decode cX8_nearestFree 31 = .ok (.if_icmp .ge 63, 3) := by decide +kernel
theorem dX8_nearestFree_34 : decode cX8_nearestFree 34 = .ok (.iconst 2, 1) := by decide +kernel
theorem dX8_nearestFree_35 : decode cX8_nearestFree 35 = .ok (.iload_n 3, 1) := by decide +kernel
theorem dX8_nearestFree_36 : decode cX8_nearestFree 36 = .ok (.imul, 1) := by decide +kernel
theorem dX8_nearestFree_37 : decode cX8_nearestFree 37 = .ok (.aload_n 0, 1) := by decide +kernel
theorem dX8_nearestFree_38 : decode cX8_nearestFree 38 = .ok (.iload_n 1, 1) := by decide +kernel
theorem dX8_nearestFree_39 : decode cX8_nearestFree 39 = .ok (.iconst 0, 1) := by decide +kernel
theorem dX8_nearestFree_40 : decode cX8_nearestFree 40 = .ok (.invokevirtual 73, 3) := by decide +kernel
theorem dX8_nearestFree_43 : decode cX8_nearestFree 43 = .ok (.if_icmp .gt 51, 3) := by decide +kernel
theorem dX8_nearestFree_46 : decode cX8_nearestFree 46 = .ok (.iload_n 2, 1) := by decide +kernel
theorem dX8_nearestFree_47 : decode cX8_nearestFree 47 = .ok (.iload_n 3, 1) := by decide +kernel
theorem dX8_nearestFree_48 : decode cX8_nearestFree 48 = .ok (.isub, 1) := by decide +kernel
theorem dX8_nearestFree_49 : decode cX8_nearestFree 49 = .ok (.ifCond .lt 17, 3) := by decide +kernel
theorem dX8_nearestFree_52 : decode cX8_nearestFree 52 = .ok (.aload_n 0, 1) := by decide +kernel
theorem dX8_nearestFree_53 : decode cX8_nearestFree 53 = .ok (.iload_n 2, 1) := by decide +kernel
theorem dX8_nearestFree_54 : decode cX8_nearestFree 54 = .ok (.iload_n 3, 1) := by decide +kernel
theorem dX8_nearestFree_55 : decode cX8_nearestFree 55 = .ok (.isub, 1) := by decide +kernel
theorem dX8_nearestFree_56 : decode cX8_nearestFree 56 = .ok (.invokevirtual 81, 3) := by decide +kernel
theorem dX8_nearestFree_59 : decode cX8_nearestFree 59 = .ok (.ifCond .ge 7, 3) := by decide +kernel
theorem dX8_nearestFree_62 : decode cX8_nearestFree 62 = .ok (.iload_n 2, 1) := by decide +kernel
theorem dX8_nearestFree_63 : decode cX8_nearestFree 63 = .ok (.iload_n 3, 1) := by decide +kernel
theorem dX8_nearestFree_64 : decode cX8_nearestFree 64 = .ok (.isub, 1) := by decide +kernel
theorem dX8_nearestFree_65 : decode cX8_nearestFree 65 = .ok (.ireturn, 1) := by decide +kernel
theorem dX8_nearestFree_66 : decode cX8_nearestFree 66 = .ok (.iload_n 2, 1) := by decide +kernel
theorem dX8_nearestFree_67 : decode cX8_nearestFree 67 = .ok (.iload_n 3, 1) := by decide +kernel
theorem dX8_nearestFree_68 : decode cX8_nearestFree 68 = .ok (.iadd, 1) := by decide +kernel
theorem dX8_nearestFree_69 : decode cX8_nearestFree 69 = .ok (.bipush 10, 2) := by decide +kernel
theorem dX8_nearestFree_71 : decode cX8_nearestFree 71 = .ok (.if_icmp .ge 17, 3) := by decide +kernel
theorem dX8_nearestFree_74 : decode cX8_nearestFree 74 = .ok (.aload_n 0, 1) := by decide +kernel
theorem dX8_nearestFree_75 : decode cX8_nearestFree 75 = .ok (.iload_n 2, 1) := by decide +kernel
theorem dX8_nearestFree_76 : decode cX8_nearestFree 76 = .ok (.iload_n 3, 1) := by decide +kernel
theorem dX8_nearestFree_77 : decode cX8_nearestFree 77 = .ok (.iadd, 1) := by decide +kernel
theorem dX8_nearestFree_78 : decode cX8_nearestFree 78 = .ok (.invokevirtual 81, 3) := by decide +kernel
theorem dX8_nearestFree_81 : decode cX8_nearestFree 81 = .ok (.ifCond .ge 7, 3) := by decide +kernel
theorem dX8_nearestFree_84 : decode cX8_nearestFree 84 = .ok (.iload_n 2, 1) := by decide +kernel
theorem dX8_nearestFree_85 : decode cX8_nearestFree 85 = .ok (.iload_n 3, 1) := by decide +kernel
theorem dX8_nearestFree_86 : decode cX8_nearestFree 86 = .ok (.iadd, 1) := by decide +kernel
theorem dX8_nearestFree_87 : decode cX8_nearestFree 87 = .ok (.ireturn, 1) := by decide +kernel
theorem dX8_nearestFree_88 : decode cX8_nearestFree 88 = .ok (.iinc 3 1, 3) := by decide +kernel
theorem dX8_nearestFree_91 : decode cX8_nearestFree 91 = .ok (.goto (-63), 3) := by decide +kernel
theorem dX8_nearestFree_94 : decode cX8_nearestFree 94 = .ok (.aload_n 0, 1) := by decide +kernel
theorem dX8_nearestFree_95 : decode cX8_nearestFree 95 = .ok (.iconst 2, 1) := by decide +kernel
theorem dX8_nearestFree_96 : decode cX8_nearestFree 96 = .ok (.invokevirtual 58, 3) := by decide +kernel
theorem dX8_nearestFree_99 : decode cX8_nearestFree 99 = .ok (.ireturn, 1) := by decide +kernel
set_option maxRecDepth 20000 in
theorem ggX8_measure_X8_of : GoodIn wsX8_measure wsX8_of := goodIn_ca (goodIn_r _ [6, 1, 11, 12, 13, 14, 15, 16, 17, 18, 19, 20, 21, 22, 23, 24, 25, 26, 27, 28, 29] rfl (by decide +kernel)) (goodIn_sub (fun _ h => List.mem_cons_of_mem _ (List.mem_append_right _ h)) (by decide +kernel))
set_option maxRecDepth 20000 in
theorem gX8_measure_X8_of : GoodIn wsX8_measure (wsV RX8 73 RX8 yX8_of wsX8_of) := goodIn_app (goodIn_r _ [2, 3, 4, 5] rfl (by decide +kernel)) ggX8_measure_X8_of
set_option maxRecDepth 20000 in
theorem ggX8_measure_X8_needleAt : GoodIn wsX8_measure wsX8_needleAt := goodIn_ca (goodIn_r _ [10, 2, 3, 4, 5, 6, 1, 11, 12, 13, 14, 15, 16, 17, 18, 19, 20, 21, 22, 23, 24, 25, 26, 27, 28, 29] rfl (by decide +kernel)) (goodIn_sub (fun _ h => List.mem_cons_of_mem _ (List.mem_append_right _ h)) (by decide +kernel))
set_option maxRecDepth 20000 in
theorem gX8_measure_X8_needleAt : GoodIn wsX8_measure (wsV RX8 154 RX8 yX8_needleAt wsX8_needleAt) := goodIn_app (goodIn_r _ [7, 8, 9, 5] rfl (by decide +kernel)) ggX8_measure_X8_needleAt
theorem dX8_measure_0 : decode cX8_measure 0 = .ok (.iload_n 2, 1) := by decide +kernel
theorem dX8_measure_1 : decode cX8_measure 1 = .ok (.ifCond .ne 12, 3) := by decide +kernel
theorem dX8_measure_4 : decode cX8_measure 4 = .ok (.aload_n 0, 1) := by decide +kernel
theorem dX8_measure_5 : decode cX8_measure 5 = .ok (.iload_n 1, 1) := by decide +kernel
theorem dX8_measure_6 : decode cX8_measure 6 = .ok (.iconst 0, 1) := by decide +kernel
theorem dX8_measure_7 : decode cX8_measure 7 = .ok (.invokevirtual 73, 3) := by decide +kernel
theorem dX8_measure_10 : decode cX8_measure 10 = .ok (.goto 43, 3) := by decide +kernel
theorem dX8_measure_13 : decode cX8_measure 13 = .ok (.iload_n 2, 1) := by decide +kernel
theorem dX8_measure_14 : decode cX8_measure 14 = .ok (.iconst 1, 1) := by decide +kernel
theorem dX8_measure_15 : decode cX8_measure 15 = .ok (.if_icmp .ne 12, 3) := by decide +kernel
theorem dX8_measure_18 : decode cX8_measure 18 = .ok (.aload_n 0, 1) := by decide +kernel
theorem dX8_measure_19 : decode cX8_measure 19 = .ok (.iload_n 1, 1) := by decide +kernel
theorem dX8_measure_20 : decode cX8_measure 20 = .ok (.iconst 1, 1) := by decide +kernel
theorem dX8_measure_21 : decode cX8_measure 21 = .ok (.invokevirtual 73, 3) := by decide +kernel
theorem dX8_measure_24 : decode cX8_measure 24 = .ok (.goto 29, 3) := by decide +kernel
theorem dX8_measure_27 : decode cX8_measure 27 = .ok (.iload_n 2, 1) := by decide +kernel
theorem dX8_measure_28 : decode cX8_measure 28 = .ok (.iconst 2, 1) := by decide +kernel
theorem dX8_measure_29 : decode cX8_measure 29 = .ok (.if_icmp .ne 17, 3) := by decide +kernel
theorem dX8_measure_32 : decode cX8_measure 32 = .ok (.aload_n 0, 1) := by decide +kernel
theorem dX8_measure_33 : decode cX8_measure 33 = .ok (.iload_n 1, 1) := by decide +kernel
theorem dX8_measure_34 : decode cX8_measure 34 = .ok (.aload_n 0, 1) := by decide +kernel
theorem dX8_measure_35 : decode cX8_measure 35 = .ok (.getfield 9, 3) := by decide +kernel
theorem dX8_measure_38 : decode cX8_measure 38 = .ok (.iconst 1, 1) := by decide +kernel
theorem dX8_measure_39 : decode cX8_measure 39 = .ok (.iaload, 1) := by decide +kernel
theorem dX8_measure_40 : decode cX8_measure 40 = .ok (.invokevirtual 154, 3) := by decide +kernel
theorem dX8_measure_43 : decode cX8_measure 43 = .ok (.goto 10, 3) := by decide +kernel
theorem dX8_measure_46 : decode cX8_measure 46 = .ok (.aload_n 0, 1) := by decide +kernel
theorem dX8_measure_47 : decode cX8_measure 47 = .ok (.iload_n 1, 1) := by decide +kernel
theorem dX8_measure_48 : decode cX8_measure 48 = .ok (.bipush 6, 2) := by decide +kernel
theorem dX8_measure_50 : decode cX8_measure 50 = .ok (.invokevirtual 73, 3) := by decide +kernel
theorem dX8_measure_53 : decode cX8_measure 53 = .ok (.ireturn, 1) := by decide +kernel
set_option maxRecDepth 20000 in
theorem ggX8_ranked_X8_in : GoodIn wsX8_ranked wsX8_in := goodIn_r _ [6] rfl (by decide +kernel)
set_option maxRecDepth 20000 in
theorem gX8_ranked_X8_in : GoodIn wsX8_ranked (va_wsS RX8 61 yX8_in wsX8_in) := goodIn_app (goodIn_r _ [3, 4, 5] rfl (by decide +kernel)) ggX8_ranked_X8_in
set_option maxRecDepth 20000 in
theorem ggX8_ranked_X8_raises : GoodIn wsX8_ranked wsX8_raises := goodIn_r _ [10, 1, 23, 24, 25, 26, 27, 28, 29, 30, 31, 32, 33, 34, 35, 36, 37, 38, 39, 40, 41] rfl (by decide +kernel)
set_option maxRecDepth 20000 in
theorem gX8_ranked_X8_raises : GoodIn wsX8_ranked (wsV RX8 58 RX8 yX8_raises wsX8_raises) := goodIn_app (goodIn_r _ [7, 8, 9, 5] rfl (by decide +kernel)) ggX8_ranked_X8_raises
set_option maxRecDepth 20000 in
theorem ggX8_ranked_X8_measure : GoodIn wsX8_ranked wsX8_measure := goodIn_ca (goodIn_r _ [14, 2, 15, 16, 17, 5, 18, 19, 20, 21, 22, 23, 24, 25, 26, 27, 28, 29, 30, 31, 32, 33, 34, 35, 36, 37, 38, 39, 40, 41] rfl (by decide +kernel)) (goodIn_sub (fun _ h => List.mem_cons_of_mem _ (List.mem_append_right _ h)) (by decide +kernel))
set_option maxRecDepth 20000 in
theorem gX8_ranked_X8_measure : GoodIn wsX8_ranked (wsV RX8 173 RX8 yX8_measure wsX8_measure) := goodIn_app (goodIn_r _ [11, 12, 13, 5] rfl (by decide +kernel)) ggX8_ranked_X8_measure
theorem dX8_ranked_0 : decode cX8_ranked 0 = .ok (.aload_n 0, 1) := by decide +kernel
theorem dX8_ranked_1 : decode cX8_ranked 1 = .ok (.iconst 0, 1) := by decide +kernel
theorem dX8_ranked_2 : decode cX8_ranked 2 = .ok (.putfield 36, 3) := by decide +kernel
theorem dX8_ranked_5 : decode cX8_ranked 5 = .ok (.iload_n 1, 1) := by decide +kernel
theorem dX8_ranked_6 : decode cX8_ranked 6 = .ok (.iconst 0, 1) := by decide +kernel
theorem dX8_ranked_7 : decode cX8_ranked 7 = .ok (.iconst 3, 1) := by decide +kernel
theorem dX8_ranked_8 : decode cX8_ranked 8 = .ok (.invokestatic 61, 3) := by decide +kernel
theorem dX8_ranked_11 : decode cX8_ranked 11 = .ok (.ifCond .ne 9, 3) := by decide +kernel
theorem dX8_ranked_14 : decode cX8_ranked 14 = .ok (.aload_n 0, 1) := by decide +kernel
theorem dX8_ranked_15 : decode cX8_ranked 15 = .ok (.iconst 1, 1) := by decide +kernel
theorem dX8_ranked_16 : decode cX8_ranked 16 = .ok (.invokevirtual 58, 3) := by decide +kernel
theorem dX8_ranked_19 : decode cX8_ranked 19 = .ok (.ireturn, 1) := by decide +kernel
theorem dX8_ranked_20 : decode cX8_ranked 20 = .ok (.iconst 0, 1) := by decide +kernel
theorem dX8_ranked_21 : decode cX8_ranked 21 = .ok (.istore_n 3, 1) := by decide +kernel
theorem dX8_ranked_22 : decode cX8_ranked 22 = .ok (.iload_n 3, 1) := by decide +kernel
theorem dX8_ranked_23 : decode cX8_ranked 23 = .ok (.aload_n 0, 1) := by decide +kernel
theorem dX8_ranked_24 : decode cX8_ranked 24 = .ok (.getfield 9, 3) := by decide +kernel
theorem dX8_ranked_27 : decode cX8_ranked 27 = .ok (.iconst 0, 1) := by decide +kernel
theorem dX8_ranked_28 : decode cX8_ranked 28 = .ok (.iaload, 1) := by decide +kernel
theorem dX8_ranked_29 : decode cX8_ranked 29 = .ok (.if_icmp .ge 75, 3) := by decide +kernel
theorem dX8_ranked_32 : decode cX8_ranked 32 = .ok (.iconst 0, 1) := by decide +kernel
theorem dX8_ranked_33 : decode cX8_ranked 33 = .ok (.istore 4, 2) := by decide +kernel
theorem dX8_ranked_35 : decode cX8_ranked 35 = .ok (.iconst 0, 1) := by decide +kernel
theorem dX8_ranked_36 : decode cX8_ranked 36 = .ok (.istore 5, 2) := by decide +kernel
theorem dX8_ranked_38 : decode cX8_ranked 38 = .ok (.iload 5, 2) := by decide +kernel
theorem dX8_ranked_40 : decode cX8_ranked 40 = .ok (.aload_n 0, 1) := by decide +kernel
theorem dX8_ranked_41 : decode cX8_ranked 41 = .ok (.getfield 9, 3) := by decide +kernel
theorem dX8_ranked_44 : decode cX8_ranked 44 = .ok (.iconst 0, 1) := by decide +kernel
theorem dX8_ranked_45 : decode cX8_ranked 45 = .ok (.iaload, 1) := by decide +kernel
theorem dX8_ranked_46 : decode cX8_ranked 46 = .ok (.if_icmp .ge 44, 3) := by decide +kernel
theorem dX8_ranked_49 : decode cX8_ranked 49 = .ok (.aload_n 0, 1) := by decide +kernel
theorem dX8_ranked_50 : decode cX8_ranked 50 = .ok (.iload 5, 2) := by decide +kernel
theorem dX8_ranked_52 : decode cX8_ranked 52 = .ok (.iload_n 1, 1) := by decide +kernel
theorem dX8_ranked_53 : decode cX8_ranked 53 = .ok (.invokevirtual 173, 3) := by decide +kernel
theorem dX8_ranked_56 : decode cX8_ranked 56 = .ok (.aload_n 0, 1) := by decide +kernel
theorem dX8_ranked_57 : decode cX8_ranked 57 = .ok (.iload_n 3, 1) := by decide +kernel
theorem dX8_ranked_58 : decode cX8_ranked 58 = .ok (.iload_n 1, 1) := by decide +kernel
theorem dX8_ranked_59 : decode cX8_ranked 59 = .ok (.invokevirtual 173, 3) := by decide +kernel
theorem dX8_ranked_62 : decode cX8_ranked 62 = .ok (.isub, 1) := by decide +kernel
theorem dX8_ranked_63 : decode cX8_ranked 63 = .ok (.istore 6, 2) := by decide +kernel
theorem dX8_ranked_65 : decode cX8_ranked 65 = .ok (.iload 6, 2) := by decide +kernel
theorem dX8_ranked_67 : decode cX8_ranked 67 = .ok (.ifCond .gt 14, 3) := by decide +kernel
theorem dX8_ranked_70 : decode cX8_ranked 70 = .ok (.iload 6, 2) := by decide +kernel
theorem dX8_ranked_72 : decode cX8_ranked 72 = .ok (.ifCond .ne 12, 3) := by decide +kernel
theorem dX8_ranked_75 : decode cX8_ranked 75 = .ok (.iload 5, 2) := by decide +kernel
theorem dX8_ranked_77 : decode cX8_ranked 77 = .ok (.iload_n 3, 1) := by decide +kernel
theorem dX8_ranked_78 : decode cX8_ranked 78 = .ok (.if_icmp .ge 6, 3) := by decide +kernel
theorem dX8_ranked_81 : decode cX8_ranked 81 = .ok (.iinc 4 1, 3) := by decide +kernel
theorem dX8_ranked_84 : decode cX8_ranked 84 = .ok (.iinc 5 1, 3) := by decide +kernel
theorem dX8_ranked_87 : decode cX8_ranked 87 = .ok (.goto (-49), 3) := by decide +kernel
theorem dX8_ranked_90 : decode cX8_ranked 90 = .ok (.iload 4, 2) := by decide +kernel
theorem dX8_ranked_92 : decode cX8_ranked 92 = .ok (.iload_n 2, 1) := by decide +kernel
theorem dX8_ranked_93 : decode cX8_ranked 93 = .ok (.if_icmp .ne 5, 3) := by decide +kernel
theorem dX8_ranked_96 : decode cX8_ranked 96 = .ok (.iload_n 3, 1) := by decide +kernel
theorem dX8_ranked_97 : decode cX8_ranked 97 = .ok (.ireturn, 1) := by decide +kernel
theorem dX8_ranked_98 : decode cX8_ranked 98 = .ok (.iinc 3 1, 3) := by decide +kernel
theorem dX8_ranked_101 : decode cX8_ranked 101 = .ok (.goto (-79), 3) := by decide +kernel
theorem dX8_ranked_104 : decode cX8_ranked 104 = .ok (.aload_n 0, 1) := by decide +kernel
theorem dX8_ranked_105 : decode cX8_ranked 105 = .ok (.iconst 2, 1) := by decide +kernel
theorem dX8_ranked_106 : decode cX8_ranked 106 = .ok (.invokevirtual 58, 3) := by decide +kernel
theorem dX8_ranked_109 : decode cX8_ranked 109 = .ok (.ireturn, 1) := by decide +kernel
set_option maxRecDepth 20000 in
theorem ggX8_weather_X8_in : GoodIn wsX8_weather wsX8_in := goodIn_r _ [6] rfl (by decide +kernel)
set_option maxRecDepth 20000 in
theorem gX8_weather_X8_in : GoodIn wsX8_weather (va_wsS RX8 61 yX8_in wsX8_in) := goodIn_app (goodIn_r _ [3, 4, 5] rfl (by decide +kernel)) ggX8_weather_X8_in
theorem dX8_weather_0 : decode cX8_weather 0 = .ok (.aload_n 0, 1) := by decide +kernel
theorem dX8_weather_1 : decode cX8_weather 1 = .ok (.iload_n 1, 1) := by decide +kernel
theorem dX8_weather_2 : decode cX8_weather 2 = .ok (.iconst 0, 1) := by decide +kernel
theorem dX8_weather_3 : decode cX8_weather 3 = .ok (.iconst 5, 1) := by decide +kernel
theorem dX8_weather_4 : decode cX8_weather 4 = .ok (.invokestatic 61, 3) := by decide +kernel
theorem dX8_weather_7 : decode cX8_weather 7 = .ok (.ifCond .eq 7, 3) := by decide +kernel
theorem dX8_weather_10 : decode cX8_weather 10 = .ok (.iconst 0, 1) := by decide +kernel
theorem dX8_weather_11 : decode cX8_weather 11 = .ok (.goto 4, 3) := by decide +kernel
theorem dX8_weather_14 : decode cX8_weather 14 = .ok (.iconst 1, 1) := by decide +kernel
theorem dX8_weather_15 : decode cX8_weather 15 = .ok (.putfield 36, 3) := by decide +kernel
theorem dX8_weather_18 : decode cX8_weather 18 = .ok (.aload_n 0, 1) := by decide +kernel
theorem dX8_weather_19 : decode cX8_weather 19 = .ok (.getfield 36, 3) := by decide +kernel
theorem dX8_weather_22 : decode cX8_weather 22 = .ok (.ifCond .ne 14, 3) := by decide +kernel
theorem dX8_weather_25 : decode cX8_weather 25 = .ok (.aload_n 0, 1) := by decide +kernel
theorem dX8_weather_26 : decode cX8_weather 26 = .ok (.getfield 9, 3) := by decide +kernel
theorem dX8_weather_29 : decode cX8_weather 29 = .ok (.iconst 1, 1) := by decide +kernel
theorem dX8_weather_30 : decode cX8_weather 30 = .ok (.iload_n 1, 1) := by decide +kernel
theorem dX8_weather_31 : decode cX8_weather 31 = .ok (.iadd, 1) := by decide +kernel
theorem dX8_weather_32 : decode cX8_weather 32 = .ok (.iaload, 1) := by decide +kernel
theorem dX8_weather_33 : decode cX8_weather 33 = .ok (.goto 4, 3) := by decide +kernel
theorem dX8_weather_36 : decode cX8_weather 36 = .ok (.iconst 0, 1) := by decide +kernel
theorem dX8_weather_37 : decode cX8_weather 37 = .ok (.ireturn, 1) := by decide +kernel
theorem dX8_isEven_0 : decode cX8_isEven 0 = .ok (.aload_n 0, 1) := by decide +kernel
theorem dX8_isEven_1 : decode cX8_isEven 1 = .ok (.iconst 0, 1) := by decide +kernel
theorem dX8_isEven_2 : decode cX8_isEven 2 = .ok (.putfield 36, 3) := by decide +kernel
theorem dX8_isEven_5 : decode cX8_isEven 5 = .ok (.iconst 1, 1) := by decide +kernel
theorem dX8_isEven_6 : decode cX8_isEven 6 = .ok (.ireturn, 1) := by decide +kernel
set_option maxRecDepth 20000 in
theorem ggX8_append_X8_raises : GoodIn wsX8_append wsX8_raises := goodIn_r _ [8, 1, 9, 10, 11, 12, 13, 14, 15, 16, 17, 18, 19, 20, 21, 22, 23, 24, 25, 26, 27] rfl (by decide +kernel)
set_option maxRecDepth 20000 in
theorem gX8_append_X8_raises : GoodIn wsX8_append (wsV RX8 58 RX8 yX8_raises wsX8_raises) := goodIn_app (goodIn_r _ [4, 5, 6, 7] rfl (by decide +kernel)) ggX8_append_X8_raises
theorem dX8_append_0 : decode cX8_append 0 = .ok (.aload_n 0, 1) := by decide +kernel
theorem dX8_append_1 : decode cX8_append 1 = .ok (.iconst 0, 1) := by decide +kernel
theorem dX8_append_2 : decode cX8_append 2 = .ok (.putfield 36, 3) := by decide +kernel
theorem dX8_append_5 : decode cX8_append 5 = .ok (.aload_n 0, 1) := by decide +kernel
theorem dX8_append_6 : decode cX8_append 6 = .ok (.getfield 176, 3) := by decide +kernel
theorem dX8_append_9 : decode cX8_append 9 = .ok (.bipush 60, 2) := by decide +kernel
theorem dX8_append_11 : decode cX8_append 11 = .ok (.if_icmp .ne 9, 3) := by decide +kernel
theorem dX8_append_14 : decode cX8_append 14 = .ok (.aload_n 0, 1) := by decide +kernel
theorem dX8_append_15 : decode cX8_append 15 = .ok (.iconst 1, 1) := by decide +kernel
theorem dX8_append_16 : decode cX8_append 16 = .ok (.invokevirtual 58, 3) := by decide +kernel
theorem dX8_append_19 : decode cX8_append 19 = .ok (.ireturn, 1) := by decide +kernel
theorem dX8_append_20 : decode cX8_append 20 = .ok (.aload_n 0, 1) := by decide +kernel
theorem dX8_append_21 : decode cX8_append 21 = .ok (.getfield 26, 3) := by decide +kernel
theorem dX8_append_24 : decode cX8_append 24 = .ok (.aload_n 0, 1) := by decide +kernel
theorem dX8_append_25 : decode cX8_append 25 = .ok (.dup, 1) := by decide +kernel
theorem dX8_append_26 : decode cX8_append 26 = .ok (.getfield 176, 3) := by decide +kernel
theorem dX8_append_29 : decode cX8_append 29 = .ok (.dup_x1, 1) := by decide +kernel
theorem dX8_append_30 : decode cX8_append 30 = .ok (.iconst 1, 1) := by decide +kernel
theorem dX8_append_31 : decode cX8_append 31 = .ok (.iadd, 1) := by decide +kernel
theorem dX8_append_32 : decode cX8_append 32 = .ok (.putfield 176, 3) := by decide +kernel
theorem dX8_append_35 : decode cX8_append 35 = .ok (.iload_n 1, 1) := by decide +kernel
theorem dX8_append_36 : decode cX8_append 36 = .ok (.castore, 1) := by decide +kernel
theorem dX8_append_37 : decode cX8_append 37 = .ok (.aload_n 0, 1) := by decide +kernel
theorem dX8_append_38 : decode cX8_append 38 = .ok (.getfield 176, 3) := by decide +kernel
theorem dX8_append_41 : decode cX8_append 41 = .ok (.ireturn, 1) := by decide +kernel
theorem dX8_takes_0 : decode cX8_takes 0 = .ok (.aload_n 0, 1) := by decide +kernel
theorem dX8_takes_1 : decode cX8_takes 1 = .ok (.getfield 179, 3) := by decide +kernel
theorem dX8_takes_4 : decode cX8_takes 4 = .ok (.aload_n 0, 1) := by decide +kernel
theorem dX8_takes_5 : decode cX8_takes 5 = .ok (.getfield 176, 3) := by decide +kernel
theorem dX8_takes_8 : decode cX8_takes 8 = .ok (.if_icmp .eq 16, 3) := by decide +kernel
theorem dX8_takes_11 : decode cX8_takes 11 = .ok (.aload_n 0, 1) := by decide +kernel
theorem dX8_takes_12 : decode cX8_takes 12 = .ok (.getfield 26, 3) := by decide +kernel
theorem dX8_takes_15 : decode cX8_takes 15 = .ok (.aload_n 0, 1) := by decide +kernel
theorem dX8_takes_16 : decode cX8_takes 16 = .ok (.getfield 179, 3) := by decide +kernel
theorem dX8_takes_19 : decode cX8_takes 19 = .ok (.caload, 1) := by decide +kernel
theorem dX8_takes_20 : decode cX8_takes 20 = .ok (.iload_n 1, 1) := by decide +kernel
theorem dX8_takes_21 : decode cX8_takes 21 = .ok (.if_icmp .eq 5, 3) := by decide +kernel
theorem dX8_takes_24 : decode cX8_takes 24 = .ok (.iconst 0, 1) := by decide +kernel
theorem dX8_takes_25 : decode cX8_takes 25 = .ok (.ireturn, 1) := by decide +kernel
theorem dX8_takes_26 : decode cX8_takes 26 = .ok (.aload_n 0, 1) := by decide +kernel
theorem dX8_takes_27 : decode cX8_takes 27 = .ok (.dup, 1) := by decide +kernel
theorem dX8_takes_28 : decode cX8_takes 28 = .ok (.getfield 179, 3) := by decide +kernel
theorem dX8_takes_31 : decode cX8_takes 31 = .ok (.iconst 1, 1) := by decide +kernel
theorem dX8_takes_32 : decode cX8_takes 32 = .ok (.iadd, 1) := by decide +kernel
theorem dX8_takes_33 : decode cX8_takes 33 = .ok (.putfield 179, 3) := by decide +kernel
theorem dX8_takes_36 : decode cX8_takes 36 = .ok (.iconst 1, 1) := by decide +kernel
theorem dX8_takes_37 : decode cX8_takes 37 = .ok (.ireturn, 1) := by decide +kernel
set_option maxRecDepth 20000 in
theorem ggX8_digits_X8_in : GoodIn wsX8_digits wsX8_in := goodIn_r _ [8] rfl (by decide +kernel)
set_option maxRecDepth 20000 in
theorem gX8_digits_X8_in : GoodIn wsX8_digits (va_wsS RX8 61 yX8_in wsX8_in) := goodIn_app (goodIn_r _ [5, 6, 7] rfl (by decide +kernel)) ggX8_digits_X8_in
theorem dX8_digits_0 : decode cX8_digits 0 = .ok (.iconst 0, 1) := by decide +kernel
theorem dX8_digits_1 : decode cX8_digits 1 = .ok (.istore 4, 2) := by decide +kernel
theorem dX8_digits_3 : decode cX8_digits 3 = .ok (.aload_n 0, 1) := by decide +kernel
theorem dX8_digits_4 : decode cX8_digits 4 = .ok (.getfield 29, 3) := by decide +kernel
theorem dX8_digits_7 : decode cX8_digits 7 = .ok (.iload_n 1, 1) := by decide +kernel
theorem dX8_digits_8 : decode cX8_digits 8 = .ok (.iconst 0, 1) := by decide +kernel
theorem dX8_digits_9 : decode cX8_digits 9 = .ok (.iastore, 1) := by decide +kernel
theorem dX8_digits_10 : decode cX8_digits 10 = .ok (.iload 4, 2) := by decide +kernel
theorem dX8_digits_12 : decode cX8_digits 12 = .ok (.iload_n 3, 1) := by decide +kernel
theorem dX8_digits_13 : decode cX8_digits 13 = .ok (.if_icmp .ge 74, 3) := by decide +kernel
theorem dX8_digits_16 : decode cX8_digits 16 = .ok (.aload_n 0, 1) := by decide +kernel
theorem dX8_digits_17 : decode cX8_digits 17 = .ok (.getfield 179, 3) := by decide +kernel
theorem dX8_digits_20 : decode cX8_digits 20 = .ok (.aload_n 0, 1) := by decide +kernel
theorem dX8_digits_21 : decode cX8_digits 21 = .ok (.getfield 176, 3) := by decide +kernel
theorem dX8_digits_24 : decode cX8_digits 24 = .ok (.if_icmp .ge 63, 3) := by decide +kernel
theorem dX8_digits_27 : decode cX8_digits 27 = .ok (.aload_n 0, 1) := by decide +kernel
theorem dX8_digits_28 : decode cX8_digits 28 = .ok (.getfield 26, 3) := by decide +kernel
theorem dX8_digits_31 : decode cX8_digits 31 = .ok (.aload_n 0, 1) := by decide +kernel
theorem dX8_digits_32 : decode cX8_digits 32 = .ok (.getfield 179, 3) := by decide +kernel
theorem dX8_digits_35 : decode cX8_digits 35 = .ok (.caload, 1) := by decide +kernel
theorem dX8_digits_36 : decode cX8_digits 36 = .ok (.bipush 48, 2) := by decide +kernel
theorem dX8_digits_38 : decode cX8_digits 38 = .ok (.bipush 57, 2) := by decide +kernel
theorem dX8_digits_40 : decode cX8_digits 40 = .ok (.invokestatic 61, 3) := by decide +kernel
theorem dX8_digits_43 : decode cX8_digits 43 = .ok (.ifCond .eq 44, 3) := by decide +kernel
theorem dX8_digits_46 : decode cX8_digits 46 = .ok (.aload_n 0, 1) := by decide +kernel
theorem dX8_digits_47 : decode cX8_digits 47 = .ok (.getfield 29, 3) := by decide +kernel
theorem dX8_digits_50 : decode cX8_digits 50 = .ok (.iload_n 1, 1) := by decide +kernel
theorem dX8_digits_51 : decode cX8_digits 51 = .ok (.bipush 10, 2) := by decide +kernel
theorem dX8_digits_53 : decode cX8_digits 53 = .ok (.aload_n 0, 1) := by decide +kernel
theorem dX8_digits_54 : decode cX8_digits 54 = .ok (.getfield 29, 3) := by decide +kernel
theorem dX8_digits_57 : decode cX8_digits 57 = .ok (.iload_n 1, 1) := by decide +kernel
theorem dX8_digits_58 : decode cX8_digits 58 = .ok (.iaload, 1) := by decide +kernel
theorem dX8_digits_59 : decode cX8_digits 59 = .ok (.imul, 1) := by decide +kernel
theorem dX8_digits_60 : decode cX8_digits 60 = .ok (.aload_n 0, 1) := by decide +kernel
theorem dX8_digits_61 : decode cX8_digits 61 = .ok (.getfield 26, 3) := by decide +kernel
theorem dX8_digits_64 : decode cX8_digits 64 = .ok (.aload_n 0, 1) := by decide +kernel
theorem dX8_digits_65 : decode cX8_digits 65 = .ok (.dup, 1) := by decide +kernel
theorem dX8_digits_66 : decode cX8_digits 66 = .ok (.getfield 179, 3) := by decide +kernel
theorem dX8_digits_69 : decode cX8_digits 69 = .ok (.dup_x1, 1) := by decide +kernel
theorem dX8_digits_70 : decode cX8_digits 70 = .ok (.iconst 1, 1) := by decide +kernel
theorem dX8_digits_71 : decode cX8_digits 71 = .ok (.iadd, 1) := by decide +kernel
theorem dX8_digits_72 : decode cX8_digits 72 = .ok (.putfield 179, 3) := by decide +kernel
theorem dX8_digits_75 : decode cX8_digits 75 = .ok (.caload, 1) := by decide +kernel
theorem dX8_digits_76 : decode cX8_digits 76 = .ok (.iadd, 1) := by decide +kernel
theorem dX8_digits_77 : decode cX8_digits 77 = .ok (.bipush 48, 2) := by decide +kernel
theorem dX8_digits_79 : decode cX8_digits 79 = .ok (.isub, 1) := by decide +kernel
theorem dX8_digits_80 : decode cX8_digits 80 = .ok (.iastore, 1) := by decide +kernel
theorem dX8_digits_81 : decode cX8_digits 81 = .ok (.iinc 4 1, 3) := by decide +kernel
theorem dX8_digits_84 : decode cX8_digits 84 = .ok (.goto (-74), 3) := by decide +kernel
theorem dX8_digits_87 : decode cX8_digits 87 = .ok (.iload 4, 2) := by decide +kernel
theorem dX8_digits_89 : decode cX8_digits 89 = .ok (.iload_n 2, 1) := by decide +kernel
theorem dX8_digits_90 : decode cX8_digits 90 = .ok (.if_icmp .lt 7, 3) := by decide +kernel
theorem dX8_digits_93 : decode cX8_digits 93 = .ok (.iconst 1, 1) := by decide +kernel
theorem dX8_digits_94 : decode cX8_digits 94 = .ok (.goto 4, 3) := by decide +kernel
theorem dX8_digits_97 : decode cX8_digits 97 = .ok (.iconst 0, 1) := by decide +kernel
theorem dX8_digits_98 : decode cX8_digits 98 = .ok (.ireturn, 1) := by decide +kernel
set_option maxRecDepth 20000 in
theorem ggX8_isChange_X8_takes : GoodIn wsX8_isChange wsX8_takes := goodIn_ca (goodIn_r _ [9, 1, 2, 3, 17, 18, 19, 20, 21, 22, 23, 24, 25, 26, 27, 28, 29, 30, 31, 32, 33, 34, 35] rfl (by decide +kernel)) (goodIn_sub (fun _ h => List.mem_cons_of_mem _ (List.mem_append_right _ h)) (by decide +kernel))
set_option maxRecDepth 20000 in
theorem gX8_isChange_X8_takes : GoodIn wsX8_isChange (wsV RX8 182 RX8 yX8_takes wsX8_takes) := goodIn_app (goodIn_r _ [5, 6, 7, 8] rfl (by decide +kernel)) ggX8_isChange_X8_takes
set_option maxRecDepth 20000 in
theorem ggX8_isChange_X8_digits : GoodIn wsX8_isChange wsX8_digits := goodIn_ca (goodIn_r _ [13, 4, 1, 2, 3, 14, 15, 8, 16, 17, 18, 19, 20, 21, 22, 23, 24, 25, 26, 27, 28, 29, 30, 31, 32, 33, 34, 35] rfl (by decide +kernel)) (goodIn_sub (fun _ h => List.mem_cons_of_mem _ (List.mem_append_right _ h)) (by decide +kernel))
set_option maxRecDepth 20000 in
theorem gX8_isChange_X8_digits : GoodIn wsX8_isChange (wsV RX8 186 RX8 yX8_digits wsX8_digits) := goodIn_app (goodIn_r _ [10, 11, 12, 8] rfl (by decide +kernel)) ggX8_isChange_X8_digits
theorem dX8_isChange_0 : decode cX8_isChange 0 = .ok (.aload_n 0, 1) := by decide +kernel
theorem dX8_isChange_1 : decode cX8_isChange 1 = .ok (.getfield 179, 3) := by decide +kernel
theorem dX8_isChange_4 : decode cX8_isChange 4 = .ok (.aload_n 0, 1) := by decide +kernel
theorem dX8_isChange_5 : decode cX8_isChange 5 = .ok (.getfield 176, 3) := by decide +kernel
theorem dX8_isChange_8 : decode cX8_isChange 8 = .ok (.if_icmp .ge 21, 3) := by decide +kernel
theorem dX8_isChange_11 : decode cX8_isChange 11 = .ok (.aload_n 0, 1) := by decide +kernel
theorem dX8_isChange_12 : decode cX8_isChange 12 = .ok (.getfield 26, 3) := by decide +kernel
theorem dX8_isChange_15 : decode cX8_isChange 15 = .ok (.aload_n 0, 1) := by decide +kernel
theorem dX8_isChange_16 : decode cX8_isChange 16 = .ok (.getfield 179, 3) := by decide +kernel
theorem dX8_isChange_19 : decode cX8_isChange 19 = .ok (.caload, 1) := by decide +kernel
theorem dX8_isChange_20 : decode cX8_isChange 20 = .ok (.bipush 45, 2) := by decide +kernel
theorem dX8_isChange_22 : decode cX8_isChange 22 = .ok (.if_icmp .ne 7, 3) := by decide +kernel
theorem dX8_isChange_25 : decode cX8_isChange 25 = .ok (.iconst 1, 1) := by decide +kernel
theorem dX8_isChange_26 : decode cX8_isChange 26 = .ok (.goto 4, 3) := by decide +kernel
theorem dX8_isChange_29 : decode cX8_isChange 29 = .ok (.iconst 0, 1) := by decide +kernel
theorem dX8_isChange_30 : decode cX8_isChange 30 = .ok (.istore_n 1, 1) := by decide +kernel
theorem dX8_isChange_31 : decode cX8_isChange 31 = .ok (.aload_n 0, 1) := by decide +kernel
theorem dX8_isChange_32 : decode cX8_isChange 32 = .ok (.iload_n 1, 1) := by decide +kernel
theorem dX8_isChange_33 : decode cX8_isChange 33 = .ok (.ifCond .eq 8, 3) := by decide +kernel
theorem dX8_isChange_36 : decode cX8_isChange 36 = .ok (.bipush 45, 2) := by decide +kernel
theorem dX8_isChange_38 : decode cX8_isChange 38 = .ok (.goto 5, 3) := by decide +kernel
theorem dX8_isChange_41 : decode cX8_isChange 41 = .ok (.bipush 43, 2) := by decide +kernel
theorem dX8_isChange_43 : decode cX8_isChange 43 = .ok (.invokevirtual 182, 3) := by decide +kernel
theorem dX8_isChange_46 : decode cX8_isChange 46 = .ok (.ifCond .eq 13, 3) := by decide +kernel
theorem dX8_isChange_49 : decode cX8_isChange 49 = .ok (.aload_n 0, 1) := by decide +kernel
theorem dX8_isChange_50 : decode cX8_isChange 50 = .ok (.iconst 0, 1) := by decide +kernel
theorem dX8_isChange_51 : decode cX8_isChange 51 = .ok (.iconst 1, 1) := by decide +kernel
theorem dX8_isChange_52 : decode cX8_isChange 52 = .ok (.iconst 2, 1) := by decide +kernel
theorem dX8_isChange_53 : decode cX8_isChange 53 = .ok (.invokevirtual 186, 3) := by decide +kernel
theorem dX8_isChange_56 : decode cX8_isChange 56 = .ok (.ifCond .ne 5, 3) := by decide +kernel
theorem dX8_isChange_59 : decode cX8_isChange 59 = .ok (.iconst 0, 1) := by decide +kernel
theorem dX8_isChange_60 : decode cX8_isChange 60 = .ok (.ireturn, 1) := by decide +kernel
theorem dX8_isChange_61 : decode cX8_isChange 61 = .ok (.iload_n 1, 1) := by decide +kernel
theorem dX8_isChange_62 : decode cX8_isChange 62 = .ok (.ifCond .eq 16, 3) := by decide +kernel
theorem dX8_isChange_65 : decode cX8_isChange 65 = .ok (.aload_n 0, 1) := by decide +kernel
theorem dX8_isChange_66 : decode cX8_isChange 66 = .ok (.getfield 29, 3) := by decide +kernel
theorem dX8_isChange_69 : decode cX8_isChange 69 = .ok (.iconst 0, 1) := by decide +kernel
theorem dX8_isChange_70 : decode cX8_isChange 70 = .ok (.aload_n 0, 1) := by decide +kernel
theorem dX8_isChange_71 : decode cX8_isChange 71 = .ok (.getfield 29, 3) := by decide +kernel
theorem dX8_isChange_74 : decode cX8_isChange 74 = .ok (.iconst 0, 1) := by decide +kernel
theorem dX8_isChange_75 : decode cX8_isChange 75 = .ok (.iaload, 1) := by decide +kernel
theorem dX8_isChange_76 : decode cX8_isChange 76 = .ok (.ineg, 1) := by decide +kernel
theorem dX8_isChange_77 : decode cX8_isChange 77 = .ok (.iastore, 1) := by decide +kernel
theorem dX8_isChange_78 : decode cX8_isChange 78 = .ok (.iconst 1, 1) := by decide +kernel
theorem dX8_isChange_79 : decode cX8_isChange 79 = .ok (.ireturn, 1) := by decide +kernel
set_option maxRecDepth 20000 in
theorem ggX8_isCommand_J0_indexOf_0f7a4 : GoodIn wsX8_isCommand wsJ0_indexOf_0f7a4 := goodIn_r _ [9, 10, 11, 12, 8, 13, 14, 15, 16, 17, 18, 19, 20, 21, 22, 23, 24, 25, 26, 27, 28, 29, 30, 31, 32, 33, 34, 35, 36, 37, 38, 39, 40, 41, 42, 43, 44, 45, 46, 47, 48, 49, 50, 51, 52, 53, 54, 55, 56, 57, 58, 59, 60, 61, 62, 63, 64, 65, 66, 67, 68, 69, 70, 71, 72, 73, 74, 75, 76, 77, 78, 79, 80, 81, 82, 83, 84, 85, 86, 87, 88, 89, 90, 91, 92, 93, 130, 131] rfl (by decide +kernel)
set_option maxRecDepth 20000 in
theorem gX8_isCommand_J0_indexOf_0f7a4 : GoodIn wsX8_isCommand (wsV RX8 191 RJ0 yJ0_indexOf_0f7a4 wsJ0_indexOf_0f7a4) := goodIn_app (goodIn_r _ [5, 6, 7, 8] rfl (by decide +kernel)) ggX8_isCommand_J0_indexOf_0f7a4
set_option maxRecDepth 20000 in
theorem ggX8_isCommand_X8_digits : GoodIn wsX8_isCommand wsX8_digits := goodIn_ca (goodIn_r _ [98, 99, 1, 2, 3, 100, 101, 97, 102, 111, 112, 113, 114, 115, 116, 117, 118, 119, 120, 121, 122, 123, 124, 125, 126, 127, 128, 129] rfl (by decide +kernel)) (goodIn_sub (fun _ h => List.mem_cons_of_mem _ (List.mem_append_right _ h)) (by decide +kernel))
set_option maxRecDepth 20000 in
theorem gX8_isCommand_X8_digits : GoodIn wsX8_isCommand (wsV RX8 186 RX8 yX8_digits wsX8_digits) := goodIn_app (goodIn_r _ [94, 95, 96, 97] rfl (by decide +kernel)) ggX8_isCommand_X8_digits
set_option maxRecDepth 20000 in
theorem ggX8_isCommand_X8_takes : GoodIn wsX8_isCommand wsX8_takes := goodIn_ca (goodIn_r _ [106, 1, 2, 3, 111, 112, 113, 114, 115, 116, 117, 118, 119, 120, 121, 122, 123, 124, 125, 126, 127, 128, 129] rfl (by decide +kernel)) (goodIn_sub (fun _ h => List.mem_cons_of_mem _ (List.mem_append_right _ h)) (by decide +kernel))
set_option maxRecDepth 20000 in
theorem gX8_isCommand_X8_takes : GoodIn wsX8_isCommand (wsV RX8 182 RX8 yX8_takes wsX8_takes) := goodIn_app (goodIn_r _ [103, 104, 105, 97] rfl (by decide +kernel)) ggX8_isCommand_X8_takes
set_option maxRecDepth 20000 in
theorem ggX8_isCommand_X8_isChange : GoodIn wsX8_isCommand wsX8_isChange := goodIn_ca (goodIn_r _ [110, 1, 2, 3, 99, 103, 104, 105, 97, 106, 94, 95, 96, 98, 100, 101, 102, 111, 112, 113, 114, 115, 116, 117, 118, 119, 120, 121, 122, 123, 124, 125, 126, 127, 128, 129] rfl (by decide +kernel)) (goodIn_sub (fun _ h => List.mem_cons_of_mem _ (List.mem_append_right _ h)) (by decide +kernel))
set_option maxRecDepth 20000 in
theorem gX8_isCommand_X8_isChange : GoodIn wsX8_isCommand (wsV RX8 200 RX8 yX8_isChange wsX8_isChange) := goodIn_app (goodIn_r _ [107, 108, 109, 97] rfl (by decide +kernel)) ggX8_isCommand_X8_isChange
theorem dX8_isCommand_0 : decode cX8_isCommand 0 = .ok (.aload_n 0, 1) := by decide +kernel
theorem dX8_isCommand_1 : decode cX8_isCommand 1 = .ok (.getfield 179, 3) := by decide +kernel
theorem dX8_isCommand_4 : decode cX8_isCommand 4 = .ok (.aload_n 0, 1) := by decide +kernel
theorem dX8_isCommand_5 : decode cX8_isCommand 5 = .ok (.getfield 176, 3) := by decide +kernel
theorem dX8_isCommand_8 : decode cX8_isCommand 8 = .ok (.if_icmp .eq 20, 3) := by decide +kernel
theorem dX8_isCommand_11 : decode cX8_isCommand 11 = .ok (.ldc 189, 2) := by decide +kernel
theorem dX8_isCommand_13 : decode cX8_isCommand 13 = .ok (.aload_n 0, 1) := by decide +kernel
theorem dX8_isCommand_14 : decode cX8_isCommand 14 = .ok (.getfield 26, 3) := by decide +kernel
theorem dX8_isCommand_17 : decode cX8_isCommand 17 = .ok (.aload_n 0, 1) := by decide +kernel
theorem dX8_isCommand_18 : decode cX8_isCommand 18 = .ok (.getfield 179, 3) := by decide +kernel
theorem dX8_isCommand_21 : decode cX8_isCommand 21 = .ok (.caload, 1) := by decide +kernel
theorem dX8_isCommand_22 : decode cX8_isCommand 22 = .ok (.invokevirtual 191, 3) := by decide +kernel
theorem dX8_isCommand_25 : decode cX8_isCommand 25 = .ok (.ifCond .ge 5, 3) := by decide +kernel
theorem dX8_isCommand_28 : decode cX8_isCommand 28 = .ok (.iconst 0, 1) := by decide +kernel
theorem dX8_isCommand_29 : decode cX8_isCommand 29 = .ok (.ireturn, 1) := by decide +kernel
theorem dX8_isCommand_30 : decode cX8_isCommand 30 = .ok (.aload_n 0, 1) := by decide +kernel
theorem dX8_isCommand_31 : decode cX8_isCommand 31 = .ok (.aload_n 0, 1) := by decide +kernel
theorem dX8_isCommand_32 : decode cX8_isCommand 32 = .ok (.getfield 26, 3) := by decide +kernel
theorem dX8_isCommand_35 : decode cX8_isCommand 35 = .ok (.aload_n 0, 1) := by decide +kernel
theorem dX8_isCommand_36 : decode cX8_isCommand 36 = .ok (.dup, 1) := by decide +kernel
theorem dX8_isCommand_37 : decode cX8_isCommand 37 = .ok (.getfield 179, 3) := by decide +kernel
theorem dX8_isCommand_40 : decode cX8_isCommand 40 = .ok (.dup_x1, 1) := by decide +kernel
theorem dX8_isCommand_41 : decode cX8_isCommand 41 = .ok (.iconst 1, 1) := by decide +kernel
theorem dX8_isCommand_42 : decode cX8_isCommand 42 = .ok (.iadd, 1) := by decide +kernel
theorem dX8_isCommand_43 : decode cX8_isCommand 43 = .ok (.putfield 179, 3) := by decide +kernel
theorem dX8_isCommand_46 : decode cX8_isCommand 46 = .ok (.caload, 1) := by decide +kernel
theorem dX8_isCommand_47 : decode cX8_isCommand 47 = .ok (.putfield 196, 3) := by decide +kernel
theorem dX8_isCommand_50 : decode cX8_isCommand 50 = .ok (.aload_n 0, 1) := by decide +kernel
theorem dX8_isCommand_51 : decode cX8_isCommand 51 = .ok (.getfield 196, 3) := by decide +kernel
theorem dX8_isCommand_54 : decode cX8_isCommand 54 = .ok (.lookupswitch 181 #[(100, 174), (109, 50), (114, 179), (115, 85), (119, 120)], 50) := by decide +kernel
theorem dX8_isCommand_104 : decode cX8_isCommand 104 = .ok (.aload_n 0, 1) := by decide +kernel
theorem dX8_isCommand_105 : decode cX8_isCommand 105 = .ok (.iconst 0, 1) := by decide +kernel
theorem dX8_isCommand_106 : decode cX8_isCommand 106 = .ok (.iconst 1, 1) := by decide +kernel
theorem dX8_isCommand_107 : decode cX8_isCommand 107 = .ok (.iconst 1, 1) := by decide +kernel
theorem dX8_isCommand_108 : decode cX8_isCommand 108 = .ok (.invokevirtual 186, 3) := by decide +kernel
theorem dX8_isCommand_111 : decode cX8_isCommand 111 = .ok (.ifCond .eq 26, 3) := by decide +kernel
theorem dX8_isCommand_114 : decode cX8_isCommand 114 = .ok (.aload_n 0, 1) := by decide +kernel
theorem dX8_isCommand_115 : decode cX8_isCommand 115 = .ok (.bipush 62, 2) := by decide +kernel
theorem dX8_isCommand_117 : decode cX8_isCommand 117 = .ok (.invokevirtual 182, 3) := by decide +kernel
theorem dX8_isCommand_120 : decode cX8_isCommand 120 = .ok (.ifCond .eq 17, 3) := by decide +kernel
theorem dX8_isCommand_123 : decode cX8_isCommand 123 = .ok (.aload_n 0, 1) := by decide +kernel
theorem dX8_isCommand_124 : decode cX8_isCommand 124 = .ok (.iconst 1, 1) := by decide +kernel
theorem dX8_isCommand_125 : decode cX8_isCommand 125 = .ok (.iconst 1, 1) := by decide +kernel
theorem dX8_isCommand_126 : decode cX8_isCommand 126 = .ok (.iconst 1, 1) := by decide +kernel
theorem dX8_isCommand_127 : decode cX8_isCommand 127 = .ok (.invokevirtual 186, 3) := by decide +kernel
theorem dX8_isCommand_130 : decode cX8_isCommand 130 = .ok (.ifCond .eq 7, 3) := by decide +kernel
theorem dX8_isCommand_133 : decode cX8_isCommand 133 = .ok (.iconst 1, 1) := by decide +kernel
theorem dX8_isCommand_134 : decode cX8_isCommand 134 = .ok (.goto 4, 3) := by decide +kernel
theorem dX8_isCommand_137 : decode cX8_isCommand 137 = .ok (.iconst 0, 1) := by decide +kernel
theorem dX8_isCommand_138 : decode cX8_isCommand 138 = .ok (.ireturn, 1) := by decide +kernel
theorem dX8_isCommand_139 : decode cX8_isCommand 139 = .ok (.aload_n 0, 1) := by decide +kernel
theorem dX8_isCommand_140 : decode cX8_isCommand 140 = .ok (.iconst 0, 1) := by decide +kernel
theorem dX8_isCommand_141 : decode cX8_isCommand 141 = .ok (.iconst 1, 1) := by decide +kernel
theorem dX8_isCommand_142 : decode cX8_isCommand 142 = .ok (.iconst 1, 1) := by decide +kernel
theorem dX8_isCommand_143 : decode cX8_isCommand 143 = .ok (.invokevirtual 186, 3) := by decide +kernel
theorem dX8_isCommand_146 : decode cX8_isCommand 146 = .ok (.ifCond .eq 26, 3) := by decide +kernel
theorem dX8_isCommand_149 : decode cX8_isCommand 149 = .ok (.aload_n 0, 1) := by decide +kernel
theorem dX8_isCommand_150 : decode cX8_isCommand 150 = .ok (.bipush 38, 2) := by decide +kernel
theorem dX8_isCommand_152 : decode cX8_isCommand 152 = .ok (.invokevirtual 182, 3) := by decide +kernel
theorem dX8_isCommand_155 : decode cX8_isCommand 155 = .ok (.ifCond .eq 17, 3) := by decide +kernel
theorem dX8_isCommand_158 : decode cX8_isCommand 158 = .ok (.aload_n 0, 1) := by decide +kernel
theorem dX8_isCommand_159 : decode cX8_isCommand 159 = .ok (.iconst 1, 1) := by decide +kernel
theorem dX8_isCommand_160 : decode cX8_isCommand 160 = .ok (.iconst 1, 1) := by decide +kernel
theorem dX8_isCommand_161 : decode cX8_isCommand 161 = .ok (.iconst 1, 1) := by decide +kernel
theorem dX8_isCommand_162 : decode cX8_isCommand 162 = .ok (.invokevirtual 186, 3) := by decide +kernel
theorem dX8_isCommand_165 : decode cX8_isCommand 165 = .ok (.ifCond .eq 7, 3) := by decide +kernel
theorem dX8_isCommand_168 : decode cX8_isCommand 168 = .ok (.iconst 1, 1) := by decide +kernel
theorem dX8_isCommand_169 : decode cX8_isCommand 169 = .ok (.goto 4, 3) := by decide +kernel
theorem dX8_isCommand_172 : decode cX8_isCommand 172 = .ok (.iconst 0, 1) := by decide +kernel
theorem dX8_isCommand_173 : decode cX8_isCommand 173 = .ok (.ireturn, 1) := by decide +kernel
theorem dX8_isCommand_174 : decode cX8_isCommand 174 = .ok (.aload_n 0, 1) := by decide +kernel
theorem dX8_isCommand_175 : decode cX8_isCommand 175 = .ok (.iconst 0, 1) := by decide +kernel
theorem dX8_isCommand_176 : decode cX8_isCommand 176 = .ok (.iconst 1, 1) := by decide +kernel
theorem dX8_isCommand_177 : decode cX8_isCommand 177 = .ok (.iconst 1, 1) := by decide +kernel
theorem dX8_isCommand_178 : decode cX8_isCommand 178 = .ok (.invokevirtual 186, 3) := by decide +kernel
theorem dX8_isCommand_181 : decode cX8_isCommand 181 = .ok (.ifCond .eq 45, 3) := by decide +kernel
theorem dX8_isCommand_184 : decode cX8_isCommand 184 = .ok (.aload_n 0, 1) := by decide +kernel
theorem dX8_isCommand_185 : decode cX8_isCommand 185 = .ok (.bipush 61, 2) := by decide +kernel
theorem dX8_isCommand_187 : decode cX8_isCommand 187 = .ok (.invokevirtual 182, 3) := by decide +kernel
theorem dX8_isCommand_190 : decode cX8_isCommand 190 = .ok (.ifCond .eq 36, 3) := by decide +kernel
theorem dX8_isCommand_193 : decode cX8_isCommand 193 = .ok (.aload_n 0, 1) := by decide +kernel
theorem dX8_isCommand_194 : decode cX8_isCommand 194 = .ok (.iconst 1, 1) := by decide +kernel
theorem dX8_isCommand_195 : decode cX8_isCommand 195 = .ok (.iconst 3, 1) := by decide +kernel
theorem dX8_isCommand_196 : decode cX8_isCommand 196 = .ok (.iconst 4, 1) := by decide +kernel
theorem dX8_isCommand_197 : decode cX8_isCommand 197 = .ok (.invokevirtual 186, 3) := by decide +kernel
theorem dX8_isCommand_200 : decode cX8_isCommand 200 = .ok (.ifCond .eq 26, 3) := by decide +kernel
theorem dX8_isCommand_203 : decode cX8_isCommand 203 = .ok (.aload_n 0, 1) := by decide +kernel
theorem dX8_isCommand_204 : decode cX8_isCommand 204 = .ok (.bipush 47, 2) := by decide +kernel
theorem dX8_isCommand_206 : decode cX8_isCommand 206 = .ok (.invokevirtual 182, 3) := by decide +kernel
theorem dX8_isCommand_209 : decode cX8_isCommand 209 = .ok (.ifCond .eq 17, 3) := by decide +kernel
theorem dX8_isCommand_212 : decode cX8_isCommand 212 = .ok (.aload_n 0, 1) := by decide +kernel
theorem dX8_isCommand_213 : decode cX8_isCommand 213 = .ok (.iconst 2, 1) := by decide +kernel
theorem dX8_isCommand_214 : decode cX8_isCommand 214 = .ok (.iconst 1, 1) := by decide +kernel
theorem dX8_isCommand_215 : decode cX8_isCommand 215 = .ok (.iconst 1, 1) := by decide +kernel
theorem dX8_isCommand_216 : decode cX8_isCommand 216 = .ok (.invokevirtual 186, 3) := by decide +kernel
theorem dX8_isCommand_219 : decode cX8_isCommand 219 = .ok (.ifCond .eq 7, 3) := by decide +kernel
theorem dX8_isCommand_222 : decode cX8_isCommand 222 = .ok (.iconst 1, 1) := by decide +kernel
theorem dX8_isCommand_223 : decode cX8_isCommand 223 = .ok (.goto 4, 3) := by decide +kernel
theorem dX8_isCommand_226 : decode cX8_isCommand 226 = .ok (.iconst 0, 1) := by decide +kernel
theorem dX8_isCommand_227 : decode cX8_isCommand 227 = .ok (.ireturn, 1) := by decide +kernel
theorem dX8_isCommand_228 : decode cX8_isCommand 228 = .ok (.aload_n 0, 1) := by decide +kernel
theorem dX8_isCommand_229 : decode cX8_isCommand 229 = .ok (.invokevirtual 200, 3) := by decide +kernel
theorem dX8_isCommand_232 : decode cX8_isCommand 232 = .ok (.ireturn, 1) := by decide +kernel
theorem dX8_isCommand_233 : decode cX8_isCommand 233 = .ok (.iconst 1, 1) := by decide +kernel
theorem dX8_isCommand_234 : decode cX8_isCommand 234 = .ok (.ireturn, 1) := by decide +kernel
theorem dX8_isCommand_235 : decode cX8_isCommand 235 = .ok (.aload_n 0, 1) := by decide +kernel
theorem dX8_isCommand_236 : decode cX8_isCommand 236 = .ok (.iconst 0, 1) := by decide +kernel
theorem dX8_isCommand_237 : decode cX8_isCommand 237 = .ok (.iconst 1, 1) := by decide +kernel
theorem dX8_isCommand_238 : decode cX8_isCommand 238 = .ok (.iconst 1, 1) := by decide +kernel
theorem dX8_isCommand_239 : decode cX8_isCommand 239 = .ok (.invokevirtual 186, 3) := by decide +kernel
theorem dX8_isCommand_242 : decode cX8_isCommand 242 = .ok (.ireturn, 1) := by decide +kernel
set_option maxRecDepth 20000 in
theorem ggX8_carries_X8_joins : GoodIn wsX8_carries wsX8_joins := goodIn_ca (goodIn_r _ [7, 8, 9, 10, 6, 11, 12, 13, 14, 15, 16, 17, 18, 19, 20, 21, 22, 23, 24, 25, 26, 27, 28, 29, 30, 31, 32, 33, 34, 35, 118, 119, 120, 121, 122, 123, 124, 125, 126, 127, 128, 129, 130, 131, 132, 133, 134, 135, 136] rfl (by decide +kernel)) (goodIn_sub (fun _ h => List.mem_cons_of_mem _ (List.mem_append_left _ (List.mem_append_right _ h))) (by decide +kernel))
set_option maxRecDepth 20000 in
theorem gX8_carries_X8_joins : GoodIn wsX8_carries (wsV RX8 90 RX8 yX8_joins wsX8_joins) := goodIn_app (goodIn_r _ [3, 4, 5, 6] rfl (by decide +kernel)) ggX8_carries_X8_joins
set_option maxRecDepth 20000 in
theorem ggX8_carries_X8_leaves : GoodIn wsX8_carries wsX8_leaves := goodIn_ca (goodIn_r _ [39, 8, 40, 41, 42, 6, 43, 44, 45, 46, 47, 9, 10, 11, 12, 13, 14, 15, 16, 17, 18, 48, 49, 50, 51, 23, 24, 25, 26, 31, 32, 33, 34, 35, 118, 119, 120, 121, 122, 123, 124, 125, 126, 127, 128, 129, 130, 131, 132, 133, 134, 135, 136] rfl (by decide +kernel)) (goodIn_sub (fun _ h => List.mem_cons_of_mem _ (List.mem_append_left _ (List.mem_append_right _ h))) (by decide +kernel))
set_option maxRecDepth 20000 in
theorem gX8_carries_X8_leaves : GoodIn wsX8_carries (wsV RX8 103 RX8 yX8_leaves wsX8_leaves) := goodIn_app (goodIn_r _ [36, 37, 38, 6] rfl (by decide +kernel)) ggX8_carries_X8_leaves
set_option maxRecDepth 20000 in
theorem ggX8_carries_X8_moves : GoodIn wsX8_carries wsX8_moves := goodIn_ca (goodIn_r _ [55, 8, 40, 41, 42, 6, 43, 44, 45, 46, 47, 9, 10, 11, 12, 13, 14, 15, 16, 17, 18, 19, 20, 21, 22, 23, 24, 25, 26, 56, 57, 58, 59, 60, 61, 62, 63, 64, 65, 66, 27, 28, 29, 30, 31, 32, 33, 34, 35, 118, 119, 120, 121, 122, 123, 124, 125, 126, 127, 128, 129, 130, 131, 132, 133, 134, 135, 136] rfl (by decide +kernel)) (goodIn_sub (fun _ h => List.mem_cons_of_mem _ (List.mem_append_left _ (List.mem_append_right _ h))) (by decide +kernel))
set_option maxRecDepth 20000 in
theorem gX8_carries_X8_moves : GoodIn wsX8_carries (wsV RX8 117 RX8 yX8_moves wsX8_moves) := goodIn_app (goodIn_r _ [52, 53, 54, 6] rfl (by decide +kernel)) ggX8_carries_X8_moves
set_option maxRecDepth 20000 in
theorem ggX8_carries_X8_exchanges : GoodIn wsX8_carries wsX8_exchanges := goodIn_ca (goodIn_r _ [70, 40, 41, 42, 6, 43, 8, 44, 45, 46, 47, 9, 10, 11, 12, 13, 14, 15, 16, 17, 18, 23, 24, 25, 26, 27, 28, 29, 30, 56, 57, 58, 59, 60, 61, 62, 31, 32, 33, 34, 35, 118, 119, 120, 121, 122, 123, 124, 125, 126, 127, 128, 129, 130, 131, 132, 133, 134, 135, 136] rfl (by decide +kernel)) (goodIn_sub (fun _ h => List.mem_cons_of_mem _ (List.mem_append_left _ (List.mem_append_right _ h))) (by decide +kernel))
set_option maxRecDepth 20000 in
theorem gX8_carries_X8_exchanges : GoodIn wsX8_carries (wsV RX8 120 RX8 yX8_exchanges wsX8_exchanges) := goodIn_app (goodIn_r _ [67, 68, 69, 6] rfl (by decide +kernel)) ggX8_carries_X8_exchanges
set_option maxRecDepth 20000 in
theorem ggX8_carries_X8_wagers : GoodIn wsX8_carries wsX8_wagers := goodIn_ca (goodIn_r _ [74, 8, 40, 41, 42, 6, 43, 44, 45, 46, 47, 9, 10, 11, 12, 13, 14, 15, 16, 17, 18, 48, 49, 50, 51, 23, 24, 25, 26, 63, 64, 65, 66, 27, 28, 29, 30, 31, 32, 33, 34, 35, 118, 119, 120, 121, 122, 123, 124, 125, 126, 127, 128, 129, 130, 131, 132, 133, 134, 135, 136] rfl (by decide +kernel)) (goodIn_sub (fun _ h => List.mem_cons_of_mem _ (List.mem_append_left _ (List.mem_append_right _ h))) (by decide +kernel))
set_option maxRecDepth 20000 in
theorem gX8_carries_X8_wagers : GoodIn wsX8_carries (wsV RX8 123 RX8 yX8_wagers wsX8_wagers) := goodIn_app (goodIn_r _ [71, 72, 73, 6] rfl (by decide +kernel)) ggX8_carries_X8_wagers
set_option maxRecDepth 20000 in
theorem ggX8_carries_X8_taps : GoodIn wsX8_carries wsX8_taps := goodIn_ca (goodIn_r _ [78, 8, 40, 41, 42, 6, 43, 44, 45, 46, 47, 9, 10, 11, 12, 13, 14, 15, 16, 17, 18, 48, 49, 50, 51, 23, 24, 25, 26, 63, 64, 65, 66, 27, 28, 29, 30, 31, 32, 33, 34, 35, 118, 119, 120, 121, 122, 123, 124, 125, 126, 127, 128, 129, 130, 131, 132, 133, 134, 135, 136] rfl (by decide +kernel)) (goodIn_sub (fun _ h => List.mem_cons_of_mem _ (List.mem_append_left _ (List.mem_append_right _ h))) (by decide +kernel))
set_option maxRecDepth 20000 in
theorem gX8_carries_X8_taps : GoodIn wsX8_carries (wsV RX8 126 RX8 yX8_taps wsX8_taps) := goodIn_app (goodIn_r _ [75, 76, 77, 6] rfl (by decide +kernel)) ggX8_carries_X8_taps
set_option maxRecDepth 20000 in
theorem ggX8_carries_X8_goesBy : GoodIn wsX8_carries wsX8_goesBy := goodIn_ca (goodIn_r _ [82, 8, 9, 10, 6, 11, 12, 13, 14, 15, 16, 17, 18, 31, 32, 33, 34, 35, 118, 119, 120, 121, 122, 123, 124, 125, 126, 127, 128, 129, 130, 131, 132, 133, 134, 135, 136] rfl (by decide +kernel)) (goodIn_sub (fun _ h => List.mem_cons_of_mem _ (List.mem_append_left _ (List.mem_append_right _ h))) (by decide +kernel))
set_option maxRecDepth 20000 in
theorem gX8_carries_X8_goesBy : GoodIn wsX8_carries (wsV RX8 129 RX8 yX8_goesBy wsX8_goesBy) := goodIn_app (goodIn_r _ [79, 80, 81, 6] rfl (by decide +kernel)) ggX8_carries_X8_goesBy
set_option maxRecDepth 20000 in
theorem ggX8_carries_X8_bottles : GoodIn wsX8_carries wsX8_bottles := goodIn_ca (goodIn_r _ [86, 8, 40, 41, 42, 6, 43, 44, 45, 46, 47, 9, 10, 11, 12, 13, 14, 15, 16, 17, 18, 23, 24, 25, 26, 27, 28, 29, 30, 31, 32, 33, 34, 35, 118, 119, 120, 121, 122, 123, 124, 125, 126, 127, 128, 129, 130, 131, 132, 133, 134, 135, 136] rfl (by decide +kernel)) (goodIn_sub (fun _ h => List.mem_cons_of_mem _ (List.mem_append_left _ (List.mem_append_right _ h))) (by decide +kernel))
set_option maxRecDepth 20000 in
theorem gX8_carries_X8_bottles : GoodIn wsX8_carries (wsV RX8 132 RX8 yX8_bottles wsX8_bottles) := goodIn_app (goodIn_r _ [83, 84, 85, 6] rfl (by decide +kernel)) ggX8_carries_X8_bottles
set_option maxRecDepth 20000 in
theorem ggX8_carries_X8_letsOut : GoodIn wsX8_carries wsX8_letsOut := goodIn_ca (goodIn_r _ [90, 8, 40, 41, 42, 6, 43, 44, 45, 46, 47, 9, 10, 11, 12, 13, 14, 15, 16, 17, 18, 23, 24, 25, 26, 27, 28, 29, 30, 31, 32, 33, 34, 35, 118, 119, 120, 121, 122, 123, 124, 125, 126, 127, 128, 129, 130, 131, 132, 133, 134, 135, 136] rfl (by decide +kernel)) (goodIn_sub (fun _ h => List.mem_cons_of_mem _ (List.mem_append_left _ (List.mem_append_right _ h))) (by decide +kernel))
set_option maxRecDepth 20000 in
theorem gX8_carries_X8_letsOut : GoodIn wsX8_carries (wsV RX8 135 RX8 yX8_letsOut wsX8_letsOut) := goodIn_app (goodIn_r _ [87, 88, 89, 6] rfl (by decide +kernel)) ggX8_carries_X8_letsOut
set_option maxRecDepth 20000 in
theorem ggX8_carries_X8_reads : GoodIn wsX8_carries wsX8_reads := goodIn_ca (goodIn_ca (goodIn_r _ [94, 8, 95, 96, 97, 6, 98, 48, 49, 50, 51, 23, 24, 25, 26, 12, 13, 14, 15, 16, 17, 18, 99, 100, 101, 102, 103, 104, 105, 61, 106, 107, 108, 109, 110, 56, 57, 58, 59, 60, 62, 111, 112, 113, 114, 115, 116, 117, 27, 28, 29, 30, 31, 32, 33, 34, 35, 118, 119, 120, 121, 122, 123, 124, 125, 126, 127, 128, 129, 130, 131, 132, 133, 134, 135, 136] rfl (by decide +kernel)) (goodIn_sub (fun _ h => List.mem_cons_of_mem _ (List.mem_append_left _ (List.mem_append_right _ h))) (by decide +kernel))) (goodIn_sub (fun _ h => List.mem_cons_of_mem _ (List.mem_append_right _ h)) (by decide +kernel))
set_option maxRecDepth 20000 in
theorem gX8_carries_X8_reads : GoodIn wsX8_carries (wsV RX8 150 RX8 yX8_reads wsX8_reads) := goodIn_app (goodIn_r _ [91, 92, 93, 6] rfl (by decide +kernel)) ggX8_carries_X8_reads
theorem dX8_carries_0 : decode cX8_carries 0 = .ok (.aload_n 0, 1) := by decide +kernel
theorem dX8_carries_1 : decode cX8_carries 1 = .ok (.getfield 196, 3) := by decide +kernel
theorem dX8_carries_4 : decode cX8_carries 4 = .ok (.tableswitch 231 98 120 #[209, 231, 198, 231, 231, 231, 231, 231, 108, 231, 231, 130, 231, 220, 231, 231, 231, 147, 187, 231, 231, 164, 119], 108) := by decide +kernel
theorem dX8_carries_112 : decode cX8_carries 112 = .ok (.aload_n 0, 1) := by decide +kernel
theorem dX8_carries_113 : decode cX8_carries 113 = .ok (.aload_n 0, 1) := by decide +kernel
theorem dX8_carries_114 : decode cX8_carries 114 = .ok (.getfield 29, 3) := by decide +kernel
theorem dX8_carries_117 : decode cX8_carries 117 = .ok (.iconst 0, 1) := by decide +kernel
theorem dX8_carries_118 : decode cX8_carries 118 = .ok (.iaload, 1) := by decide +kernel
theorem dX8_carries_119 : decode cX8_carries 119 = .ok (.invokevirtual 90, 3) := by decide +kernel
theorem dX8_carries_122 : decode cX8_carries 122 = .ok (.ireturn, 1) := by decide +kernel
theorem dX8_carries_123 : decode cX8_carries 123 = .ok (.aload_n 0, 1) := by decide +kernel
theorem dX8_carries_124 : decode cX8_carries 124 = .ok (.aload_n 0, 1) := by decide +kernel
theorem dX8_carries_125 : decode cX8_carries 125 = .ok (.getfield 29, 3) := by decide +kernel
theorem dX8_carries_128 : decode cX8_carries 128 = .ok (.iconst 0, 1) := by decide +kernel
theorem dX8_carries_129 : decode cX8_carries 129 = .ok (.iaload, 1) := by decide +kernel
theorem dX8_carries_130 : decode cX8_carries 130 = .ok (.invokevirtual 103, 3) := by decide +kernel
theorem dX8_carries_133 : decode cX8_carries 133 = .ok (.ireturn, 1) := by decide +kernel
theorem dX8_carries_134 : decode cX8_carries 134 = .ok (.aload_n 0, 1) := by decide +kernel
theorem dX8_carries_135 : decode cX8_carries 135 = .ok (.aload_n 0, 1) := by decide +kernel
theorem dX8_carries_136 : decode cX8_carries 136 = .ok (.getfield 29, 3) := by decide +kernel
theorem dX8_carries_139 : decode cX8_carries 139 = .ok (.iconst 0, 1) := by decide +kernel
theorem dX8_carries_140 : decode cX8_carries 140 = .ok (.iaload, 1) := by decide +kernel
theorem dX8_carries_141 : decode cX8_carries 141 = .ok (.aload_n 0, 1) := by decide +kernel
theorem dX8_carries_142 : decode cX8_carries 142 = .ok (.getfield 29, 3) := by decide +kernel
theorem dX8_carries_145 : decode cX8_carries 145 = .ok (.iconst 1, 1) := by decide +kernel
theorem dX8_carries_146 : decode cX8_carries 146 = .ok (.iaload, 1) := by decide +kernel
theorem dX8_carries_147 : decode cX8_carries 147 = .ok (.invokevirtual 117, 3) := by decide +kernel
theorem dX8_carries_150 : decode cX8_carries 150 = .ok (.ireturn, 1) := by decide +kernel
theorem dX8_carries_151 : decode cX8_carries 151 = .ok (.aload_n 0, 1) := by decide +kernel
theorem dX8_carries_152 : decode cX8_carries 152 = .ok (.aload_n 0, 1) := by decide +kernel
theorem dX8_carries_153 : decode cX8_carries 153 = .ok (.getfield 29, 3) := by decide +kernel
theorem dX8_carries_156 : decode cX8_carries 156 = .ok (.iconst 0, 1) := by decide +kernel
theorem dX8_carries_157 : decode cX8_carries 157 = .ok (.iaload, 1) := by decide +kernel
theorem dX8_carries_158 : decode cX8_carries 158 = .ok (.aload_n 0, 1) := by decide +kernel
theorem dX8_carries_159 : decode cX8_carries 159 = .ok (.getfield 29, 3) := by decide +kernel
theorem dX8_carries_162 : decode cX8_carries 162 = .ok (.iconst 1, 1) := by decide +kernel
theorem dX8_carries_163 : decode cX8_carries 163 = .ok (.iaload, 1) := by decide +kernel
theorem dX8_carries_164 : decode cX8_carries 164 = .ok (.invokevirtual 120, 3) := by decide +kernel
theorem dX8_carries_167 : decode cX8_carries 167 = .ok (.ireturn, 1) := by decide +kernel
theorem dX8_carries_168 : decode cX8_carries 168 = .ok (.aload_n 0, 1) := by decide +kernel
theorem dX8_carries_169 : decode cX8_carries 169 = .ok (.aload_n 0, 1) := by decide +kernel
theorem dX8_carries_170 : decode cX8_carries 170 = .ok (.getfield 29, 3) := by decide +kernel
theorem dX8_carries_173 : decode cX8_carries 173 = .ok (.iconst 0, 1) := by decide +kernel
theorem dX8_carries_174 : decode cX8_carries 174 = .ok (.iaload, 1) := by decide +kernel
theorem dX8_carries_175 : decode cX8_carries 175 = .ok (.aload_n 0, 1) := by decide +kernel
theorem dX8_carries_176 : decode cX8_carries 176 = .ok (.getfield 29, 3) := by decide +kernel
theorem dX8_carries_179 : decode cX8_carries 179 = .ok (.iconst 1, 1) := by decide +kernel
theorem dX8_carries_180 : decode cX8_carries 180 = .ok (.iaload, 1) := by decide +kernel
theorem dX8_carries_181 : decode cX8_carries 181 = .ok (.aload_n 0, 1) := by decide +kernel
theorem dX8_carries_182 : decode cX8_carries 182 = .ok (.getfield 29, 3) := by decide +kernel
theorem dX8_carries_185 : decode cX8_carries 185 = .ok (.iconst 2, 1) := by decide +kernel
theorem dX8_carries_186 : decode cX8_carries 186 = .ok (.iaload, 1) := by decide +kernel
theorem dX8_carries_187 : decode cX8_carries 187 = .ok (.invokevirtual 123, 3) := by decide +kernel
theorem dX8_carries_190 : decode cX8_carries 190 = .ok (.ireturn, 1) := by decide +kernel
theorem dX8_carries_191 : decode cX8_carries 191 = .ok (.aload_n 0, 1) := by decide +kernel
theorem dX8_carries_192 : decode cX8_carries 192 = .ok (.aload_n 0, 1) := by decide +kernel
theorem dX8_carries_193 : decode cX8_carries 193 = .ok (.getfield 29, 3) := by decide +kernel
theorem dX8_carries_196 : decode cX8_carries 196 = .ok (.iconst 0, 1) := by decide +kernel
theorem dX8_carries_197 : decode cX8_carries 197 = .ok (.iaload, 1) := by decide +kernel
theorem dX8_carries_198 : decode cX8_carries 198 = .ok (.invokevirtual 126, 3) := by decide +kernel
theorem dX8_carries_201 : decode cX8_carries 201 = .ok (.ireturn, 1) := by decide +kernel
theorem dX8_carries_202 : decode cX8_carries 202 = .ok (.aload_n 0, 1) := by decide +kernel
theorem dX8_carries_203 : decode cX8_carries 203 = .ok (.aload_n 0, 1) := by decide +kernel
theorem dX8_carries_204 : decode cX8_carries 204 = .ok (.getfield 29, 3) := by decide +kernel
theorem dX8_carries_207 : decode cX8_carries 207 = .ok (.iconst 0, 1) := by decide +kernel
theorem dX8_carries_208 : decode cX8_carries 208 = .ok (.iaload, 1) := by decide +kernel
theorem dX8_carries_209 : decode cX8_carries 209 = .ok (.invokevirtual 129, 3) := by decide +kernel
theorem dX8_carries_212 : decode cX8_carries 212 = .ok (.ireturn, 1) := by decide +kernel
theorem dX8_carries_213 : decode cX8_carries 213 = .ok (.aload_n 0, 1) := by decide +kernel
theorem dX8_carries_214 : decode cX8_carries 214 = .ok (.aload_n 0, 1) := by decide +kernel
theorem dX8_carries_215 : decode cX8_carries 215 = .ok (.getfield 29, 3) := by decide +kernel
theorem dX8_carries_218 : decode cX8_carries 218 = .ok (.iconst 0, 1) := by decide +kernel
theorem dX8_carries_219 : decode cX8_carries 219 = .ok (.iaload, 1) := by decide +kernel
theorem dX8_carries_220 : decode cX8_carries 220 = .ok (.invokevirtual 132, 3) := by decide +kernel
theorem dX8_carries_223 : decode cX8_carries 223 = .ok (.ireturn, 1) := by decide +kernel
theorem dX8_carries_224 : decode cX8_carries 224 = .ok (.aload_n 0, 1) := by decide +kernel
theorem dX8_carries_225 : decode cX8_carries 225 = .ok (.aload_n 0, 1) := by decide +kernel
theorem dX8_carries_226 : decode cX8_carries 226 = .ok (.getfield 29, 3) := by decide +kernel
theorem dX8_carries_229 : decode cX8_carries 229 = .ok (.iconst 0, 1) := by decide +kernel
theorem dX8_carries_230 : decode cX8_carries 230 = .ok (.iaload, 1) := by decide +kernel
theorem dX8_carries_231 : decode cX8_carries 231 = .ok (.invokevirtual 135, 3) := by decide +kernel
theorem dX8_carries_234 : decode cX8_carries 234 = .ok (.ireturn, 1) := by decide +kernel
theorem dX8_carries_235 : decode cX8_carries 235 = .ok (.aload_n 0, 1) := by decide +kernel
theorem dX8_carries_236 : decode cX8_carries 236 = .ok (.invokevirtual 150, 3) := by decide +kernel
theorem dX8_carries_239 : decode cX8_carries 239 = .ok (.ireturn, 1) := by decide +kernel
set_option maxRecDepth 20000 in
theorem ggX8_commands_X8_tries : GoodIn wsX8_commands wsX8_tries := goodIn_ca (goodIn_r _ [11, 12, 6, 5, 244, 245, 246, 247, 248, 249, 250, 251, 252, 253, 254, 255, 256, 257, 258, 259, 260, 261, 262] rfl (by decide +kernel)) (goodIn_sub (fun _ h => List.mem_cons_of_mem _ (List.mem_append_left _ (List.mem_append_right _ h))) (by decide +kernel))
set_option maxRecDepth 20000 in
theorem gX8_commands_X8_tries : GoodIn wsX8_commands (wsV RX8 87 RX8 yX8_tries wsX8_tries) := goodIn_app (goodIn_r _ [7, 8, 9, 10] rfl (by decide +kernel)) ggX8_commands_X8_tries
set_option maxRecDepth 20000 in
theorem ggX8_commands_X8_isCommand : GoodIn wsX8_commands wsX8_isCommand := goodIn_ca (goodIn_r _ [16, 1, 3, 17, 18, 19, 20, 21, 22, 23, 24, 25, 26, 27, 28, 29, 30, 31, 32, 33, 34, 35, 36, 37, 38, 39, 40, 41, 42, 43, 44, 45, 46, 47, 48, 49, 50, 51, 52, 53, 54, 55, 56, 57, 58, 59, 60, 61, 62, 63, 64, 65, 66, 67, 68, 69, 70, 71, 72, 73, 74, 75, 76, 77, 78, 79, 80, 81, 82, 83, 84, 85, 86, 87, 88, 89, 90, 91, 92, 93, 94, 95, 96, 97, 98, 99, 100, 101, 102, 103, 104, 105, 106, 107, 108, 109, 110, 10, 111, 112, 113, 114, 115, 116, 117, 118, 119, 120, 121, 122, 123, 244, 245, 246, 247, 248, 249, 250, 251, 252, 253, 254, 255, 256, 257, 258, 259, 260, 261, 262, 263, 264] rfl (by decide +kernel)) (goodIn_sub (fun _ h => List.mem_cons_of_mem _ (List.mem_append_left _ (List.mem_append_right _ h))) (by decide +kernel))
set_option maxRecDepth 20000 in
theorem gX8_commands_X8_isCommand : GoodIn wsX8_commands (wsV RX8 203 RX8 yX8_isCommand wsX8_isCommand) := goodIn_app (goodIn_r _ [13, 14, 15, 10] rfl (by decide +kernel)) ggX8_commands_X8_isCommand
set_option maxRecDepth 20000 in
theorem ggX8_commands_X8_takes : GoodIn wsX8_commands wsX8_takes := goodIn_ca (goodIn_r _ [119, 1, 3, 17, 244, 245, 246, 247, 248, 249, 250, 251, 252, 253, 254, 255, 256, 257, 258, 259, 260, 261, 262] rfl (by decide +kernel)) (goodIn_sub (fun _ h => List.mem_cons_of_mem _ (List.mem_append_left _ (List.mem_append_right _ h))) (by decide +kernel))
set_option maxRecDepth 20000 in
theorem gX8_commands_X8_takes : GoodIn wsX8_commands (wsV RX8 182 RX8 yX8_takes wsX8_takes) := goodIn_app (goodIn_r _ [116, 117, 118, 10] rfl (by decide +kernel)) ggX8_commands_X8_takes
set_option maxRecDepth 20000 in
theorem ggX8_commands_X8_raises : GoodIn wsX8_commands wsX8_raises := goodIn_r _ [127, 12, 244, 245, 246, 247, 248, 249, 250, 251, 252, 253, 254, 255, 256, 257, 258, 259, 260, 261, 262] rfl (by decide +kernel)
set_option maxRecDepth 20000 in
theorem gX8_commands_X8_raises : GoodIn wsX8_commands (wsV RX8 58 RX8 yX8_raises wsX8_raises) := goodIn_app (goodIn_r _ [124, 125, 126, 10] rfl (by decide +kernel)) ggX8_commands_X8_raises
set_option maxRecDepth 20000 in
theorem ggX8_commands_X8_carries : GoodIn wsX8_commands wsX8_carries := goodIn_ca (goodIn_ca (goodIn_r _ [131, 18, 112, 132, 133, 134, 10, 135, 5, 113, 114, 115, 136, 137, 138, 139, 140, 141, 4, 142, 143, 144, 145, 146, 147, 148, 149, 150, 151, 152, 153, 154, 155, 156, 157, 158, 159, 160, 161, 162, 163, 164, 165, 166, 167, 168, 169, 170, 171, 172, 173, 174, 175, 176, 177, 178, 179, 180, 181, 182, 183, 49, 184, 185, 186, 187, 188, 189, 190, 191, 192, 193, 194, 195, 196, 197, 198, 199, 200, 201, 202, 203, 204, 205, 206, 207, 208, 209, 210, 211, 212, 213, 214, 215, 216, 217, 218, 219, 220, 221, 222, 223, 224, 225, 226, 52, 53, 227, 228, 229, 230, 231, 232, 233, 234, 235, 236, 237, 244, 245, 246, 247, 248, 249, 250, 251, 252, 253, 254, 255, 256, 257, 258, 259, 260, 261, 262] rfl (by decide +kernel)) (goodIn_sub (fun _ h => List.mem_cons_of_mem _ (List.mem_append_left _ (List.mem_append_right _ h))) (by decide +kernel))) (goodIn_sub (fun _ h => List.mem_cons_of_mem _ (List.mem_append_right _ h)) (by decide +kernel))
set_option maxRecDepth 20000 in
theorem gX8_commands_X8_carries : GoodIn wsX8_commands (wsV RX8 206 RX8 yX8_carries wsX8_carries) := goodIn_app (goodIn_r _ [128, 129, 130, 10] rfl (by decide +kernel)) ggX8_commands_X8_carries
set_option maxRecDepth 20000 in
theorem ggX8_commands_X8_keeps : GoodIn wsX8_commands wsX8_keeps := goodIn_ca (goodIn_r _ [241, 242, 243, 6, 244, 245, 246, 247, 248, 249, 250, 251, 252, 253, 254, 255, 256, 257, 258, 259, 260, 261, 262] rfl (by decide +kernel)) (goodIn_sub (fun _ h => List.mem_cons_of_mem _ (List.mem_append_left _ (List.mem_append_right _ h))) (by decide +kernel))
set_option maxRecDepth 20000 in
theorem gX8_commands_X8_keeps : GoodIn wsX8_commands (wsV RX8 54 RX8 yX8_keeps wsX8_keeps) := goodIn_app (goodIn_r _ [238, 239, 240, 10] rfl (by decide +kernel)) ggX8_commands_X8_keeps
theorem dX8_commands_0 : decode cX8_commands 0 = .ok (.aload_n 0, 1) := by decide +kernel
theorem dX8_commands_1 : decode cX8_commands 1 = .ok (.invokevirtual 87, 3) := by decide +kernel
theorem dX8_commands_4 : decode cX8_commands 4 = .ok (.aload_n 0, 1) := by decide +kernel
theorem dX8_commands_5 : decode cX8_commands 5 = .ok (.iconst 0, 1) := by decide +kernel
theorem dX8_commands_6 : decode cX8_commands 6 = .ok (.putfield 179, 3) := by decide +kernel
theorem dX8_commands_9 : decode cX8_commands 9 = .ok (.aload_n 0, 1) := by decide +kernel
theorem dX8_commands_10 : decode cX8_commands 10 = .ok (.iconst (-1), 1) := by decide +kernel
theorem dX8_commands_11 : decode cX8_commands 11 = .ok (.putfield 32, 3) := by decide +kernel
theorem dX8_commands_14 : decode cX8_commands 14 = .ok (.aload_n 0, 1) := by decide +kernel
theorem dX8_commands_15 : decode cX8_commands 15 = .ok (.invokevirtual 203, 3) := by decide +kernel
theorem dX8_commands_18 : decode cX8_commands 18 = .ok (.istore_n 1, 1) := by decide +kernel
theorem dX8_commands_19 : decode cX8_commands 19 = .ok (.iload_n 1, 1) := by decide +kernel
theorem dX8_commands_20 : decode cX8_commands 20 = .ok (.ifCond .eq 39, 3) := by decide +kernel
theorem dX8_commands_23 : decode cX8_commands 23 = .ok (.aload_n 0, 1) := by decide +kernel
theorem dX8_commands_24 : decode cX8_commands 24 = .ok (.getfield 179, 3) := by decide +kernel
theorem dX8_commands_27 : decode cX8_commands 27 = .ok (.aload_n 0, 1) := by decide +kernel
theorem dX8_commands_28 : decode cX8_commands 28 = .ok (.getfield 176, 3) := by decide +kernel
theorem dX8_commands_31 : decode cX8_commands 31 = .ok (.if_icmp .ge 28, 3) := by decide +kernel
theorem dX8_commands_34 : decode cX8_commands 34 = .ok (.aload_n 0, 1) := by decide +kernel
theorem dX8_commands_35 : decode cX8_commands 35 = .ok (.bipush 59, 2) := by decide +kernel
theorem dX8_commands_37 : decode cX8_commands 37 = .ok (.invokevirtual 182, 3) := by decide +kernel
theorem dX8_commands_40 : decode cX8_commands 40 = .ok (.ifCond .eq 14, 3) := by decide +kernel
theorem dX8_commands_43 : decode cX8_commands 43 = .ok (.aload_n 0, 1) := by decide +kernel
theorem dX8_commands_44 : decode cX8_commands 44 = .ok (.invokevirtual 203, 3) := by decide +kernel
theorem dX8_commands_47 : decode cX8_commands 47 = .ok (.ifCond .eq 7, 3) := by decide +kernel
theorem dX8_commands_50 : decode cX8_commands 50 = .ok (.iconst 1, 1) := by decide +kernel
theorem dX8_commands_51 : decode cX8_commands 51 = .ok (.goto 4, 3) := by decide +kernel
theorem dX8_commands_54 : decode cX8_commands 54 = .ok (.iconst 0, 1) := by decide +kernel
theorem dX8_commands_55 : decode cX8_commands 55 = .ok (.istore_n 1, 1) := by decide +kernel
theorem dX8_commands_56 : decode cX8_commands 56 = .ok (.goto (-37), 3) := by decide +kernel
theorem dX8_commands_59 : decode cX8_commands 59 = .ok (.iload_n 1, 1) := by decide +kernel
theorem dX8_commands_60 : decode cX8_commands 60 = .ok (.ifCond .ne 22, 3) := by decide +kernel
theorem dX8_commands_63 : decode cX8_commands 63 = .ok (.aload_n 0, 1) := by decide +kernel
theorem dX8_commands_64 : decode cX8_commands 64 = .ok (.aload_n 0, 1) := by decide +kernel
theorem dX8_commands_65 : decode cX8_commands 65 = .ok (.getfield 179, 3) := by decide +kernel
theorem dX8_commands_68 : decode cX8_commands 68 = .ok (.putfield 32, 3) := by decide +kernel
theorem dX8_commands_71 : decode cX8_commands 71 = .ok (.aload_n 0, 1) := by decide +kernel
theorem dX8_commands_72 : decode cX8_commands 72 = .ok (.iconst 0, 1) := by decide +kernel
theorem dX8_commands_73 : decode cX8_commands 73 = .ok (.putfield 176, 3) := by decide +kernel
theorem dX8_commands_76 : decode cX8_commands 76 = .ok (.aload_n 0, 1) := by decide +kernel
theorem dX8_commands_77 : decode cX8_commands 77 = .ok (.iconst 1, 1) := by decide +kernel
theorem dX8_commands_78 : decode cX8_commands 78 = .ok (.invokevirtual 58, 3) := by decide +kernel
theorem dX8_commands_81 : decode cX8_commands 81 = .ok (.ireturn, 1) := by decide +kernel
theorem dX8_commands_82 : decode cX8_commands 82 = .ok (.aload_n 0, 1) := by decide +kernel
theorem dX8_commands_83 : decode cX8_commands 83 = .ok (.iconst 0, 1) := by decide +kernel
theorem dX8_commands_84 : decode cX8_commands 84 = .ok (.putfield 179, 3) := by decide +kernel
theorem dX8_commands_87 : decode cX8_commands 87 = .ok (.iconst 0, 1) := by decide +kernel
theorem dX8_commands_88 : decode cX8_commands 88 = .ok (.istore_n 2, 1) := by decide +kernel
theorem dX8_commands_89 : decode cX8_commands 89 = .ok (.iconst 1, 1) := by decide +kernel
theorem dX8_commands_90 : decode cX8_commands 90 = .ok (.istore_n 3, 1) := by decide +kernel
theorem dX8_commands_91 : decode cX8_commands 91 = .ok (.iconst 1, 1) := by decide +kernel
theorem dX8_commands_92 : decode cX8_commands 92 = .ok (.istore 4, 2) := by decide +kernel
theorem dX8_commands_94 : decode cX8_commands 94 = .ok (.iload 4, 2) := by decide +kernel
theorem dX8_commands_96 : decode cX8_commands 96 = .ok (.ifCond .eq 43, 3) := by decide +kernel
theorem dX8_commands_99 : decode cX8_commands 99 = .ok (.aload_n 0, 1) := by decide +kernel
theorem dX8_commands_100 : decode cX8_commands 100 = .ok (.invokevirtual 203, 3) := by decide +kernel
theorem dX8_commands_103 : decode cX8_commands 103 = .ok (.istore_n 1, 1) := by decide +kernel
theorem dX8_commands_104 : decode cX8_commands 104 = .ok (.aload_n 0, 1) := by decide +kernel
theorem dX8_commands_105 : decode cX8_commands 105 = .ok (.invokevirtual 206, 3) := by decide +kernel
theorem dX8_commands_108 : decode cX8_commands 108 = .ok (.istore_n 3, 1) := by decide +kernel
theorem dX8_commands_109 : decode cX8_commands 109 = .ok (.iload_n 3, 1) := by decide +kernel
theorem dX8_commands_110 : decode cX8_commands 110 = .ok (.ifCond .eq 6, 3) := by decide +kernel
theorem dX8_commands_113 : decode cX8_commands 113 = .ok (.iinc 2 1, 3) := by decide +kernel
theorem dX8_commands_116 : decode cX8_commands 116 = .ok (.iload_n 3, 1) := by decide +kernel
theorem dX8_commands_117 : decode cX8_commands 117 = .ok (.ifCond .eq 16, 3) := by decide +kernel
theorem dX8_commands_120 : decode cX8_commands 120 = .ok (.aload_n 0, 1) := by decide +kernel
theorem dX8_commands_121 : decode cX8_commands 121 = .ok (.bipush 59, 2) := by decide +kernel
theorem dX8_commands_123 : decode cX8_commands 123 = .ok (.invokevirtual 182, 3) := by decide +kernel
theorem dX8_commands_126 : decode cX8_commands 126 = .ok (.ifCond .eq 7, 3) := by decide +kernel
theorem dX8_commands_129 : decode cX8_commands 129 = .ok (.iconst 1, 1) := by decide +kernel
theorem dX8_commands_130 : decode cX8_commands 130 = .ok (.goto 4, 3) := by decide +kernel
theorem dX8_commands_133 : decode cX8_commands 133 = .ok (.iconst 0, 1) := by decide +kernel
theorem dX8_commands_134 : decode cX8_commands 134 = .ok (.istore 4, 2) := by decide +kernel
theorem dX8_commands_136 : decode cX8_commands 136 = .ok (.goto (-42), 3) := by decide +kernel
theorem dX8_commands_139 : decode cX8_commands 139 = .ok (.aload_n 0, 1) := by decide +kernel
theorem dX8_commands_140 : decode cX8_commands 140 = .ok (.iconst 0, 1) := by decide +kernel
theorem dX8_commands_141 : decode cX8_commands 141 = .ok (.putfield 176, 3) := by decide +kernel
theorem dX8_commands_144 : decode cX8_commands 144 = .ok (.iload_n 3, 1) := by decide +kernel
theorem dX8_commands_145 : decode cX8_commands 145 = .ok (.ifCond .eq 9, 3) := by decide +kernel
theorem dX8_commands_148 : decode cX8_commands 148 = .ok (.aload_n 0, 1) := by decide +kernel
theorem dX8_commands_149 : decode cX8_commands 149 = .ok (.iload_n 2, 1) := by decide +kernel
theorem dX8_commands_150 : decode cX8_commands 150 = .ok (.invokevirtual 54, 3) := by decide +kernel
theorem dX8_commands_153 : decode cX8_commands 153 = .ok (.ireturn, 1) := by decide +kernel
theorem dX8_commands_154 : decode cX8_commands 154 = .ok (.aload_n 0, 1) := by decide +kernel
theorem dX8_commands_155 : decode cX8_commands 155 = .ok (.iload_n 2, 1) := by decide +kernel
theorem dX8_commands_156 : decode cX8_commands 156 = .ok (.putfield 51, 3) := by decide +kernel
theorem dX8_commands_159 : decode cX8_commands 159 = .ok (.iconst 0, 1) := by decide +kernel
theorem dX8_commands_160 : decode cX8_commands 160 = .ok (.istore 5, 2) := by decide +kernel
theorem dX8_commands_162 : decode cX8_commands 162 = .ok (.iload 5, 2) := by decide +kernel
theorem dX8_commands_164 : decode cX8_commands 164 = .ok (.bipush 55, 2) := by decide +kernel
theorem dX8_commands_166 : decode cX8_commands 166 = .ok (.if_icmp .ge 23, 3) := by decide +kernel
theorem dX8_commands_169 : decode cX8_commands 169 = .ok (.aload_n 0, 1) := by decide +kernel
theorem dX8_commands_170 : decode cX8_commands 170 = .ok (.getfield 9, 3) := by decide +kernel
theorem dX8_commands_173 : decode cX8_commands 173 = .ok (.iload 5, 2) := by decide +kernel
theorem dX8_commands_175 : decode cX8_commands 175 = .ok (.aload_n 0, 1) := by decide +kernel
theorem dX8_commands_176 : decode cX8_commands 176 = .ok (.getfield 13, 3) := by decide +kernel
theorem dX8_commands_179 : decode cX8_commands 179 = .ok (.iload 5, 2) := by decide +kernel
theorem dX8_commands_181 : decode cX8_commands 181 = .ok (.iaload, 1) := by decide +kernel
theorem dX8_commands_182 : decode cX8_commands 182 = .ok (.iastore, 1) := by decide +kernel
theorem dX8_commands_183 : decode cX8_commands 183 = .ok (.iinc 5 1, 3) := by decide +kernel
theorem dX8_commands_186 : decode cX8_commands 186 = .ok (.goto (-24), 3) := by decide +kernel
theorem dX8_commands_189 : decode cX8_commands 189 = .ok (.aload_n 0, 1) := by decide +kernel
theorem dX8_commands_190 : decode cX8_commands 190 = .ok (.iconst 2, 1) := by decide +kernel
theorem dX8_commands_191 : decode cX8_commands 191 = .ok (.invokevirtual 58, 3) := by decide +kernel
theorem dX8_commands_194 : decode cX8_commands 194 = .ok (.ireturn, 1) := by decide +kernel
theorem dX8_faultPosition_0 : decode cX8_faultPosition 0 = .ok (.aload_n 0, 1) := by decide +kernel
theorem dX8_faultPosition_1 : decode cX8_faultPosition 1 = .ok (.iconst 0, 1) := by decide +kernel
theorem dX8_faultPosition_2 : decode cX8_faultPosition 2 = .ok (.putfield 36, 3) := by decide +kernel
theorem dX8_faultPosition_5 : decode cX8_faultPosition 5 = .ok (.aload_n 0, 1) := by decide +kernel
theorem dX8_faultPosition_6 : decode cX8_faultPosition 6 = .ok (.getfield 32, 3) := by decide +kernel
theorem dX8_faultPosition_9 : decode cX8_faultPosition 9 = .ok (.ireturn, 1) := by decide +kernel
set_option maxRecDepth 20000 in
theorem ggX8_reason_X8_in : GoodIn wsX8_reason wsX8_in := goodIn_r _ [8] rfl (by decide +kernel)
set_option maxRecDepth 20000 in
theorem gX8_reason_X8_in : GoodIn wsX8_reason (va_wsS RX8 61 yX8_in wsX8_in) := goodIn_app (goodIn_r _ [5, 6, 7] rfl (by decide +kernel)) ggX8_reason_X8_in
set_option maxRecDepth 20000 in
theorem ggX8_reason_X8_raises : GoodIn wsX8_reason wsX8_raises := goodIn_r _ [12, 1, 13, 14, 15, 16, 17, 18, 19, 20, 21, 22, 23, 24, 25, 26, 27, 28, 29, 30, 31] rfl (by decide +kernel)
set_option maxRecDepth 20000 in
theorem gX8_reason_X8_raises : GoodIn wsX8_reason (wsV RX8 58 RX8 yX8_raises wsX8_raises) := goodIn_app (goodIn_r _ [9, 10, 11, 7] rfl (by decide +kernel)) ggX8_reason_X8_raises
theorem dX8_reason_0 : decode cX8_reason 0 = .ok (.aload_n 0, 1) := by decide +kernel
theorem dX8_reason_1 : decode cX8_reason 1 = .ok (.iconst 0, 1) := by decide +kernel
theorem dX8_reason_2 : decode cX8_reason 2 = .ok (.putfield 36, 3) := by decide +kernel
theorem dX8_reason_5 : decode cX8_reason 5 = .ok (.iload_n 1, 1) := by decide +kernel
theorem dX8_reason_6 : decode cX8_reason 6 = .ok (.iconst 0, 1) := by decide +kernel
theorem dX8_reason_7 : decode cX8_reason 7 = .ok (.iconst 2, 1) := by decide +kernel
theorem dX8_reason_8 : decode cX8_reason 8 = .ok (.invokestatic 61, 3) := by decide +kernel
theorem dX8_reason_11 : decode cX8_reason 11 = .ok (.ifCond .ne 9, 3) := by decide +kernel
theorem dX8_reason_14 : decode cX8_reason 14 = .ok (.aload_n 0, 1) := by decide +kernel
theorem dX8_reason_15 : decode cX8_reason 15 = .ok (.iconst 1, 1) := by decide +kernel
theorem dX8_reason_16 : decode cX8_reason 16 = .ok (.invokevirtual 58, 3) := by decide +kernel
theorem dX8_reason_19 : decode cX8_reason 19 = .ok (.ireturn, 1) := by decide +kernel
theorem dX8_reason_20 : decode cX8_reason 20 = .ok (.aload_n 0, 1) := by decide +kernel
theorem dX8_reason_21 : decode cX8_reason 21 = .ok (.getfield 45, 3) := by decide +kernel
theorem dX8_reason_24 : decode cX8_reason 24 = .ok (.ifCond .ne 9, 3) := by decide +kernel
theorem dX8_reason_27 : decode cX8_reason 27 = .ok (.aload_n 0, 1) := by decide +kernel
theorem dX8_reason_28 : decode cX8_reason 28 = .ok (.iconst 2, 1) := by decide +kernel
theorem dX8_reason_29 : decode cX8_reason 29 = .ok (.invokevirtual 58, 3) := by decide +kernel
theorem dX8_reason_32 : decode cX8_reason 32 = .ok (.ireturn, 1) := by decide +kernel
theorem dX8_reason_33 : decode cX8_reason 33 = .ok (.iload_n 1, 1) := by decide +kernel
theorem dX8_reason_34 : decode cX8_reason 34 = .ok (.ifCond .ne 10, 3) := by decide +kernel
theorem dX8_reason_37 : decode cX8_reason 37 = .ok (.aload_n 0, 1) := by decide +kernel
theorem dX8_reason_38 : decode cX8_reason 38 = .ok (.getfield 45, 3) := by decide +kernel
theorem dX8_reason_41 : decode cX8_reason 41 = .ok (.goto 19, 3) := by decide +kernel
theorem dX8_reason_44 : decode cX8_reason 44 = .ok (.iload_n 1, 1) := by decide +kernel
theorem dX8_reason_45 : decode cX8_reason 45 = .ok (.iconst 1, 1) := by decide +kernel
theorem dX8_reason_46 : decode cX8_reason 46 = .ok (.if_icmp .ne 10, 3) := by decide +kernel
theorem dX8_reason_49 : decode cX8_reason 49 = .ok (.aload_n 0, 1) := by decide +kernel
theorem dX8_reason_50 : decode cX8_reason 50 = .ok (.getfield 48, 3) := by decide +kernel
theorem dX8_reason_53 : decode cX8_reason 53 = .ok (.goto 7, 3) := by decide +kernel
theorem dX8_reason_56 : decode cX8_reason 56 = .ok (.aload_n 0, 1) := by decide +kernel
theorem dX8_reason_57 : decode cX8_reason 57 = .ok (.getfield 51, 3) := by decide +kernel
theorem dX8_reason_60 : decode cX8_reason 60 = .ok (.ireturn, 1) := by decide +kernel
theorem dX8_signs_0 : decode cX8_signs 0 = .ok (.aload_n 0, 1) := by decide +kernel
theorem dX8_signs_1 : decode cX8_signs 1 = .ok (.getfield 22, 3) := by decide +kernel
theorem dX8_signs_4 : decode cX8_signs 4 = .ok (.aload_n 0, 1) := by decide +kernel
theorem dX8_signs_5 : decode cX8_signs 5 = .ok (.dup, 1) := by decide +kernel
theorem dX8_signs_6 : decode cX8_signs 6 = .ok (.getfield 209, 3) := by decide +kernel
theorem dX8_signs_9 : decode cX8_signs 9 = .ok (.dup_x1, 1) := by decide +kernel
theorem dX8_signs_10 : decode cX8_signs 10 = .ok (.iconst 1, 1) := by decide +kernel
theorem dX8_signs_11 : decode cX8_signs 11 = .ok (.iadd, 1) := by decide +kernel
theorem dX8_signs_12 : decode cX8_signs 12 = .ok (.putfield 209, 3) := by decide +kernel
theorem dX8_signs_15 : decode cX8_signs 15 = .ok (.iload_n 1, 1) := by decide +kernel
theorem dX8_signs_16 : decode cX8_signs 16 = .ok (.castore, 1) := by decide +kernel
theorem dX8_signs_17 : decode cX8_signs 17 = .ok (.return_, 1) := by decide +kernel
set_option maxRecDepth 20000 in
theorem ggX8_writes_X8_writes : GoodIn wsX8_writes wsX8_writes := goodIn_ca (goodIn_r _ [0, 1, 2, 3, 4, 5, 6, 7, 8, 9, 10, 11, 12, 13, 14, 15, 16, 17, 18, 19, 20, 21, 22, 23, 24, 25, 26, 27, 28, 29] rfl (by decide +kernel)) (goodIn_sub (fun _ h => List.mem_cons_of_mem _ (List.mem_append_right _ h)) (by decide +kernel))
set_option maxRecDepth 20000 in
theorem gX8_writes_X8_writes : GoodIn wsX8_writes (wsV RX8 212 RX8 yX8_writes wsX8_writes) := goodIn_app (goodIn_r _ [1, 2, 3, 4] rfl (by decide +kernel)) ggX8_writes_X8_writes
set_option maxRecDepth 20000 in
theorem ggX8_writes_X8_signs : GoodIn wsX8_writes wsX8_signs := goodIn_ca (goodIn_r _ [8, 9, 10, 11, 12, 13, 14, 15, 16, 17, 18, 19, 20, 21, 22, 23, 24, 25, 26, 27, 28, 29] rfl (by decide +kernel)) (goodIn_sub (fun _ h => List.mem_cons_of_mem _ (List.mem_append_right _ h)) (by decide +kernel))
set_option maxRecDepth 20000 in
theorem gX8_writes_X8_signs : GoodIn wsX8_writes (wsV RX8 216 RX8 yX8_signs wsX8_signs) := goodIn_app (goodIn_r _ [5, 6, 7, 4] rfl (by decide +kernel)) ggX8_writes_X8_signs
theorem dX8_writes_0 : decode cX8_writes 0 = .ok (.iload_n 1, 1) := by decide +kernel
theorem dX8_writes_1 : decode cX8_writes 1 = .ok (.bipush 9, 2) := by decide +kernel
theorem dX8_writes_3 : decode cX8_writes 3 = .ok (.if_icmp .le 11, 3) := by decide +kernel
theorem dX8_writes_6 : decode cX8_writes 6 = .ok (.aload_n 0, 1) := by decide +kernel
theorem dX8_writes_7 : decode cX8_writes 7 = .ok (.iload_n 1, 1) := by decide +kernel
theorem dX8_writes_8 : decode cX8_writes 8 = .ok (.bipush 10, 2) := by decide +kernel
theorem dX8_writes_10 : decode cX8_writes 10 = .ok (.idiv, 1) := by decide +kernel
theorem dX8_writes_11 : decode cX8_writes 11 = .ok (.invokevirtual 212, 3) := by decide +kernel
theorem dX8_writes_14 : decode cX8_writes 14 = .ok (.aload_n 0, 1) := by decide +kernel
theorem dX8_writes_15 : decode cX8_writes 15 = .ok (.bipush 48, 2) := by decide +kernel
theorem dX8_writes_17 : decode cX8_writes 17 = .ok (.iload_n 1, 1) := by decide +kernel
theorem dX8_writes_18 : decode cX8_writes 18 = .ok (.bipush 10, 2) := by decide +kernel
theorem dX8_writes_20 : decode cX8_writes 20 = .ok (.irem, 1) := by decide +kernel
theorem dX8_writes_21 : decode cX8_writes 21 = .ok (.iadd, 1) := by decide +kernel
theorem dX8_writes_22 : decode cX8_writes 22 = .ok (.i2c, 1) := by decide +kernel
theorem dX8_writes_23 : decode cX8_writes 23 = .ok (.invokevirtual 216, 3) := by decide +kernel
theorem dX8_writes_26 : decode cX8_writes 26 = .ok (.return_, 1) := by decide +kernel
set_option maxRecDepth 20000 in
theorem ggX8_line_X8_isMember : GoodIn wsX8_line wsX8_isMember := goodIn_ca (goodIn_r _ [7, 8, 9, 10, 6, 11, 29, 30, 31, 32, 33, 34, 35, 36, 37, 38, 39, 40, 41, 42, 43, 44, 45, 46, 47] rfl (by decide +kernel)) (goodIn_sub (fun _ h => List.mem_cons_of_mem _ (List.mem_append_right _ h)) (by decide +kernel))
set_option maxRecDepth 20000 in
theorem gX8_line_X8_isMember : GoodIn wsX8_line (wsV RX8 65 RX8 yX8_isMember wsX8_isMember) := goodIn_app (goodIn_r _ [3, 4, 5, 6] rfl (by decide +kernel)) ggX8_line_X8_isMember
set_option maxRecDepth 20000 in
theorem ggX8_line_X8_of : GoodIn wsX8_line wsX8_of := goodIn_ca (goodIn_r _ [15, 8, 29, 30, 31, 32, 33, 34, 35, 36, 37, 38, 39, 40, 41, 42, 43, 44, 45, 46, 47] rfl (by decide +kernel)) (goodIn_sub (fun _ h => List.mem_cons_of_mem _ (List.mem_append_right _ h)) (by decide +kernel))
set_option maxRecDepth 20000 in
theorem gX8_line_X8_of : GoodIn wsX8_line (wsV RX8 73 RX8 yX8_of wsX8_of) := goodIn_app (goodIn_r _ [12, 13, 14, 6] rfl (by decide +kernel)) ggX8_line_X8_of
set_option maxRecDepth 20000 in
theorem ggX8_line_X8_writes : GoodIn wsX8_line wsX8_writes := goodIn_ca (goodIn_r _ [19, 16, 17, 18, 6, 20, 21, 22, 23, 24, 2, 29, 30, 31, 32, 33, 34, 35, 36, 37, 38, 39, 40, 41, 42, 43, 44, 45, 46, 47] rfl (by decide +kernel)) (goodIn_sub (fun _ h => List.mem_cons_of_mem _ (List.mem_append_right _ h)) (by decide +kernel))
set_option maxRecDepth 20000 in
theorem gX8_line_X8_writes : GoodIn wsX8_line (wsV RX8 212 RX8 yX8_writes wsX8_writes) := goodIn_app (goodIn_r _ [16, 17, 18, 6] rfl (by decide +kernel)) ggX8_line_X8_writes
set_option maxRecDepth 20000 in
theorem ggX8_line_X8_signs : GoodIn wsX8_line wsX8_signs := goodIn_ca (goodIn_r _ [23, 24, 2, 29, 30, 31, 32, 33, 34, 35, 36, 37, 38, 39, 40, 41, 42, 43, 44, 45, 46, 47] rfl (by decide +kernel)) (goodIn_sub (fun _ h => List.mem_cons_of_mem _ (List.mem_append_right _ h)) (by decide +kernel))
set_option maxRecDepth 20000 in
theorem gX8_line_X8_signs : GoodIn wsX8_line (wsV RX8 216 RX8 yX8_signs wsX8_signs) := goodIn_app (goodIn_r _ [20, 21, 22, 6] rfl (by decide +kernel)) ggX8_line_X8_signs
set_option maxRecDepth 20000 in
theorem ggX8_line_X8_hasWagered : GoodIn wsX8_line wsX8_hasWagered := goodIn_ca (goodIn_r _ [28, 12, 13, 14, 6, 15, 8, 29, 30, 31, 32, 33, 34, 35, 36, 37, 38, 39, 40, 41, 42, 43, 44, 45, 46, 47] rfl (by decide +kernel)) (goodIn_sub (fun _ h => List.mem_cons_of_mem _ (List.mem_append_right _ h)) (by decide +kernel))
set_option maxRecDepth 20000 in
theorem gX8_line_X8_hasWagered : GoodIn wsX8_line (wsV RX8 100 RX8 yX8_hasWagered wsX8_hasWagered) := goodIn_app (goodIn_r _ [25, 26, 27, 6] rfl (by decide +kernel)) ggX8_line_X8_hasWagered
theorem dX8_line_0 : decode cX8_line 0 = .ok (.aload_n 0, 1) := by decide +kernel
theorem dX8_line_1 : decode cX8_line 1 = .ok (.aload_n 0, 1) := by decide +kernel
theorem dX8_line_2 : decode cX8_line 2 = .ok (.iload_n 1, 1) := by decide +kernel
theorem dX8_line_3 : decode cX8_line 3 = .ok (.invokevirtual 65, 3) := by decide +kernel
theorem dX8_line_6 : decode cX8_line 6 = .ok (.ifCond .eq 7, 3) := by decide +kernel
theorem dX8_line_9 : decode cX8_line 9 = .ok (.iconst 0, 1) := by decide +kernel
theorem dX8_line_10 : decode cX8_line 10 = .ok (.goto 4, 3) := by decide +kernel
theorem dX8_line_13 : decode cX8_line 13 = .ok (.iconst 1, 1) := by decide +kernel
theorem dX8_line_14 : decode cX8_line 14 = .ok (.putfield 36, 3) := by decide +kernel
theorem dX8_line_17 : decode cX8_line 17 = .ok (.aload_n 0, 1) := by decide +kernel
theorem dX8_line_18 : decode cX8_line 18 = .ok (.getfield 36, 3) := by decide +kernel
theorem dX8_line_21 : decode cX8_line 21 = .ok (.ifCond .le 5, 3) := by decide +kernel
theorem dX8_line_24 : decode cX8_line 24 = .ok (.iconst 0, 1) := by decide +kernel
theorem dX8_line_25 : decode cX8_line 25 = .ok (.ireturn, 1) := by decide +kernel
theorem dX8_line_26 : decode cX8_line 26 = .ok (.aload_n 0, 1) := by decide +kernel
theorem dX8_line_27 : decode cX8_line 27 = .ok (.iconst 0, 1) := by decide +kernel
theorem dX8_line_28 : decode cX8_line 28 = .ok (.putfield 209, 3) := by decide +kernel
theorem dX8_line_31 : decode cX8_line 31 = .ok (.aload_n 0, 1) := by decide +kernel
theorem dX8_line_32 : decode cX8_line 32 = .ok (.aload_n 0, 1) := by decide +kernel
theorem dX8_line_33 : decode cX8_line 33 = .ok (.iload_n 1, 1) := by decide +kernel
theorem dX8_line_34 : decode cX8_line 34 = .ok (.iconst 0, 1) := by decide +kernel
theorem dX8_line_35 : decode cX8_line 35 = .ok (.invokevirtual 73, 3) := by decide +kernel
theorem dX8_line_38 : decode cX8_line 38 = .ok (.invokevirtual 212, 3) := by decide +kernel
theorem dX8_line_41 : decode cX8_line 41 = .ok (.aload_n 0, 1) := by decide +kernel
theorem dX8_line_42 : decode cX8_line 42 = .ok (.bipush 64, 2) := by decide +kernel
theorem dX8_line_44 : decode cX8_line 44 = .ok (.invokevirtual 216, 3) := by decide +kernel
theorem dX8_line_47 : decode cX8_line 47 = .ok (.aload_n 0, 1) := by decide +kernel
theorem dX8_line_48 : decode cX8_line 48 = .ok (.aload_n 0, 1) := by decide +kernel
theorem dX8_line_49 : decode cX8_line 49 = .ok (.iload_n 1, 1) := by decide +kernel
theorem dX8_line_50 : decode cX8_line 50 = .ok (.iconst 1, 1) := by decide +kernel
theorem dX8_line_51 : decode cX8_line 51 = .ok (.invokevirtual 73, 3) := by decide +kernel
theorem dX8_line_54 : decode cX8_line 54 = .ok (.invokevirtual 212, 3) := by decide +kernel
theorem dX8_line_57 : decode cX8_line 57 = .ok (.aload_n 0, 1) := by decide +kernel
theorem dX8_line_58 : decode cX8_line 58 = .ok (.iload_n 1, 1) := by decide +kernel
theorem dX8_line_59 : decode cX8_line 59 = .ok (.invokevirtual 100, 3) := by decide +kernel
theorem dX8_line_62 : decode cX8_line 62 = .ok (.ifCond .ne 8, 3) := by decide +kernel
theorem dX8_line_65 : decode cX8_line 65 = .ok (.aload_n 0, 1) := by decide +kernel
theorem dX8_line_66 : decode cX8_line 66 = .ok (.getfield 209, 3) := by decide +kernel
theorem dX8_line_69 : decode cX8_line 69 = .ok (.ireturn, 1) := by decide +kernel
theorem dX8_line_70 : decode cX8_line 70 = .ok (.aload_n 0, 1) := by decide +kernel
theorem dX8_line_71 : decode cX8_line 71 = .ok (.bipush 61, 2) := by decide +kernel
theorem dX8_line_73 : decode cX8_line 73 = .ok (.invokevirtual 216, 3) := by decide +kernel
theorem dX8_line_76 : decode cX8_line 76 = .ok (.aload_n 0, 1) := by decide +kernel
theorem dX8_line_77 : decode cX8_line 77 = .ok (.aload_n 0, 1) := by decide +kernel
theorem dX8_line_78 : decode cX8_line 78 = .ok (.iload_n 1, 1) := by decide +kernel
theorem dX8_line_79 : decode cX8_line 79 = .ok (.iconst 2, 1) := by decide +kernel
theorem dX8_line_80 : decode cX8_line 80 = .ok (.invokevirtual 73, 3) := by decide +kernel
theorem dX8_line_83 : decode cX8_line 83 = .ok (.invokevirtual 212, 3) := by decide +kernel
theorem dX8_line_86 : decode cX8_line 86 = .ok (.aload_n 0, 1) := by decide +kernel
theorem dX8_line_87 : decode cX8_line 87 = .ok (.bipush 47, 2) := by decide +kernel
theorem dX8_line_89 : decode cX8_line 89 = .ok (.invokevirtual 216, 3) := by decide +kernel
theorem dX8_line_92 : decode cX8_line 92 = .ok (.aload_n 0, 1) := by decide +kernel
theorem dX8_line_93 : decode cX8_line 93 = .ok (.aload_n 0, 1) := by decide +kernel
theorem dX8_line_94 : decode cX8_line 94 = .ok (.iload_n 1, 1) := by decide +kernel
theorem dX8_line_95 : decode cX8_line 95 = .ok (.iconst 3, 1) := by decide +kernel
theorem dX8_line_96 : decode cX8_line 96 = .ok (.invokevirtual 73, 3) := by decide +kernel
theorem dX8_line_99 : decode cX8_line 99 = .ok (.invokevirtual 212, 3) := by decide +kernel
theorem dX8_line_102 : decode cX8_line 102 = .ok (.aload_n 0, 1) := by decide +kernel
theorem dX8_line_103 : decode cX8_line 103 = .ok (.iload_n 1, 1) := by decide +kernel
theorem dX8_line_104 : decode cX8_line 104 = .ok (.iconst 4, 1) := by decide +kernel
theorem dX8_line_105 : decode cX8_line 105 = .ok (.invokevirtual 73, 3) := by decide +kernel
theorem dX8_line_108 : decode cX8_line 108 = .ok (.iconst 1, 1) := by decide +kernel
theorem dX8_line_109 : decode cX8_line 109 = .ok (.if_icmp .ne 9, 3) := by decide +kernel
theorem dX8_line_112 : decode cX8_line 112 = .ok (.aload_n 0, 1) := by decide +kernel
theorem dX8_line_113 : decode cX8_line 113 = .ok (.bipush 33, 2) := by decide +kernel
theorem dX8_line_115 : decode cX8_line 115 = .ok (.invokevirtual 216, 3) := by decide +kernel
theorem dX8_line_118 : decode cX8_line 118 = .ok (.aload_n 0, 1) := by decide +kernel
theorem dX8_line_119 : decode cX8_line 119 = .ok (.getfield 209, 3) := by decide +kernel
theorem dX8_line_122 : decode cX8_line 122 = .ok (.ireturn, 1) := by decide +kernel
set_option maxRecDepth 20000 in
theorem ggX8_board_X8_ownerOf : GoodIn wsX8_board wsX8_ownerOf := goodIn_ca (goodIn_r _ [7, 8, 9, 10, 11, 6, 12, 22, 23, 24, 25, 26, 27, 28, 29, 30, 31, 32, 33, 34, 35, 36, 37, 38, 39, 40] rfl (by decide +kernel)) (goodIn_sub (fun _ h => List.mem_cons_of_mem _ (List.mem_append_right _ h)) (by decide +kernel))
set_option maxRecDepth 20000 in
theorem gX8_board_X8_ownerOf : GoodIn wsX8_board (wsV RX8 81 RX8 yX8_ownerOf wsX8_ownerOf) := goodIn_app (goodIn_r _ [3, 4, 5, 6] rfl (by decide +kernel)) ggX8_board_X8_ownerOf
set_option maxRecDepth 20000 in
theorem ggX8_board_X8_signs : GoodIn wsX8_board wsX8_signs := goodIn_ca (goodIn_r _ [16, 17, 2, 22, 23, 24, 25, 26, 27, 28, 29, 30, 31, 32, 33, 34, 35, 36, 37, 38, 39, 40] rfl (by decide +kernel)) (goodIn_sub (fun _ h => List.mem_cons_of_mem _ (List.mem_append_right _ h)) (by decide +kernel))
set_option maxRecDepth 20000 in
theorem gX8_board_X8_signs : GoodIn wsX8_board (wsV RX8 216 RX8 yX8_signs wsX8_signs) := goodIn_app (goodIn_r _ [13, 14, 15, 6] rfl (by decide +kernel)) ggX8_board_X8_signs
set_option maxRecDepth 20000 in
theorem ggX8_board_X8_writes : GoodIn wsX8_board wsX8_writes := goodIn_ca (goodIn_r _ [21, 18, 19, 20, 6, 13, 14, 15, 16, 17, 2, 22, 23, 24, 25, 26, 27, 28, 29, 30, 31, 32, 33, 34, 35, 36, 37, 38, 39, 40] rfl (by decide +kernel)) (goodIn_sub (fun _ h => List.mem_cons_of_mem _ (List.mem_append_right _ h)) (by decide +kernel))
set_option maxRecDepth 20000 in
theorem gX8_board_X8_writes : GoodIn wsX8_board (wsV RX8 212 RX8 yX8_writes wsX8_writes) := goodIn_app (goodIn_r _ [18, 19, 20, 6] rfl (by decide +kernel)) ggX8_board_X8_writes
theorem dX8_board_0 : decode cX8_board 0 = .ok (.aload_n 0, 1) := by decide +kernel
theorem dX8_board_1 : decode cX8_board 1 = .ok (.iconst 0, 1) := by decide +kernel
theorem dX8_board_2 : decode cX8_board 2 = .ok (.putfield 36, 3) := by decide +kernel
theorem dX8_board_5 : decode cX8_board 5 = .ok (.aload_n 0, 1) := by decide +kernel
theorem dX8_board_6 : decode cX8_board 6 = .ok (.iconst 0, 1) := by decide +kernel
theorem dX8_board_7 : decode cX8_board 7 = .ok (.putfield 209, 3) := by decide +kernel
theorem dX8_board_10 : decode cX8_board 10 = .ok (.iconst 0, 1) := by decide +kernel
theorem dX8_board_11 : decode cX8_board 11 = .ok (.istore_n 1, 1) := by decide +kernel
theorem dX8_board_12 : decode cX8_board 12 = .ok (.iload_n 1, 1) := by decide +kernel
theorem dX8_board_13 : decode cX8_board 13 = .ok (.bipush 10, 2) := by decide +kernel
theorem dX8_board_15 : decode cX8_board 15 = .ok (.if_icmp .ge 35, 3) := by decide +kernel
theorem dX8_board_18 : decode cX8_board 18 = .ok (.aload_n 0, 1) := by decide +kernel
theorem dX8_board_19 : decode cX8_board 19 = .ok (.iload_n 1, 1) := by decide +kernel
theorem dX8_board_20 : decode cX8_board 20 = .ok (.invokevirtual 81, 3) := by decide +kernel
theorem dX8_board_23 : decode cX8_board 23 = .ok (.ifCond .ge 12, 3) := by decide +kernel
theorem dX8_board_26 : decode cX8_board 26 = .ok (.aload_n 0, 1) := by decide +kernel
theorem dX8_board_27 : decode cX8_board 27 = .ok (.bipush 46, 2) := by decide +kernel
theorem dX8_board_29 : decode cX8_board 29 = .ok (.invokevirtual 216, 3) := by decide +kernel
theorem dX8_board_32 : decode cX8_board 32 = .ok (.goto 12, 3) := by decide +kernel
theorem dX8_board_35 : decode cX8_board 35 = .ok (.aload_n 0, 1) := by decide +kernel
theorem dX8_board_36 : decode cX8_board 36 = .ok (.aload_n 0, 1) := by decide +kernel
theorem dX8_board_37 : decode cX8_board 37 = .ok (.iload_n 1, 1) := by decide +kernel
theorem dX8_board_38 : decode cX8_board 38 = .ok (.invokevirtual 81, 3) := by decide +kernel
theorem dX8_board_41 : decode cX8_board 41 = .ok (.invokevirtual 212, 3) := by decide +kernel
theorem dX8_board_44 : decode cX8_board 44 = .ok (.iinc 1 1, 3) := by decide +kernel
theorem dX8_board_47 : decode cX8_board 47 = .ok (.goto (-35), 3) := by decide +kernel
theorem dX8_board_50 : decode cX8_board 50 = .ok (.aload_n 0, 1) := by decide +kernel
theorem dX8_board_51 : decode cX8_board 51 = .ok (.getfield 209, 3) := by decide +kernel
theorem dX8_board_54 : decode cX8_board 54 = .ok (.ireturn, 1) := by decide +kernel
set_option maxRecDepth 20000 in
theorem ggX8_character_X8_in : GoodIn wsX8_character wsX8_in := goodIn_r _ [7] rfl (by decide +kernel)
set_option maxRecDepth 20000 in
theorem gX8_character_X8_in : GoodIn wsX8_character (va_wsS RX8 61 yX8_in wsX8_in) := goodIn_app (goodIn_r _ [4, 5, 6] rfl (by decide +kernel)) ggX8_character_X8_in
theorem dX8_character_0 : decode cX8_character 0 = .ok (.aload_n 0, 1) := by decide +kernel
theorem dX8_character_1 : decode cX8_character 1 = .ok (.iload_n 1, 1) := by decide +kernel
theorem dX8_character_2 : decode cX8_character 2 = .ok (.iconst 0, 1) := by decide +kernel
theorem dX8_character_3 : decode cX8_character 3 = .ok (.aload_n 0, 1) := by decide +kernel
theorem dX8_character_4 : decode cX8_character 4 = .ok (.getfield 209, 3) := by decide +kernel
theorem dX8_character_7 : decode cX8_character 7 = .ok (.iconst 1, 1) := by decide +kernel
theorem dX8_character_8 : decode cX8_character 8 = .ok (.isub, 1) := by decide +kernel
theorem dX8_character_9 : decode cX8_character 9 = .ok (.invokestatic 61, 3) := by decide +kernel
theorem dX8_character_12 : decode cX8_character 12 = .ok (.ifCond .eq 7, 3) := by decide +kernel
theorem dX8_character_15 : decode cX8_character 15 = .ok (.iconst 0, 1) := by decide +kernel
theorem dX8_character_16 : decode cX8_character 16 = .ok (.goto 4, 3) := by decide +kernel
theorem dX8_character_19 : decode cX8_character 19 = .ok (.iconst 1, 1) := by decide +kernel
theorem dX8_character_20 : decode cX8_character 20 = .ok (.putfield 36, 3) := by decide +kernel
theorem dX8_character_23 : decode cX8_character 23 = .ok (.aload_n 0, 1) := by decide +kernel
theorem dX8_character_24 : decode cX8_character 24 = .ok (.getfield 36, 3) := by decide +kernel
theorem dX8_character_27 : decode cX8_character 27 = .ok (.ifCond .ne 12, 3) := by decide +kernel
theorem dX8_character_30 : decode cX8_character 30 = .ok (.aload_n 0, 1) := by decide +kernel
theorem dX8_character_31 : decode cX8_character 31 = .ok (.getfield 22, 3) := by decide +kernel
theorem dX8_character_34 : decode cX8_character 34 = .ok (.iload_n 1, 1) := by decide +kernel
theorem dX8_character_35 : decode cX8_character 35 = .ok (.caload, 1) := by decide +kernel
theorem dX8_character_36 : decode cX8_character 36 = .ok (.goto 5, 3) := by decide +kernel
theorem dX8_character_39 : decode cX8_character 39 = .ok (.bipush 97, 2) := by decide +kernel
theorem dX8_character_41 : decode cX8_character 41 = .ok (.ireturn, 1) := by decide +kernel
set_option maxRecDepth 20000 in
theorem ggX8_coins_X8_of : GoodIn wsX8_coins wsX8_of := goodIn_ca (goodIn_r _ [6, 1, 7, 8, 9, 10, 11, 12, 13, 14, 15, 16, 17, 18, 19, 20, 21, 22, 23, 24, 25] rfl (by decide +kernel)) (goodIn_sub (fun _ h => List.mem_cons_of_mem _ (List.mem_append_right _ h)) (by decide +kernel))
set_option maxRecDepth 20000 in
theorem gX8_coins_X8_of : GoodIn wsX8_coins (wsV RX8 73 RX8 yX8_of wsX8_of) := goodIn_app (goodIn_r _ [2, 3, 4, 5] rfl (by decide +kernel)) ggX8_coins_X8_of
theorem dX8_coins_0 : decode cX8_coins 0 = .ok (.iconst 0, 1) := by decide +kernel
theorem dX8_coins_1 : decode cX8_coins 1 = .ok (.istore_n 1, 1) := by decide +kernel
theorem dX8_coins_2 : decode cX8_coins 2 = .ok (.iconst 0, 1) := by decide +kernel
theorem dX8_coins_3 : decode cX8_coins 3 = .ok (.istore_n 2, 1) := by decide +kernel
theorem dX8_coins_4 : decode cX8_coins 4 = .ok (.iload_n 2, 1) := by decide +kernel
theorem dX8_coins_5 : decode cX8_coins 5 = .ok (.aload_n 0, 1) := by decide +kernel
theorem dX8_coins_6 : decode cX8_coins 6 = .ok (.getfield 9, 3) := by decide +kernel
theorem dX8_coins_9 : decode cX8_coins 9 = .ok (.iconst 0, 1) := by decide +kernel
theorem dX8_coins_10 : decode cX8_coins 10 = .ok (.iaload, 1) := by decide +kernel
theorem dX8_coins_11 : decode cX8_coins 11 = .ok (.if_icmp .ge 18, 3) := by decide +kernel
theorem dX8_coins_14 : decode cX8_coins 14 = .ok (.iload_n 1, 1) := by decide +kernel
theorem dX8_coins_15 : decode cX8_coins 15 = .ok (.aload_n 0, 1) := by decide +kernel
theorem dX8_coins_16 : decode cX8_coins 16 = .ok (.iload_n 2, 1) := by decide +kernel
theorem dX8_coins_17 : decode cX8_coins 17 = .ok (.iconst 0, 1) := by decide +kernel
theorem dX8_coins_18 : decode cX8_coins 18 = .ok (.invokevirtual 73, 3) := by decide +kernel
theorem dX8_coins_21 : decode cX8_coins 21 = .ok (.iadd, 1) := by decide +kernel
theorem dX8_coins_22 : decode cX8_coins 22 = .ok (.istore_n 1, 1) := by decide +kernel
theorem dX8_coins_23 : decode cX8_coins 23 = .ok (.iinc 2 1, 3) := by decide +kernel
theorem dX8_coins_26 : decode cX8_coins 26 = .ok (.goto (-22), 3) := by decide +kernel
theorem dX8_coins_29 : decode cX8_coins 29 = .ok (.iload_n 1, 1) := by decide +kernel
theorem dX8_coins_30 : decode cX8_coins 30 = .ok (.ireturn, 1) := by decide +kernel
set_option maxRecDepth 20000 in
theorem ggX8_meanCoins_X8_raises : GoodIn wsX8_meanCoins wsX8_raises := goodIn_r _ [7, 1, 16, 17, 18, 19, 20, 21, 22, 23, 24, 25, 26, 27, 28, 29, 30, 31, 32, 33, 34] rfl (by decide +kernel)
set_option maxRecDepth 20000 in
theorem gX8_meanCoins_X8_raises : GoodIn wsX8_meanCoins (wsV RX8 58 RX8 yX8_raises wsX8_raises) := goodIn_app (goodIn_r _ [3, 4, 5, 6] rfl (by decide +kernel)) ggX8_meanCoins_X8_raises
set_option maxRecDepth 20000 in
theorem ggX8_meanCoins_X8_coins : GoodIn wsX8_meanCoins wsX8_coins := goodIn_ca (goodIn_r _ [11, 2, 12, 13, 14, 6, 15, 16, 17, 18, 19, 20, 21, 22, 23, 24, 25, 26, 27, 28, 29, 30, 31, 32, 33, 34] rfl (by decide +kernel)) (goodIn_sub (fun _ h => List.mem_cons_of_mem _ (List.mem_append_right _ h)) (by decide +kernel))
set_option maxRecDepth 20000 in
theorem gX8_meanCoins_X8_coins : GoodIn wsX8_meanCoins (wsV RX8 220 RX8 yX8_coins wsX8_coins) := goodIn_app (goodIn_r _ [8, 9, 10, 6] rfl (by decide +kernel)) ggX8_meanCoins_X8_coins
theorem dX8_meanCoins_0 : decode cX8_meanCoins 0 = .ok (.aload_n 0, 1) := by decide +kernel
theorem dX8_meanCoins_1 : decode cX8_meanCoins 1 = .ok (.iconst 0, 1) := by decide +kernel
theorem dX8_meanCoins_2 : decode cX8_meanCoins 2 = .ok (.putfield 36, 3) := by decide +kernel
theorem dX8_meanCoins_5 : decode cX8_meanCoins 5 = .ok (.aload_n 0, 1) := by decide +kernel
theorem dX8_meanCoins_6 : decode cX8_meanCoins 6 = .ok (.getfield 9, 3) := by decide +kernel
theorem dX8_meanCoins_9 : decode cX8_meanCoins 9 = .ok (.iconst 0, 1) := by decide +kernel
theorem dX8_meanCoins_10 : decode cX8_meanCoins 10 = .ok (.iaload, 1) := by decide +kernel
theorem dX8_meanCoins_11 : decode cX8_meanCoins 11 = .ok (.ifCond .ne 12, 3) := by decide +kernel
theorem dX8_meanCoins_14 : decode cX8_meanCoins 14 = .ok (.aload_n 0, 1) := by decide +kernel
theorem dX8_meanCoins_15 : decode cX8_meanCoins 15 = .ok (.iconst 1, 1) := by decide +kernel
theorem dX8_meanCoins_16 : decode cX8_meanCoins 16 = .ok (.invokevirtual 58, 3) := by decide +kernel
theorem dX8_meanCoins_19 : decode cX8_meanCoins 19 = .ok (.i2d, 1) := by decide +kernel
theorem dX8_meanCoins_20 : decode cX8_meanCoins 20 = .ok (.goto 16, 3) := by decide +kernel
theorem dX8_meanCoins_23 : decode cX8_meanCoins 23 = .ok (.aload_n 0, 1) := by decide +kernel
theorem dX8_meanCoins_24 : decode cX8_meanCoins 24 = .ok (.invokevirtual 220, 3) := by decide +kernel
theorem dX8_meanCoins_27 : decode cX8_meanCoins 27 = .ok (.i2d, 1) := by decide +kernel
theorem dX8_meanCoins_28 : decode cX8_meanCoins 28 = .ok (.aload_n 0, 1) := by decide +kernel
theorem dX8_meanCoins_29 : decode cX8_meanCoins 29 = .ok (.getfield 9, 3) := by decide +kernel
theorem dX8_meanCoins_32 : decode cX8_meanCoins 32 = .ok (.iconst 0, 1) := by decide +kernel
theorem dX8_meanCoins_33 : decode cX8_meanCoins 33 = .ok (.iaload, 1) := by decide +kernel
theorem dX8_meanCoins_34 : decode cX8_meanCoins 34 = .ok (.i2d, 1) := by decide +kernel
theorem dX8_meanCoins_35 : decode cX8_meanCoins 35 = .ok (.ddiv, 1) := by decide +kernel
theorem dX8_meanCoins_36 : decode cX8_meanCoins 36 = .ok (.dreturn, 1) := by decide +kernel
set_option maxRecDepth 20000 in
theorem ggX8_tappedShare_X8_of : GoodIn wsX8_tappedShare wsX8_of := goodIn_ca (goodIn_r _ [7, 2, 20, 21, 22, 23, 24, 25, 26, 27, 28, 29, 30, 31, 32, 33, 34, 35, 36, 37, 38] rfl (by decide +kernel)) (goodIn_sub (fun _ h => List.mem_cons_of_mem _ (List.mem_append_right _ h)) (by decide +kernel))
set_option maxRecDepth 20000 in
theorem gX8_tappedShare_X8_of : GoodIn wsX8_tappedShare (wsV RX8 73 RX8 yX8_of wsX8_of) := goodIn_app (goodIn_r _ [3, 4, 5, 6] rfl (by decide +kernel)) ggX8_tappedShare_X8_of
set_option maxRecDepth 20000 in
theorem ggX8_tappedShare_X8_wagered : GoodIn wsX8_tappedShare wsX8_wagered := goodIn_ca (goodIn_r _ [11, 2, 12, 13, 14, 6, 15, 3, 4, 5, 7, 20, 21, 22, 23, 24, 25, 26, 27, 28, 29, 30, 31, 32, 33, 34, 35, 36, 37, 38] rfl (by decide +kernel)) (goodIn_sub (fun _ h => List.mem_cons_of_mem _ (List.mem_append_right _ h)) (by decide +kernel))
set_option maxRecDepth 20000 in
theorem gX8_tappedShare_X8_wagered : GoodIn wsX8_tappedShare (wsV RX8 138 RX8 yX8_wagered wsX8_wagered) := goodIn_app (goodIn_r _ [8, 9, 10, 6] rfl (by decide +kernel)) ggX8_tappedShare_X8_wagered
set_option maxRecDepth 20000 in
theorem ggX8_tappedShare_X8_raises : GoodIn wsX8_tappedShare wsX8_raises := goodIn_r _ [19, 1, 20, 21, 22, 23, 24, 25, 26, 27, 28, 29, 30, 31, 32, 33, 34, 35, 36, 37, 38] rfl (by decide +kernel)
set_option maxRecDepth 20000 in
theorem gX8_tappedShare_X8_raises : GoodIn wsX8_tappedShare (wsV RX8 58 RX8 yX8_raises wsX8_raises) := goodIn_app (goodIn_r _ [16, 17, 18, 6] rfl (by decide +kernel)) ggX8_tappedShare_X8_raises
theorem dX8_tappedShare_0 : decode cX8_tappedShare 0 = .ok (.aload_n 0, 1) := by decide +kernel
theorem dX8_tappedShare_1 : decode cX8_tappedShare 1 = .ok (.iconst 0, 1) := by decide +kernel
theorem dX8_tappedShare_2 : decode cX8_tappedShare 2 = .ok (.putfield 36, 3) := by decide +kernel
theorem dX8_tappedShare_5 : decode cX8_tappedShare 5 = .ok (.iconst 0, 1) := by decide +kernel
theorem dX8_tappedShare_6 : decode cX8_tappedShare 6 = .ok (.istore_n 1, 1) := by decide +kernel
theorem dX8_tappedShare_7 : decode cX8_tappedShare 7 = .ok (.iconst 0, 1) := by decide +kernel
theorem dX8_tappedShare_8 : decode cX8_tappedShare 8 = .ok (.istore_n 2, 1) := by decide +kernel
theorem dX8_tappedShare_9 : decode cX8_tappedShare 9 = .ok (.iload_n 2, 1) := by decide +kernel
theorem dX8_tappedShare_10 : decode cX8_tappedShare 10 = .ok (.aload_n 0, 1) := by decide +kernel
theorem dX8_tappedShare_11 : decode cX8_tappedShare 11 = .ok (.getfield 9, 3) := by decide +kernel
theorem dX8_tappedShare_14 : decode cX8_tappedShare 14 = .ok (.iconst 0, 1) := by decide +kernel
theorem dX8_tappedShare_15 : decode cX8_tappedShare 15 = .ok (.iaload, 1) := by decide +kernel
theorem dX8_tappedShare_16 : decode cX8_tappedShare 16 = .ok (.if_icmp .ge 18, 3) := by decide +kernel
theorem dX8_tappedShare_19 : decode cX8_tappedShare 19 = .ok (.iload_n 1, 1) := by decide +kernel
theorem dX8_tappedShare_20 : decode cX8_tappedShare 20 = .ok (.aload_n 0, 1) := by decide +kernel
theorem dX8_tappedShare_21 : decode cX8_tappedShare 21 = .ok (.iload_n 2, 1) := by decide +kernel
theorem dX8_tappedShare_22 : decode cX8_tappedShare 22 = .ok (.iconst 4, 1) := by decide +kernel
theorem dX8_tappedShare_23 : decode cX8_tappedShare 23 = .ok (.invokevirtual 73, 3) := by decide +kernel
theorem dX8_tappedShare_26 : decode cX8_tappedShare 26 = .ok (.iadd, 1) := by decide +kernel
theorem dX8_tappedShare_27 : decode cX8_tappedShare 27 = .ok (.istore_n 1, 1) := by decide +kernel
theorem dX8_tappedShare_28 : decode cX8_tappedShare 28 = .ok (.iinc 2 1, 3) := by decide +kernel
theorem dX8_tappedShare_31 : decode cX8_tappedShare 31 = .ok (.goto (-22), 3) := by decide +kernel
theorem dX8_tappedShare_34 : decode cX8_tappedShare 34 = .ok (.aload_n 0, 1) := by decide +kernel
theorem dX8_tappedShare_35 : decode cX8_tappedShare 35 = .ok (.invokevirtual 138, 3) := by decide +kernel
theorem dX8_tappedShare_38 : decode cX8_tappedShare 38 = .ok (.ifCond .ne 12, 3) := by decide +kernel
theorem dX8_tappedShare_41 : decode cX8_tappedShare 41 = .ok (.aload_n 0, 1) := by decide +kernel
theorem dX8_tappedShare_42 : decode cX8_tappedShare 42 = .ok (.iconst 1, 1) := by decide +kernel
theorem dX8_tappedShare_43 : decode cX8_tappedShare 43 = .ok (.invokevirtual 58, 3) := by decide +kernel
theorem dX8_tappedShare_46 : decode cX8_tappedShare 46 = .ok (.i2f, 1) := by decide +kernel
theorem dX8_tappedShare_47 : decode cX8_tappedShare 47 = .ok (.goto 11, 3) := by decide +kernel
theorem dX8_tappedShare_50 : decode cX8_tappedShare 50 = .ok (.iload_n 1, 1) := by decide +kernel
theorem dX8_tappedShare_51 : decode cX8_tappedShare 51 = .ok (.i2f, 1) := by decide +kernel
theorem dX8_tappedShare_52 : decode cX8_tappedShare 52 = .ok (.aload_n 0, 1) := by decide +kernel
theorem dX8_tappedShare_53 : decode cX8_tappedShare 53 = .ok (.invokevirtual 138, 3) := by decide +kernel
theorem dX8_tappedShare_56 : decode cX8_tappedShare 56 = .ok (.i2f, 1) := by decide +kernel
theorem dX8_tappedShare_57 : decode cX8_tappedShare 57 = .ok (.fdiv, 1) := by decide +kernel
theorem dX8_tappedShare_58 : decode cX8_tappedShare 58 = .ok (.freturn, 1) := by decide +kernel
set_option maxRecDepth 20000 in
theorem ggX8_account_X8_coins : GoodIn wsX8_account wsX8_coins := goodIn_ca (goodIn_r _ [9, 2, 10, 11, 12, 8, 13, 26, 27, 28, 29, 30, 31, 32, 33, 34, 35, 36, 37, 38, 39, 40, 41, 42, 43, 44] rfl (by decide +kernel)) (goodIn_sub (fun _ h => List.mem_cons_of_mem _ (List.mem_append_right _ h)) (by decide +kernel))
set_option maxRecDepth 20000 in
theorem gX8_account_X8_coins : GoodIn wsX8_account (wsV RX8 220 RX8 yX8_coins wsX8_coins) := goodIn_app (goodIn_r _ [5, 6, 7, 8] rfl (by decide +kernel)) ggX8_account_X8_coins
set_option maxRecDepth 20000 in
theorem ggX8_account_X8_wagered : GoodIn wsX8_account wsX8_wagered := goodIn_ca (goodIn_r _ [17, 2, 18, 19, 20, 8, 21, 10, 11, 12, 13, 26, 27, 28, 29, 30, 31, 32, 33, 34, 35, 36, 37, 38, 39, 40, 41, 42, 43, 44] rfl (by decide +kernel)) (goodIn_sub (fun _ h => List.mem_cons_of_mem _ (List.mem_append_right _ h)) (by decide +kernel))
set_option maxRecDepth 20000 in
theorem gX8_account_X8_wagered : GoodIn wsX8_account (wsV RX8 138 RX8 yX8_wagered wsX8_wagered) := goodIn_app (goodIn_r _ [14, 15, 16, 8] rfl (by decide +kernel)) ggX8_account_X8_wagered
set_option maxRecDepth 20000 in
theorem ggX8_account_X8_raises : GoodIn wsX8_account wsX8_raises := goodIn_r _ [25, 1, 26, 27, 28, 29, 30, 31, 32, 33, 34, 35, 36, 37, 38, 39, 40, 41, 42, 43, 44] rfl (by decide +kernel)
set_option maxRecDepth 20000 in
theorem gX8_account_X8_raises : GoodIn wsX8_account (wsV RX8 58 RX8 yX8_raises wsX8_raises) := goodIn_app (goodIn_r _ [22, 23, 24, 8] rfl (by decide +kernel)) ggX8_account_X8_raises
theorem dX8_account_0 : decode cX8_account 0 = .ok (.aload_n 0, 1) := by decide +kernel
theorem dX8_account_1 : decode cX8_account 1 = .ok (.iconst 0, 1) := by decide +kernel
theorem dX8_account_2 : decode cX8_account 2 = .ok (.putfield 36, 3) := by decide +kernel
theorem dX8_account_5 : decode cX8_account 5 = .ok (.iload_n 1, 1) := by decide +kernel
theorem dX8_account_6 : decode cX8_account 6 = .ok (.tableswitch 133 0 10 #[58, 65, 70, 78, 83, 91, 99, 107, 115, 123, 128], 58) := by decide +kernel
theorem dX8_account_64 : decode cX8_account 64 = .ok (.aload_n 0, 1) := by decide +kernel
theorem dX8_account_65 : decode cX8_account 65 = .ok (.getfield 9, 3) := by decide +kernel
theorem dX8_account_68 : decode cX8_account 68 = .ok (.iconst 0, 1) := by decide +kernel
theorem dX8_account_69 : decode cX8_account 69 = .ok (.iaload, 1) := by decide +kernel
theorem dX8_account_70 : decode cX8_account 70 = .ok (.ireturn, 1) := by decide +kernel
theorem dX8_account_71 : decode cX8_account 71 = .ok (.aload_n 0, 1) := by decide +kernel
theorem dX8_account_72 : decode cX8_account 72 = .ok (.invokevirtual 220, 3) := by decide +kernel
theorem dX8_account_75 : decode cX8_account 75 = .ok (.ireturn, 1) := by decide +kernel
theorem dX8_account_76 : decode cX8_account 76 = .ok (.aload_n 0, 1) := by decide +kernel
theorem dX8_account_77 : decode cX8_account 77 = .ok (.getfield 9, 3) := by decide +kernel
theorem dX8_account_80 : decode cX8_account 80 = .ok (.bipush 7, 2) := by decide +kernel
theorem dX8_account_82 : decode cX8_account 82 = .ok (.iaload, 1) := by decide +kernel
theorem dX8_account_83 : decode cX8_account 83 = .ok (.ireturn, 1) := by decide +kernel
theorem dX8_account_84 : decode cX8_account 84 = .ok (.aload_n 0, 1) := by decide +kernel
theorem dX8_account_85 : decode cX8_account 85 = .ok (.invokevirtual 138, 3) := by decide +kernel
theorem dX8_account_88 : decode cX8_account 88 = .ok (.ireturn, 1) := by decide +kernel
theorem dX8_account_89 : decode cX8_account 89 = .ok (.aload_n 0, 1) := by decide +kernel
theorem dX8_account_90 : decode cX8_account 90 = .ok (.getfield 9, 3) := by decide +kernel
theorem dX8_account_93 : decode cX8_account 93 = .ok (.bipush 8, 2) := by decide +kernel
theorem dX8_account_95 : decode cX8_account 95 = .ok (.iaload, 1) := by decide +kernel
theorem dX8_account_96 : decode cX8_account 96 = .ok (.ireturn, 1) := by decide +kernel
theorem dX8_account_97 : decode cX8_account 97 = .ok (.aload_n 0, 1) := by decide +kernel
theorem dX8_account_98 : decode cX8_account 98 = .ok (.getfield 9, 3) := by decide +kernel
theorem dX8_account_101 : decode cX8_account 101 = .ok (.bipush 9, 2) := by decide +kernel
theorem dX8_account_103 : decode cX8_account 103 = .ok (.iaload, 1) := by decide +kernel
theorem dX8_account_104 : decode cX8_account 104 = .ok (.ireturn, 1) := by decide +kernel
theorem dX8_account_105 : decode cX8_account 105 = .ok (.aload_n 0, 1) := by decide +kernel
theorem dX8_account_106 : decode cX8_account 106 = .ok (.getfield 9, 3) := by decide +kernel
theorem dX8_account_109 : decode cX8_account 109 = .ok (.bipush 10, 2) := by decide +kernel
theorem dX8_account_111 : decode cX8_account 111 = .ok (.iaload, 1) := by decide +kernel
theorem dX8_account_112 : decode cX8_account 112 = .ok (.ireturn, 1) := by decide +kernel
theorem dX8_account_113 : decode cX8_account 113 = .ok (.aload_n 0, 1) := by decide +kernel
theorem dX8_account_114 : decode cX8_account 114 = .ok (.getfield 9, 3) := by decide +kernel
theorem dX8_account_117 : decode cX8_account 117 = .ok (.bipush 11, 2) := by decide +kernel
theorem dX8_account_119 : decode cX8_account 119 = .ok (.iaload, 1) := by decide +kernel
theorem dX8_account_120 : decode cX8_account 120 = .ok (.ireturn, 1) := by decide +kernel
theorem dX8_account_121 : decode cX8_account 121 = .ok (.aload_n 0, 1) := by decide +kernel
theorem dX8_account_122 : decode cX8_account 122 = .ok (.getfield 9, 3) := by decide +kernel
theorem dX8_account_125 : decode cX8_account 125 = .ok (.bipush 12, 2) := by decide +kernel
theorem dX8_account_127 : decode cX8_account 127 = .ok (.iaload, 1) := by decide +kernel
theorem dX8_account_128 : decode cX8_account 128 = .ok (.ireturn, 1) := by decide +kernel
theorem dX8_account_129 : decode cX8_account 129 = .ok (.aload_n 0, 1) := by decide +kernel
theorem dX8_account_130 : decode cX8_account 130 = .ok (.getfield 39, 3) := by decide +kernel
theorem dX8_account_133 : decode cX8_account 133 = .ok (.ireturn, 1) := by decide +kernel
theorem dX8_account_134 : decode cX8_account 134 = .ok (.aload_n 0, 1) := by decide +kernel
theorem dX8_account_135 : decode cX8_account 135 = .ok (.getfield 176, 3) := by decide +kernel
theorem dX8_account_138 : decode cX8_account 138 = .ok (.ireturn, 1) := by decide +kernel
theorem dX8_account_139 : decode cX8_account 139 = .ok (.aload_n 0, 1) := by decide +kernel
theorem dX8_account_140 : decode cX8_account 140 = .ok (.iconst 1, 1) := by decide +kernel
theorem dX8_account_141 : decode cX8_account 141 = .ok (.invokevirtual 58, 3) := by decide +kernel
theorem dX8_account_144 : decode cX8_account 144 = .ok (.ireturn, 1) := by decide +kernel
set_option maxRecDepth 20000 in
theorem ggX8_undo_X8_raises : GoodIn wsX8_undo wsX8_raises := goodIn_r _ [9, 1, 10, 11, 12, 13, 14, 15, 16, 17, 18, 19, 20, 21, 22, 23, 24, 25, 26, 27, 28] rfl (by decide +kernel)
set_option maxRecDepth 20000 in
theorem gX8_undo_X8_raises : GoodIn wsX8_undo (wsV RX8 58 RX8 yX8_raises wsX8_raises) := goodIn_app (goodIn_r _ [5, 6, 7, 8] rfl (by decide +kernel)) ggX8_undo_X8_raises
theorem dX8_undo_0 : decode cX8_undo 0 = .ok (.aload_n 0, 1) := by decide +kernel
theorem dX8_undo_1 : decode cX8_undo 1 = .ok (.iconst 0, 1) := by decide +kernel
theorem dX8_undo_2 : decode cX8_undo 2 = .ok (.putfield 36, 3) := by decide +kernel
theorem dX8_undo_5 : decode cX8_undo 5 = .ok (.aload_n 0, 1) := by decide +kernel
theorem dX8_undo_6 : decode cX8_undo 6 = .ok (.getfield 39, 3) := by decide +kernel
theorem dX8_undo_9 : decode cX8_undo 9 = .ok (.ifCond .ne 9, 3) := by decide +kernel
theorem dX8_undo_12 : decode cX8_undo 12 = .ok (.aload_n 0, 1) := by decide +kernel
theorem dX8_undo_13 : decode cX8_undo 13 = .ok (.iconst 1, 1) := by decide +kernel
theorem dX8_undo_14 : decode cX8_undo 14 = .ok (.invokevirtual 58, 3) := by decide +kernel
theorem dX8_undo_17 : decode cX8_undo 17 = .ok (.ireturn, 1) := by decide +kernel
theorem dX8_undo_18 : decode cX8_undo 18 = .ok (.aload_n 0, 1) := by decide +kernel
theorem dX8_undo_19 : decode cX8_undo 19 = .ok (.dup, 1) := by decide +kernel
theorem dX8_undo_20 : decode cX8_undo 20 = .ok (.getfield 39, 3) := by decide +kernel
theorem dX8_undo_23 : decode cX8_undo 23 = .ok (.iconst 1, 1) := by decide +kernel
theorem dX8_undo_24 : decode cX8_undo 24 = .ok (.isub, 1) := by decide +kernel
theorem dX8_undo_25 : decode cX8_undo 25 = .ok (.putfield 39, 3) := by decide +kernel
theorem dX8_undo_28 : decode cX8_undo 28 = .ok (.iconst 0, 1) := by decide +kernel
theorem dX8_undo_29 : decode cX8_undo 29 = .ok (.istore_n 1, 1) := by decide +kernel
theorem dX8_undo_30 : decode cX8_undo 30 = .ok (.iload_n 1, 1) := by decide +kernel
theorem dX8_undo_31 : decode cX8_undo 31 = .ok (.bipush 55, 2) := by decide +kernel
theorem dX8_undo_33 : decode cX8_undo 33 = .ok (.if_icmp .ge 29, 3) := by decide +kernel
theorem dX8_undo_36 : decode cX8_undo 36 = .ok (.aload_n 0, 1) := by decide +kernel
theorem dX8_undo_37 : decode cX8_undo 37 = .ok (.getfield 9, 3) := by decide +kernel
theorem dX8_undo_40 : decode cX8_undo 40 = .ok (.iload_n 1, 1) := by decide +kernel
theorem dX8_undo_41 : decode cX8_undo 41 = .ok (.aload_n 0, 1) := by decide +kernel
theorem dX8_undo_42 : decode cX8_undo 42 = .ok (.getfield 16, 3) := by decide +kernel
theorem dX8_undo_45 : decode cX8_undo 45 = .ok (.bipush 55, 2) := by decide +kernel
theorem dX8_undo_47 : decode cX8_undo 47 = .ok (.aload_n 0, 1) := by decide +kernel
theorem dX8_undo_48 : decode cX8_undo 48 = .ok (.getfield 39, 3) := by decide +kernel
theorem dX8_undo_51 : decode cX8_undo 51 = .ok (.imul, 1) := by decide +kernel
theorem dX8_undo_52 : decode cX8_undo 52 = .ok (.iload_n 1, 1) := by decide +kernel
theorem dX8_undo_53 : decode cX8_undo 53 = .ok (.iadd, 1) := by decide +kernel
theorem dX8_undo_54 : decode cX8_undo 54 = .ok (.iaload, 1) := by decide +kernel
theorem dX8_undo_55 : decode cX8_undo 55 = .ok (.iastore, 1) := by decide +kernel
theorem dX8_undo_56 : decode cX8_undo 56 = .ok (.iinc 1 1, 3) := by decide +kernel
theorem dX8_undo_59 : decode cX8_undo 59 = .ok (.goto (-29), 3) := by decide +kernel
theorem dX8_undo_62 : decode cX8_undo 62 = .ok (.aload_n 0, 1) := by decide +kernel
theorem dX8_undo_63 : decode cX8_undo 63 = .ok (.getfield 39, 3) := by decide +kernel
theorem dX8_undo_66 : decode cX8_undo 66 = .ok (.ireturn, 1) := by decide +kernel
theorem dX8_save_0 : decode cX8_save 0 = .ok (.aload_n 0, 1) := by decide +kernel
theorem dX8_save_1 : decode cX8_save 1 = .ok (.iconst 0, 1) := by decide +kernel
theorem dX8_save_2 : decode cX8_save 2 = .ok (.putfield 36, 3) := by decide +kernel
theorem dX8_save_5 : decode cX8_save 5 = .ok (.aload_n 0, 1) := by decide +kernel
theorem dX8_save_6 : decode cX8_save 6 = .ok (.iconst 1, 1) := by decide +kernel
theorem dX8_save_7 : decode cX8_save 7 = .ok (.putfield 223, 3) := by decide +kernel
theorem dX8_save_10 : decode cX8_save 10 = .ok (.iconst 0, 1) := by decide +kernel
theorem dX8_save_11 : decode cX8_save 11 = .ok (.istore_n 1, 1) := by decide +kernel
theorem dX8_save_12 : decode cX8_save 12 = .ok (.iload_n 1, 1) := by decide +kernel
theorem dX8_save_13 : decode cX8_save 13 = .ok (.bipush 55, 2) := by decide +kernel
theorem dX8_save_15 : decode cX8_save 15 = .ok (.if_icmp .ge 21, 3) := by decide +kernel
theorem dX8_save_18 : decode cX8_save 18 = .ok (.aload_n 0, 1) := by decide +kernel
theorem dX8_save_19 : decode cX8_save 19 = .ok (.getfield 19, 3) := by decide +kernel
theorem dX8_save_22 : decode cX8_save 22 = .ok (.iload_n 1, 1) := by decide +kernel
theorem dX8_save_23 : decode cX8_save 23 = .ok (.aload_n 0, 1) := by decide +kernel
theorem dX8_save_24 : decode cX8_save 24 = .ok (.getfield 9, 3) := by decide +kernel
theorem dX8_save_27 : decode cX8_save 27 = .ok (.iload_n 1, 1) := by decide +kernel
theorem dX8_save_28 : decode cX8_save 28 = .ok (.iaload, 1) := by decide +kernel
theorem dX8_save_29 : decode cX8_save 29 = .ok (.iastore, 1) := by decide +kernel
theorem dX8_save_30 : decode cX8_save 30 = .ok (.iinc 1 1, 3) := by decide +kernel
theorem dX8_save_33 : decode cX8_save 33 = .ok (.goto (-21), 3) := by decide +kernel
theorem dX8_save_36 : decode cX8_save 36 = .ok (.aload_n 0, 1) := by decide +kernel
theorem dX8_save_37 : decode cX8_save 37 = .ok (.getfield 9, 3) := by decide +kernel
theorem dX8_save_40 : decode cX8_save 40 = .ok (.iconst 0, 1) := by decide +kernel
theorem dX8_save_41 : decode cX8_save 41 = .ok (.iaload, 1) := by decide +kernel
theorem dX8_save_42 : decode cX8_save 42 = .ok (.ireturn, 1) := by decide +kernel
set_option maxRecDepth 20000 in
theorem ggX8_restore_X8_raises : GoodIn wsX8_restore wsX8_raises := goodIn_r _ [10, 1, 11, 12, 13, 14, 15, 16, 17, 18, 19, 20, 21, 22, 23, 24, 25, 26, 27, 28, 29] rfl (by decide +kernel)
set_option maxRecDepth 20000 in
theorem gX8_restore_X8_raises : GoodIn wsX8_restore (wsV RX8 58 RX8 yX8_raises wsX8_raises) := goodIn_app (goodIn_r _ [6, 7, 8, 9] rfl (by decide +kernel)) ggX8_restore_X8_raises
theorem dX8_restore_0 : decode cX8_restore 0 = .ok (.aload_n 0, 1) := by decide +kernel
theorem dX8_restore_1 : decode cX8_restore 1 = .ok (.iconst 0, 1) := by decide +kernel
theorem dX8_restore_2 : decode cX8_restore 2 = .ok (.putfield 36, 3) := by decide +kernel
theorem dX8_restore_5 : decode cX8_restore 5 = .ok (.aload_n 0, 1) := by decide +kernel
theorem dX8_restore_6 : decode cX8_restore 6 = .ok (.getfield 223, 3) := by decide +kernel
theorem dX8_restore_9 : decode cX8_restore 9 = .ok (.ifCond .ne 9, 3) := by decide +kernel
theorem dX8_restore_12 : decode cX8_restore 12 = .ok (.aload_n 0, 1) := by decide +kernel
theorem dX8_restore_13 : decode cX8_restore 13 = .ok (.iconst 1, 1) := by decide +kernel
theorem dX8_restore_14 : decode cX8_restore 14 = .ok (.invokevirtual 58, 3) := by decide +kernel
theorem dX8_restore_17 : decode cX8_restore 17 = .ok (.ireturn, 1) := by decide +kernel
theorem dX8_restore_18 : decode cX8_restore 18 = .ok (.iconst 0, 1) := by decide +kernel
theorem dX8_restore_19 : decode cX8_restore 19 = .ok (.istore_n 1, 1) := by decide +kernel
theorem dX8_restore_20 : decode cX8_restore 20 = .ok (.iload_n 1, 1) := by decide +kernel
theorem dX8_restore_21 : decode cX8_restore 21 = .ok (.bipush 55, 2) := by decide +kernel
theorem dX8_restore_23 : decode cX8_restore 23 = .ok (.if_icmp .ge 21, 3) := by decide +kernel
theorem dX8_restore_26 : decode cX8_restore 26 = .ok (.aload_n 0, 1) := by decide +kernel
theorem dX8_restore_27 : decode cX8_restore 27 = .ok (.getfield 9, 3) := by decide +kernel
theorem dX8_restore_30 : decode cX8_restore 30 = .ok (.iload_n 1, 1) := by decide +kernel
theorem dX8_restore_31 : decode cX8_restore 31 = .ok (.aload_n 0, 1) := by decide +kernel
theorem dX8_restore_32 : decode cX8_restore 32 = .ok (.getfield 19, 3) := by decide +kernel
theorem dX8_restore_35 : decode cX8_restore 35 = .ok (.iload_n 1, 1) := by decide +kernel
theorem dX8_restore_36 : decode cX8_restore 36 = .ok (.iaload, 1) := by decide +kernel
theorem dX8_restore_37 : decode cX8_restore 37 = .ok (.iastore, 1) := by decide +kernel
theorem dX8_restore_38 : decode cX8_restore 38 = .ok (.iinc 1 1, 3) := by decide +kernel
theorem dX8_restore_41 : decode cX8_restore 41 = .ok (.goto (-21), 3) := by decide +kernel
theorem dX8_restore_44 : decode cX8_restore 44 = .ok (.aload_n 0, 1) := by decide +kernel
theorem dX8_restore_45 : decode cX8_restore 45 = .ok (.iconst 0, 1) := by decide +kernel
theorem dX8_restore_46 : decode cX8_restore 46 = .ok (.putfield 39, 3) := by decide +kernel
theorem dX8_restore_49 : decode cX8_restore 49 = .ok (.aload_n 0, 1) := by decide +kernel
theorem dX8_restore_50 : decode cX8_restore 50 = .ok (.getfield 9, 3) := by decide +kernel
theorem dX8_restore_53 : decode cX8_restore 53 = .ok (.iconst 0, 1) := by decide +kernel
theorem dX8_restore_54 : decode cX8_restore 54 = .ok (.iaload, 1) := by decide +kernel
theorem dX8_restore_55 : decode cX8_restore 55 = .ok (.ireturn, 1) := by decide +kernel
theorem dJx00060_init_a7421_0 : decode cJx00060_init_a7421 0 = .ok (.aload_n 0, 1) := by decide +kernel
theorem dJx00060_init_a7421_1 : decode cJx00060_init_a7421 1 = .ok (.aload_n 1, 1) := by decide +kernel
theorem dJx00060_init_a7421_2 : decode cJx00060_init_a7421 2 = .ok (.invokespecial 7, 3) := by decide +kernel
theorem dJx00060_init_a7421_5 : decode cJx00060_init_a7421 5 = .ok (.return_, 1) := by decide +kernel
theorem dJ11_isValidCodePoint_9a6ad_0 : decode cJ11_isValidCodePoint_9a6ad 0 = .ok (.iload_n 0, 1) := by decide +kernel
theorem dJ11_isValidCodePoint_9a6ad_1 : decode cJ11_isValidCodePoint_9a6ad 1 = .ok (.bipush 16, 2) := by decide +kernel
theorem dJ11_isValidCodePoint_9a6ad_3 : decode cJ11_isValidCodePoint_9a6ad 3 = .ok (.iushr, 1) := by decide +kernel
theorem dJ11_isValidCodePoint_9a6ad_4 : decode cJ11_isValidCodePoint_9a6ad 4 = .ok (.istore_n 1, 1) := by decide +kernel
theorem dJ11_isValidCodePoint_9a6ad_5 : decode cJ11_isValidCodePoint_9a6ad 5 = .ok (.iload_n 1, 1) := by decide +kernel
theorem dJ11_isValidCodePoint_9a6ad_6 : decode cJ11_isValidCodePoint_9a6ad 6 = .ok (.bipush 17, 2) := by decide +kernel
theorem dJ11_isValidCodePoint_9a6ad_8 : decode cJ11_isValidCodePoint_9a6ad 8 = .ok (.if_icmp .ge 7, 3) := by decide +kernel
theorem dJ11_isValidCodePoint_9a6ad_11 : decode cJ11_isValidCodePoint_9a6ad 11 = .ok (.iconst 1, 1) := by decide +kernel
theorem dJ11_isValidCodePoint_9a6ad_12 : decode cJ11_isValidCodePoint_9a6ad 12 = .ok (.goto 4, 3) := by decide +kernel
theorem dJ11_isValidCodePoint_9a6ad_15 : decode cJ11_isValidCodePoint_9a6ad 15 = .ok (.iconst 0, 1) := by decide +kernel
theorem dJ11_isValidCodePoint_9a6ad_16 : decode cJ11_isValidCodePoint_9a6ad 16 = .ok (.ireturn, 1) := by decide +kernel
theorem dJ11_highSurrogate_5068e_0 : decode cJ11_highSurrogate_5068e 0 = .ok (.iload_n 0, 1) := by decide +kernel
theorem dJ11_highSurrogate_5068e_1 : decode cJ11_highSurrogate_5068e 1 = .ok (.bipush 10, 2) := by decide +kernel
theorem dJ11_highSurrogate_5068e_3 : decode cJ11_highSurrogate_5068e 3 = .ok (.iushr, 1) := by decide +kernel
theorem dJ11_highSurrogate_5068e_4 : decode cJ11_highSurrogate_5068e 4 = .ok (.ldc 110, 2) := by decide +kernel
theorem dJ11_highSurrogate_5068e_6 : decode cJ11_highSurrogate_5068e 6 = .ok (.iadd, 1) := by decide +kernel
theorem dJ11_highSurrogate_5068e_7 : decode cJ11_highSurrogate_5068e 7 = .ok (.i2c, 1) := by decide +kernel
theorem dJ11_highSurrogate_5068e_8 : decode cJ11_highSurrogate_5068e 8 = .ok (.ireturn, 1) := by decide +kernel
theorem dJ11_lowSurrogate_5068e_0 : decode cJ11_lowSurrogate_5068e 0 = .ok (.iload_n 0, 1) := by decide +kernel
theorem dJ11_lowSurrogate_5068e_1 : decode cJ11_lowSurrogate_5068e 1 = .ok (.sipush 1023, 3) := by decide +kernel
theorem dJ11_lowSurrogate_5068e_4 : decode cJ11_lowSurrogate_5068e 4 = .ok (.iand, 1) := by decide +kernel
theorem dJ11_lowSurrogate_5068e_5 : decode cJ11_lowSurrogate_5068e 5 = .ok (.ldc 76, 2) := by decide +kernel
theorem dJ11_lowSurrogate_5068e_7 : decode cJ11_lowSurrogate_5068e 7 = .ok (.iadd, 1) := by decide +kernel
theorem dJ11_lowSurrogate_5068e_8 : decode cJ11_lowSurrogate_5068e 8 = .ok (.i2c, 1) := by decide +kernel
theorem dJ11_lowSurrogate_5068e_9 : decode cJ11_lowSurrogate_5068e 9 = .ok (.ireturn, 1) := by decide +kernel
theorem dJ6_bitCount_0f7a4_0 : decode cJ6_bitCount_0f7a4 0 = .ok (.iload_n 0, 1) := by decide +kernel
theorem dJ6_bitCount_0f7a4_1 : decode cJ6_bitCount_0f7a4 1 = .ok (.iload_n 0, 1) := by decide +kernel
theorem dJ6_bitCount_0f7a4_2 : decode cJ6_bitCount_0f7a4 2 = .ok (.iconst 1, 1) := by decide +kernel
theorem dJ6_bitCount_0f7a4_3 : decode cJ6_bitCount_0f7a4 3 = .ok (.iushr, 1) := by decide +kernel
theorem dJ6_bitCount_0f7a4_4 : decode cJ6_bitCount_0f7a4 4 = .ok (.ldc_w 265, 3) := by decide +kernel
theorem dJ6_bitCount_0f7a4_7 : decode cJ6_bitCount_0f7a4 7 = .ok (.iand, 1) := by decide +kernel
theorem dJ6_bitCount_0f7a4_8 : decode cJ6_bitCount_0f7a4 8 = .ok (.isub, 1) := by decide +kernel
theorem dJ6_bitCount_0f7a4_9 : decode cJ6_bitCount_0f7a4 9 = .ok (.istore_n 0, 1) := by decide +kernel
theorem dJ6_bitCount_0f7a4_10 : decode cJ6_bitCount_0f7a4 10 = .ok (.iload_n 0, 1) := by decide +kernel
theorem dJ6_bitCount_0f7a4_11 : decode cJ6_bitCount_0f7a4 11 = .ok (.ldc_w 266, 3) := by decide +kernel
theorem dJ6_bitCount_0f7a4_14 : decode cJ6_bitCount_0f7a4 14 = .ok (.iand, 1) := by decide +kernel
theorem dJ6_bitCount_0f7a4_15 : decode cJ6_bitCount_0f7a4 15 = .ok (.iload_n 0, 1) := by decide +kernel
theorem dJ6_bitCount_0f7a4_16 : decode cJ6_bitCount_0f7a4 16 = .ok (.iconst 2, 1) := by decide +kernel
theorem dJ6_bitCount_0f7a4_17 : decode cJ6_bitCount_0f7a4 17 = .ok (.iushr, 1) := by decide +kernel
theorem dJ6_bitCount_0f7a4_18 : decode cJ6_bitCount_0f7a4 18 = .ok (.ldc_w 266, 3) := by decide +kernel
theorem dJ6_bitCount_0f7a4_21 : decode cJ6_bitCount_0f7a4 21 = .ok (.iand, 1) := by decide +kernel
theorem dJ6_bitCount_0f7a4_22 : decode cJ6_bitCount_0f7a4 22 = .ok (.iadd, 1) := by decide +kernel
theorem dJ6_bitCount_0f7a4_23 : decode cJ6_bitCount_0f7a4 23 = .ok (.istore_n 0, 1) := by decide +kernel
theorem dJ6_bitCount_0f7a4_24 : decode cJ6_bitCount_0f7a4 24 = .ok (.iload_n 0, 1) := by decide +kernel
theorem dJ6_bitCount_0f7a4_25 : decode cJ6_bitCount_0f7a4 25 = .ok (.iload_n 0, 1) := by decide +kernel
theorem dJ6_bitCount_0f7a4_26 : decode cJ6_bitCount_0f7a4 26 = .ok (.iconst 4, 1) := by decide +kernel
theorem dJ6_bitCount_0f7a4_27 : decode cJ6_bitCount_0f7a4 27 = .ok (.iushr, 1) := by decide +kernel
theorem dJ6_bitCount_0f7a4_28 : decode cJ6_bitCount_0f7a4 28 = .ok (.iadd, 1) := by decide +kernel
theorem dJ6_bitCount_0f7a4_29 : decode cJ6_bitCount_0f7a4 29 = .ok (.ldc_w 267, 3) := by decide +kernel
theorem dJ6_bitCount_0f7a4_32 : decode cJ6_bitCount_0f7a4 32 = .ok (.iand, 1) := by decide +kernel
theorem dJ6_bitCount_0f7a4_33 : decode cJ6_bitCount_0f7a4 33 = .ok (.istore_n 0, 1) := by decide +kernel
theorem dJ6_bitCount_0f7a4_34 : decode cJ6_bitCount_0f7a4 34 = .ok (.iload_n 0, 1) := by decide +kernel
theorem dJ6_bitCount_0f7a4_35 : decode cJ6_bitCount_0f7a4 35 = .ok (.iload_n 0, 1) := by decide +kernel
theorem dJ6_bitCount_0f7a4_36 : decode cJ6_bitCount_0f7a4 36 = .ok (.bipush 8, 2) := by decide +kernel
theorem dJ6_bitCount_0f7a4_38 : decode cJ6_bitCount_0f7a4 38 = .ok (.iushr, 1) := by decide +kernel
theorem dJ6_bitCount_0f7a4_39 : decode cJ6_bitCount_0f7a4 39 = .ok (.iadd, 1) := by decide +kernel
theorem dJ6_bitCount_0f7a4_40 : decode cJ6_bitCount_0f7a4 40 = .ok (.istore_n 0, 1) := by decide +kernel
theorem dJ6_bitCount_0f7a4_41 : decode cJ6_bitCount_0f7a4 41 = .ok (.iload_n 0, 1) := by decide +kernel
theorem dJ6_bitCount_0f7a4_42 : decode cJ6_bitCount_0f7a4 42 = .ok (.iload_n 0, 1) := by decide +kernel
theorem dJ6_bitCount_0f7a4_43 : decode cJ6_bitCount_0f7a4 43 = .ok (.bipush 16, 2) := by decide +kernel
theorem dJ6_bitCount_0f7a4_45 : decode cJ6_bitCount_0f7a4 45 = .ok (.iushr, 1) := by decide +kernel
theorem dJ6_bitCount_0f7a4_46 : decode cJ6_bitCount_0f7a4 46 = .ok (.iadd, 1) := by decide +kernel
theorem dJ6_bitCount_0f7a4_47 : decode cJ6_bitCount_0f7a4 47 = .ok (.istore_n 0, 1) := by decide +kernel
theorem dJ6_bitCount_0f7a4_48 : decode cJ6_bitCount_0f7a4 48 = .ok (.iload_n 0, 1) := by decide +kernel
theorem dJ6_bitCount_0f7a4_49 : decode cJ6_bitCount_0f7a4 49 = .ok (.bipush 63, 2) := by decide +kernel
theorem dJ6_bitCount_0f7a4_51 : decode cJ6_bitCount_0f7a4 51 = .ok (.iand, 1) := by decide +kernel
theorem dJ6_bitCount_0f7a4_52 : decode cJ6_bitCount_0f7a4 52 = .ok (.ireturn, 1) := by decide +kernel
theorem dJ9_abs_0f7a4_0 : decode cJ9_abs_0f7a4 0 = .ok (.iload_n 0, 1) := by decide +kernel
theorem dJ9_abs_0f7a4_1 : decode cJ9_abs_0f7a4 1 = .ok (.ifCond .ge 8, 3) := by decide +kernel
theorem dJ9_abs_0f7a4_4 : decode cJ9_abs_0f7a4 4 = .ok (.iload_n 0, 1) := by decide +kernel
theorem dJ9_abs_0f7a4_5 : decode cJ9_abs_0f7a4 5 = .ok (.ineg, 1) := by decide +kernel
theorem dJ9_abs_0f7a4_6 : decode cJ9_abs_0f7a4 6 = .ok (.goto 4, 3) := by decide +kernel
theorem dJ9_abs_0f7a4_9 : decode cJ9_abs_0f7a4 9 = .ok (.iload_n 0, 1) := by decide +kernel
theorem dJ9_abs_0f7a4_10 : decode cJ9_abs_0f7a4 10 = .ok (.ireturn, 1) := by decide +kernel
theorem dJ9_max_7cf53_0 : decode cJ9_max_7cf53 0 = .ok (.iload_n 0, 1) := by decide +kernel
theorem dJ9_max_7cf53_1 : decode cJ9_max_7cf53 1 = .ok (.iload_n 1, 1) := by decide +kernel
theorem dJ9_max_7cf53_2 : decode cJ9_max_7cf53 2 = .ok (.if_icmp .lt 7, 3) := by decide +kernel
theorem dJ9_max_7cf53_5 : decode cJ9_max_7cf53 5 = .ok (.iload_n 0, 1) := by decide +kernel
theorem dJ9_max_7cf53_6 : decode cJ9_max_7cf53 6 = .ok (.goto 4, 3) := by decide +kernel
theorem dJ9_max_7cf53_9 : decode cJ9_max_7cf53 9 = .ok (.iload_n 1, 1) := by decide +kernel
theorem dJ9_max_7cf53_10 : decode cJ9_max_7cf53 10 = .ok (.ireturn, 1) := by decide +kernel
theorem dJ9_min_7cf53_0 : decode cJ9_min_7cf53 0 = .ok (.iload_n 0, 1) := by decide +kernel
theorem dJ9_min_7cf53_1 : decode cJ9_min_7cf53 1 = .ok (.iload_n 1, 1) := by decide +kernel
theorem dJ9_min_7cf53_2 : decode cJ9_min_7cf53 2 = .ok (.if_icmp .gt 7, 3) := by decide +kernel
theorem dJ9_min_7cf53_5 : decode cJ9_min_7cf53 5 = .ok (.iload_n 0, 1) := by decide +kernel
theorem dJ9_min_7cf53_6 : decode cJ9_min_7cf53 6 = .ok (.goto 4, 3) := by decide +kernel
theorem dJ9_min_7cf53_9 : decode cJ9_min_7cf53 9 = .ok (.iload_n 1, 1) := by decide +kernel
theorem dJ9_min_7cf53_10 : decode cJ9_min_7cf53 10 = .ok (.ireturn, 1) := by decide +kernel
set_option maxRecDepth 20000 in
theorem ggJ0_length_8abf5_J0_coder_7d493 : GoodIn wsJ0_length_8abf5 wsJ0_coder_7d493 := goodIn_r _ [6, 7, 8, 9, 10] rfl (by decide +kernel)
set_option maxRecDepth 20000 in
theorem gJ0_length_8abf5_J0_coder_7d493 : GoodIn wsJ0_length_8abf5 (wsV RJ0 335 RJ0 yJ0_coder_7d493 wsJ0_coder_7d493) := goodIn_app (goodIn_r _ [2, 3, 4, 5] rfl (by decide +kernel)) ggJ0_length_8abf5_J0_coder_7d493
theorem dJ0_length_8abf5_0 : decode cJ0_length_8abf5 0 = .ok (.aload_n 0, 1) := by decide +kernel
theorem dJ0_length_8abf5_1 : decode cJ0_length_8abf5 1 = .ok (.getfield 9, 3) := by decide +kernel
theorem dJ0_length_8abf5_4 : decode cJ0_length_8abf5 4 = .ok (.arraylength, 1) := by decide +kernel
theorem dJ0_length_8abf5_5 : decode cJ0_length_8abf5 5 = .ok (.aload_n 0, 1) := by decide +kernel
theorem dJ0_length_8abf5_6 : decode cJ0_length_8abf5 6 = .ok (.invokevirtual 335, 3) := by decide +kernel
theorem dJ0_length_8abf5_9 : decode cJ0_length_8abf5 9 = .ok (.ishr, 1) := by decide +kernel
theorem dJ0_length_8abf5_10 : decode cJ0_length_8abf5 10 = .ok (.ireturn, 1) := by decide +kernel
set_option maxRecDepth 20000 in
theorem ggJ0_indexOf_0f7a4_J0_indexOf_7cf53 : GoodIn wsJ0_indexOf_0f7a4 wsJ0_indexOf_7cf53 := goodIn_r _ [5, 6, 7, 8, 9, 4, 10, 11, 12, 13, 14, 15, 16, 17, 18, 19, 20, 21, 22, 23, 24, 25, 26, 27, 28, 29, 30, 31, 32, 33, 34, 35, 36, 37, 38, 39, 40, 41, 42, 43, 44, 45, 46, 47, 48, 49, 50, 51, 52, 53, 54, 55, 56, 57, 58, 59, 60, 61, 62, 63, 64, 65, 66, 67, 68, 69, 70, 71, 72, 73, 74, 75, 76, 77, 78, 79, 80, 81, 82, 83, 84, 85, 86, 87] rfl (by decide +kernel)
set_option maxRecDepth 20000 in
theorem gJ0_indexOf_0f7a4_J0_indexOf_7cf53 : GoodIn wsJ0_indexOf_0f7a4 (wsV RJ0 633 RJ0 yJ0_indexOf_7cf53 wsJ0_indexOf_7cf53) := goodIn_app (goodIn_r _ [1, 2, 3, 4] rfl (by decide +kernel)) ggJ0_indexOf_0f7a4_J0_indexOf_7cf53
theorem dJ0_indexOf_0f7a4_0 : decode cJ0_indexOf_0f7a4 0 = .ok (.aload_n 0, 1) := by decide +kernel
theorem dJ0_indexOf_0f7a4_1 : decode cJ0_indexOf_0f7a4 1 = .ok (.iload_n 1, 1) := by decide +kernel
theorem dJ0_indexOf_0f7a4_2 : decode cJ0_indexOf_0f7a4 2 = .ok (.iconst 0, 1) := by decide +kernel
theorem dJ0_indexOf_0f7a4_3 : decode cJ0_indexOf_0f7a4 3 = .ok (.invokevirtual 633, 3) := by decide +kernel
theorem dJ0_indexOf_0f7a4_6 : decode cJ0_indexOf_0f7a4 6 = .ok (.ireturn, 1) := by decide +kernel
set_option maxRecDepth 20000 in
theorem ggJ0_indexOf_7cf53_J0_isLatin1_aae02 : GoodIn wsJ0_indexOf_7cf53 wsJ0_isLatin1_aae02 := goodIn_r _ [6, 7, 8, 82, 83] rfl (by decide +kernel)
set_option maxRecDepth 20000 in
theorem gJ0_indexOf_7cf53_J0_isLatin1_aae02 : GoodIn wsJ0_indexOf_7cf53 (wsV RJ0 492 RJ0 yJ0_isLatin1_aae02 wsJ0_isLatin1_aae02) := goodIn_app (goodIn_r _ [2, 3, 4, 5] rfl (by decide +kernel)) ggJ0_indexOf_7cf53_J0_isLatin1_aae02
set_option maxRecDepth 20000 in
theorem ggJ0_indexOf_7cf53_J0_length_8abf5 : GoodIn wsJ0_indexOf_7cf53 wsJ0_length_8abf5 := goodIn_r _ [12, 1, 13, 14, 15, 5, 16, 7, 8, 82, 83] rfl (by decide +kernel)
set_option maxRecDepth 20000 in
theorem gJ0_indexOf_7cf53_J0_length_8abf5 : GoodIn wsJ0_indexOf_7cf53 (wsV RJ0 505 RJ0 yJ0_length_8abf5 wsJ0_length_8abf5) := goodIn_app (goodIn_r _ [9, 10, 11, 5] rfl (by decide +kernel)) ggJ0_indexOf_7cf53_J0_length_8abf5
set_option maxRecDepth 20000 in
theorem ggJ0_indexOf_7cf53_J1_indexOf_4cfef : GoodIn wsJ0_indexOf_7cf53 wsJ1_indexOf_4cfef := goodIn_r _ [20, 21, 22, 23, 24, 25, 26, 27, 28, 29, 19, 30, 31, 32, 33] rfl (by decide +kernel)
set_option maxRecDepth 20000 in
theorem gJ0_indexOf_7cf53_J1_indexOf_4cfef : GoodIn wsJ0_indexOf_7cf53 (va_wsS RJ0 637 yJ1_indexOf_4cfef wsJ1_indexOf_4cfef) := goodIn_app (goodIn_r _ [17, 18, 19] rfl (by decide +kernel)) ggJ0_indexOf_7cf53_J1_indexOf_4cfef
set_option maxRecDepth 20000 in
theorem ggJ0_indexOf_7cf53_J2_indexOf_4cfef : GoodIn wsJ0_indexOf_7cf53 wsJ2_indexOf_4cfef := goodIn_r _ [37, 38, 22, 23, 24, 39, 26, 27, 40, 41, 42, 36, 43, 44, 45, 46, 47, 48, 49, 50, 51, 5, 52, 53, 54, 55, 56, 57, 58, 59, 60, 61, 62, 63, 64, 65, 66, 67, 68, 69, 70, 71, 72, 73, 74, 75, 76, 77, 78, 79, 80, 81] rfl (by decide +kernel)
set_option maxRecDepth 20000 in
theorem gJ0_indexOf_7cf53_J2_indexOf_4cfef : GoodIn wsJ0_indexOf_7cf53 (va_wsS RJ0 640 yJ2_indexOf_4cfef wsJ2_indexOf_4cfef) := goodIn_app (goodIn_r _ [34, 35, 36] rfl (by decide +kernel)) ggJ0_indexOf_7cf53_J2_indexOf_4cfef
theorem dJ0_indexOf_7cf53_0 : decode cJ0_indexOf_7cf53 0 = .ok (.aload_n 0, 1) := by decide +kernel
theorem dJ0_indexOf_7cf53_1 : decode cJ0_indexOf_7cf53 1 = .ok (.invokevirtual 492, 3) := by decide +kernel
theorem dJ0_indexOf_7cf53_4 : decode cJ0_indexOf_7cf53 4 = .ok (.ifCond .eq 19, 3) := by decide +kernel
theorem dJ0_indexOf_7cf53_7 : decode cJ0_indexOf_7cf53 7 = .ok (.aload_n 0, 1) := by decide +kernel
theorem dJ0_indexOf_7cf53_8 : decode cJ0_indexOf_7cf53 8 = .ok (.getfield 9, 3) := by decide +kernel
theorem dJ0_indexOf_7cf53_11 : decode cJ0_indexOf_7cf53 11 = .ok (.iload_n 1, 1) := by decide +kernel
theorem dJ0_indexOf_7cf53_12 : decode cJ0_indexOf_7cf53 12 = .ok (.iload_n 2, 1) := by decide +kernel
theorem dJ0_indexOf_7cf53_13 : decode cJ0_indexOf_7cf53 13 = .ok (.aload_n 0, 1) := by decide +kernel
theorem dJ0_indexOf_7cf53_14 : decode cJ0_indexOf_7cf53 14 = .ok (.invokevirtual 505, 3) := by decide +kernel
theorem dJ0_indexOf_7cf53_17 : decode cJ0_indexOf_7cf53 17 = .ok (.invokestatic 637, 3) := by decide +kernel
theorem dJ0_indexOf_7cf53_20 : decode cJ0_indexOf_7cf53 20 = .ok (.goto 16, 3) := by decide +kernel
theorem dJ0_indexOf_7cf53_23 : decode cJ0_indexOf_7cf53 23 = .ok (.aload_n 0, 1) := by decide +kernel
theorem dJ0_indexOf_7cf53_24 : decode cJ0_indexOf_7cf53 24 = .ok (.getfield 9, 3) := by decide +kernel
theorem dJ0_indexOf_7cf53_27 : decode cJ0_indexOf_7cf53 27 = .ok (.iload_n 1, 1) := by decide +kernel
theorem dJ0_indexOf_7cf53_28 : decode cJ0_indexOf_7cf53 28 = .ok (.iload_n 2, 1) := by decide +kernel
theorem dJ0_indexOf_7cf53_29 : decode cJ0_indexOf_7cf53 29 = .ok (.aload_n 0, 1) := by decide +kernel
theorem dJ0_indexOf_7cf53_30 : decode cJ0_indexOf_7cf53 30 = .ok (.invokevirtual 505, 3) := by decide +kernel
theorem dJ0_indexOf_7cf53_33 : decode cJ0_indexOf_7cf53 33 = .ok (.invokestatic 640, 3) := by decide +kernel
theorem dJ0_indexOf_7cf53_36 : decode cJ0_indexOf_7cf53 36 = .ok (.ireturn, 1) := by decide +kernel
theorem dJ0_coder_7d493_0 : decode cJ0_coder_7d493 0 = .ok (.getstatic 38, 3) := by decide +kernel
theorem dJ0_coder_7d493_3 : decode cJ0_coder_7d493 3 = .ok (.ifCond .eq 10, 3) := by decide +kernel
theorem dJ0_coder_7d493_6 : decode cJ0_coder_7d493 6 = .ok (.aload_n 0, 1) := by decide +kernel
theorem dJ0_coder_7d493_7 : decode cJ0_coder_7d493 7 = .ok (.getfield 15, 3) := by decide +kernel
theorem dJ0_coder_7d493_10 : decode cJ0_coder_7d493 10 = .ok (.goto 4, 3) := by decide +kernel
theorem dJ0_coder_7d493_13 : decode cJ0_coder_7d493 13 = .ok (.iconst 1, 1) := by decide +kernel
theorem dJ0_coder_7d493_14 : decode cJ0_coder_7d493 14 = .ok (.ireturn, 1) := by decide +kernel
theorem dJ0_isLatin1_aae02_0 : decode cJ0_isLatin1_aae02 0 = .ok (.getstatic 38, 3) := by decide +kernel
theorem dJ0_isLatin1_aae02_3 : decode cJ0_isLatin1_aae02 3 = .ok (.ifCond .eq 14, 3) := by decide +kernel
theorem dJ0_isLatin1_aae02_6 : decode cJ0_isLatin1_aae02 6 = .ok (.aload_n 0, 1) := by decide +kernel
theorem dJ0_isLatin1_aae02_7 : decode cJ0_isLatin1_aae02 7 = .ok (.getfield 15, 3) := by decide +kernel
theorem dJ0_isLatin1_aae02_10 : decode cJ0_isLatin1_aae02 10 = .ok (.ifCond .ne 7, 3) := by decide +kernel
theorem dJ0_isLatin1_aae02_13 : decode cJ0_isLatin1_aae02 13 = .ok (.iconst 1, 1) := by decide +kernel
theorem dJ0_isLatin1_aae02_14 : decode cJ0_isLatin1_aae02 14 = .ok (.goto 4, 3) := by decide +kernel
theorem dJ0_isLatin1_aae02_17 : decode cJ0_isLatin1_aae02 17 = .ok (.iconst 0, 1) := by decide +kernel
theorem dJ0_isLatin1_aae02_18 : decode cJ0_isLatin1_aae02 18 = .ok (.ireturn, 1) := by decide +kernel
set_option maxRecDepth 20000 in
theorem ggJ0_checkBoundsBeginEnd_23922_J3_checkFromToIndex_8c36e : GoodIn wsJ0_checkBoundsBeginEnd_23922 wsJ3_checkFromToIndex_8c36e := goodIn_r _ [5] rfl (by decide +kernel)
set_option maxRecDepth 20000 in
theorem gJ0_checkBoundsBeginEnd_23922_J3_checkFromToIndex_8c36e : GoodIn wsJ0_checkBoundsBeginEnd_23922 (va_wsS RJ0 1062 yJ3_checkFromToIndex_8c36e wsJ3_checkFromToIndex_8c36e) := goodIn_app (goodIn_r _ [2, 3, 4] rfl (by decide +kernel)) ggJ0_checkBoundsBeginEnd_23922_J3_checkFromToIndex_8c36e
theorem dJ0_checkBoundsBeginEnd_23922_0 : decode cJ0_checkBoundsBeginEnd_23922 0 = .ok (.iload_n 0, 1) := by decide +kernel
theorem dJ0_checkBoundsBeginEnd_23922_1 : decode cJ0_checkBoundsBeginEnd_23922 1 = .ok (.iload_n 1, 1) := by decide +kernel
theorem dJ0_checkBoundsBeginEnd_23922_2 : decode cJ0_checkBoundsBeginEnd_23922 2 = .ok (.iload_n 2, 1) := by decide +kernel
theorem dJ0_checkBoundsBeginEnd_23922_3 : decode cJ0_checkBoundsBeginEnd_23922 3 = .ok (.getstatic 1053, 3) := by decide +kernel
theorem dJ0_checkBoundsBeginEnd_23922_6 : decode cJ0_checkBoundsBeginEnd_23922 6 = .ok (.invokestatic 1062, 3) := by decide +kernel
theorem dJ0_checkBoundsBeginEnd_23922_9 : decode cJ0_checkBoundsBeginEnd_23922 9 = .ok (.pop, 1) := by decide +kernel
theorem dJ0_checkBoundsBeginEnd_23922_10 : decode cJ0_checkBoundsBeginEnd_23922 10 = .ok (.return_, 1) := by decide +kernel
theorem dJ1_canEncode_9a6ad_0 : decode cJ1_canEncode_9a6ad 0 = .ok (.iload_n 0, 1) := by decide +kernel
theorem dJ1_canEncode_9a6ad_1 : decode cJ1_canEncode_9a6ad 1 = .ok (.ifCond .lt 14, 3) := by decide +kernel
theorem dJ1_canEncode_9a6ad_4 : decode cJ1_canEncode_9a6ad 4 = .ok (.iload_n 0, 1) := by decide +kernel
theorem dJ1_canEncode_9a6ad_5 : decode cJ1_canEncode_9a6ad 5 = .ok (.sipush 255, 3) := by decide +kernel
theorem dJ1_canEncode_9a6ad_8 : decode cJ1_canEncode_9a6ad 8 = .ok (.if_icmp .gt 7, 3) := by decide +kernel
theorem dJ1_canEncode_9a6ad_11 : decode cJ1_canEncode_9a6ad 11 = .ok (.iconst 1, 1) := by decide +kernel
theorem dJ1_canEncode_9a6ad_12 : decode cJ1_canEncode_9a6ad 12 = .ok (.goto 4, 3) := by decide +kernel
theorem dJ1_canEncode_9a6ad_15 : decode cJ1_canEncode_9a6ad 15 = .ok (.iconst 0, 1) := by decide +kernel
theorem dJ1_canEncode_9a6ad_16 : decode cJ1_canEncode_9a6ad 16 = .ok (.ireturn, 1) := by decide +kernel
set_option maxRecDepth 20000 in
theorem ggJ1_indexOf_4cfef_J1_canEncode_9a6ad : GoodIn wsJ1_indexOf_4cfef wsJ1_canEncode_9a6ad := goodIn_r _ [11] rfl (by decide +kernel)
set_option maxRecDepth 20000 in
theorem gJ1_indexOf_4cfef_J1_canEncode_9a6ad : GoodIn wsJ1_indexOf_4cfef (va_wsS RJ1 88 yJ1_canEncode_9a6ad wsJ1_canEncode_9a6ad) := goodIn_app (goodIn_r _ [8, 9, 10] rfl (by decide +kernel)) ggJ1_indexOf_4cfef_J1_canEncode_9a6ad
set_option maxRecDepth 20000 in
theorem ggJ1_indexOf_4cfef_J1_indexOfChar_4cfef : GoodIn wsJ1_indexOf_4cfef wsJ1_indexOfChar_4cfef := goodIn_r _ [14] rfl (by decide +kernel)
set_option maxRecDepth 20000 in
theorem gJ1_indexOf_4cfef_J1_indexOfChar_4cfef : GoodIn wsJ1_indexOf_4cfef (va_wsS RJ1 95 yJ1_indexOfChar_4cfef wsJ1_indexOfChar_4cfef) := goodIn_app (goodIn_r _ [12, 13, 10] rfl (by decide +kernel)) ggJ1_indexOf_4cfef_J1_indexOfChar_4cfef
theorem dJ1_indexOf_4cfef_0 : decode cJ1_indexOf_4cfef 0 = .ok (.iload_n 1, 1) := by decide +kernel
theorem dJ1_indexOf_4cfef_1 : decode cJ1_indexOf_4cfef 1 = .ok (.invokestatic 88, 3) := by decide +kernel
theorem dJ1_indexOf_4cfef_4 : decode cJ1_indexOf_4cfef 4 = .ok (.ifCond .ne 5, 3) := by decide +kernel
theorem dJ1_indexOf_4cfef_7 : decode cJ1_indexOf_4cfef 7 = .ok (.iconst (-1), 1) := by decide +kernel
theorem dJ1_indexOf_4cfef_8 : decode cJ1_indexOf_4cfef 8 = .ok (.ireturn, 1) := by decide +kernel
theorem dJ1_indexOf_4cfef_9 : decode cJ1_indexOf_4cfef 9 = .ok (.iload_n 2, 1) := by decide +kernel
theorem dJ1_indexOf_4cfef_10 : decode cJ1_indexOf_4cfef 10 = .ok (.iconst 0, 1) := by decide +kernel
theorem dJ1_indexOf_4cfef_11 : decode cJ1_indexOf_4cfef 11 = .ok (.invokestatic 92, 3) := by decide +kernel
theorem dJ1_indexOf_4cfef_14 : decode cJ1_indexOf_4cfef 14 = .ok (.istore_n 2, 1) := by decide +kernel
theorem dJ1_indexOf_4cfef_15 : decode cJ1_indexOf_4cfef 15 = .ok (.iload_n 3, 1) := by decide +kernel
