theorem dX7_restore_0 : decode cX7_restore 0 = .ok (.aload_n 0, 1) := by decide +kernel
theorem dX7_restore_1 : decode cX7_restore 1 = .ok (.getfield 48, 3) := by decide +kernel
theorem dX7_restore_4 : decode cX7_restore 4 = .ok (.ifCond .ne 14, 3) := by decide +kernel
theorem dX7_restore_7 : decode cX7_restore 7 = .ok (.new 172, 3) := by decide +kernel
theorem dX7_restore_10 : decode cX7_restore 10 = .ok (.dup, 1) := by decide +kernel
theorem dX7_restore_11 : decode cX7_restore 11 = .ok (.ldc_w 272, 3) := by decide +kernel
theorem dX7_restore_14 : decode cX7_restore 14 = .ok (.invokespecial 176, 3) := by decide +kernel
theorem dX7_restore_17 : decode cX7_restore 17 = .ok (.athrow, 1) := by decide +kernel
theorem dX7_restore_18 : decode cX7_restore 18 = .ok (.aload_n 0, 1) := by decide +kernel
theorem dX7_restore_19 : decode cX7_restore 19 = .ok (.getfield 10, 3) := by decide +kernel
theorem dX7_restore_22 : decode cX7_restore 22 = .ok (.aload_n 0, 1) := by decide +kernel
theorem dX7_restore_23 : decode cX7_restore 23 = .ok (.getfield 44, 3) := by decide +kernel
theorem dX7_restore_26 : decode cX7_restore 26 = .ok (.iconst 0, 1) := by decide +kernel
theorem dX7_restore_27 : decode cX7_restore 27 = .ok (.invokevirtual 274, 3) := by decide +kernel
theorem dX7_restore_30 : decode cX7_restore 30 = .ok (.aload_n 0, 1) := by decide +kernel
theorem dX7_restore_31 : decode cX7_restore 31 = .ok (.getfield 26, 3) := by decide +kernel
theorem dX7_restore_34 : decode cX7_restore 34 = .ok (.invokevirtual 277, 3) := by decide +kernel
theorem dX7_restore_37 : decode cX7_restore 37 = .ok (.aload_n 0, 1) := by decide +kernel
theorem dX7_restore_38 : decode cX7_restore 38 = .ok (.getfield 10, 3) := by decide +kernel
theorem dX7_restore_41 : decode cX7_restore 41 = .ok (.iconst 0, 1) := by decide +kernel
theorem dX7_restore_42 : decode cX7_restore 42 = .ok (.invokevirtual 84, 3) := by decide +kernel
theorem dX7_restore_45 : decode cX7_restore 45 = .ok (.ireturn, 1) := by decide +kernel
set_option maxRecDepth 20000 in
theorem ggX7_change_X2_prepare : GoodIn wsX7_change wsX2_prepare := goodIn_r _ [10, 11, 12, 13, 14, 15, 16, 17, 18, 19, 20, 21, 22, 238, 239, 240, 241] rfl (by decide +kernel)
set_option maxRecDepth 20000 in
theorem gX7_change_X2_prepare : GoodIn wsX7_change (wsV RX7 192 RX2 yX2_prepare wsX2_prepare) := goodIn_app (goodIn_r _ [6, 7, 8, 9] rfl (by decide +kernel)) ggX7_change_X2_prepare
set_option maxRecDepth 20000 in
theorem ggX7_change_X6_carryOut : GoodIn wsX7_change wsX6_carryOut := goodIn_ca (goodIn_ca (goodIn_r _ [27, 28, 29, 30, 31, 32, 26, 33, 34, 35, 36, 37, 38, 39, 40, 41, 42, 43, 16, 44, 18, 45, 46, 47, 48, 49, 50, 51, 52, 53, 54, 55, 56, 57, 58, 59, 60, 61, 62, 63, 64, 65, 66, 67, 68, 69, 70, 71, 72, 73, 74, 75, 76, 77, 78, 79, 80, 81, 82, 83, 84, 85, 86, 87, 88, 89, 90, 91, 92, 93, 94, 95, 96, 97, 98, 99, 100, 101, 102, 103, 104, 105, 106, 107, 108, 109, 110, 111, 112, 113, 114, 115, 116, 117, 118, 119, 120, 121, 122, 123, 124, 125, 126, 127, 128, 129, 130, 131, 132, 133, 134, 135, 136, 137, 138, 139, 140, 141, 142, 143, 144, 145, 146, 147, 148, 149, 150, 151, 152, 153, 154, 155, 156, 157, 158, 159, 160, 161, 162, 163, 164, 165, 166, 167, 168, 169, 170, 171, 172, 173, 174, 175, 176, 177, 178, 179, 180, 181, 182, 183, 184, 185, 186, 187, 188, 189, 190, 191, 192, 193, 194, 195, 196, 197, 198, 199, 242, 243, 241] rfl (by decide +kernel)) (goodIn_sub (fun _ h => List.mem_cons_of_mem _ (List.mem_append_left _ (List.mem_append_right _ h))) (by decide +kernel))) (goodIn_sub (fun _ h => List.mem_cons_of_mem _ (List.mem_append_right _ h)) (by decide +kernel))
set_option maxRecDepth 20000 in
theorem gX7_change_X6_carryOut : GoodIn wsX7_change (wsV RX7 205 RX6 yX6_carryOut wsX6_carryOut) := goodIn_app (goodIn_r _ [23, 24, 25, 26] rfl (by decide +kernel)) ggX7_change_X6_carryOut
set_option maxRecDepth 20000 in
theorem ggX7_change_X6_isRefused : GoodIn wsX7_change wsX6_isRefused := goodIn_r _ [203, 28, 242, 243] rfl (by decide +kernel)
set_option maxRecDepth 20000 in
theorem gX7_change_X6_isRefused : GoodIn wsX7_change (wsV RX7 209 RX6 yX6_isRefused wsX6_isRefused) := goodIn_app (goodIn_r _ [200, 201, 202, 26] rfl (by decide +kernel)) ggX7_change_X6_isRefused
set_option maxRecDepth 20000 in
theorem ggX7_change_X7_keepReason : GoodIn wsX7_change wsX7_keepReason := goodIn_r _ [207, 5, 208, 209, 210, 211, 212, 213, 26, 214, 28, 215, 216, 217, 218, 29, 227, 228, 229, 230, 231, 232, 233, 234, 235, 236, 237, 242, 243] rfl (by decide +kernel)
set_option maxRecDepth 20000 in
theorem gX7_change_X7_keepReason : GoodIn wsX7_change (wsV RX7 215 RX7 yX7_keepReason wsX7_keepReason) := goodIn_app (goodIn_r _ [204, 205, 206, 35] rfl (by decide +kernel)) ggX7_change_X7_keepReason
set_option maxRecDepth 20000 in
theorem ggX7_change_X2_accept : GoodIn wsX7_change wsX2_accept := goodIn_r _ [222, 12, 223, 224, 225, 106, 226, 238, 239, 240] rfl (by decide +kernel)
set_option maxRecDepth 20000 in
theorem gX7_change_X2_accept : GoodIn wsX7_change (wsV RX7 223 RX2 yX2_accept wsX2_accept) := goodIn_app (goodIn_r _ [219, 220, 221, 9] rfl (by decide +kernel)) ggX7_change_X2_accept
theorem dX7_change_0 : decode cX7_change 0 = .ok (.aload_n 0, 1) := by decide +kernel
theorem dX7_change_1 : decode cX7_change 1 = .ok (.getfield 26, 3) := by decide +kernel
theorem dX7_change_4 : decode cX7_change 4 = .ok (.aload_n 0, 1) := by decide +kernel
theorem dX7_change_5 : decode cX7_change 5 = .ok (.getfield 10, 3) := by decide +kernel
theorem dX7_change_8 : decode cX7_change 8 = .ok (.invokevirtual 192, 3) := by decide +kernel
theorem dX7_change_11 : decode cX7_change 11 = .ok (.aload_n 0, 1) := by decide +kernel
theorem dX7_change_12 : decode cX7_change 12 = .ok (.getfield 19, 3) := by decide +kernel
theorem dX7_change_15 : decode cX7_change 15 = .ok (.aload_n 0, 1) := by decide +kernel
theorem dX7_change_16 : decode cX7_change 16 = .ok (.getfield 10, 3) := by decide +kernel
theorem dX7_change_19 : decode cX7_change 19 = .ok (.iload_n 1, 1) := by decide +kernel
theorem dX7_change_20 : decode cX7_change 20 = .ok (.iload_n 2, 1) := by decide +kernel
theorem dX7_change_21 : decode cX7_change 21 = .ok (.iload_n 3, 1) := by decide +kernel
theorem dX7_change_22 : decode cX7_change 22 = .ok (.iload 4, 2) := by decide +kernel
theorem dX7_change_24 : decode cX7_change 24 = .ok (.invokevirtual 205, 3) := by decide +kernel
theorem dX7_change_27 : decode cX7_change 27 = .ok (.istore 5, 2) := by decide +kernel
theorem dX7_change_29 : decode cX7_change 29 = .ok (.aload_n 0, 1) := by decide +kernel
theorem dX7_change_30 : decode cX7_change 30 = .ok (.getfield 19, 3) := by decide +kernel
theorem dX7_change_33 : decode cX7_change 33 = .ok (.invokevirtual 209, 3) := by decide +kernel
theorem dX7_change_36 : decode cX7_change 36 = .ok (.ifCond .eq 19, 3) := by decide +kernel
theorem dX7_change_39 : decode cX7_change 39 = .ok (.aload_n 0, 1) := by decide +kernel
theorem dX7_change_40 : decode cX7_change 40 = .ok (.iconst 0, 1) := by decide +kernel
theorem dX7_change_41 : decode cX7_change 41 = .ok (.invokevirtual 215, 3) := by decide +kernel
theorem dX7_change_44 : decode cX7_change 44 = .ok (.new 218, 3) := by decide +kernel
theorem dX7_change_47 : decode cX7_change 47 = .ok (.dup, 1) := by decide +kernel
theorem dX7_change_48 : decode cX7_change 48 = .ok (.ldc_w 280, 3) := by decide +kernel
theorem dX7_change_51 : decode cX7_change 51 = .ok (.invokespecial 222, 3) := by decide +kernel
theorem dX7_change_54 : decode cX7_change 54 = .ok (.athrow, 1) := by decide +kernel
theorem dX7_change_55 : decode cX7_change 55 = .ok (.aload_n 0, 1) := by decide +kernel
theorem dX7_change_56 : decode cX7_change 56 = .ok (.getfield 26, 3) := by decide +kernel
theorem dX7_change_59 : decode cX7_change 59 = .ok (.invokevirtual 223, 3) := by decide +kernel
theorem dX7_change_62 : decode cX7_change 62 = .ok (.iload 5, 2) := by decide +kernel
theorem dX7_change_64 : decode cX7_change 64 = .ok (.ireturn, 1) := by decide +kernel
set_option maxRecDepth 20000 in
theorem ggX7_keepReason_X6_latestReason : GoodIn wsX7_keepReason wsX6_latestReason := goodIn_r _ [9, 10, 27, 28] rfl (by decide +kernel)
set_option maxRecDepth 20000 in
theorem gX7_keepReason_X6_latestReason : GoodIn wsX7_keepReason (wsV RX7 282 RX6 yX6_latestReason wsX6_latestReason) := goodIn_app (goodIn_r _ [5, 6, 7, 8] rfl (by decide +kernel)) ggX7_keepReason_X6_latestReason
set_option maxRecDepth 20000 in
theorem ggX7_keepReason_X6_latestDetail : GoodIn wsX7_keepReason wsX6_latestDetail := goodIn_r _ [14, 15, 27, 28] rfl (by decide +kernel)
set_option maxRecDepth 20000 in
theorem gX7_keepReason_X6_latestDetail : GoodIn wsX7_keepReason (wsV RX7 285 RX6 yX6_latestDetail wsX6_latestDetail) := goodIn_app (goodIn_r _ [11, 12, 13, 8] rfl (by decide +kernel)) ggX7_keepReason_X6_latestDetail
theorem dX7_keepReason_0 : decode cX7_keepReason 0 = .ok (.aload_n 0, 1) := by decide +kernel
theorem dX7_keepReason_1 : decode cX7_keepReason 1 = .ok (.aload_n 0, 1) := by decide +kernel
theorem dX7_keepReason_2 : decode cX7_keepReason 2 = .ok (.getfield 19, 3) := by decide +kernel
theorem dX7_keepReason_5 : decode cX7_keepReason 5 = .ok (.invokevirtual 282, 3) := by decide +kernel
theorem dX7_keepReason_8 : decode cX7_keepReason 8 = .ok (.putfield 56, 3) := by decide +kernel
theorem dX7_keepReason_11 : decode cX7_keepReason 11 = .ok (.aload_n 0, 1) := by decide +kernel
theorem dX7_keepReason_12 : decode cX7_keepReason 12 = .ok (.aload_n 0, 1) := by decide +kernel
theorem dX7_keepReason_13 : decode cX7_keepReason 13 = .ok (.getfield 19, 3) := by decide +kernel
theorem dX7_keepReason_16 : decode cX7_keepReason 16 = .ok (.invokevirtual 285, 3) := by decide +kernel
theorem dX7_keepReason_19 : decode cX7_keepReason 19 = .ok (.putfield 59, 3) := by decide +kernel
theorem dX7_keepReason_22 : decode cX7_keepReason 22 = .ok (.aload_n 0, 1) := by decide +kernel
theorem dX7_keepReason_23 : decode cX7_keepReason 23 = .ok (.iload_n 1, 1) := by decide +kernel
theorem dX7_keepReason_24 : decode cX7_keepReason 24 = .ok (.putfield 62, 3) := by decide +kernel
theorem dX7_keepReason_27 : decode cX7_keepReason 27 = .ok (.return_, 1) := by decide +kernel
set_option maxRecDepth 20000 in
theorem ggX7_refuseStranger_X0_isMember : GoodIn wsX7_refuseStranger wsX0_isMember := goodIn_ca (goodIn_r _ [8, 9, 21] rfl (by decide +kernel)) (goodIn_sub (fun _ h => List.mem_cons_of_mem _ (List.mem_append_right _ h)) (by decide +kernel))
set_option maxRecDepth 20000 in
theorem gX7_refuseStranger_X0_isMember : GoodIn wsX7_refuseStranger (wsV RX7 288 RX0 yX0_isMember wsX0_isMember) := goodIn_app (goodIn_r _ [4, 5, 6, 7] rfl (by decide +kernel)) ggX7_refuseStranger_X0_isMember
theorem dX7_refuseStranger_0 : decode cX7_refuseStranger 0 = .ok (.aload_n 0, 1) := by decide +kernel
theorem dX7_refuseStranger_1 : decode cX7_refuseStranger 1 = .ok (.getfield 10, 3) := by decide +kernel
theorem dX7_refuseStranger_4 : decode cX7_refuseStranger 4 = .ok (.iload_n 1, 1) := by decide +kernel
theorem dX7_refuseStranger_5 : decode cX7_refuseStranger 5 = .ok (.invokevirtual 288, 3) := by decide +kernel
theorem dX7_refuseStranger_8 : decode cX7_refuseStranger 8 = .ok (.ifCond .ne 14, 3) := by decide +kernel
theorem dX7_refuseStranger_11 : decode cX7_refuseStranger 11 = .ok (.new 238, 3) := by decide +kernel
theorem dX7_refuseStranger_14 : decode cX7_refuseStranger 14 = .ok (.dup, 1) := by decide +kernel
theorem dX7_refuseStranger_15 : decode cX7_refuseStranger 15 = .ok (.ldc_w 291, 3) := by decide +kernel
theorem dX7_refuseStranger_18 : decode cX7_refuseStranger 18 = .ok (.invokespecial 242, 3) := by decide +kernel
theorem dX7_refuseStranger_21 : decode cX7_refuseStranger 21 = .ok (.athrow, 1) := by decide +kernel
theorem dX7_refuseStranger_22 : decode cX7_refuseStranger 22 = .ok (.return_, 1) := by decide +kernel
theorem dX7_isHeight_0 : decode cX7_isHeight 0 = .ok (.iload_n 0, 1) := by decide +kernel
theorem dX7_isHeight_1 : decode cX7_isHeight 1 = .ok (.ifCond .lt 13, 3) := by decide +kernel
theorem dX7_isHeight_4 : decode cX7_isHeight 4 = .ok (.iload_n 0, 1) := by decide +kernel
theorem dX7_isHeight_5 : decode cX7_isHeight 5 = .ok (.bipush 9, 2) := by decide +kernel
theorem dX7_isHeight_7 : decode cX7_isHeight 7 = .ok (.if_icmp .gt 7, 3) := by decide +kernel
theorem dX7_isHeight_10 : decode cX7_isHeight 10 = .ok (.iconst 1, 1) := by decide +kernel
theorem dX7_isHeight_11 : decode cX7_isHeight 11 = .ok (.goto 4, 3) := by decide +kernel
theorem dX7_isHeight_14 : decode cX7_isHeight 14 = .ok (.iconst 0, 1) := by decide +kernel
theorem dX7_isHeight_15 : decode cX7_isHeight 15 = .ok (.ireturn, 1) := by decide +kernel
theorem dX7_isChange_0 : decode cX7_isChange 0 = .ok (.iload_n 0, 1) := by decide +kernel
theorem dX7_isChange_1 : decode cX7_isChange 1 = .ok (.bipush (-40), 2) := by decide +kernel
theorem dX7_isChange_3 : decode cX7_isChange 3 = .ok (.if_icmp .lt 13, 3) := by decide +kernel
theorem dX7_isChange_6 : decode cX7_isChange 6 = .ok (.iload_n 0, 1) := by decide +kernel
theorem dX7_isChange_7 : decode cX7_isChange 7 = .ok (.bipush 40, 2) := by decide +kernel
theorem dX7_isChange_9 : decode cX7_isChange 9 = .ok (.if_icmp .gt 7, 3) := by decide +kernel
theorem dX7_isChange_12 : decode cX7_isChange 12 = .ok (.iconst 1, 1) := by decide +kernel
theorem dX7_isChange_13 : decode cX7_isChange 13 = .ok (.goto 4, 3) := by decide +kernel
theorem dX7_isChange_16 : decode cX7_isChange 16 = .ok (.iconst 0, 1) := by decide +kernel
theorem dX7_isChange_17 : decode cX7_isChange 17 = .ok (.ireturn, 1) := by decide +kernel
theorem dX7_isPressure_0 : decode cX7_isPressure 0 = .ok (.iload_n 0, 1) := by decide +kernel
theorem dX7_isPressure_1 : decode cX7_isPressure 1 = .ok (.sipush 900, 3) := by decide +kernel
theorem dX7_isPressure_4 : decode cX7_isPressure 4 = .ok (.if_icmp .lt 14, 3) := by decide +kernel
theorem dX7_isPressure_7 : decode cX7_isPressure 7 = .ok (.iload_n 0, 1) := by decide +kernel
theorem dX7_isPressure_8 : decode cX7_isPressure 8 = .ok (.sipush 1100, 3) := by decide +kernel
theorem dX7_isPressure_11 : decode cX7_isPressure 11 = .ok (.if_icmp .gt 7, 3) := by decide +kernel
theorem dX7_isPressure_14 : decode cX7_isPressure 14 = .ok (.iconst 1, 1) := by decide +kernel
theorem dX7_isPressure_15 : decode cX7_isPressure 15 = .ok (.goto 4, 3) := by decide +kernel
theorem dX7_isPressure_18 : decode cX7_isPressure 18 = .ok (.iconst 0, 1) := by decide +kernel
theorem dX7_isPressure_19 : decode cX7_isPressure 19 = .ok (.ireturn, 1) := by decide +kernel
theorem dX7_signOf_0 : decode cX7_signOf 0 = .ok (.iload_n 0, 1) := by decide +kernel
theorem dX7_signOf_1 : decode cX7_signOf 1 = .ok (.ifCond .ne 5, 3) := by decide +kernel
theorem dX7_signOf_4 : decode cX7_signOf 4 = .ok (.iconst 0, 1) := by decide +kernel
theorem dX7_signOf_5 : decode cX7_signOf 5 = .ok (.ireturn, 1) := by decide +kernel
theorem dX7_signOf_6 : decode cX7_signOf 6 = .ok (.iload_n 0, 1) := by decide +kernel
theorem dX7_signOf_7 : decode cX7_signOf 7 = .ok (.ifCond .le 7, 3) := by decide +kernel
theorem dX7_signOf_10 : decode cX7_signOf 10 = .ok (.iconst 1, 1) := by decide +kernel
theorem dX7_signOf_11 : decode cX7_signOf 11 = .ok (.goto 4, 3) := by decide +kernel
theorem dX7_signOf_14 : decode cX7_signOf 14 = .ok (.iconst (-1), 1) := by decide +kernel
theorem dX7_signOf_15 : decode cX7_signOf 15 = .ok (.ireturn, 1) := by decide +kernel
theorem dX7_held_0 : decode cX7_held 0 = .ok (.iload_n 1, 1) := by decide +kernel
theorem dX7_held_1 : decode cX7_held 1 = .ok (.iload_n 2, 1) := by decide +kernel
theorem dX7_held_2 : decode cX7_held 2 = .ok (.iload_n 0, 1) := by decide +kernel
theorem dX7_held_3 : decode cX7_held 3 = .ok (.invokestatic 293, 3) := by decide +kernel
theorem dX7_held_6 : decode cX7_held 6 = .ok (.invokestatic 298, 3) := by decide +kernel
theorem dX7_held_9 : decode cX7_held 9 = .ok (.ireturn, 1) := by decide +kernel
set_option maxRecDepth 20000 in
theorem ggJ5_init_d00df_J2_newBytesFor_77867 : GoodIn wsJ5_init_d00df wsJ2_newBytesFor_77867 := goodIn_r _ [11, 5, 12, 13, 10, 14, 15] rfl (by decide +kernel)
set_option maxRecDepth 20000 in
theorem gJ5_init_d00df_J2_newBytesFor_77867 : GoodIn wsJ5_init_d00df (va_wsS RJ5 26 yJ2_newBytesFor_77867 wsJ2_newBytesFor_77867) := goodIn_app (goodIn_r _ [8, 9, 10] rfl (by decide +kernel)) ggJ5_init_d00df_J2_newBytesFor_77867
theorem dJ5_init_d00df_0 : decode cJ5_init_d00df 0 = .ok (.aload_n 0, 1) := by decide +kernel
theorem dJ5_init_d00df_1 : decode cJ5_init_d00df 1 = .ok (.invokespecial 3, 3) := by decide +kernel
theorem dJ5_init_d00df_4 : decode cJ5_init_d00df 4 = .ok (.getstatic 18, 3) := by decide +kernel
theorem dJ5_init_d00df_7 : decode cJ5_init_d00df 7 = .ok (.ifCond .eq 18, 3) := by decide +kernel
theorem dJ5_init_d00df_10 : decode cJ5_init_d00df 10 = .ok (.aload_n 0, 1) := by decide +kernel
theorem dJ5_init_d00df_11 : decode cJ5_init_d00df 11 = .ok (.iload_n 1, 1) := by decide +kernel
theorem dJ5_init_d00df_12 : decode cJ5_init_d00df 12 = .ok (.newarray .byte, 2) := by decide +kernel
theorem dJ5_init_d00df_14 : decode cJ5_init_d00df 14 = .ok (.putfield 15, 3) := by decide +kernel
theorem dJ5_init_d00df_17 : decode cJ5_init_d00df 17 = .ok (.aload_n 0, 1) := by decide +kernel
theorem dJ5_init_d00df_18 : decode cJ5_init_d00df 18 = .ok (.iconst 0, 1) := by decide +kernel
theorem dJ5_init_d00df_19 : decode cJ5_init_d00df 19 = .ok (.putfield 22, 3) := by decide +kernel
theorem dJ5_init_d00df_22 : decode cJ5_init_d00df 22 = .ok (.goto 16, 3) := by decide +kernel
theorem dJ5_init_d00df_25 : decode cJ5_init_d00df 25 = .ok (.aload_n 0, 1) := by decide +kernel
theorem dJ5_init_d00df_26 : decode cJ5_init_d00df 26 = .ok (.iload_n 1, 1) := by decide +kernel
theorem dJ5_init_d00df_27 : decode cJ5_init_d00df 27 = .ok (.invokestatic 26, 3) := by decide +kernel
theorem dJ5_init_d00df_30 : decode cJ5_init_d00df 30 = .ok (.putfield 15, 3) := by decide +kernel
theorem dJ5_init_d00df_33 : decode cJ5_init_d00df 33 = .ok (.aload_n 0, 1) := by decide +kernel
theorem dJ5_init_d00df_34 : decode cJ5_init_d00df 34 = .ok (.iconst 1, 1) := by decide +kernel
theorem dJ5_init_d00df_35 : decode cJ5_init_d00df 35 = .ok (.putfield 22, 3) := by decide +kernel
theorem dJ5_init_d00df_38 : decode cJ5_init_d00df 38 = .ok (.return_, 1) := by decide +kernel
theorem dJ5_length_8abf5_0 : decode cJ5_length_8abf5 0 = .ok (.aload_n 0, 1) := by decide +kernel
theorem dJ5_length_8abf5_1 : decode cJ5_length_8abf5 1 = .ok (.getfield 79, 3) := by decide +kernel
theorem dJ5_length_8abf5_4 : decode cJ5_length_8abf5 4 = .ok (.ireturn, 1) := by decide +kernel
set_option maxRecDepth 20000 in
theorem ggJ5_ensureCapacityInternal_d00df_J5_newCapacity_0f7a4 : GoodIn wsJ5_ensureCapacityInternal_d00df wsJ5_newCapacity_0f7a4 := goodIn_r _ [8, 1, 2, 9, 10, 11, 12, 13, 14, 15, 16, 17, 18, 19, 20, 21, 40, 41, 42, 43] rfl (by decide +kernel)
set_option maxRecDepth 20000 in
theorem gJ5_ensureCapacityInternal_d00df_J5_newCapacity_0f7a4_u104J4 : GoodIn wsJ5_ensureCapacityInternal_d00df (va_wsU RJ5 104 RJ4 "java/lang/AbstractStringBuilder" ⟨"java/lang/AbstractStringBuilder", "newCapacity", "(I)I"⟩ yJ5_newCapacity_0f7a4 wsJ5_newCapacity_0f7a4) := goodIn_app (goodIn_of _ (by decide +kernel)) ggJ5_ensureCapacityInternal_d00df_J5_newCapacity_0f7a4
set_option maxRecDepth 20000 in
theorem ggJ5_ensureCapacityInternal_d00df_J7_copyOf_9075b : GoodIn wsJ5_ensureCapacityInternal_d00df wsJ7_copyOf_9075b := goodIn_r _ [25, 26, 27, 28, 29, 30, 31, 32, 33, 34, 16, 35, 36, 37, 38, 39] rfl (by decide +kernel)
set_option maxRecDepth 20000 in
theorem gJ5_ensureCapacityInternal_d00df_J7_copyOf_9075b : GoodIn wsJ5_ensureCapacityInternal_d00df (va_wsS RJ5 108 yJ7_copyOf_9075b wsJ7_copyOf_9075b) := goodIn_app (goodIn_r _ [22, 23, 24] rfl (by decide +kernel)) ggJ5_ensureCapacityInternal_d00df_J7_copyOf_9075b
theorem dJ5_ensureCapacityInternal_d00df_0 : decode cJ5_ensureCapacityInternal_d00df 0 = .ok (.aload_n 0, 1) := by decide +kernel
theorem dJ5_ensureCapacityInternal_d00df_1 : decode cJ5_ensureCapacityInternal_d00df 1 = .ok (.getfield 15, 3) := by decide +kernel
theorem dJ5_ensureCapacityInternal_d00df_4 : decode cJ5_ensureCapacityInternal_d00df 4 = .ok (.arraylength, 1) := by decide +kernel
theorem dJ5_ensureCapacityInternal_d00df_5 : decode cJ5_ensureCapacityInternal_d00df 5 = .ok (.aload_n 0, 1) := by decide +kernel
theorem dJ5_ensureCapacityInternal_d00df_6 : decode cJ5_ensureCapacityInternal_d00df 6 = .ok (.getfield 22, 3) := by decide +kernel
theorem dJ5_ensureCapacityInternal_d00df_9 : decode cJ5_ensureCapacityInternal_d00df 9 = .ok (.ishr, 1) := by decide +kernel
theorem dJ5_ensureCapacityInternal_d00df_10 : decode cJ5_ensureCapacityInternal_d00df 10 = .ok (.istore_n 2, 1) := by decide +kernel
theorem dJ5_ensureCapacityInternal_d00df_11 : decode cJ5_ensureCapacityInternal_d00df 11 = .ok (.iload_n 1, 1) := by decide +kernel
theorem dJ5_ensureCapacityInternal_d00df_12 : decode cJ5_ensureCapacityInternal_d00df 12 = .ok (.iload_n 2, 1) := by decide +kernel
theorem dJ5_ensureCapacityInternal_d00df_13 : decode cJ5_ensureCapacityInternal_d00df 13 = .ok (.isub, 1) := by decide +kernel
theorem dJ5_ensureCapacityInternal_d00df_14 : decode cJ5_ensureCapacityInternal_d00df 14 = .ok (.ifCond .le 24, 3) := by decide +kernel
theorem dJ5_ensureCapacityInternal_d00df_17 : decode cJ5_ensureCapacityInternal_d00df 17 = .ok (.aload_n 0, 1) := by decide +kernel
theorem dJ5_ensureCapacityInternal_d00df_18 : decode cJ5_ensureCapacityInternal_d00df 18 = .ok (.aload_n 0, 1) := by decide +kernel
theorem dJ5_ensureCapacityInternal_d00df_19 : decode cJ5_ensureCapacityInternal_d00df 19 = .ok (.getfield 15, 3) := by decide +kernel
theorem dJ5_ensureCapacityInternal_d00df_22 : decode cJ5_ensureCapacityInternal_d00df 22 = .ok (.aload_n 0, 1) := by decide +kernel
theorem dJ5_ensureCapacityInternal_d00df_23 : decode cJ5_ensureCapacityInternal_d00df 23 = .ok (.iload_n 1, 1) := by decide +kernel
theorem dJ5_ensureCapacityInternal_d00df_24 : decode cJ5_ensureCapacityInternal_d00df 24 = .ok (.invokevirtual 104, 3) := by decide +kernel
theorem dJ5_ensureCapacityInternal_d00df_27 : decode cJ5_ensureCapacityInternal_d00df 27 = .ok (.aload_n 0, 1) := by decide +kernel
theorem dJ5_ensureCapacityInternal_d00df_28 : decode cJ5_ensureCapacityInternal_d00df 28 = .ok (.getfield 22, 3) := by decide +kernel
theorem dJ5_ensureCapacityInternal_d00df_31 : decode cJ5_ensureCapacityInternal_d00df 31 = .ok (.ishl, 1) := by decide +kernel
theorem dJ5_ensureCapacityInternal_d00df_32 : decode cJ5_ensureCapacityInternal_d00df 32 = .ok (.invokestatic 108, 3) := by decide +kernel
theorem dJ5_ensureCapacityInternal_d00df_35 : decode cJ5_ensureCapacityInternal_d00df 35 = .ok (.putfield 15, 3) := by decide +kernel
theorem dJ5_ensureCapacityInternal_d00df_38 : decode cJ5_ensureCapacityInternal_d00df 38 = .ok (.return_, 1) := by decide +kernel
set_option maxRecDepth 20000 in
theorem ggJ5_newCapacity_0f7a4_J8_newLength_cabcc : GoodIn wsJ5_newCapacity_0f7a4 wsJ8_newLength_cabcc := goodIn_r _ [7, 8, 9, 10, 11, 12, 13, 14, 6, 15] rfl (by decide +kernel)
set_option maxRecDepth 20000 in
theorem gJ5_newCapacity_0f7a4_J8_newLength_cabcc : GoodIn wsJ5_newCapacity_0f7a4 (va_wsS RJ5 114 yJ8_newLength_cabcc wsJ8_newLength_cabcc) := goodIn_app (goodIn_r _ [4, 5, 6] rfl (by decide +kernel)) ggJ5_newCapacity_0f7a4_J8_newLength_cabcc
theorem dJ5_newCapacity_0f7a4_0 : decode cJ5_newCapacity_0f7a4 0 = .ok (.aload_n 0, 1) := by decide +kernel
theorem dJ5_newCapacity_0f7a4_1 : decode cJ5_newCapacity_0f7a4 1 = .ok (.getfield 15, 3) := by decide +kernel
theorem dJ5_newCapacity_0f7a4_4 : decode cJ5_newCapacity_0f7a4 4 = .ok (.arraylength, 1) := by decide +kernel
theorem dJ5_newCapacity_0f7a4_5 : decode cJ5_newCapacity_0f7a4 5 = .ok (.istore_n 2, 1) := by decide +kernel
theorem dJ5_newCapacity_0f7a4_6 : decode cJ5_newCapacity_0f7a4 6 = .ok (.iload_n 1, 1) := by decide +kernel
theorem dJ5_newCapacity_0f7a4_7 : decode cJ5_newCapacity_0f7a4 7 = .ok (.aload_n 0, 1) := by decide +kernel
theorem dJ5_newCapacity_0f7a4_8 : decode cJ5_newCapacity_0f7a4 8 = .ok (.getfield 22, 3) := by decide +kernel
theorem dJ5_newCapacity_0f7a4_11 : decode cJ5_newCapacity_0f7a4 11 = .ok (.ishl, 1) := by decide +kernel
theorem dJ5_newCapacity_0f7a4_12 : decode cJ5_newCapacity_0f7a4 12 = .ok (.istore_n 3, 1) := by decide +kernel
theorem dJ5_newCapacity_0f7a4_13 : decode cJ5_newCapacity_0f7a4 13 = .ok (.iload_n 3, 1) := by decide +kernel
theorem dJ5_newCapacity_0f7a4_14 : decode cJ5_newCapacity_0f7a4 14 = .ok (.iload_n 2, 1) := by decide +kernel
theorem dJ5_newCapacity_0f7a4_15 : decode cJ5_newCapacity_0f7a4 15 = .ok (.isub, 1) := by decide +kernel
theorem dJ5_newCapacity_0f7a4_16 : decode cJ5_newCapacity_0f7a4 16 = .ok (.istore 4, 2) := by decide +kernel
theorem dJ5_newCapacity_0f7a4_18 : decode cJ5_newCapacity_0f7a4 18 = .ok (.iload_n 2, 1) := by decide +kernel
theorem dJ5_newCapacity_0f7a4_19 : decode cJ5_newCapacity_0f7a4 19 = .ok (.iload 4, 2) := by decide +kernel
theorem dJ5_newCapacity_0f7a4_21 : decode cJ5_newCapacity_0f7a4 21 = .ok (.iload_n 2, 1) := by decide +kernel
theorem dJ5_newCapacity_0f7a4_22 : decode cJ5_newCapacity_0f7a4 22 = .ok (.iconst 2, 1) := by decide +kernel
theorem dJ5_newCapacity_0f7a4_23 : decode cJ5_newCapacity_0f7a4 23 = .ok (.aload_n 0, 1) := by decide +kernel
theorem dJ5_newCapacity_0f7a4_24 : decode cJ5_newCapacity_0f7a4 24 = .ok (.getfield 22, 3) := by decide +kernel
theorem dJ5_newCapacity_0f7a4_27 : decode cJ5_newCapacity_0f7a4 27 = .ok (.ishl, 1) := by decide +kernel
theorem dJ5_newCapacity_0f7a4_28 : decode cJ5_newCapacity_0f7a4 28 = .ok (.iadd, 1) := by decide +kernel
theorem dJ5_newCapacity_0f7a4_29 : decode cJ5_newCapacity_0f7a4 29 = .ok (.invokestatic 114, 3) := by decide +kernel
theorem dJ5_newCapacity_0f7a4_32 : decode cJ5_newCapacity_0f7a4 32 = .ok (.istore 5, 2) := by decide +kernel
theorem dJ5_newCapacity_0f7a4_34 : decode cJ5_newCapacity_0f7a4 34 = .ok (.iload 5, 2) := by decide +kernel
theorem dJ5_newCapacity_0f7a4_36 : decode cJ5_newCapacity_0f7a4 36 = .ok (.ldc 39, 2) := by decide +kernel
theorem dJ5_newCapacity_0f7a4_38 : decode cJ5_newCapacity_0f7a4 38 = .ok (.if_icmp .ne 13, 3) := by decide +kernel
theorem dJ5_newCapacity_0f7a4_41 : decode cJ5_newCapacity_0f7a4 41 = .ok (.new 120, 3) := by decide +kernel
theorem dJ5_newCapacity_0f7a4_44 : decode cJ5_newCapacity_0f7a4 44 = .ok (.dup, 1) := by decide +kernel
theorem dJ5_newCapacity_0f7a4_45 : decode cJ5_newCapacity_0f7a4 45 = .ok (.ldc 122, 2) := by decide +kernel
theorem dJ5_newCapacity_0f7a4_47 : decode cJ5_newCapacity_0f7a4 47 = .ok (.invokespecial 124, 3) := by decide +kernel
theorem dJ5_newCapacity_0f7a4_50 : decode cJ5_newCapacity_0f7a4 50 = .ok (.athrow, 1) := by decide +kernel
theorem dJ5_newCapacity_0f7a4_51 : decode cJ5_newCapacity_0f7a4 51 = .ok (.iload 5, 2) := by decide +kernel
theorem dJ5_newCapacity_0f7a4_53 : decode cJ5_newCapacity_0f7a4 53 = .ok (.aload_n 0, 1) := by decide +kernel
theorem dJ5_newCapacity_0f7a4_54 : decode cJ5_newCapacity_0f7a4 54 = .ok (.getfield 22, 3) := by decide +kernel
theorem dJ5_newCapacity_0f7a4_57 : decode cJ5_newCapacity_0f7a4 57 = .ok (.ishr, 1) := by decide +kernel
theorem dJ5_newCapacity_0f7a4_58 : decode cJ5_newCapacity_0f7a4 58 = .ok (.ireturn, 1) := by decide +kernel
set_option maxRecDepth 20000 in
theorem ggJ5_inflate_da8c8_J5_isLatin1_aae02 : GoodIn wsJ5_inflate_da8c8 wsJ5_isLatin1_aae02 := goodIn_r _ [9, 10, 3, 48, 49, 50, 51] rfl (by decide +kernel)
set_option maxRecDepth 20000 in
theorem gJ5_inflate_da8c8_J5_isLatin1_aae02_u83J4 : GoodIn wsJ5_inflate_da8c8 (va_wsU RJ5 83 RJ4 "java/lang/AbstractStringBuilder" ⟨"java/lang/AbstractStringBuilder", "isLatin1", "()Z"⟩ yJ5_isLatin1_aae02 wsJ5_isLatin1_aae02) := goodIn_app (goodIn_of _ (by decide +kernel)) ggJ5_inflate_da8c8_J5_isLatin1_aae02
set_option maxRecDepth 20000 in
theorem ggJ5_inflate_da8c8_J2_newBytesFor_77867 : GoodIn wsJ5_inflate_da8c8 wsJ2_newBytesFor_77867 := goodIn_r _ [14, 15, 16, 17, 13, 18, 19] rfl (by decide +kernel)
set_option maxRecDepth 20000 in
theorem gJ5_inflate_da8c8_J2_newBytesFor_77867 : GoodIn wsJ5_inflate_da8c8 (va_wsS RJ5 26 yJ2_newBytesFor_77867 wsJ2_newBytesFor_77867) := goodIn_app (goodIn_r _ [11, 12, 13] rfl (by decide +kernel)) ggJ5_inflate_da8c8_J2_newBytesFor_77867
set_option maxRecDepth 20000 in
theorem ggJ5_inflate_da8c8_J1_inflate_0e8fd : GoodIn wsJ5_inflate_da8c8 wsJ1_inflate_0e8fd := goodIn_r _ [23, 24, 25, 13, 26, 27, 28, 29, 30, 31, 32, 33, 34, 35, 36, 37, 38, 39, 40, 41, 42, 43, 44, 45, 46, 47] rfl (by decide +kernel)
set_option maxRecDepth 20000 in
theorem gJ5_inflate_da8c8_J1_inflate_0e8fd : GoodIn wsJ5_inflate_da8c8 (va_wsS RJ5 125 yJ1_inflate_0e8fd wsJ1_inflate_0e8fd) := goodIn_app (goodIn_r _ [20, 21, 22] rfl (by decide +kernel)) ggJ5_inflate_da8c8_J1_inflate_0e8fd
theorem dJ5_inflate_da8c8_0 : decode cJ5_inflate_da8c8 0 = .ok (.aload_n 0, 1) := by decide +kernel
theorem dJ5_inflate_da8c8_1 : decode cJ5_inflate_da8c8 1 = .ok (.invokevirtual 83, 3) := by decide +kernel
theorem dJ5_inflate_da8c8_4 : decode cJ5_inflate_da8c8 4 = .ok (.ifCond .ne 4, 3) := by decide +kernel
theorem dJ5_inflate_da8c8_7 : decode cJ5_inflate_da8c8 7 = .ok (.return_, 1) := by decide +kernel
theorem dJ5_inflate_da8c8_8 : decode cJ5_inflate_da8c8 8 = .ok (.aload_n 0, 1) := by decide +kernel
theorem dJ5_inflate_da8c8_9 : decode cJ5_inflate_da8c8 9 = .ok (.getfield 15, 3) := by decide +kernel
theorem dJ5_inflate_da8c8_12 : decode cJ5_inflate_da8c8 12 = .ok (.arraylength, 1) := by decide +kernel
theorem dJ5_inflate_da8c8_13 : decode cJ5_inflate_da8c8 13 = .ok (.invokestatic 26, 3) := by decide +kernel
theorem dJ5_inflate_da8c8_16 : decode cJ5_inflate_da8c8 16 = .ok (.astore_n 1, 1) := by decide +kernel
theorem dJ5_inflate_da8c8_17 : decode cJ5_inflate_da8c8 17 = .ok (.aload_n 0, 1) := by decide +kernel
theorem dJ5_inflate_da8c8_18 : decode cJ5_inflate_da8c8 18 = .ok (.getfield 15, 3) := by decide +kernel
theorem dJ5_inflate_da8c8_21 : decode cJ5_inflate_da8c8 21 = .ok (.iconst 0, 1) := by decide +kernel
theorem dJ5_inflate_da8c8_22 : decode cJ5_inflate_da8c8 22 = .ok (.aload_n 1, 1) := by decide +kernel
theorem dJ5_inflate_da8c8_23 : decode cJ5_inflate_da8c8 23 = .ok (.iconst 0, 1) := by decide +kernel
theorem dJ5_inflate_da8c8_24 : decode cJ5_inflate_da8c8 24 = .ok (.aload_n 0, 1) := by decide +kernel
theorem dJ5_inflate_da8c8_25 : decode cJ5_inflate_da8c8 25 = .ok (.getfield 79, 3) := by decide +kernel
theorem dJ5_inflate_da8c8_28 : decode cJ5_inflate_da8c8 28 = .ok (.invokestatic 125, 3) := by decide +kernel
theorem dJ5_inflate_da8c8_31 : decode cJ5_inflate_da8c8 31 = .ok (.aload_n 0, 1) := by decide +kernel
theorem dJ5_inflate_da8c8_32 : decode cJ5_inflate_da8c8 32 = .ok (.aload_n 1, 1) := by decide +kernel
theorem dJ5_inflate_da8c8_33 : decode cJ5_inflate_da8c8 33 = .ok (.putfield 15, 3) := by decide +kernel
theorem dJ5_inflate_da8c8_36 : decode cJ5_inflate_da8c8 36 = .ok (.aload_n 0, 1) := by decide +kernel
theorem dJ5_inflate_da8c8_37 : decode cJ5_inflate_da8c8 37 = .ok (.iconst 1, 1) := by decide +kernel
theorem dJ5_inflate_da8c8_38 : decode cJ5_inflate_da8c8 38 = .ok (.putfield 22, 3) := by decide +kernel
theorem dJ5_inflate_da8c8_41 : decode cJ5_inflate_da8c8 41 = .ok (.return_, 1) := by decide +kernel
set_option maxRecDepth 20000 in
theorem ggJ5_append_cf1ce_J5_appendNull_278bc : GoodIn wsJ5_append_cf1ce wsJ5_appendNull_278bc := goodIn_r _ [7, 1, 8, 9, 10, 11, 12, 6, 13, 14, 15, 16, 17, 18, 19, 20, 21, 22, 23, 24, 25, 26, 27, 28, 29, 30, 31, 32, 33, 34, 35, 36, 37, 38, 39, 40, 41, 42, 43, 44, 45, 46, 47, 48, 49, 50, 51, 52, 53, 54, 55, 56, 57, 58, 59, 60, 61, 62, 63, 64, 65, 66, 67, 68, 69, 70, 71, 72, 73, 74, 75, 76, 77, 78, 79, 80, 81, 138, 139, 140, 141] rfl (by decide +kernel)
set_option maxRecDepth 20000 in
theorem gJ5_append_cf1ce_J5_appendNull_278bc_u204J4 : GoodIn wsJ5_append_cf1ce (va_wsU RJ5 204 RJ4 "java/lang/AbstractStringBuilder" ⟨"java/lang/AbstractStringBuilder", "appendNull", "()Ljava/lang/AbstractStringBuilder;"⟩ yJ5_appendNull_278bc wsJ5_appendNull_278bc) := goodIn_app (goodIn_of _ (by decide +kernel)) ggJ5_append_cf1ce_J5_appendNull_278bc
set_option maxRecDepth 20000 in
theorem ggJ5_append_cf1ce_J0_length_8abf5 : GoodIn wsJ5_append_cf1ce wsJ0_length_8abf5 := goodIn_r _ [85, 86, 87, 88, 89, 70, 90, 91, 92, 142, 143, 144, 145] rfl (by decide +kernel)
set_option maxRecDepth 20000 in
theorem gJ5_append_cf1ce_J0_length_8abf5 : GoodIn wsJ5_append_cf1ce (wsV RJ5 32 RJ0 yJ0_length_8abf5 wsJ0_length_8abf5) := goodIn_app (goodIn_r _ [82, 83, 84, 70] rfl (by decide +kernel)) ggJ5_append_cf1ce_J0_length_8abf5
set_option maxRecDepth 20000 in
theorem ggJ5_append_cf1ce_J5_ensureCapacityInternal_d00df : GoodIn wsJ5_append_cf1ce wsJ5_ensureCapacityInternal_d00df := goodIn_r _ [13, 8, 14, 15, 16, 17, 18, 6, 19, 20, 21, 22, 23, 24, 25, 26, 27, 28, 29, 30, 31, 32, 33, 34, 35, 36, 37, 38, 39, 40, 41, 42, 43, 44, 45, 46, 47, 48, 49, 50, 138, 139, 140, 141] rfl (by decide +kernel)
set_option maxRecDepth 20000 in
theorem gJ5_append_cf1ce_J5_ensureCapacityInternal_d00df_u100J4 : GoodIn wsJ5_append_cf1ce (va_wsU RJ5 100 RJ4 "java/lang/AbstractStringBuilder" ⟨"java/lang/AbstractStringBuilder", "ensureCapacityInternal", "(I)V"⟩ yJ5_ensureCapacityInternal_d00df wsJ5_ensureCapacityInternal_d00df) := goodIn_app (goodIn_of _ (by decide +kernel)) ggJ5_append_cf1ce_J5_ensureCapacityInternal_d00df
set_option maxRecDepth 20000 in
theorem ggJ5_append_cf1ce_J5_putStringAt_47b60 : GoodIn wsJ5_append_cf1ce wsJ5_putStringAt_47b60 := goodIn_r _ [97, 8, 14, 98, 99, 100, 101, 6, 102, 56, 103, 88, 89, 70, 90, 91, 92, 104, 105, 106, 107, 108, 1, 51, 52, 53, 54, 55, 109, 110, 59, 111, 43, 112, 113, 114, 115, 116, 117, 118, 119, 120, 121, 122, 123, 124, 125, 65, 66, 67, 126, 127, 128, 72, 129, 130, 75, 131, 77, 78, 79, 61, 80, 81, 132, 133, 134, 135, 86, 136, 48, 49, 50, 87, 137, 138, 139, 140, 141, 142, 143, 144, 145] rfl (by decide +kernel)
set_option maxRecDepth 20000 in
theorem gJ5_append_cf1ce_J5_putStringAt_47b60_u208J4 : GoodIn wsJ5_append_cf1ce (va_wsU RJ5 208 RJ4 "java/lang/AbstractStringBuilder" ⟨"java/lang/AbstractStringBuilder", "putStringAt", "(ILjava/lang/String;)V"⟩ yJ5_putStringAt_47b60 wsJ5_putStringAt_47b60) := goodIn_app (goodIn_of _ (by decide +kernel)) ggJ5_append_cf1ce_J5_putStringAt_47b60
theorem dJ5_append_cf1ce_0 : decode cJ5_append_cf1ce 0 = .ok (.aload_n 1, 1) := by decide +kernel
theorem dJ5_append_cf1ce_1 : decode cJ5_append_cf1ce 1 = .ok (.ifnonnull 8, 3) := by decide +kernel
theorem dJ5_append_cf1ce_4 : decode cJ5_append_cf1ce 4 = .ok (.aload_n 0, 1) := by decide +kernel
theorem dJ5_append_cf1ce_5 : decode cJ5_append_cf1ce 5 = .ok (.invokevirtual 204, 3) := by decide +kernel
theorem dJ5_append_cf1ce_8 : decode cJ5_append_cf1ce 8 = .ok (.areturn, 1) := by decide +kernel
theorem dJ5_append_cf1ce_9 : decode cJ5_append_cf1ce 9 = .ok (.aload_n 1, 1) := by decide +kernel
theorem dJ5_append_cf1ce_10 : decode cJ5_append_cf1ce 10 = .ok (.invokevirtual 32, 3) := by decide +kernel
theorem dJ5_append_cf1ce_13 : decode cJ5_append_cf1ce 13 = .ok (.istore_n 2, 1) := by decide +kernel
theorem dJ5_append_cf1ce_14 : decode cJ5_append_cf1ce 14 = .ok (.aload_n 0, 1) := by decide +kernel
theorem dJ5_append_cf1ce_15 : decode cJ5_append_cf1ce 15 = .ok (.aload_n 0, 1) := by decide +kernel
theorem dJ5_append_cf1ce_16 : decode cJ5_append_cf1ce 16 = .ok (.getfield 79, 3) := by decide +kernel
theorem dJ5_append_cf1ce_19 : decode cJ5_append_cf1ce 19 = .ok (.iload_n 2, 1) := by decide +kernel
theorem dJ5_append_cf1ce_20 : decode cJ5_append_cf1ce 20 = .ok (.iadd, 1) := by decide +kernel
theorem dJ5_append_cf1ce_21 : decode cJ5_append_cf1ce 21 = .ok (.invokevirtual 100, 3) := by decide +kernel
theorem dJ5_append_cf1ce_24 : decode cJ5_append_cf1ce 24 = .ok (.aload_n 0, 1) := by decide +kernel
theorem dJ5_append_cf1ce_25 : decode cJ5_append_cf1ce 25 = .ok (.aload_n 0, 1) := by decide +kernel
theorem dJ5_append_cf1ce_26 : decode cJ5_append_cf1ce 26 = .ok (.getfield 79, 3) := by decide +kernel
theorem dJ5_append_cf1ce_29 : decode cJ5_append_cf1ce 29 = .ok (.aload_n 1, 1) := by decide +kernel
theorem dJ5_append_cf1ce_30 : decode cJ5_append_cf1ce 30 = .ok (.invokevirtual 208, 3) := by decide +kernel
theorem dJ5_append_cf1ce_33 : decode cJ5_append_cf1ce 33 = .ok (.aload_n 0, 1) := by decide +kernel
theorem dJ5_append_cf1ce_34 : decode cJ5_append_cf1ce 34 = .ok (.dup, 1) := by decide +kernel
theorem dJ5_append_cf1ce_35 : decode cJ5_append_cf1ce 35 = .ok (.getfield 79, 3) := by decide +kernel
theorem dJ5_append_cf1ce_38 : decode cJ5_append_cf1ce 38 = .ok (.iload_n 2, 1) := by decide +kernel
theorem dJ5_append_cf1ce_39 : decode cJ5_append_cf1ce 39 = .ok (.iadd, 1) := by decide +kernel
theorem dJ5_append_cf1ce_40 : decode cJ5_append_cf1ce 40 = .ok (.putfield 79, 3) := by decide +kernel
theorem dJ5_append_cf1ce_43 : decode cJ5_append_cf1ce 43 = .ok (.aload_n 0, 1) := by decide +kernel
theorem dJ5_append_cf1ce_44 : decode cJ5_append_cf1ce 44 = .ok (.areturn, 1) := by decide +kernel
set_option maxRecDepth 20000 in
theorem ggJ5_appendNull_278bc_J5_ensureCapacityInternal_d00df : GoodIn wsJ5_appendNull_278bc wsJ5_ensureCapacityInternal_d00df := goodIn_r _ [8, 2, 9, 10, 11, 12, 13, 7, 14, 15, 16, 17, 18, 19, 20, 21, 22, 23, 24, 25, 26, 27, 28, 29, 30, 31, 32, 33, 34, 35, 36, 37, 38, 39, 40, 41, 42, 43, 44, 45, 77, 78, 79, 80] rfl (by decide +kernel)
set_option maxRecDepth 20000 in
theorem gJ5_appendNull_278bc_J5_ensureCapacityInternal_d00df_u100J4 : GoodIn wsJ5_appendNull_278bc (va_wsU RJ5 100 RJ4 "java/lang/AbstractStringBuilder" ⟨"java/lang/AbstractStringBuilder", "ensureCapacityInternal", "(I)V"⟩ yJ5_ensureCapacityInternal_d00df wsJ5_ensureCapacityInternal_d00df) := goodIn_app (goodIn_of _ (by decide +kernel)) ggJ5_appendNull_278bc_J5_ensureCapacityInternal_d00df
set_option maxRecDepth 20000 in
theorem ggJ5_appendNull_278bc_J5_isLatin1_aae02 : GoodIn wsJ5_appendNull_278bc wsJ5_isLatin1_aae02 := goodIn_r _ [50, 51, 9, 77, 78, 79, 80] rfl (by decide +kernel)
set_option maxRecDepth 20000 in
theorem gJ5_appendNull_278bc_J5_isLatin1_aae02_u83J4 : GoodIn wsJ5_appendNull_278bc (va_wsU RJ5 83 RJ4 "java/lang/AbstractStringBuilder" ⟨"java/lang/AbstractStringBuilder", "isLatin1", "()Z"⟩ yJ5_isLatin1_aae02 wsJ5_isLatin1_aae02) := goodIn_app (goodIn_of _ (by decide +kernel)) ggJ5_appendNull_278bc_J5_isLatin1_aae02
set_option maxRecDepth 20000 in
theorem ggJ5_appendNull_278bc_J2_putCharsAt_cd4e5 : GoodIn wsJ5_appendNull_278bc wsJ2_putCharsAt_cd4e5 := goodIn_r _ [55, 56, 57, 58, 54, 59, 60, 61, 62, 63, 64, 65, 66, 67, 68, 69, 70, 71, 72, 73, 74, 75, 76] rfl (by decide +kernel)
set_option maxRecDepth 20000 in
theorem gJ5_appendNull_278bc_J2_putCharsAt_cd4e5 : GoodIn wsJ5_appendNull_278bc (va_wsS RJ5 226 yJ2_putCharsAt_cd4e5 wsJ2_putCharsAt_cd4e5) := goodIn_app (goodIn_r _ [52, 53, 54] rfl (by decide +kernel)) ggJ5_appendNull_278bc_J2_putCharsAt_cd4e5
theorem dJ5_appendNull_278bc_0 : decode cJ5_appendNull_278bc 0 = .ok (.aload_n 0, 1) := by decide +kernel
theorem dJ5_appendNull_278bc_1 : decode cJ5_appendNull_278bc 1 = .ok (.aload_n 0, 1) := by decide +kernel
theorem dJ5_appendNull_278bc_2 : decode cJ5_appendNull_278bc 2 = .ok (.getfield 79, 3) := by decide +kernel
theorem dJ5_appendNull_278bc_5 : decode cJ5_appendNull_278bc 5 = .ok (.iconst 4, 1) := by decide +kernel
theorem dJ5_appendNull_278bc_6 : decode cJ5_appendNull_278bc 6 = .ok (.iadd, 1) := by decide +kernel
theorem dJ5_appendNull_278bc_7 : decode cJ5_appendNull_278bc 7 = .ok (.invokevirtual 100, 3) := by decide +kernel
theorem dJ5_appendNull_278bc_10 : decode cJ5_appendNull_278bc 10 = .ok (.aload_n 0, 1) := by decide +kernel
theorem dJ5_appendNull_278bc_11 : decode cJ5_appendNull_278bc 11 = .ok (.getfield 79, 3) := by decide +kernel
theorem dJ5_appendNull_278bc_14 : decode cJ5_appendNull_278bc 14 = .ok (.istore_n 1, 1) := by decide +kernel
theorem dJ5_appendNull_278bc_15 : decode cJ5_appendNull_278bc 15 = .ok (.aload_n 0, 1) := by decide +kernel
theorem dJ5_appendNull_278bc_16 : decode cJ5_appendNull_278bc 16 = .ok (.getfield 15, 3) := by decide +kernel
theorem dJ5_appendNull_278bc_19 : decode cJ5_appendNull_278bc 19 = .ok (.astore_n 2, 1) := by decide +kernel
theorem dJ5_appendNull_278bc_20 : decode cJ5_appendNull_278bc 20 = .ok (.aload_n 0, 1) := by decide +kernel
theorem dJ5_appendNull_278bc_21 : decode cJ5_appendNull_278bc 21 = .ok (.invokevirtual 83, 3) := by decide +kernel
theorem dJ5_appendNull_278bc_24 : decode cJ5_appendNull_278bc 24 = .ok (.ifCond .eq 38, 3) := by decide +kernel
theorem dJ5_appendNull_278bc_27 : decode cJ5_appendNull_278bc 27 = .ok (.aload_n 2, 1) := by decide +kernel
theorem dJ5_appendNull_278bc_28 : decode cJ5_appendNull_278bc 28 = .ok (.iload_n 1, 1) := by decide +kernel
theorem dJ5_appendNull_278bc_29 : decode cJ5_appendNull_278bc 29 = .ok (.iinc 1 1, 3) := by decide +kernel
theorem dJ5_appendNull_278bc_32 : decode cJ5_appendNull_278bc 32 = .ok (.bipush 110, 2) := by decide +kernel
theorem dJ5_appendNull_278bc_34 : decode cJ5_appendNull_278bc 34 = .ok (.bastore, 1) := by decide +kernel
theorem dJ5_appendNull_278bc_35 : decode cJ5_appendNull_278bc 35 = .ok (.aload_n 2, 1) := by decide +kernel
theorem dJ5_appendNull_278bc_36 : decode cJ5_appendNull_278bc 36 = .ok (.iload_n 1, 1) := by decide +kernel
theorem dJ5_appendNull_278bc_37 : decode cJ5_appendNull_278bc 37 = .ok (.iinc 1 1, 3) := by decide +kernel
theorem dJ5_appendNull_278bc_40 : decode cJ5_appendNull_278bc 40 = .ok (.bipush 117, 2) := by decide +kernel
theorem dJ5_appendNull_278bc_42 : decode cJ5_appendNull_278bc 42 = .ok (.bastore, 1) := by decide +kernel
theorem dJ5_appendNull_278bc_43 : decode cJ5_appendNull_278bc 43 = .ok (.aload_n 2, 1) := by decide +kernel
theorem dJ5_appendNull_278bc_44 : decode cJ5_appendNull_278bc 44 = .ok (.iload_n 1, 1) := by decide +kernel
theorem dJ5_appendNull_278bc_45 : decode cJ5_appendNull_278bc 45 = .ok (.iinc 1 1, 3) := by decide +kernel
theorem dJ5_appendNull_278bc_48 : decode cJ5_appendNull_278bc 48 = .ok (.bipush 108, 2) := by decide +kernel
theorem dJ5_appendNull_278bc_50 : decode cJ5_appendNull_278bc 50 = .ok (.bastore, 1) := by decide +kernel
theorem dJ5_appendNull_278bc_51 : decode cJ5_appendNull_278bc 51 = .ok (.aload_n 2, 1) := by decide +kernel
theorem dJ5_appendNull_278bc_52 : decode cJ5_appendNull_278bc 52 = .ok (.iload_n 1, 1) := by decide +kernel
theorem dJ5_appendNull_278bc_53 : decode cJ5_appendNull_278bc 53 = .ok (.iinc 1 1, 3) := by decide +kernel
theorem dJ5_appendNull_278bc_56 : decode cJ5_appendNull_278bc 56 = .ok (.bipush 108, 2) := by decide +kernel
theorem dJ5_appendNull_278bc_58 : decode cJ5_appendNull_278bc 58 = .ok (.bastore, 1) := by decide +kernel
theorem dJ5_appendNull_278bc_59 : decode cJ5_appendNull_278bc 59 = .ok (.goto 17, 3) := by decide +kernel
theorem dJ5_appendNull_278bc_62 : decode cJ5_appendNull_278bc 62 = .ok (.aload_n 2, 1) := by decide +kernel
theorem dJ5_appendNull_278bc_63 : decode cJ5_appendNull_278bc 63 = .ok (.iload_n 1, 1) := by decide +kernel
theorem dJ5_appendNull_278bc_64 : decode cJ5_appendNull_278bc 64 = .ok (.bipush 110, 2) := by decide +kernel
theorem dJ5_appendNull_278bc_66 : decode cJ5_appendNull_278bc 66 = .ok (.bipush 117, 2) := by decide +kernel
theorem dJ5_appendNull_278bc_68 : decode cJ5_appendNull_278bc 68 = .ok (.bipush 108, 2) := by decide +kernel
theorem dJ5_appendNull_278bc_70 : decode cJ5_appendNull_278bc 70 = .ok (.bipush 108, 2) := by decide +kernel
theorem dJ5_appendNull_278bc_72 : decode cJ5_appendNull_278bc 72 = .ok (.invokestatic 226, 3) := by decide +kernel
theorem dJ5_appendNull_278bc_75 : decode cJ5_appendNull_278bc 75 = .ok (.istore_n 1, 1) := by decide +kernel
theorem dJ5_appendNull_278bc_76 : decode cJ5_appendNull_278bc 76 = .ok (.aload_n 0, 1) := by decide +kernel
theorem dJ5_appendNull_278bc_77 : decode cJ5_appendNull_278bc 77 = .ok (.iload_n 1, 1) := by decide +kernel
theorem dJ5_appendNull_278bc_78 : decode cJ5_appendNull_278bc 78 = .ok (.putfield 79, 3) := by decide +kernel
theorem dJ5_appendNull_278bc_81 : decode cJ5_appendNull_278bc 81 = .ok (.aload_n 0, 1) := by decide +kernel
theorem dJ5_appendNull_278bc_82 : decode cJ5_appendNull_278bc 82 = .ok (.areturn, 1) := by decide +kernel
set_option maxRecDepth 20000 in
theorem ggJ5_append_c97b9_J6_stringSize_0f7a4 : GoodIn wsJ5_append_c97b9 wsJ6_stringSize_0f7a4 := goodIn_r _ [6] rfl (by decide +kernel)
set_option maxRecDepth 20000 in
theorem gJ5_append_c97b9_J6_stringSize_0f7a4 : GoodIn wsJ5_append_c97b9 (va_wsS RJ5 245 yJ6_stringSize_0f7a4 wsJ6_stringSize_0f7a4) := goodIn_app (goodIn_r _ [3, 4, 5] rfl (by decide +kernel)) ggJ5_append_c97b9_J6_stringSize_0f7a4
set_option maxRecDepth 20000 in
theorem ggJ5_append_c97b9_J5_ensureCapacityInternal_d00df : GoodIn wsJ5_append_c97b9 wsJ5_ensureCapacityInternal_d00df := goodIn_r _ [12, 2, 13, 14, 15, 16, 17, 11, 18, 19, 20, 21, 22, 23, 24, 25, 26, 27, 28, 29, 30, 31, 32, 33, 34, 35, 36, 37, 38, 39, 40, 41, 42, 43, 44, 45, 46, 47, 48, 49, 91, 92, 93, 94] rfl (by decide +kernel)
set_option maxRecDepth 20000 in
theorem gJ5_append_c97b9_J5_ensureCapacityInternal_d00df_u100J4 : GoodIn wsJ5_append_c97b9 (va_wsU RJ5 100 RJ4 "java/lang/AbstractStringBuilder" ⟨"java/lang/AbstractStringBuilder", "ensureCapacityInternal", "(I)V"⟩ yJ5_ensureCapacityInternal_d00df wsJ5_ensureCapacityInternal_d00df) := goodIn_app (goodIn_of _ (by decide +kernel)) ggJ5_append_c97b9_J5_ensureCapacityInternal_d00df
set_option maxRecDepth 20000 in
theorem ggJ5_append_c97b9_J5_isLatin1_aae02 : GoodIn wsJ5_append_c97b9 wsJ5_isLatin1_aae02 := goodIn_r _ [54, 55, 13, 91, 92, 93, 94] rfl (by decide +kernel)
set_option maxRecDepth 20000 in
theorem gJ5_append_c97b9_J5_isLatin1_aae02_u83J4 : GoodIn wsJ5_append_c97b9 (va_wsU RJ5 83 RJ4 "java/lang/AbstractStringBuilder" ⟨"java/lang/AbstractStringBuilder", "isLatin1", "()Z"⟩ yJ5_isLatin1_aae02 wsJ5_isLatin1_aae02) := goodIn_app (goodIn_of _ (by decide +kernel)) ggJ5_append_c97b9_J5_isLatin1_aae02
set_option maxRecDepth 20000 in
theorem ggJ5_append_c97b9_J6_getChars_ba4f3 : GoodIn wsJ5_append_c97b9 wsJ6_getChars_ba4f3 := goodIn_r _ [58, 59, 60] rfl (by decide +kernel)
set_option maxRecDepth 20000 in
theorem gJ5_append_c97b9_J6_getChars_ba4f3 : GoodIn wsJ5_append_c97b9 (va_wsS RJ5 248 yJ6_getChars_ba4f3 wsJ6_getChars_ba4f3) := goodIn_app (goodIn_r _ [56, 57, 5] rfl (by decide +kernel)) ggJ5_append_c97b9_J6_getChars_ba4f3
set_option maxRecDepth 20000 in
theorem ggJ5_append_c97b9_J2_getChars_46870 : GoodIn wsJ5_append_c97b9 wsJ2_getChars_46870 := goodIn_r _ [64, 65, 66, 67, 63, 68, 69, 70, 71, 72, 73, 74, 75, 76, 77, 78, 79, 80, 81, 82, 83, 84, 85, 86, 87, 88, 89, 90] rfl (by decide +kernel)
set_option maxRecDepth 20000 in
theorem gJ5_append_c97b9_J2_getChars_46870 : GoodIn wsJ5_append_c97b9 (va_wsS RJ5 251 yJ2_getChars_46870 wsJ2_getChars_46870) := goodIn_app (goodIn_r _ [61, 62, 63] rfl (by decide +kernel)) ggJ5_append_c97b9_J2_getChars_46870
theorem dJ5_append_c97b9_0 : decode cJ5_append_c97b9 0 = .ok (.aload_n 0, 1) := by decide +kernel
theorem dJ5_append_c97b9_1 : decode cJ5_append_c97b9 1 = .ok (.getfield 79, 3) := by decide +kernel
theorem dJ5_append_c97b9_4 : decode cJ5_append_c97b9 4 = .ok (.istore_n 2, 1) := by decide +kernel
theorem dJ5_append_c97b9_5 : decode cJ5_append_c97b9 5 = .ok (.iload_n 2, 1) := by decide +kernel
theorem dJ5_append_c97b9_6 : decode cJ5_append_c97b9 6 = .ok (.iload_n 1, 1) := by decide +kernel
theorem dJ5_append_c97b9_7 : decode cJ5_append_c97b9 7 = .ok (.invokestatic 245, 3) := by decide +kernel
theorem dJ5_append_c97b9_10 : decode cJ5_append_c97b9 10 = .ok (.iadd, 1) := by decide +kernel
theorem dJ5_append_c97b9_11 : decode cJ5_append_c97b9 11 = .ok (.istore_n 3, 1) := by decide +kernel
theorem dJ5_append_c97b9_12 : decode cJ5_append_c97b9 12 = .ok (.aload_n 0, 1) := by decide +kernel
theorem dJ5_append_c97b9_13 : decode cJ5_append_c97b9 13 = .ok (.iload_n 3, 1) := by decide +kernel
theorem dJ5_append_c97b9_14 : decode cJ5_append_c97b9 14 = .ok (.invokevirtual 100, 3) := by decide +kernel
theorem dJ5_append_c97b9_17 : decode cJ5_append_c97b9 17 = .ok (.aload_n 0, 1) := by decide +kernel
theorem dJ5_append_c97b9_18 : decode cJ5_append_c97b9 18 = .ok (.invokevirtual 83, 3) := by decide +kernel
theorem dJ5_append_c97b9_21 : decode cJ5_append_c97b9 21 = .ok (.ifCond .eq 16, 3) := by decide +kernel
theorem dJ5_append_c97b9_24 : decode cJ5_append_c97b9 24 = .ok (.iload_n 1, 1) := by decide +kernel
theorem dJ5_append_c97b9_25 : decode cJ5_append_c97b9 25 = .ok (.iload_n 3, 1) := by decide +kernel
theorem dJ5_append_c97b9_26 : decode cJ5_append_c97b9 26 = .ok (.aload_n 0, 1) := by decide +kernel
theorem dJ5_append_c97b9_27 : decode cJ5_append_c97b9 27 = .ok (.getfield 15, 3) := by decide +kernel
theorem dJ5_append_c97b9_30 : decode cJ5_append_c97b9 30 = .ok (.invokestatic 248, 3) := by decide +kernel
theorem dJ5_append_c97b9_33 : decode cJ5_append_c97b9 33 = .ok (.pop, 1) := by decide +kernel
theorem dJ5_append_c97b9_34 : decode cJ5_append_c97b9 34 = .ok (.goto 14, 3) := by decide +kernel
theorem dJ5_append_c97b9_37 : decode cJ5_append_c97b9 37 = .ok (.iload_n 1, 1) := by decide +kernel
theorem dJ5_append_c97b9_38 : decode cJ5_append_c97b9 38 = .ok (.iload_n 2, 1) := by decide +kernel
theorem dJ5_append_c97b9_39 : decode cJ5_append_c97b9 39 = .ok (.iload_n 3, 1) := by decide +kernel
theorem dJ5_append_c97b9_40 : decode cJ5_append_c97b9 40 = .ok (.aload_n 0, 1) := by decide +kernel
theorem dJ5_append_c97b9_41 : decode cJ5_append_c97b9 41 = .ok (.getfield 15, 3) := by decide +kernel
theorem dJ5_append_c97b9_44 : decode cJ5_append_c97b9 44 = .ok (.invokestatic 251, 3) := by decide +kernel
theorem dJ5_append_c97b9_47 : decode cJ5_append_c97b9 47 = .ok (.pop, 1) := by decide +kernel
theorem dJ5_append_c97b9_48 : decode cJ5_append_c97b9 48 = .ok (.aload_n 0, 1) := by decide +kernel
theorem dJ5_append_c97b9_49 : decode cJ5_append_c97b9 49 = .ok (.iload_n 3, 1) := by decide +kernel
theorem dJ5_append_c97b9_50 : decode cJ5_append_c97b9 50 = .ok (.putfield 79, 3) := by decide +kernel
theorem dJ5_append_c97b9_53 : decode cJ5_append_c97b9 53 = .ok (.aload_n 0, 1) := by decide +kernel
theorem dJ5_append_c97b9_54 : decode cJ5_append_c97b9 54 = .ok (.areturn, 1) := by decide +kernel
theorem dJ5_getValue_6d5f1_0 : decode cJ5_getValue_6d5f1 0 = .ok (.aload_n 0, 1) := by decide +kernel
theorem dJ5_getValue_6d5f1_1 : decode cJ5_getValue_6d5f1 1 = .ok (.getfield 15, 3) := by decide +kernel
theorem dJ5_getValue_6d5f1_4 : decode cJ5_getValue_6d5f1 4 = .ok (.areturn, 1) := by decide +kernel
theorem dJ5_isLatin1_aae02_0 : decode cJ5_isLatin1_aae02 0 = .ok (.getstatic 18, 3) := by decide +kernel
theorem dJ5_isLatin1_aae02_3 : decode cJ5_isLatin1_aae02 3 = .ok (.ifCond .eq 14, 3) := by decide +kernel
theorem dJ5_isLatin1_aae02_6 : decode cJ5_isLatin1_aae02 6 = .ok (.aload_n 0, 1) := by decide +kernel
theorem dJ5_isLatin1_aae02_7 : decode cJ5_isLatin1_aae02 7 = .ok (.getfield 22, 3) := by decide +kernel
theorem dJ5_isLatin1_aae02_10 : decode cJ5_isLatin1_aae02 10 = .ok (.ifCond .ne 7, 3) := by decide +kernel
theorem dJ5_isLatin1_aae02_13 : decode cJ5_isLatin1_aae02 13 = .ok (.iconst 1, 1) := by decide +kernel
theorem dJ5_isLatin1_aae02_14 : decode cJ5_isLatin1_aae02 14 = .ok (.goto 4, 3) := by decide +kernel
theorem dJ5_isLatin1_aae02_17 : decode cJ5_isLatin1_aae02 17 = .ok (.iconst 0, 1) := by decide +kernel
theorem dJ5_isLatin1_aae02_18 : decode cJ5_isLatin1_aae02 18 = .ok (.ireturn, 1) := by decide +kernel
set_option maxRecDepth 20000 in
theorem ggJ5_inflateIfNeededFor_a7421_J0_coder_7d493 : GoodIn wsJ5_inflateIfNeededFor_a7421 wsJ0_coder_7d493 := goodIn_r _ [7, 8, 9, 63, 64, 65, 66] rfl (by decide +kernel)
set_option maxRecDepth 20000 in
theorem gJ5_inflateIfNeededFor_a7421_J0_coder_7d493 : GoodIn wsJ5_inflateIfNeededFor_a7421 (wsV RJ5 40 RJ0 yJ0_coder_7d493 wsJ0_coder_7d493) := goodIn_app (goodIn_r _ [3, 4, 5, 6] rfl (by decide +kernel)) ggJ5_inflateIfNeededFor_a7421_J0_coder_7d493
set_option maxRecDepth 20000 in
theorem ggJ5_inflateIfNeededFor_a7421_J5_inflate_da8c8 : GoodIn wsJ5_inflateIfNeededFor_a7421 wsJ5_inflate_da8c8 := goodIn_r _ [15, 16, 17, 2, 18, 19, 20, 21, 14, 22, 1, 23, 24, 25, 26, 27, 28, 29, 30, 31, 32, 33, 34, 35, 36, 37, 38, 39, 40, 41, 42, 43, 44, 45, 46, 6, 47, 48, 49, 50, 51, 52, 53, 54, 55, 56, 57, 58, 59, 60, 61, 62] rfl (by decide +kernel)
set_option maxRecDepth 20000 in
theorem gJ5_inflateIfNeededFor_a7421_J5_inflate_da8c8_u195J4 : GoodIn wsJ5_inflateIfNeededFor_a7421 (va_wsU RJ5 195 RJ4 "java/lang/AbstractStringBuilder" ⟨"java/lang/AbstractStringBuilder", "inflate", "()V"⟩ yJ5_inflate_da8c8 wsJ5_inflate_da8c8) := goodIn_app (goodIn_of _ (by decide +kernel)) ggJ5_inflateIfNeededFor_a7421_J5_inflate_da8c8
theorem dJ5_inflateIfNeededFor_a7421_0 : decode cJ5_inflateIfNeededFor_a7421 0 = .ok (.getstatic 18, 3) := by decide +kernel
theorem dJ5_inflateIfNeededFor_a7421_3 : decode cJ5_inflateIfNeededFor_a7421 3 = .ok (.ifCond .eq 18, 3) := by decide +kernel
theorem dJ5_inflateIfNeededFor_a7421_6 : decode cJ5_inflateIfNeededFor_a7421 6 = .ok (.aload_n 0, 1) := by decide +kernel
theorem dJ5_inflateIfNeededFor_a7421_7 : decode cJ5_inflateIfNeededFor_a7421 7 = .ok (.getfield 22, 3) := by decide +kernel
theorem dJ5_inflateIfNeededFor_a7421_10 : decode cJ5_inflateIfNeededFor_a7421 10 = .ok (.aload_n 1, 1) := by decide +kernel
theorem dJ5_inflateIfNeededFor_a7421_11 : decode cJ5_inflateIfNeededFor_a7421 11 = .ok (.invokevirtual 40, 3) := by decide +kernel
theorem dJ5_inflateIfNeededFor_a7421_14 : decode cJ5_inflateIfNeededFor_a7421 14 = .ok (.if_icmp .eq 7, 3) := by decide +kernel
theorem dJ5_inflateIfNeededFor_a7421_17 : decode cJ5_inflateIfNeededFor_a7421 17 = .ok (.aload_n 0, 1) := by decide +kernel
theorem dJ5_inflateIfNeededFor_a7421_18 : decode cJ5_inflateIfNeededFor_a7421 18 = .ok (.invokevirtual 195, 3) := by decide +kernel
theorem dJ5_inflateIfNeededFor_a7421_21 : decode cJ5_inflateIfNeededFor_a7421 21 = .ok (.return_, 1) := by decide +kernel
set_option maxRecDepth 20000 in
theorem ggJ5_putStringAt_47b60_J5_inflateIfNeededFor_a7421 : GoodIn wsJ5_putStringAt_47b60 wsJ5_inflateIfNeededFor_a7421 := goodIn_r _ [8, 9, 2, 10, 11, 12, 13, 14, 15, 16, 17, 18, 19, 20, 7, 21, 1, 22, 23, 24, 25, 26, 27, 28, 29, 30, 31, 32, 33, 34, 35, 36, 37, 38, 39, 40, 41, 42, 43, 44, 45, 46, 47, 48, 49, 50, 51, 52, 53, 54, 55, 56, 57, 58, 59, 60, 61, 62, 63, 75, 76, 77, 78, 79, 80, 81, 82] rfl (by decide +kernel)
set_option maxRecDepth 20000 in
theorem gJ5_putStringAt_47b60_J5_inflateIfNeededFor_a7421_u397J4 : GoodIn wsJ5_putStringAt_47b60 (va_wsU RJ5 397 RJ4 "java/lang/AbstractStringBuilder" ⟨"java/lang/AbstractStringBuilder", "inflateIfNeededFor", "(Ljava/lang/String;)V"⟩ yJ5_inflateIfNeededFor_a7421 wsJ5_inflateIfNeededFor_a7421) := goodIn_app (goodIn_of _ (by decide +kernel)) ggJ5_putStringAt_47b60_J5_inflateIfNeededFor_a7421
set_option maxRecDepth 20000 in
theorem ggJ5_putStringAt_47b60_J0_getBytes_840e7 : GoodIn wsJ5_putStringAt_47b60 wsJ0_getBytes_840e7 := goodIn_r _ [67, 68, 69, 70, 71, 72, 73, 11, 12, 13, 14, 15, 16, 74, 38, 39, 40, 41, 42, 30, 43, 44, 45, 46, 47, 48, 49, 50, 51, 52, 53, 54, 55, 56, 57, 58, 59, 60, 61, 62, 63, 79, 80, 81, 82] rfl (by decide +kernel)
set_option maxRecDepth 20000 in
theorem gJ5_putStringAt_47b60_J0_getBytes_840e7 : GoodIn wsJ5_putStringAt_47b60 (wsV RJ5 399 RJ0 yJ0_getBytes_840e7 wsJ0_getBytes_840e7) := goodIn_app (goodIn_r _ [64, 65, 66, 13] rfl (by decide +kernel)) ggJ5_putStringAt_47b60_J0_getBytes_840e7
theorem dJ5_putStringAt_47b60_0 : decode cJ5_putStringAt_47b60 0 = .ok (.aload_n 0, 1) := by decide +kernel
theorem dJ5_putStringAt_47b60_1 : decode cJ5_putStringAt_47b60 1 = .ok (.aload_n 2, 1) := by decide +kernel
theorem dJ5_putStringAt_47b60_2 : decode cJ5_putStringAt_47b60 2 = .ok (.invokevirtual 397, 3) := by decide +kernel
theorem dJ5_putStringAt_47b60_5 : decode cJ5_putStringAt_47b60 5 = .ok (.aload_n 2, 1) := by decide +kernel
theorem dJ5_putStringAt_47b60_6 : decode cJ5_putStringAt_47b60 6 = .ok (.aload_n 0, 1) := by decide +kernel
theorem dJ5_putStringAt_47b60_7 : decode cJ5_putStringAt_47b60 7 = .ok (.getfield 15, 3) := by decide +kernel
theorem dJ5_putStringAt_47b60_10 : decode cJ5_putStringAt_47b60 10 = .ok (.iload_n 1, 1) := by decide +kernel
theorem dJ5_putStringAt_47b60_11 : decode cJ5_putStringAt_47b60 11 = .ok (.aload_n 0, 1) := by decide +kernel
theorem dJ5_putStringAt_47b60_12 : decode cJ5_putStringAt_47b60 12 = .ok (.getfield 22, 3) := by decide +kernel
theorem dJ5_putStringAt_47b60_15 : decode cJ5_putStringAt_47b60 15 = .ok (.invokevirtual 399, 3) := by decide +kernel
theorem dJ5_putStringAt_47b60_18 : decode cJ5_putStringAt_47b60 18 = .ok (.return_, 1) := by decide +kernel
theorem dJx00060_init_a7421_0 : decode cJx00060_init_a7421 0 = .ok (.aload_n 0, 1) := by decide +kernel
theorem dJx00060_init_a7421_1 : decode cJx00060_init_a7421 1 = .ok (.aload_n 1, 1) := by decide +kernel
theorem dJx00060_init_a7421_2 : decode cJx00060_init_a7421 2 = .ok (.invokespecial 7, 3) := by decide +kernel
theorem dJx00060_init_a7421_5 : decode cJx00060_init_a7421 5 = .ok (.return_, 1) := by decide +kernel
theorem dJxe99ae_isNaN_b9ae7_0 : decode cJxe99ae_isNaN_b9ae7 0 = .ok (.dload_n 0, 1) := by decide +kernel
theorem dJxe99ae_isNaN_b9ae7_1 : decode cJxe99ae_isNaN_b9ae7 1 = .ok (.dload_n 0, 1) := by decide +kernel
theorem dJxe99ae_isNaN_b9ae7_2 : decode cJxe99ae_isNaN_b9ae7 2 = .ok (.dcmp .l, 1) := by decide +kernel
theorem dJxe99ae_isNaN_b9ae7_3 : decode cJxe99ae_isNaN_b9ae7 3 = .ok (.ifCond .eq 7, 3) := by decide +kernel
theorem dJxe99ae_isNaN_b9ae7_6 : decode cJxe99ae_isNaN_b9ae7 6 = .ok (.iconst 1, 1) := by decide +kernel
theorem dJxe99ae_isNaN_b9ae7_7 : decode cJxe99ae_isNaN_b9ae7 7 = .ok (.goto 4, 3) := by decide +kernel
theorem dJxe99ae_isNaN_b9ae7_10 : decode cJxe99ae_isNaN_b9ae7 10 = .ok (.iconst 0, 1) := by decide +kernel
theorem dJxe99ae_isNaN_b9ae7_11 : decode cJxe99ae_isNaN_b9ae7 11 = .ok (.ireturn, 1) := by decide +kernel
set_option maxRecDepth 20000 in
theorem ggJxe99ae_doubleToLongBits_ccdee_Jxe99ae_isNaN_b9ae7 : GoodIn wsJxe99ae_doubleToLongBits_ccdee wsJxe99ae_isNaN_b9ae7 := goodIn_r _ [9] rfl (by decide +kernel)
set_option maxRecDepth 20000 in
theorem gJxe99ae_doubleToLongBits_ccdee_Jxe99ae_isNaN_b9ae7 : GoodIn wsJxe99ae_doubleToLongBits_ccdee (va_wsS RJxe99ae 122 yJxe99ae_isNaN_b9ae7 wsJxe99ae_isNaN_b9ae7) := goodIn_app (goodIn_r _ [6, 7, 4] rfl (by decide +kernel)) ggJxe99ae_doubleToLongBits_ccdee_Jxe99ae_isNaN_b9ae7
theorem dJxe99ae_doubleToLongBits_ccdee_0 : decode cJxe99ae_doubleToLongBits_ccdee 0 = .ok (.dload_n 0, 1) := by decide +kernel
theorem dJxe99ae_doubleToLongBits_ccdee_1 : decode cJxe99ae_doubleToLongBits_ccdee 1 = .ok (.invokestatic 122, 3) := by decide +kernel
theorem dJxe99ae_doubleToLongBits_ccdee_4 : decode cJxe99ae_doubleToLongBits_ccdee 4 = .ok (.ifCond .ne 8, 3) := by decide +kernel
theorem dJxe99ae_doubleToLongBits_ccdee_7 : decode cJxe99ae_doubleToLongBits_ccdee 7 = .ok (.dload_n 0, 1) := by decide +kernel
theorem dJxe99ae_doubleToLongBits_ccdee_8 : decode cJxe99ae_doubleToLongBits_ccdee 8 = .ok (.invokestatic 134, 3) := by decide +kernel
theorem dJxe99ae_doubleToLongBits_ccdee_11 : decode cJxe99ae_doubleToLongBits_ccdee 11 = .ok (.lreturn, 1) := by decide +kernel
theorem dJxe99ae_doubleToLongBits_ccdee_12 : decode cJxe99ae_doubleToLongBits_ccdee 12 = .ok (.ldc2_w 137, 3) := by decide +kernel
theorem dJxe99ae_doubleToLongBits_ccdee_15 : decode cJxe99ae_doubleToLongBits_ccdee 15 = .ok (.lreturn, 1) := by decide +kernel
theorem dJxf58ca_isNaN_12338_0 : decode cJxf58ca_isNaN_12338 0 = .ok (.fload_n 0, 1) := by decide +kernel
theorem dJxf58ca_isNaN_12338_1 : decode cJxf58ca_isNaN_12338 1 = .ok (.fload_n 0, 1) := by decide +kernel
theorem dJxf58ca_isNaN_12338_2 : decode cJxf58ca_isNaN_12338 2 = .ok (.fcmp .l, 1) := by decide +kernel
theorem dJxf58ca_isNaN_12338_3 : decode cJxf58ca_isNaN_12338 3 = .ok (.ifCond .eq 7, 3) := by decide +kernel
theorem dJxf58ca_isNaN_12338_6 : decode cJxf58ca_isNaN_12338 6 = .ok (.iconst 1, 1) := by decide +kernel
theorem dJxf58ca_isNaN_12338_7 : decode cJxf58ca_isNaN_12338 7 = .ok (.goto 4, 3) := by decide +kernel
theorem dJxf58ca_isNaN_12338_10 : decode cJxf58ca_isNaN_12338 10 = .ok (.iconst 0, 1) := by decide +kernel
theorem dJxf58ca_isNaN_12338_11 : decode cJxf58ca_isNaN_12338 11 = .ok (.ireturn, 1) := by decide +kernel
set_option maxRecDepth 20000 in
theorem ggJxf58ca_floatToIntBits_5c35a_Jxf58ca_isNaN_12338 : GoodIn wsJxf58ca_floatToIntBits_5c35a wsJxf58ca_isNaN_12338 := goodIn_r _ [9] rfl (by decide +kernel)
set_option maxRecDepth 20000 in
theorem gJxf58ca_floatToIntBits_5c35a_Jxf58ca_isNaN_12338 : GoodIn wsJxf58ca_floatToIntBits_5c35a (va_wsS RJxf58ca 59 yJxf58ca_isNaN_12338 wsJxf58ca_isNaN_12338) := goodIn_app (goodIn_r _ [6, 7, 4] rfl (by decide +kernel)) ggJxf58ca_floatToIntBits_5c35a_Jxf58ca_isNaN_12338
theorem dJxf58ca_floatToIntBits_5c35a_0 : decode cJxf58ca_floatToIntBits_5c35a 0 = .ok (.fload_n 0, 1) := by decide +kernel
theorem dJxf58ca_floatToIntBits_5c35a_1 : decode cJxf58ca_floatToIntBits_5c35a 1 = .ok (.invokestatic 59, 3) := by decide +kernel
theorem dJxf58ca_floatToIntBits_5c35a_4 : decode cJxf58ca_floatToIntBits_5c35a 4 = .ok (.ifCond .ne 8, 3) := by decide +kernel
theorem dJxf58ca_floatToIntBits_5c35a_7 : decode cJxf58ca_floatToIntBits_5c35a 7 = .ok (.fload_n 0, 1) := by decide +kernel
theorem dJxf58ca_floatToIntBits_5c35a_8 : decode cJxf58ca_floatToIntBits_5c35a 8 = .ok (.invokestatic 74, 3) := by decide +kernel
theorem dJxf58ca_floatToIntBits_5c35a_11 : decode cJxf58ca_floatToIntBits_5c35a 11 = .ok (.ireturn, 1) := by decide +kernel
theorem dJxf58ca_floatToIntBits_5c35a_12 : decode cJxf58ca_floatToIntBits_5c35a 12 = .ok (.ldc 77, 2) := by decide +kernel
theorem dJxf58ca_floatToIntBits_5c35a_14 : decode cJxf58ca_floatToIntBits_5c35a 14 = .ok (.ireturn, 1) := by decide +kernel
theorem dJ6_getChars_ba4f3_0 : decode cJ6_getChars_ba4f3 0 = .ok (.iload_n 1, 1) := by decide +kernel
theorem dJ6_getChars_ba4f3_1 : decode cJ6_getChars_ba4f3 1 = .ok (.istore 5, 2) := by decide +kernel
theorem dJ6_getChars_ba4f3_3 : decode cJ6_getChars_ba4f3 3 = .ok (.iload_n 0, 1) := by decide +kernel
theorem dJ6_getChars_ba4f3_4 : decode cJ6_getChars_ba4f3 4 = .ok (.ifCond .ge 7, 3) := by decide +kernel
theorem dJ6_getChars_ba4f3_7 : decode cJ6_getChars_ba4f3 7 = .ok (.iconst 1, 1) := by decide +kernel
theorem dJ6_getChars_ba4f3_8 : decode cJ6_getChars_ba4f3 8 = .ok (.goto 4, 3) := by decide +kernel
theorem dJ6_getChars_ba4f3_11 : decode cJ6_getChars_ba4f3 11 = .ok (.iconst 0, 1) := by decide +kernel
theorem dJ6_getChars_ba4f3_12 : decode cJ6_getChars_ba4f3 12 = .ok (.istore 6, 2) := by decide +kernel
theorem dJ6_getChars_ba4f3_14 : decode cJ6_getChars_ba4f3 14 = .ok (.iload 6, 2) := by decide +kernel
theorem dJ6_getChars_ba4f3_16 : decode cJ6_getChars_ba4f3 16 = .ok (.ifCond .ne 6, 3) := by decide +kernel
theorem dJ6_getChars_ba4f3_19 : decode cJ6_getChars_ba4f3 19 = .ok (.iload_n 0, 1) := by decide +kernel
theorem dJ6_getChars_ba4f3_20 : decode cJ6_getChars_ba4f3 20 = .ok (.ineg, 1) := by decide +kernel
theorem dJ6_getChars_ba4f3_21 : decode cJ6_getChars_ba4f3 21 = .ok (.istore_n 0, 1) := by decide +kernel
theorem dJ6_getChars_ba4f3_22 : decode cJ6_getChars_ba4f3 22 = .ok (.iload_n 0, 1) := by decide +kernel
theorem dJ6_getChars_ba4f3_23 : decode cJ6_getChars_ba4f3 23 = .ok (.bipush (-100), 2) := by decide +kernel
theorem dJ6_getChars_ba4f3_25 : decode cJ6_getChars_ba4f3 25 = .ok (.if_icmp .gt 47, 3) := by decide +kernel
theorem dJ6_getChars_ba4f3_28 : decode cJ6_getChars_ba4f3 28 = .ok (.iload_n 0, 1) := by decide +kernel
theorem dJ6_getChars_ba4f3_29 : decode cJ6_getChars_ba4f3 29 = .ok (.bipush 100, 2) := by decide +kernel
theorem dJ6_getChars_ba4f3_31 : decode cJ6_getChars_ba4f3 31 = .ok (.idiv, 1) := by decide +kernel
theorem dJ6_getChars_ba4f3_32 : decode cJ6_getChars_ba4f3 32 = .ok (.istore_n 3, 1) := by decide +kernel
theorem dJ6_getChars_ba4f3_33 : decode cJ6_getChars_ba4f3 33 = .ok (.iload_n 3, 1) := by decide +kernel
theorem dJ6_getChars_ba4f3_34 : decode cJ6_getChars_ba4f3 34 = .ok (.bipush 100, 2) := by decide +kernel
theorem dJ6_getChars_ba4f3_36 : decode cJ6_getChars_ba4f3 36 = .ok (.imul, 1) := by decide +kernel
theorem dJ6_getChars_ba4f3_37 : decode cJ6_getChars_ba4f3 37 = .ok (.iload_n 0, 1) := by decide +kernel
theorem dJ6_getChars_ba4f3_38 : decode cJ6_getChars_ba4f3 38 = .ok (.isub, 1) := by decide +kernel
theorem dJ6_getChars_ba4f3_39 : decode cJ6_getChars_ba4f3 39 = .ok (.istore 4, 2) := by decide +kernel
theorem dJ6_getChars_ba4f3_41 : decode cJ6_getChars_ba4f3 41 = .ok (.iload_n 3, 1) := by decide +kernel
theorem dJ6_getChars_ba4f3_42 : decode cJ6_getChars_ba4f3 42 = .ok (.istore_n 0, 1) := by decide +kernel
theorem dJ6_getChars_ba4f3_43 : decode cJ6_getChars_ba4f3 43 = .ok (.aload_n 2, 1) := by decide +kernel
theorem dJ6_getChars_ba4f3_44 : decode cJ6_getChars_ba4f3 44 = .ok (.iinc 5 (-1), 3) := by decide +kernel
theorem dJ6_getChars_ba4f3_47 : decode cJ6_getChars_ba4f3 47 = .ok (.iload 5, 2) := by decide +kernel
theorem dJ6_getChars_ba4f3_49 : decode cJ6_getChars_ba4f3 49 = .ok (.getstatic 83, 3) := by decide +kernel
theorem dJ6_getChars_ba4f3_52 : decode cJ6_getChars_ba4f3 52 = .ok (.iload 4, 2) := by decide +kernel
theorem dJ6_getChars_ba4f3_54 : decode cJ6_getChars_ba4f3 54 = .ok (.baload, 1) := by decide +kernel
theorem dJ6_getChars_ba4f3_55 : decode cJ6_getChars_ba4f3 55 = .ok (.bastore, 1) := by decide +kernel
theorem dJ6_getChars_ba4f3_56 : decode cJ6_getChars_ba4f3 56 = .ok (.aload_n 2, 1) := by decide +kernel
theorem dJ6_getChars_ba4f3_57 : decode cJ6_getChars_ba4f3 57 = .ok (.iinc 5 (-1), 3) := by decide +kernel
theorem dJ6_getChars_ba4f3_60 : decode cJ6_getChars_ba4f3 60 = .ok (.iload 5, 2) := by decide +kernel
theorem dJ6_getChars_ba4f3_62 : decode cJ6_getChars_ba4f3 62 = .ok (.getstatic 87, 3) := by decide +kernel
theorem dJ6_getChars_ba4f3_65 : decode cJ6_getChars_ba4f3 65 = .ok (.iload 4, 2) := by decide +kernel
theorem dJ6_getChars_ba4f3_67 : decode cJ6_getChars_ba4f3 67 = .ok (.baload, 1) := by decide +kernel
theorem dJ6_getChars_ba4f3_68 : decode cJ6_getChars_ba4f3 68 = .ok (.bastore, 1) := by decide +kernel
theorem dJ6_getChars_ba4f3_69 : decode cJ6_getChars_ba4f3 69 = .ok (.goto (-47), 3) := by decide +kernel
theorem dJ6_getChars_ba4f3_72 : decode cJ6_getChars_ba4f3 72 = .ok (.aload_n 2, 1) := by decide +kernel
theorem dJ6_getChars_ba4f3_73 : decode cJ6_getChars_ba4f3 73 = .ok (.iinc 5 (-1), 3) := by decide +kernel
theorem dJ6_getChars_ba4f3_76 : decode cJ6_getChars_ba4f3 76 = .ok (.iload 5, 2) := by decide +kernel
theorem dJ6_getChars_ba4f3_78 : decode cJ6_getChars_ba4f3 78 = .ok (.getstatic 83, 3) := by decide +kernel
theorem dJ6_getChars_ba4f3_81 : decode cJ6_getChars_ba4f3 81 = .ok (.iload_n 0, 1) := by decide +kernel
theorem dJ6_getChars_ba4f3_82 : decode cJ6_getChars_ba4f3 82 = .ok (.ineg, 1) := by decide +kernel
theorem dJ6_getChars_ba4f3_83 : decode cJ6_getChars_ba4f3 83 = .ok (.baload, 1) := by decide +kernel
theorem dJ6_getChars_ba4f3_84 : decode cJ6_getChars_ba4f3 84 = .ok (.bastore, 1) := by decide +kernel
theorem dJ6_getChars_ba4f3_85 : decode cJ6_getChars_ba4f3 85 = .ok (.iload_n 0, 1) := by decide +kernel
theorem dJ6_getChars_ba4f3_86 : decode cJ6_getChars_ba4f3 86 = .ok (.bipush (-9), 2) := by decide +kernel
theorem dJ6_getChars_ba4f3_88 : decode cJ6_getChars_ba4f3 88 = .ok (.if_icmp .ge 16, 3) := by decide +kernel
theorem dJ6_getChars_ba4f3_91 : decode cJ6_getChars_ba4f3 91 = .ok (.aload_n 2, 1) := by decide +kernel
theorem dJ6_getChars_ba4f3_92 : decode cJ6_getChars_ba4f3 92 = .ok (.iinc 5 (-1), 3) := by decide +kernel
theorem dJ6_getChars_ba4f3_95 : decode cJ6_getChars_ba4f3 95 = .ok (.iload 5, 2) := by decide +kernel
theorem dJ6_getChars_ba4f3_97 : decode cJ6_getChars_ba4f3 97 = .ok (.getstatic 87, 3) := by decide +kernel
theorem dJ6_getChars_ba4f3_100 : decode cJ6_getChars_ba4f3 100 = .ok (.iload_n 0, 1) := by decide +kernel
theorem dJ6_getChars_ba4f3_101 : decode cJ6_getChars_ba4f3 101 = .ok (.ineg, 1) := by decide +kernel
theorem dJ6_getChars_ba4f3_102 : decode cJ6_getChars_ba4f3 102 = .ok (.baload, 1) := by decide +kernel
theorem dJ6_getChars_ba4f3_103 : decode cJ6_getChars_ba4f3 103 = .ok (.bastore, 1) := by decide +kernel
theorem dJ6_getChars_ba4f3_104 : decode cJ6_getChars_ba4f3 104 = .ok (.iload 6, 2) := by decide +kernel
theorem dJ6_getChars_ba4f3_106 : decode cJ6_getChars_ba4f3 106 = .ok (.ifCond .eq 12, 3) := by decide +kernel
theorem dJ6_getChars_ba4f3_109 : decode cJ6_getChars_ba4f3 109 = .ok (.aload_n 2, 1) := by decide +kernel
theorem dJ6_getChars_ba4f3_110 : decode cJ6_getChars_ba4f3 110 = .ok (.iinc 5 (-1), 3) := by decide +kernel
theorem dJ6_getChars_ba4f3_113 : decode cJ6_getChars_ba4f3 113 = .ok (.iload 5, 2) := by decide +kernel
theorem dJ6_getChars_ba4f3_115 : decode cJ6_getChars_ba4f3 115 = .ok (.bipush 45, 2) := by decide +kernel
theorem dJ6_getChars_ba4f3_117 : decode cJ6_getChars_ba4f3 117 = .ok (.bastore, 1) := by decide +kernel
theorem dJ6_getChars_ba4f3_118 : decode cJ6_getChars_ba4f3 118 = .ok (.iload 5, 2) := by decide +kernel
theorem dJ6_getChars_ba4f3_120 : decode cJ6_getChars_ba4f3 120 = .ok (.ireturn, 1) := by decide +kernel
theorem dJ6_stringSize_0f7a4_0 : decode cJ6_stringSize_0f7a4 0 = .ok (.iconst 1, 1) := by decide +kernel
theorem dJ6_stringSize_0f7a4_1 : decode cJ6_stringSize_0f7a4 1 = .ok (.istore_n 1, 1) := by decide +kernel
theorem dJ6_stringSize_0f7a4_2 : decode cJ6_stringSize_0f7a4 2 = .ok (.iload_n 0, 1) := by decide +kernel
theorem dJ6_stringSize_0f7a4_3 : decode cJ6_stringSize_0f7a4 3 = .ok (.ifCond .lt 8, 3) := by decide +kernel
theorem dJ6_stringSize_0f7a4_6 : decode cJ6_stringSize_0f7a4 6 = .ok (.iconst 0, 1) := by decide +kernel
theorem dJ6_stringSize_0f7a4_7 : decode cJ6_stringSize_0f7a4 7 = .ok (.istore_n 1, 1) := by decide +kernel
theorem dJ6_stringSize_0f7a4_8 : decode cJ6_stringSize_0f7a4 8 = .ok (.iload_n 0, 1) := by decide +kernel
theorem dJ6_stringSize_0f7a4_9 : decode cJ6_stringSize_0f7a4 9 = .ok (.ineg, 1) := by decide +kernel
theorem dJ6_stringSize_0f7a4_10 : decode cJ6_stringSize_0f7a4 10 = .ok (.istore_n 0, 1) := by decide +kernel
theorem dJ6_stringSize_0f7a4_11 : decode cJ6_stringSize_0f7a4 11 = .ok (.bipush (-10), 2) := by decide +kernel
theorem dJ6_stringSize_0f7a4_13 : decode cJ6_stringSize_0f7a4 13 = .ok (.istore_n 2, 1) := by decide +kernel
theorem dJ6_stringSize_0f7a4_14 : decode cJ6_stringSize_0f7a4 14 = .ok (.iconst 1, 1) := by decide +kernel
theorem dJ6_stringSize_0f7a4_15 : decode cJ6_stringSize_0f7a4 15 = .ok (.istore_n 3, 1) := by decide +kernel
theorem dJ6_stringSize_0f7a4_16 : decode cJ6_stringSize_0f7a4 16 = .ok (.iload_n 3, 1) := by decide +kernel
theorem dJ6_stringSize_0f7a4_17 : decode cJ6_stringSize_0f7a4 17 = .ok (.bipush 10, 2) := by decide +kernel
theorem dJ6_stringSize_0f7a4_19 : decode cJ6_stringSize_0f7a4 19 = .ok (.if_icmp .ge 23, 3) := by decide +kernel
theorem dJ6_stringSize_0f7a4_22 : decode cJ6_stringSize_0f7a4 22 = .ok (.iload_n 0, 1) := by decide +kernel
theorem dJ6_stringSize_0f7a4_23 : decode cJ6_stringSize_0f7a4 23 = .ok (.iload_n 2, 1) := by decide +kernel
theorem dJ6_stringSize_0f7a4_24 : decode cJ6_stringSize_0f7a4 24 = .ok (.if_icmp .le 7, 3) := by decide +kernel
theorem dJ6_stringSize_0f7a4_27 : decode cJ6_stringSize_0f7a4 27 = .ok (.iload_n 3, 1) := by decide +kernel
theorem dJ6_stringSize_0f7a4_28 : decode cJ6_stringSize_0f7a4 28 = .ok (.iload_n 1, 1) := by decide +kernel
theorem dJ6_stringSize_0f7a4_29 : decode cJ6_stringSize_0f7a4 29 = .ok (.iadd, 1) := by decide +kernel
theorem dJ6_stringSize_0f7a4_30 : decode cJ6_stringSize_0f7a4 30 = .ok (.ireturn, 1) := by decide +kernel
theorem dJ6_stringSize_0f7a4_31 : decode cJ6_stringSize_0f7a4 31 = .ok (.bipush 10, 2) := by decide +kernel
theorem dJ6_stringSize_0f7a4_33 : decode cJ6_stringSize_0f7a4 33 = .ok (.iload_n 2, 1) := by decide +kernel
theorem dJ6_stringSize_0f7a4_34 : decode cJ6_stringSize_0f7a4 34 = .ok (.imul, 1) := by decide +kernel
theorem dJ6_stringSize_0f7a4_35 : decode cJ6_stringSize_0f7a4 35 = .ok (.istore_n 2, 1) := by decide +kernel
theorem dJ6_stringSize_0f7a4_36 : decode cJ6_stringSize_0f7a4 36 = .ok (.iinc 3 1, 3) := by decide +kernel
theorem dJ6_stringSize_0f7a4_39 : decode cJ6_stringSize_0f7a4 39 = .ok (.goto (-23), 3) := by decide +kernel
theorem dJ6_stringSize_0f7a4_42 : decode cJ6_stringSize_0f7a4 42 = .ok (.bipush 10, 2) := by decide +kernel
theorem dJ6_stringSize_0f7a4_44 : decode cJ6_stringSize_0f7a4 44 = .ok (.iload_n 1, 1) := by decide +kernel
theorem dJ6_stringSize_0f7a4_45 : decode cJ6_stringSize_0f7a4 45 = .ok (.iadd, 1) := by decide +kernel
theorem dJ6_stringSize_0f7a4_46 : decode cJ6_stringSize_0f7a4 46 = .ok (.ireturn, 1) := by decide +kernel
theorem dJ6_bitCount_0f7a4_0 : decode cJ6_bitCount_0f7a4 0 = .ok (.iload_n 0, 1) := by decide +kernel
theorem dJ6_bitCount_0f7a4_1 : decode cJ6_bitCount_0f7a4 1 = .ok (.iload_n 0, 1) := by decide +kernel
theorem dJ6_bitCount_0f7a4_2 : decode cJ6_bitCount_0f7a4 2 = .ok (.iconst 1, 1) := by decide +kernel
theorem dJ6_bitCount_0f7a4_3 : decode cJ6_bitCount_0f7a4 3 = .ok (.iushr, 1) := by decide +kernel
theorem dJ6_bitCount_0f7a4_4 : decode cJ6_bitCount_0f7a4 4 = .ok (.ldc_w 265, 3) := by decide +kernel
theorem dJ6_bitCount_0f7a4_7 : decode cJ6_bitCount_0f7a4 7 = .ok (.iand, 1) := by decide +kernel
theorem dJ6_bitCount_0f7a4_8 : decode cJ6_bitCount_0f7a4 8 = .ok (.isub, 1) := by decide +kernel
theorem dJ6_bitCount_0f7a4_9 : decode cJ6_bitCount_0f7a4 9 = .ok (.istore_n 0, 1) := by decide +kernel
theorem dJ6_bitCount_0f7a4_10 : decode cJ6_bitCount_0f7a4 10 = .ok (.iload_n 0, 1) := by decide +kernel
theorem dJ6_bitCount_0f7a4_11 : decode cJ6_bitCount_0f7a4 11 = .ok (.ldc_w 266, 3) := by decide +kernel
theorem dJ6_bitCount_0f7a4_14 : decode cJ6_bitCount_0f7a4 14 = .ok (.iand, 1) := by decide +kernel
theorem dJ6_bitCount_0f7a4_15 : decode cJ6_bitCount_0f7a4 15 = .ok (.iload_n 0, 1) := by decide +kernel
theorem dJ6_bitCount_0f7a4_16 : decode cJ6_bitCount_0f7a4 16 = .ok (.iconst 2, 1) := by decide +kernel
theorem dJ6_bitCount_0f7a4_17 : decode cJ6_bitCount_0f7a4 17 = .ok (.iushr, 1) := by decide +kernel
theorem dJ6_bitCount_0f7a4_18 : decode cJ6_bitCount_0f7a4 18 = .ok (.ldc_w 266, 3) := by decide +kernel
theorem dJ6_bitCount_0f7a4_21 : decode cJ6_bitCount_0f7a4 21 = .ok (.iand, 1) := by decide +kernel
theorem dJ6_bitCount_0f7a4_22 : decode cJ6_bitCount_0f7a4 22 = .ok (.iadd, 1) := by decide +kernel
theorem dJ6_bitCount_0f7a4_23 : decode cJ6_bitCount_0f7a4 23 = .ok (.istore_n 0, 1) := by decide +kernel
theorem dJ6_bitCount_0f7a4_24 : decode cJ6_bitCount_0f7a4 24 = .ok (.iload_n 0, 1) := by decide +kernel
theorem dJ6_bitCount_0f7a4_25 : decode cJ6_bitCount_0f7a4 25 = .ok (.iload_n 0, 1) := by decide +kernel
theorem dJ6_bitCount_0f7a4_26 : decode cJ6_bitCount_0f7a4 26 = .ok (.iconst 4, 1) := by decide +kernel
theorem dJ6_bitCount_0f7a4_27 : decode cJ6_bitCount_0f7a4 27 = .ok (.iushr, 1) := by decide +kernel
theorem dJ6_bitCount_0f7a4_28 : decode cJ6_bitCount_0f7a4 28 = .ok (.iadd, 1) := by decide +kernel
theorem dJ6_bitCount_0f7a4_29 : decode cJ6_bitCount_0f7a4 29 = .ok (.ldc_w 267, 3) := by decide +kernel
theorem dJ6_bitCount_0f7a4_32 : decode cJ6_bitCount_0f7a4 32 = .ok (.iand, 1) := by decide +kernel
theorem dJ6_bitCount_0f7a4_33 : decode cJ6_bitCount_0f7a4 33 = .ok (.istore_n 0, 1) := by decide +kernel
theorem dJ6_bitCount_0f7a4_34 : decode cJ6_bitCount_0f7a4 34 = .ok (.iload_n 0, 1) := by decide +kernel
theorem dJ6_bitCount_0f7a4_35 : decode cJ6_bitCount_0f7a4 35 = .ok (.iload_n 0, 1) := by decide +kernel
theorem dJ6_bitCount_0f7a4_36 : decode cJ6_bitCount_0f7a4 36 = .ok (.bipush 8, 2) := by decide +kernel
theorem dJ6_bitCount_0f7a4_38 : decode cJ6_bitCount_0f7a4 38 = .ok (.iushr, 1) := by decide +kernel
theorem dJ6_bitCount_0f7a4_39 : decode cJ6_bitCount_0f7a4 39 = .ok (.iadd, 1) := by decide +kernel
theorem dJ6_bitCount_0f7a4_40 : decode cJ6_bitCount_0f7a4 40 = .ok (.istore_n 0, 1) := by decide +kernel
theorem dJ6_bitCount_0f7a4_41 : decode cJ6_bitCount_0f7a4 41 = .ok (.iload_n 0, 1) := by decide +kernel
theorem dJ6_bitCount_0f7a4_42 : decode cJ6_bitCount_0f7a4 42 = .ok (.iload_n 0, 1) := by decide +kernel
theorem dJ6_bitCount_0f7a4_43 : decode cJ6_bitCount_0f7a4 43 = .ok (.bipush 16, 2) := by decide +kernel
theorem dJ6_bitCount_0f7a4_45 : decode cJ6_bitCount_0f7a4 45 = .ok (.iushr, 1) := by decide +kernel
theorem dJ6_bitCount_0f7a4_46 : decode cJ6_bitCount_0f7a4 46 = .ok (.iadd, 1) := by decide +kernel
theorem dJ6_bitCount_0f7a4_47 : decode cJ6_bitCount_0f7a4 47 = .ok (.istore_n 0, 1) := by decide +kernel
theorem dJ6_bitCount_0f7a4_48 : decode cJ6_bitCount_0f7a4 48 = .ok (.iload_n 0, 1) := by decide +kernel
theorem dJ6_bitCount_0f7a4_49 : decode cJ6_bitCount_0f7a4 49 = .ok (.bipush 63, 2) := by decide +kernel
theorem dJ6_bitCount_0f7a4_51 : decode cJ6_bitCount_0f7a4 51 = .ok (.iand, 1) := by decide +kernel
theorem dJ6_bitCount_0f7a4_52 : decode cJ6_bitCount_0f7a4 52 = .ok (.ireturn, 1) := by decide +kernel
theorem dJ9_abs_0f7a4_0 : decode cJ9_abs_0f7a4 0 = .ok (.iload_n 0, 1) := by decide +kernel
theorem dJ9_abs_0f7a4_1 : decode cJ9_abs_0f7a4 1 = .ok (.ifCond .ge 8, 3) := by decide +kernel
theorem dJ9_abs_0f7a4_4 : decode cJ9_abs_0f7a4 4 = .ok (.iload_n 0, 1) := by decide +kernel
theorem dJ9_abs_0f7a4_5 : decode cJ9_abs_0f7a4 5 = .ok (.ineg, 1) := by decide +kernel
theorem dJ9_abs_0f7a4_6 : decode cJ9_abs_0f7a4 6 = .ok (.goto 4, 3) := by decide +kernel
theorem dJ9_abs_0f7a4_9 : decode cJ9_abs_0f7a4 9 = .ok (.iload_n 0, 1) := by decide +kernel
theorem dJ9_abs_0f7a4_10 : decode cJ9_abs_0f7a4 10 = .ok (.ireturn, 1) := by decide +kernel
theorem dJ9_max_7cf53_0 : decode cJ9_max_7cf53 0 = .ok (.iload_n 0, 1) := by decide +kernel
theorem dJ9_max_7cf53_1 : decode cJ9_max_7cf53 1 = .ok (.iload_n 1, 1) := by decide +kernel
theorem dJ9_max_7cf53_2 : decode cJ9_max_7cf53 2 = .ok (.if_icmp .lt 7, 3) := by decide +kernel
theorem dJ9_max_7cf53_5 : decode cJ9_max_7cf53 5 = .ok (.iload_n 0, 1) := by decide +kernel
theorem dJ9_max_7cf53_6 : decode cJ9_max_7cf53 6 = .ok (.goto 4, 3) := by decide +kernel
theorem dJ9_max_7cf53_9 : decode cJ9_max_7cf53 9 = .ok (.iload_n 1, 1) := by decide +kernel
theorem dJ9_max_7cf53_10 : decode cJ9_max_7cf53 10 = .ok (.ireturn, 1) := by decide +kernel
theorem dJ9_min_7cf53_0 : decode cJ9_min_7cf53 0 = .ok (.iload_n 0, 1) := by decide +kernel
theorem dJ9_min_7cf53_1 : decode cJ9_min_7cf53 1 = .ok (.iload_n 1, 1) := by decide +kernel
theorem dJ9_min_7cf53_2 : decode cJ9_min_7cf53 2 = .ok (.if_icmp .gt 7, 3) := by decide +kernel
theorem dJ9_min_7cf53_5 : decode cJ9_min_7cf53 5 = .ok (.iload_n 0, 1) := by decide +kernel
theorem dJ9_min_7cf53_6 : decode cJ9_min_7cf53 6 = .ok (.goto 4, 3) := by decide +kernel
theorem dJ9_min_7cf53_9 : decode cJ9_min_7cf53 9 = .ok (.iload_n 1, 1) := by decide +kernel
theorem dJ9_min_7cf53_10 : decode cJ9_min_7cf53 10 = .ok (.ireturn, 1) := by decide +kernel
set_option maxRecDepth 20000 in
theorem ggJ0_init_81219_J0_init_db425 : GoodIn wsJ0_init_81219 wsJ0_init_db425 := goodIn_r _ [4, 5, 6, 7, 8, 9, 10, 11, 12, 13, 14, 15, 16, 17, 18, 19, 20, 21, 22, 23, 24, 25, 26, 27, 28, 29, 30, 31, 32, 33, 34, 35, 36, 37, 38, 39, 40, 41, 42, 43, 44, 45, 46, 47, 48, 49, 50, 51, 52, 53, 54, 55, 56, 57, 58, 59, 60, 61, 62, 63, 64, 65, 66, 67, 68, 69, 70, 71, 72, 73, 74, 75, 76, 77, 78, 79, 3, 80, 81, 82, 83, 84, 85, 86, 87, 88, 89, 90, 91, 92, 93, 94, 95, 96, 97, 98, 99, 100, 101, 102, 103, 104, 105, 106, 107] rfl (by decide +kernel)
set_option maxRecDepth 20000 in
theorem gJ0_init_81219_J0_init_db425 : GoodIn wsJ0_init_81219 (wsJ0_init_db425) := ggJ0_init_81219_J0_init_db425
theorem dJ0_init_81219_0 : decode cJ0_init_81219 0 = .ok (.aload_n 0, 1) := by decide +kernel
theorem dJ0_init_81219_1 : decode cJ0_init_81219 1 = .ok (.aload_n 1, 1) := by decide +kernel
theorem dJ0_init_81219_2 : decode cJ0_init_81219 2 = .ok (.aconst_null, 1) := by decide +kernel
theorem dJ0_init_81219_3 : decode cJ0_init_81219 3 = .ok (.invokespecial 489, 3) := by decide +kernel
theorem dJ0_init_81219_6 : decode cJ0_init_81219 6 = .ok (.return_, 1) := by decide +kernel
set_option maxRecDepth 20000 in
theorem ggJ0_length_8abf5_J0_coder_7d493 : GoodIn wsJ0_length_8abf5 wsJ0_coder_7d493 := goodIn_r _ [6, 7, 8, 9, 10, 11, 12] rfl (by decide +kernel)
set_option maxRecDepth 20000 in
theorem gJ0_length_8abf5_J0_coder_7d493 : GoodIn wsJ0_length_8abf5 (wsV RJ0 335 RJ0 yJ0_coder_7d493 wsJ0_coder_7d493) := goodIn_app (goodIn_r _ [2, 3, 4, 5] rfl (by decide +kernel)) ggJ0_length_8abf5_J0_coder_7d493
theorem dJ0_length_8abf5_0 : decode cJ0_length_8abf5 0 = .ok (.aload_n 0, 1) := by decide +kernel
theorem dJ0_length_8abf5_1 : decode cJ0_length_8abf5 1 = .ok (.getfield 9, 3) := by decide +kernel
theorem dJ0_length_8abf5_4 : decode cJ0_length_8abf5 4 = .ok (.arraylength, 1) := by decide +kernel
theorem dJ0_length_8abf5_5 : decode cJ0_length_8abf5 5 = .ok (.aload_n 0, 1) := by decide +kernel
theorem dJ0_length_8abf5_6 : decode cJ0_length_8abf5 6 = .ok (.invokevirtual 335, 3) := by decide +kernel
theorem dJ0_length_8abf5_9 : decode cJ0_length_8abf5 9 = .ok (.ishr, 1) := by decide +kernel
theorem dJ0_length_8abf5_10 : decode cJ0_length_8abf5 10 = .ok (.ireturn, 1) := by decide +kernel
set_option maxRecDepth 20000 in
theorem ggJ0_charAt_5068e_J0_isLatin1_aae02 : GoodIn wsJ0_charAt_5068e wsJ0_isLatin1_aae02 := goodIn_r _ [6, 7, 8, 38, 39, 40, 41] rfl (by decide +kernel)
set_option maxRecDepth 20000 in
theorem gJ0_charAt_5068e_J0_isLatin1_aae02 : GoodIn wsJ0_charAt_5068e (wsV RJ0 492 RJ0 yJ0_isLatin1_aae02 wsJ0_isLatin1_aae02) := goodIn_app (goodIn_r _ [2, 3, 4, 5] rfl (by decide +kernel)) ggJ0_charAt_5068e_J0_isLatin1_aae02
set_option maxRecDepth 20000 in
theorem ggJ0_charAt_5068e_J1_charAt_3b067 : GoodIn wsJ0_charAt_5068e wsJ1_charAt_3b067 := goodIn_r _ [12, 13, 14, 5, 15, 16, 17, 18, 19, 20] rfl (by decide +kernel)
set_option maxRecDepth 20000 in
theorem gJ0_charAt_5068e_J1_charAt_3b067 : GoodIn wsJ0_charAt_5068e (va_wsS RJ0 495 yJ1_charAt_3b067 wsJ1_charAt_3b067) := goodIn_app (goodIn_r _ [9, 10, 11] rfl (by decide +kernel)) ggJ0_charAt_5068e_J1_charAt_3b067
set_option maxRecDepth 20000 in
theorem ggJ0_charAt_5068e_J2_charAt_3b067 : GoodIn wsJ0_charAt_5068e wsJ2_charAt_3b067 := goodIn_r _ [24, 25, 26, 23, 27, 28, 29, 30, 31, 14, 5, 15, 16, 17, 18, 19, 20, 32, 33, 34, 35, 36, 37] rfl (by decide +kernel)
set_option maxRecDepth 20000 in
theorem gJ0_charAt_5068e_J2_charAt_3b067 : GoodIn wsJ0_charAt_5068e (va_wsS RJ0 498 yJ2_charAt_3b067 wsJ2_charAt_3b067) := goodIn_app (goodIn_r _ [21, 22, 23] rfl (by decide +kernel)) ggJ0_charAt_5068e_J2_charAt_3b067
theorem dJ0_charAt_5068e_0 : decode cJ0_charAt_5068e 0 = .ok (.aload_n 0, 1) := by decide +kernel
theorem dJ0_charAt_5068e_1 : decode cJ0_charAt_5068e 1 = .ok (.invokevirtual 492, 3) := by decide +kernel
theorem dJ0_charAt_5068e_4 : decode cJ0_charAt_5068e 4 = .ok (.ifCond .eq 12, 3) := by decide +kernel
theorem dJ0_charAt_5068e_7 : decode cJ0_charAt_5068e 7 = .ok (.aload_n 0, 1) := by decide +kernel
theorem dJ0_charAt_5068e_8 : decode cJ0_charAt_5068e 8 = .ok (.getfield 9, 3) := by decide +kernel
theorem dJ0_charAt_5068e_11 : decode cJ0_charAt_5068e 11 = .ok (.iload_n 1, 1) := by decide +kernel
theorem dJ0_charAt_5068e_12 : decode cJ0_charAt_5068e 12 = .ok (.invokestatic 495, 3) := by decide +kernel
theorem dJ0_charAt_5068e_15 : decode cJ0_charAt_5068e 15 = .ok (.ireturn, 1) := by decide +kernel
theorem dJ0_charAt_5068e_16 : decode cJ0_charAt_5068e 16 = .ok (.aload_n 0, 1) := by decide +kernel
theorem dJ0_charAt_5068e_17 : decode cJ0_charAt_5068e 17 = .ok (.getfield 9, 3) := by decide +kernel
theorem dJ0_charAt_5068e_20 : decode cJ0_charAt_5068e 20 = .ok (.iload_n 1, 1) := by decide +kernel
theorem dJ0_charAt_5068e_21 : decode cJ0_charAt_5068e 21 = .ok (.invokestatic 498, 3) := by decide +kernel
theorem dJ0_charAt_5068e_24 : decode cJ0_charAt_5068e 24 = .ok (.ireturn, 1) := by decide +kernel
set_option maxRecDepth 20000 in
theorem ggJ0_getBytes_840e7_J0_coder_7d493 : GoodIn wsJ0_getBytes_840e7 wsJ0_coder_7d493 := goodIn_r _ [10, 11, 12, 41, 42, 43, 44] rfl (by decide +kernel)
set_option maxRecDepth 20000 in
theorem gJ0_getBytes_840e7_J0_coder_7d493 : GoodIn wsJ0_getBytes_840e7 (wsV RJ0 335 RJ0 yJ0_coder_7d493 wsJ0_coder_7d493) := goodIn_app (goodIn_r _ [6, 7, 8, 9] rfl (by decide +kernel)) ggJ0_getBytes_840e7_J0_coder_7d493
set_option maxRecDepth 20000 in
theorem ggJ0_getBytes_840e7_J1_inflate_0e8fd : GoodIn wsJ0_getBytes_840e7 wsJ1_inflate_0e8fd := goodIn_r _ [16, 17, 18, 19, 20, 21, 22, 23, 24, 25, 26, 27, 28, 9, 29, 30, 31, 32, 33, 34, 35, 36, 37, 38, 39, 40] rfl (by decide +kernel)
set_option maxRecDepth 20000 in
theorem gJ0_getBytes_840e7_J1_inflate_0e8fd : GoodIn wsJ0_getBytes_840e7 (va_wsS RJ0 106 yJ1_inflate_0e8fd wsJ1_inflate_0e8fd) := goodIn_app (goodIn_r _ [13, 14, 15] rfl (by decide +kernel)) ggJ0_getBytes_840e7_J1_inflate_0e8fd
theorem dJ0_getBytes_840e7_0 : decode cJ0_getBytes_840e7 0 = .ok (.aload_n 0, 1) := by decide +kernel
theorem dJ0_getBytes_840e7_1 : decode cJ0_getBytes_840e7 1 = .ok (.invokevirtual 335, 3) := by decide +kernel
theorem dJ0_getBytes_840e7_4 : decode cJ0_getBytes_840e7 4 = .ok (.iload_n 3, 1) := by decide +kernel
theorem dJ0_getBytes_840e7_5 : decode cJ0_getBytes_840e7 5 = .ok (.if_icmp .ne 23, 3) := by decide +kernel
theorem dJ0_getBytes_840e7_8 : decode cJ0_getBytes_840e7 8 = .ok (.aload_n 0, 1) := by decide +kernel
theorem dJ0_getBytes_840e7_9 : decode cJ0_getBytes_840e7 9 = .ok (.getfield 9, 3) := by decide +kernel
theorem dJ0_getBytes_840e7_12 : decode cJ0_getBytes_840e7 12 = .ok (.iconst 0, 1) := by decide +kernel
theorem dJ0_getBytes_840e7_13 : decode cJ0_getBytes_840e7 13 = .ok (.aload_n 1, 1) := by decide +kernel
theorem dJ0_getBytes_840e7_14 : decode cJ0_getBytes_840e7 14 = .ok (.iload_n 2, 1) := by decide +kernel
theorem dJ0_getBytes_840e7_15 : decode cJ0_getBytes_840e7 15 = .ok (.iload_n 3, 1) := by decide +kernel
theorem dJ0_getBytes_840e7_16 : decode cJ0_getBytes_840e7 16 = .ok (.ishl, 1) := by decide +kernel
theorem dJ0_getBytes_840e7_17 : decode cJ0_getBytes_840e7 17 = .ok (.aload_n 0, 1) := by decide +kernel
theorem dJ0_getBytes_840e7_18 : decode cJ0_getBytes_840e7 18 = .ok (.getfield 9, 3) := by decide +kernel
theorem dJ0_getBytes_840e7_21 : decode cJ0_getBytes_840e7 21 = .ok (.arraylength, 1) := by decide +kernel
theorem dJ0_getBytes_840e7_22 : decode cJ0_getBytes_840e7 22 = .ok (.invokestatic 212, 3) := by decide +kernel
theorem dJ0_getBytes_840e7_25 : decode cJ0_getBytes_840e7 25 = .ok (.goto 18, 3) := by decide +kernel
theorem dJ0_getBytes_840e7_28 : decode cJ0_getBytes_840e7 28 = .ok (.aload_n 0, 1) := by decide +kernel
theorem dJ0_getBytes_840e7_29 : decode cJ0_getBytes_840e7 29 = .ok (.getfield 9, 3) := by decide +kernel
theorem dJ0_getBytes_840e7_32 : decode cJ0_getBytes_840e7 32 = .ok (.iconst 0, 1) := by decide +kernel
theorem dJ0_getBytes_840e7_33 : decode cJ0_getBytes_840e7 33 = .ok (.aload_n 1, 1) := by decide +kernel
theorem dJ0_getBytes_840e7_34 : decode cJ0_getBytes_840e7 34 = .ok (.iload_n 2, 1) := by decide +kernel
theorem dJ0_getBytes_840e7_35 : decode cJ0_getBytes_840e7 35 = .ok (.aload_n 0, 1) := by decide +kernel
theorem dJ0_getBytes_840e7_36 : decode cJ0_getBytes_840e7 36 = .ok (.getfield 9, 3) := by decide +kernel
theorem dJ0_getBytes_840e7_39 : decode cJ0_getBytes_840e7 39 = .ok (.arraylength, 1) := by decide +kernel
theorem dJ0_getBytes_840e7_40 : decode cJ0_getBytes_840e7 40 = .ok (.invokestatic 106, 3) := by decide +kernel
theorem dJ0_getBytes_840e7_43 : decode cJ0_getBytes_840e7 43 = .ok (.return_, 1) := by decide +kernel
set_option maxRecDepth 20000 in
theorem ggJ0_init_db425_J5_getValue_6d5f1 : GoodIn wsJ0_init_db425 wsJ5_getValue_6d5f1 := goodIn_r _ [13, 14, 101, 102, 103, 104] rfl (by decide +kernel)
set_option maxRecDepth 20000 in
theorem gJ0_init_db425_J5_getValue_6d5f1_u552J4 : GoodIn wsJ0_init_db425 (va_wsU RJ0 552 RJ4 "java/lang/AbstractStringBuilder" ⟨"java/lang/AbstractStringBuilder", "getValue", "()[B"⟩ yJ5_getValue_6d5f1 wsJ5_getValue_6d5f1) := goodIn_app (goodIn_of _ (by decide +kernel)) ggJ0_init_db425_J5_getValue_6d5f1
set_option maxRecDepth 20000 in
theorem ggJ0_init_db425_J4_length_8abf5 : GoodIn wsJ0_init_db425 wsJ4_length_8abf5 := goodIn_r _ [21, 22, 16, 23, 24, 12, 25, 26, 101, 102, 103, 104] rfl (by decide +kernel)
set_option maxRecDepth 20000 in
theorem gJ0_init_db425_J4_length_8abf5_u549J4 : GoodIn wsJ0_init_db425 (va_wsO RJ0 549 RJ4 "java/lang/AbstractStringBuilder" ⟨"java/lang/AbstractStringBuilder", "length", "()I"⟩ yJ4_length_8abf5 wsJ4_length_8abf5) := goodIn_app (goodIn_of _ (by decide +kernel)) ggJ0_init_db425_J4_length_8abf5
set_option maxRecDepth 20000 in
theorem ggJ0_init_db425_J5_isLatin1_aae02 : GoodIn wsJ0_init_db425 wsJ5_isLatin1_aae02 := goodIn_r _ [31, 32, 33, 101, 102, 103, 104] rfl (by decide +kernel)
set_option maxRecDepth 20000 in
theorem gJ0_init_db425_J5_isLatin1_aae02_u1047J4 : GoodIn wsJ0_init_db425 (va_wsU RJ0 1047 RJ4 "java/lang/AbstractStringBuilder" ⟨"java/lang/AbstractStringBuilder", "isLatin1", "()Z"⟩ yJ5_isLatin1_aae02 wsJ5_isLatin1_aae02) := goodIn_app (goodIn_of _ (by decide +kernel)) ggJ0_init_db425_J5_isLatin1_aae02
set_option maxRecDepth 20000 in
theorem ggJ0_init_db425_J7_copyOfRange_39247 : GoodIn wsJ0_init_db425 wsJ7_copyOfRange_39247 := goodIn_r _ [37, 38, 39, 40, 41, 42, 43, 44, 45, 36, 46, 47, 48, 49, 50, 51, 52, 53, 54, 55, 56, 57, 58, 59, 60, 20, 101, 102, 103, 104] rfl (by decide +kernel)
set_option maxRecDepth 20000 in
theorem gJ0_init_db425_J7_copyOfRange_39247 : GoodIn wsJ0_init_db425 (va_wsS RJ0 54 yJ7_copyOfRange_39247 wsJ7_copyOfRange_39247) := goodIn_app (goodIn_r _ [34, 35, 36] rfl (by decide +kernel)) ggJ0_init_db425_J7_copyOfRange_39247
set_option maxRecDepth 20000 in
theorem ggJ0_init_db425_J2_compress_39247 : GoodIn wsJ0_init_db425 wsJ2_compress_39247 := goodIn_r _ [64, 47, 65, 66, 63, 67, 68, 69, 70, 71, 72, 73, 74, 75, 76, 77, 78, 79, 80, 81, 82, 83, 84, 85, 86, 87, 88, 89, 90, 91, 92, 93, 35, 36, 37, 38, 39, 40, 41, 42, 43, 44, 45, 46, 48, 49, 50, 51, 52, 53, 54, 55, 56, 57, 58, 59, 60, 20, 101, 102, 103, 104] rfl (by decide +kernel)
set_option maxRecDepth 20000 in
theorem gJ0_init_db425_J2_compress_39247 : GoodIn wsJ0_init_db425 (va_wsS RJ0 1051 yJ2_compress_39247 wsJ2_compress_39247) := goodIn_app (goodIn_r _ [61, 62, 63] rfl (by decide +kernel)) ggJ0_init_db425_J2_compress_39247
set_option maxRecDepth 20000 in
theorem ggJ0_init_db425_J2_coderFromArrayLen_85cad : GoodIn wsJ0_init_db425 wsJ2_coderFromArrayLen_85cad := goodIn_r _ [96] rfl (by decide +kernel)
set_option maxRecDepth 20000 in
theorem gJ0_init_db425_J2_coderFromArrayLen_85cad : GoodIn wsJ0_init_db425 (va_wsS RJ0 47 yJ2_coderFromArrayLen_85cad wsJ2_coderFromArrayLen_85cad) := goodIn_app (goodIn_r _ [94, 95, 63] rfl (by decide +kernel)) ggJ0_init_db425_J2_coderFromArrayLen_85cad
theorem dJ0_init_db425_0 : decode cJ0_init_db425 0 = .ok (.aload_n 0, 1) := by decide +kernel
theorem dJ0_init_db425_1 : decode cJ0_init_db425 1 = .ok (.invokespecial 1, 3) := by decide +kernel
theorem dJ0_init_db425_4 : decode cJ0_init_db425 4 = .ok (.aload_n 1, 1) := by decide +kernel
theorem dJ0_init_db425_5 : decode cJ0_init_db425 5 = .ok (.invokevirtual 552, 3) := by decide +kernel
theorem dJ0_init_db425_8 : decode cJ0_init_db425 8 = .ok (.astore_n 3, 1) := by decide +kernel
theorem dJ0_init_db425_9 : decode cJ0_init_db425 9 = .ok (.aload_n 1, 1) := by decide +kernel
theorem dJ0_init_db425_10 : decode cJ0_init_db425 10 = .ok (.invokevirtual 549, 3) := by decide +kernel
theorem dJ0_init_db425_13 : decode cJ0_init_db425 13 = .ok (.istore 4, 2) := by decide +kernel
theorem dJ0_init_db425_15 : decode cJ0_init_db425 15 = .ok (.aload_n 1, 1) := by decide +kernel
theorem dJ0_init_db425_16 : decode cJ0_init_db425 16 = .ok (.invokevirtual 1047, 3) := by decide +kernel
theorem dJ0_init_db425_19 : decode cJ0_init_db425 19 = .ok (.ifCond .eq 22, 3) := by decide +kernel
theorem dJ0_init_db425_22 : decode cJ0_init_db425 22 = .ok (.aload_n 0, 1) := by decide +kernel
theorem dJ0_init_db425_23 : decode cJ0_init_db425 23 = .ok (.iconst 0, 1) := by decide +kernel
theorem dJ0_init_db425_24 : decode cJ0_init_db425 24 = .ok (.putfield 15, 3) := by decide +kernel
theorem dJ0_init_db425_27 : decode cJ0_init_db425 27 = .ok (.aload_n 0, 1) := by decide +kernel
theorem dJ0_init_db425_28 : decode cJ0_init_db425 28 = .ok (.aload_n 3, 1) := by decide +kernel
theorem dJ0_init_db425_29 : decode cJ0_init_db425 29 = .ok (.iconst 0, 1) := by decide +kernel
theorem dJ0_init_db425_30 : decode cJ0_init_db425 30 = .ok (.iload 4, 2) := by decide +kernel
theorem dJ0_init_db425_32 : decode cJ0_init_db425 32 = .ok (.invokestatic 54, 3) := by decide +kernel
theorem dJ0_init_db425_35 : decode cJ0_init_db425 35 = .ok (.putfield 9, 3) := by decide +kernel
theorem dJ0_init_db425_38 : decode cJ0_init_db425 38 = .ok (.goto 59, 3) := by decide +kernel
theorem dJ0_init_db425_41 : decode cJ0_init_db425 41 = .ok (.getstatic 38, 3) := by decide +kernel
theorem dJ0_init_db425_44 : decode cJ0_init_db425 44 = .ok (.ifCond .eq 35, 3) := by decide +kernel
theorem dJ0_init_db425_47 : decode cJ0_init_db425 47 = .ok (.aload_n 1, 1) := by decide +kernel
theorem dJ0_init_db425_48 : decode cJ0_init_db425 48 = .ok (.getfield 1048, 3) := by decide +kernel
theorem dJ0_init_db425_51 : decode cJ0_init_db425 51 = .ok (.ifCond .eq 28, 3) := by decide +kernel
theorem dJ0_init_db425_54 : decode cJ0_init_db425 54 = .ok (.aload_n 0, 1) := by decide +kernel
theorem dJ0_init_db425_55 : decode cJ0_init_db425 55 = .ok (.aload_n 3, 1) := by decide +kernel
theorem dJ0_init_db425_56 : decode cJ0_init_db425 56 = .ok (.iconst 0, 1) := by decide +kernel
theorem dJ0_init_db425_57 : decode cJ0_init_db425 57 = .ok (.iload 4, 2) := by decide +kernel
theorem dJ0_init_db425_59 : decode cJ0_init_db425 59 = .ok (.invokestatic 1051, 3) := by decide +kernel
theorem dJ0_init_db425_62 : decode cJ0_init_db425 62 = .ok (.putfield 9, 3) := by decide +kernel
theorem dJ0_init_db425_65 : decode cJ0_init_db425 65 = .ok (.aload_n 0, 1) := by decide +kernel
theorem dJ0_init_db425_66 : decode cJ0_init_db425 66 = .ok (.aload_n 0, 1) := by decide +kernel
theorem dJ0_init_db425_67 : decode cJ0_init_db425 67 = .ok (.getfield 9, 3) := by decide +kernel
theorem dJ0_init_db425_70 : decode cJ0_init_db425 70 = .ok (.iload 4, 2) := by decide +kernel
theorem dJ0_init_db425_72 : decode cJ0_init_db425 72 = .ok (.invokestatic 47, 3) := by decide +kernel
theorem dJ0_init_db425_75 : decode cJ0_init_db425 75 = .ok (.putfield 15, 3) := by decide +kernel
theorem dJ0_init_db425_78 : decode cJ0_init_db425 78 = .ok (.return_, 1) := by decide +kernel
theorem dJ0_init_db425_79 : decode cJ0_init_db425 79 = .ok (.aload_n 0, 1) := by decide +kernel
theorem dJ0_init_db425_80 : decode cJ0_init_db425 80 = .ok (.iconst 1, 1) := by decide +kernel
theorem dJ0_init_db425_81 : decode cJ0_init_db425 81 = .ok (.putfield 15, 3) := by decide +kernel
theorem dJ0_init_db425_84 : decode cJ0_init_db425 84 = .ok (.aload_n 0, 1) := by decide +kernel
theorem dJ0_init_db425_85 : decode cJ0_init_db425 85 = .ok (.aload_n 3, 1) := by decide +kernel
theorem dJ0_init_db425_86 : decode cJ0_init_db425 86 = .ok (.iconst 0, 1) := by decide +kernel
theorem dJ0_init_db425_87 : decode cJ0_init_db425 87 = .ok (.iload 4, 2) := by decide +kernel
theorem dJ0_init_db425_89 : decode cJ0_init_db425 89 = .ok (.iconst 1, 1) := by decide +kernel
theorem dJ0_init_db425_90 : decode cJ0_init_db425 90 = .ok (.ishl, 1) := by decide +kernel
theorem dJ0_init_db425_91 : decode cJ0_init_db425 91 = .ok (.invokestatic 54, 3) := by decide +kernel
theorem dJ0_init_db425_94 : decode cJ0_init_db425 94 = .ok (.putfield 9, 3) := by decide +kernel
theorem dJ0_init_db425_97 : decode cJ0_init_db425 97 = .ok (.return_, 1) := by decide +kernel
theorem dJ0_coder_7d493_0 : decode cJ0_coder_7d493 0 = .ok (.getstatic 38, 3) := by decide +kernel
theorem dJ0_coder_7d493_3 : decode cJ0_coder_7d493 3 = .ok (.ifCond .eq 10, 3) := by decide +kernel
theorem dJ0_coder_7d493_6 : decode cJ0_coder_7d493 6 = .ok (.aload_n 0, 1) := by decide +kernel
theorem dJ0_coder_7d493_7 : decode cJ0_coder_7d493 7 = .ok (.getfield 15, 3) := by decide +kernel
theorem dJ0_coder_7d493_10 : decode cJ0_coder_7d493 10 = .ok (.goto 4, 3) := by decide +kernel
theorem dJ0_coder_7d493_13 : decode cJ0_coder_7d493 13 = .ok (.iconst 1, 1) := by decide +kernel
theorem dJ0_coder_7d493_14 : decode cJ0_coder_7d493 14 = .ok (.ireturn, 1) := by decide +kernel
theorem dJ0_isLatin1_aae02_0 : decode cJ0_isLatin1_aae02 0 = .ok (.getstatic 38, 3) := by decide +kernel
theorem dJ0_isLatin1_aae02_3 : decode cJ0_isLatin1_aae02 3 = .ok (.ifCond .eq 14, 3) := by decide +kernel
theorem dJ0_isLatin1_aae02_6 : decode cJ0_isLatin1_aae02 6 = .ok (.aload_n 0, 1) := by decide +kernel
theorem dJ0_isLatin1_aae02_7 : decode cJ0_isLatin1_aae02 7 = .ok (.getfield 15, 3) := by decide +kernel
theorem dJ0_isLatin1_aae02_10 : decode cJ0_isLatin1_aae02 10 = .ok (.ifCond .ne 7, 3) := by decide +kernel
theorem dJ0_isLatin1_aae02_13 : decode cJ0_isLatin1_aae02 13 = .ok (.iconst 1, 1) := by decide +kernel
theorem dJ0_isLatin1_aae02_14 : decode cJ0_isLatin1_aae02 14 = .ok (.goto 4, 3) := by decide +kernel
theorem dJ0_isLatin1_aae02_17 : decode cJ0_isLatin1_aae02 17 = .ok (.iconst 0, 1) := by decide +kernel
theorem dJ0_isLatin1_aae02_18 : decode cJ0_isLatin1_aae02 18 = .ok (.ireturn, 1) := by decide +kernel
set_option maxRecDepth 20000 in
theorem ggJ0_checkIndex_df160_J3_checkIndex_8e157 : GoodIn wsJ0_checkIndex_df160 wsJ3_checkIndex_8e157 := goodIn_r _ [5] rfl (by decide +kernel)
set_option maxRecDepth 20000 in
theorem gJ0_checkIndex_df160_J3_checkIndex_8e157 : GoodIn wsJ0_checkIndex_df160 (va_wsS RJ0 1059 yJ3_checkIndex_8e157 wsJ3_checkIndex_8e157) := goodIn_app (goodIn_r _ [2, 3, 4] rfl (by decide +kernel)) ggJ0_checkIndex_df160_J3_checkIndex_8e157
theorem dJ0_checkIndex_df160_0 : decode cJ0_checkIndex_df160 0 = .ok (.iload_n 0, 1) := by decide +kernel
theorem dJ0_checkIndex_df160_1 : decode cJ0_checkIndex_df160 1 = .ok (.iload_n 1, 1) := by decide +kernel
theorem dJ0_checkIndex_df160_2 : decode cJ0_checkIndex_df160 2 = .ok (.getstatic 1053, 3) := by decide +kernel
theorem dJ0_checkIndex_df160_5 : decode cJ0_checkIndex_df160 5 = .ok (.invokestatic 1059, 3) := by decide +kernel
theorem dJ0_checkIndex_df160_8 : decode cJ0_checkIndex_df160 8 = .ok (.pop, 1) := by decide +kernel
theorem dJ0_checkIndex_df160_9 : decode cJ0_checkIndex_df160 9 = .ok (.return_, 1) := by decide +kernel
set_option maxRecDepth 20000 in
theorem ggJ0_checkBoundsOffCount_cabcc_J3_checkFromIndexSize_8c36e : GoodIn wsJ0_checkBoundsOffCount_cabcc wsJ3_checkFromIndexSize_8c36e := goodIn_r _ [5] rfl (by decide +kernel)
set_option maxRecDepth 20000 in
theorem gJ0_checkBoundsOffCount_cabcc_J3_checkFromIndexSize_8c36e : GoodIn wsJ0_checkBoundsOffCount_cabcc (va_wsS RJ0 1065 yJ3_checkFromIndexSize_8c36e wsJ3_checkFromIndexSize_8c36e) := goodIn_app (goodIn_r _ [2, 3, 4] rfl (by decide +kernel)) ggJ0_checkBoundsOffCount_cabcc_J3_checkFromIndexSize_8c36e
theorem dJ0_checkBoundsOffCount_cabcc_0 : decode cJ0_checkBoundsOffCount_cabcc 0 = .ok (.iload_n 0, 1) := by decide +kernel
theorem dJ0_checkBoundsOffCount_cabcc_1 : decode cJ0_checkBoundsOffCount_cabcc 1 = .ok (.iload_n 1, 1) := by decide +kernel
theorem dJ0_checkBoundsOffCount_cabcc_2 : decode cJ0_checkBoundsOffCount_cabcc 2 = .ok (.iload_n 2, 1) := by decide +kernel
theorem dJ0_checkBoundsOffCount_cabcc_3 : decode cJ0_checkBoundsOffCount_cabcc 3 = .ok (.getstatic 1053, 3) := by decide +kernel
theorem dJ0_checkBoundsOffCount_cabcc_6 : decode cJ0_checkBoundsOffCount_cabcc 6 = .ok (.invokestatic 1065, 3) := by decide +kernel
theorem dJ0_checkBoundsOffCount_cabcc_9 : decode cJ0_checkBoundsOffCount_cabcc 9 = .ok (.ireturn, 1) := by decide +kernel
set_option maxRecDepth 20000 in
theorem ggJ0_checkBoundsBeginEnd_23922_J3_checkFromToIndex_8c36e : GoodIn wsJ0_checkBoundsBeginEnd_23922 wsJ3_checkFromToIndex_8c36e := goodIn_r _ [5] rfl (by decide +kernel)
set_option maxRecDepth 20000 in
theorem gJ0_checkBoundsBeginEnd_23922_J3_checkFromToIndex_8c36e : GoodIn wsJ0_checkBoundsBeginEnd_23922 (va_wsS RJ0 1062 yJ3_checkFromToIndex_8c36e wsJ3_checkFromToIndex_8c36e) := goodIn_app (goodIn_r _ [2, 3, 4] rfl (by decide +kernel)) ggJ0_checkBoundsBeginEnd_23922_J3_checkFromToIndex_8c36e
theorem dJ0_checkBoundsBeginEnd_23922_0 : decode cJ0_checkBoundsBeginEnd_23922 0 = .ok (.iload_n 0, 1) := by decide +kernel
theorem dJ0_checkBoundsBeginEnd_23922_1 : decode cJ0_checkBoundsBeginEnd_23922 1 = .ok (.iload_n 1, 1) := by decide +kernel
theorem dJ0_checkBoundsBeginEnd_23922_2 : decode cJ0_checkBoundsBeginEnd_23922 2 = .ok (.iload_n 2, 1) := by decide +kernel
theorem dJ0_checkBoundsBeginEnd_23922_3 : decode cJ0_checkBoundsBeginEnd_23922 3 = .ok (.getstatic 1053, 3) := by decide +kernel
theorem dJ0_checkBoundsBeginEnd_23922_6 : decode cJ0_checkBoundsBeginEnd_23922 6 = .ok (.invokestatic 1062, 3) := by decide +kernel
theorem dJ0_checkBoundsBeginEnd_23922_9 : decode cJ0_checkBoundsBeginEnd_23922 9 = .ok (.pop, 1) := by decide +kernel
theorem dJ0_checkBoundsBeginEnd_23922_10 : decode cJ0_checkBoundsBeginEnd_23922 10 = .ok (.return_, 1) := by decide +kernel
set_option maxRecDepth 20000 in
theorem ggJ4_init_da8c8_J5_init_d00df : GoodIn wsJ4_init_da8c8 wsJ5_init_d00df := goodIn_r _ [4, 5, 6, 7, 8, 9, 10, 11, 12, 13, 14, 15, 16, 17, 18, 19, 20, 21, 22, 23] rfl (by decide +kernel)
set_option maxRecDepth 20000 in
theorem gJ4_init_da8c8_J5_init_d00df : GoodIn wsJ4_init_da8c8 (wsJ5_init_d00df) := ggJ4_init_da8c8_J5_init_d00df
theorem dJ4_init_da8c8_0 : decode cJ4_init_da8c8 0 = .ok (.aload_n 0, 1) := by decide +kernel
theorem dJ4_init_da8c8_1 : decode cJ4_init_da8c8 1 = .ok (.bipush 16, 2) := by decide +kernel
theorem dJ4_init_da8c8_3 : decode cJ4_init_da8c8 3 = .ok (.invokespecial 1, 3) := by decide +kernel
theorem dJ4_init_da8c8_6 : decode cJ4_init_da8c8 6 = .ok (.return_, 1) := by decide +kernel
set_option maxRecDepth 20000 in
theorem ggJ4_append_15ec4_J5_append_cf1ce : GoodIn wsJ4_append_15ec4 wsJ5_append_cf1ce := goodIn_r _ [6, 7, 8, 9, 10, 11, 5, 12, 13, 14, 15, 16, 17, 18, 19, 20, 21, 22, 23, 24, 25, 26, 27, 28, 29, 30, 31, 32, 33, 34, 35, 36, 37, 38, 39, 40, 41, 42, 43, 44, 45, 46, 47, 48, 49, 50, 51, 52, 53, 54, 55, 56, 57, 58, 59, 60, 61, 62, 63, 64, 65, 66, 67, 68, 69, 70, 71, 72, 73, 74, 75, 76, 77, 78, 79, 80, 81, 82, 83, 84, 85, 86, 87, 88, 89, 90, 91, 92, 93, 94, 95, 96, 97, 98, 99, 100, 101, 102, 103, 104, 105, 106, 107, 108, 109, 110, 111, 112, 113, 114, 115, 116, 117, 118, 119, 120, 121, 122, 123, 124, 125, 126, 127, 128, 129, 130, 131, 132, 133, 134, 135, 136, 137, 138, 139, 140, 141, 142, 143, 144, 145, 146, 147, 148, 149, 150] rfl (by decide +kernel)
set_option maxRecDepth 20000 in
theorem gJ4_append_15ec4_J5_append_cf1ce_s29 : GoodIn wsJ4_append_15ec4 (va_wsSU RJ4 29 yJ5_append_cf1ce wsJ5_append_cf1ce) := goodIn_app (goodIn_of _ (by decide +kernel)) ggJ4_append_15ec4_J5_append_cf1ce
theorem dJ4_append_15ec4_0 : decode cJ4_append_15ec4 0 = .ok (.aload_n 0, 1) := by decide +kernel
theorem dJ4_append_15ec4_1 : decode cJ4_append_15ec4 1 = .ok (.aload_n 1, 1) := by decide +kernel
theorem dJ4_append_15ec4_2 : decode cJ4_append_15ec4 2 = .ok (.invokespecial 29, 3) := by decide +kernel
theorem dJ4_append_15ec4_5 : decode cJ4_append_15ec4 5 = .ok (.pop, 1) := by decide +kernel
theorem dJ4_append_15ec4_6 : decode cJ4_append_15ec4 6 = .ok (.aload_n 0, 1) := by decide +kernel
theorem dJ4_append_15ec4_7 : decode cJ4_append_15ec4 7 = .ok (.areturn, 1) := by decide +kernel
set_option maxRecDepth 20000 in
theorem ggJ4_append_bf812_J5_append_c97b9 : GoodIn wsJ4_append_bf812 wsJ5_append_c97b9 := goodIn_r _ [6, 7, 8, 9, 10, 11, 12, 13, 14, 15, 16, 5, 17, 18, 19, 20, 21, 22, 23, 24, 25, 26, 27, 28, 29, 30, 31, 32, 33, 34, 35, 36, 37, 38, 39, 40, 41, 42, 43, 44, 45, 46, 47, 48, 49, 50, 51, 52, 53, 54, 55, 56, 57, 58, 59, 60, 61, 62, 63, 64, 65, 66, 67, 68, 69, 70, 71, 72, 73, 74, 75, 76, 77, 78, 79, 80, 81, 82, 83, 84, 85, 86, 87, 88, 89, 90, 91, 92, 93, 94, 95, 96, 97, 98, 99] rfl (by decide +kernel)
set_option maxRecDepth 20000 in
theorem gJ4_append_bf812_J5_append_c97b9_s53 : GoodIn wsJ4_append_bf812 (va_wsSU RJ4 53 yJ5_append_c97b9 wsJ5_append_c97b9) := goodIn_app (goodIn_of _ (by decide +kernel)) ggJ4_append_bf812_J5_append_c97b9
theorem dJ4_append_bf812_0 : decode cJ4_append_bf812 0 = .ok (.aload_n 0, 1) := by decide +kernel
theorem dJ4_append_bf812_1 : decode cJ4_append_bf812 1 = .ok (.iload_n 1, 1) := by decide +kernel
theorem dJ4_append_bf812_2 : decode cJ4_append_bf812 2 = .ok (.invokespecial 53, 3) := by decide +kernel
theorem dJ4_append_bf812_5 : decode cJ4_append_bf812 5 = .ok (.pop, 1) := by decide +kernel
theorem dJ4_append_bf812_6 : decode cJ4_append_bf812 6 = .ok (.aload_n 0, 1) := by decide +kernel
theorem dJ4_append_bf812_7 : decode cJ4_append_bf812 7 = .ok (.areturn, 1) := by decide +kernel
set_option maxRecDepth 20000 in
theorem ggJ4_toString_0e30d_J0_init_81219 : GoodIn wsJ4_toString_0e30d wsJ0_init_81219 := goodIn_r _ [6, 7, 8, 3, 9, 10, 11, 12, 13, 14, 15, 16, 17, 18, 19, 20, 21, 22, 23, 24, 25, 26, 27, 28, 29, 30, 31, 32, 33, 34, 35, 36, 37, 38, 39, 40, 41, 42, 43, 44, 45, 46, 47, 48, 49, 50, 51, 52, 53, 54, 55, 56, 57, 58, 59, 60, 61, 62, 63, 64, 65, 66, 67, 68, 69, 70, 71, 72, 73, 74, 75, 76, 77, 78, 79, 80, 81, 82, 83, 84, 85, 86, 87, 88, 89, 90, 91, 92, 93, 94, 95, 96, 97, 98, 99, 100, 101, 102, 103, 104, 105, 106, 107, 108, 109, 110, 111, 112] rfl (by decide +kernel)
set_option maxRecDepth 20000 in
theorem gJ4_toString_0e30d_J0_init_81219 : GoodIn wsJ4_toString_0e30d (wsJ0_init_81219) := ggJ4_toString_0e30d_J0_init_81219
theorem dJ4_toString_0e30d_0 : decode cJ4_toString_0e30d 0 = .ok (.new 18, 3) := by decide +kernel
theorem dJ4_toString_0e30d_3 : decode cJ4_toString_0e30d 3 = .ok (.dup, 1) := by decide +kernel
theorem dJ4_toString_0e30d_4 : decode cJ4_toString_0e30d 4 = .ok (.aload_n 0, 1) := by decide +kernel
theorem dJ4_toString_0e30d_5 : decode cJ4_toString_0e30d 5 = .ok (.invokespecial 137, 3) := by decide +kernel
theorem dJ4_toString_0e30d_8 : decode cJ4_toString_0e30d 8 = .ok (.areturn, 1) := by decide +kernel
set_option maxRecDepth 20000 in
theorem ggJ4_length_8abf5_J5_length_8abf5 : GoodIn wsJ4_length_8abf5 wsJ5_length_8abf5 := goodIn_r _ [6, 7, 8, 9, 10, 11] rfl (by decide +kernel)
set_option maxRecDepth 20000 in
theorem gJ4_length_8abf5_J5_length_8abf5_s343 : GoodIn wsJ4_length_8abf5 (va_wsSU RJ4 343 yJ5_length_8abf5 wsJ5_length_8abf5) := goodIn_app (goodIn_of _ (by decide +kernel)) ggJ4_length_8abf5_J5_length_8abf5
theorem dJ4_length_8abf5_0 : decode cJ4_length_8abf5 0 = .ok (.aload_n 0, 1) := by decide +kernel
theorem dJ4_length_8abf5_1 : decode cJ4_length_8abf5 1 = .ok (.invokespecial 343, 3) := by decide +kernel
theorem dJ4_length_8abf5_4 : decode cJ4_length_8abf5 4 = .ok (.ireturn, 1) := by decide +kernel
set_option maxRecDepth 20000 in
theorem ggJ1_charAt_3b067_J0_checkIndex_df160 : GoodIn wsJ1_charAt_3b067 wsJ0_checkIndex_df160 := goodIn_r _ [4, 5, 6, 7, 8, 9] rfl (by decide +kernel)
set_option maxRecDepth 20000 in
theorem gJ1_charAt_3b067_J0_checkIndex_df160 : GoodIn wsJ1_charAt_3b067 (va_wsS RJ1 9 yJ0_checkIndex_df160 wsJ0_checkIndex_df160) := goodIn_app (goodIn_r _ [1, 2, 3] rfl (by decide +kernel)) ggJ1_charAt_3b067_J0_checkIndex_df160
theorem dJ1_charAt_3b067_0 : decode cJ1_charAt_3b067 0 = .ok (.iload_n 1, 1) := by decide +kernel
theorem dJ1_charAt_3b067_1 : decode cJ1_charAt_3b067 1 = .ok (.aload_n 0, 1) := by decide +kernel
theorem dJ1_charAt_3b067_2 : decode cJ1_charAt_3b067 2 = .ok (.arraylength, 1) := by decide +kernel
theorem dJ1_charAt_3b067_3 : decode cJ1_charAt_3b067 3 = .ok (.invokestatic 9, 3) := by decide +kernel
theorem dJ1_charAt_3b067_6 : decode cJ1_charAt_3b067 6 = .ok (.aload_n 0, 1) := by decide +kernel
theorem dJ1_charAt_3b067_7 : decode cJ1_charAt_3b067 7 = .ok (.iload_n 1, 1) := by decide +kernel
theorem dJ1_charAt_3b067_8 : decode cJ1_charAt_3b067 8 = .ok (.baload, 1) := by decide +kernel
theorem dJ1_charAt_3b067_9 : decode cJ1_charAt_3b067 9 = .ok (.sipush 255, 3) := by decide +kernel
theorem dJ1_charAt_3b067_12 : decode cJ1_charAt_3b067 12 = .ok (.iand, 1) := by decide +kernel
theorem dJ1_charAt_3b067_13 : decode cJ1_charAt_3b067 13 = .ok (.i2c, 1) := by decide +kernel
theorem dJ1_charAt_3b067_14 : decode cJ1_charAt_3b067 14 = .ok (.ireturn, 1) := by decide +kernel
set_option maxRecDepth 20000 in
theorem ggJ1_inflate_0e8fd_J2_inflate_0e8fd : GoodIn wsJ1_inflate_0e8fd wsJ2_inflate_0e8fd := goodIn_r _ [4, 5, 6, 3, 7, 8, 9, 10, 11, 12, 13, 14, 15, 16, 17, 18, 19, 20, 21, 22, 23, 24, 25] rfl (by decide +kernel)
set_option maxRecDepth 20000 in
theorem gJ1_inflate_0e8fd_J2_inflate_0e8fd : GoodIn wsJ1_inflate_0e8fd (va_wsS RJ1 240 yJ2_inflate_0e8fd wsJ2_inflate_0e8fd) := goodIn_app (goodIn_r _ [1, 2, 3] rfl (by decide +kernel)) ggJ1_inflate_0e8fd_J2_inflate_0e8fd
theorem dJ1_inflate_0e8fd_0 : decode cJ1_inflate_0e8fd 0 = .ok (.aload_n 0, 1) := by decide +kernel
theorem dJ1_inflate_0e8fd_1 : decode cJ1_inflate_0e8fd 1 = .ok (.iload_n 1, 1) := by decide +kernel
theorem dJ1_inflate_0e8fd_2 : decode cJ1_inflate_0e8fd 2 = .ok (.aload_n 2, 1) := by decide +kernel
theorem dJ1_inflate_0e8fd_3 : decode cJ1_inflate_0e8fd 3 = .ok (.iload_n 3, 1) := by decide +kernel
theorem dJ1_inflate_0e8fd_4 : decode cJ1_inflate_0e8fd 4 = .ok (.iload 4, 2) := by decide +kernel
theorem dJ1_inflate_0e8fd_6 : decode cJ1_inflate_0e8fd 6 = .ok (.invokestatic 240, 3) := by decide +kernel
theorem dJ1_inflate_0e8fd_9 : decode cJ1_inflate_0e8fd 9 = .ok (.return_, 1) := by decide +kernel
set_option maxRecDepth 20000 in
theorem ggJ2_newBytesFor_77867_J2_newBytesLength_0f7a4 : GoodIn wsJ2_newBytesFor_77867 wsJ2_newBytesLength_0f7a4 := goodIn_r _ [5, 6] rfl (by decide +kernel)
set_option maxRecDepth 20000 in
theorem gJ2_newBytesFor_77867_J2_newBytesLength_0f7a4 : GoodIn wsJ2_newBytesFor_77867 (va_wsS RJ2 11 yJ2_newBytesLength_0f7a4 wsJ2_newBytesLength_0f7a4) := goodIn_app (goodIn_r _ [2, 3, 4] rfl (by decide +kernel)) ggJ2_newBytesFor_77867_J2_newBytesLength_0f7a4
theorem dJ2_newBytesFor_77867_0 : decode cJ2_newBytesFor_77867 0 = .ok (.iload_n 0, 1) := by decide +kernel
theorem dJ2_newBytesFor_77867_1 : decode cJ2_newBytesFor_77867 1 = .ok (.invokestatic 11, 3) := by decide +kernel
theorem dJ2_newBytesFor_77867_4 : decode cJ2_newBytesFor_77867 4 = .ok (.newarray .byte, 2) := by decide +kernel
theorem dJ2_newBytesFor_77867_6 : decode cJ2_newBytesFor_77867 6 = .ok (.areturn, 1) := by decide +kernel
theorem dJ2_newBytesLength_0f7a4_0 : decode cJ2_newBytesLength_0f7a4 0 = .ok (.iload_n 0, 1) := by decide +kernel
theorem dJ2_newBytesLength_0f7a4_1 : decode cJ2_newBytesLength_0f7a4 1 = .ok (.ifCond .ge 11, 3) := by decide +kernel
theorem dJ2_newBytesLength_0f7a4_4 : decode cJ2_newBytesLength_0f7a4 4 = .ok (.new 17, 3) := by decide +kernel
theorem dJ2_newBytesLength_0f7a4_7 : decode cJ2_newBytesLength_0f7a4 7 = .ok (.dup, 1) := by decide +kernel
theorem dJ2_newBytesLength_0f7a4_8 : decode cJ2_newBytesLength_0f7a4 8 = .ok (.invokespecial 19, 3) := by decide +kernel
theorem dJ2_newBytesLength_0f7a4_11 : decode cJ2_newBytesLength_0f7a4 11 = .ok (.athrow, 1) := by decide +kernel
theorem dJ2_newBytesLength_0f7a4_12 : decode cJ2_newBytesLength_0f7a4 12 = .ok (.iload_n 0, 1) := by decide +kernel
theorem dJ2_newBytesLength_0f7a4_13 : decode cJ2_newBytesLength_0f7a4 13 = .ok (.ldc 20, 2) := by decide +kernel
theorem dJ2_newBytesLength_0f7a4_15 : decode cJ2_newBytesLength_0f7a4 15 = .ok (.if_icmp .lt 40, 3) := by decide +kernel
theorem dJ2_newBytesLength_0f7a4_18 : decode cJ2_newBytesLength_0f7a4 18 = .ok (.new 21, 3) := by decide +kernel
theorem dJ2_newBytesLength_0f7a4_21 : decode cJ2_newBytesLength_0f7a4 21 = .ok (.dup, 1) := by decide +kernel
theorem dJ2_newBytesLength_0f7a4_22 : decode cJ2_newBytesLength_0f7a4 22 = .ok (.new 23, 3) := by decide +kernel
theorem dJ2_newBytesLength_0f7a4_25 : decode cJ2_newBytesLength_0f7a4 25 = .ok (.dup, 1) := by decide +kernel
theorem dJ2_newBytesLength_0f7a4_26 : decode cJ2_newBytesLength_0f7a4 26 = .ok (.invokespecial 25, 3) := by decide +kernel
theorem dJ2_newBytesLength_0f7a4_29 : decode cJ2_newBytesLength_0f7a4 29 = .ok (.ldc 26, 2) := by decide +kernel
theorem dJ2_newBytesLength_0f7a4_31 : decode cJ2_newBytesLength_0f7a4 31 = .ok (.invokevirtual 28, 3) := by decide +kernel
theorem dJ2_newBytesLength_0f7a4_34 : decode cJ2_newBytesLength_0f7a4 34 = .ok (.iload_n 0, 1) := by decide +kernel
theorem dJ2_newBytesLength_0f7a4_35 : decode cJ2_newBytesLength_0f7a4 35 = .ok (.invokevirtual 32, 3) := by decide +kernel
theorem dJ2_newBytesLength_0f7a4_38 : decode cJ2_newBytesLength_0f7a4 38 = .ok (.ldc 35, 2) := by decide +kernel
theorem dJ2_newBytesLength_0f7a4_40 : decode cJ2_newBytesLength_0f7a4 40 = .ok (.invokevirtual 28, 3) := by decide +kernel
theorem dJ2_newBytesLength_0f7a4_43 : decode cJ2_newBytesLength_0f7a4 43 = .ok (.ldc 20, 2) := by decide +kernel
theorem dJ2_newBytesLength_0f7a4_45 : decode cJ2_newBytesLength_0f7a4 45 = .ok (.invokevirtual 32, 3) := by decide +kernel
theorem dJ2_newBytesLength_0f7a4_48 : decode cJ2_newBytesLength_0f7a4 48 = .ok (.invokevirtual 37, 3) := by decide +kernel
theorem dJ2_newBytesLength_0f7a4_51 : decode cJ2_newBytesLength_0f7a4 51 = .ok (.invokespecial 41, 3) := by decide +kernel
theorem dJ2_newBytesLength_0f7a4_54 : decode cJ2_newBytesLength_0f7a4 54 = .ok (.athrow, 1) := by decide +kernel
theorem dJ2_newBytesLength_0f7a4_55 : decode cJ2_newBytesLength_0f7a4 55 = .ok (.iload_n 0, 1) := by decide +kernel
theorem dJ2_newBytesLength_0f7a4_56 : decode cJ2_newBytesLength_0f7a4 56 = .ok (.iconst 1, 1) := by decide +kernel
theorem dJ2_newBytesLength_0f7a4_57 : decode cJ2_newBytesLength_0f7a4 57 = .ok (.ishl, 1) := by decide +kernel
theorem dJ2_newBytesLength_0f7a4_58 : decode cJ2_newBytesLength_0f7a4 58 = .ok (.ireturn, 1) := by decide +kernel
set_option maxRecDepth 20000 in
theorem ggJ2_putChar_b72d1_J2_length_9d52b : GoodIn wsJ2_putChar_b72d1 wsJ2_length_9d52b := goodIn_r _ [7] rfl (by decide +kernel)
set_option maxRecDepth 20000 in
theorem gJ2_putChar_b72d1_J2_length_9d52b : GoodIn wsJ2_putChar_b72d1 (va_wsS RJ2 48 yJ2_length_9d52b wsJ2_length_9d52b) := goodIn_app (goodIn_r _ [4, 5, 6] rfl (by decide +kernel)) ggJ2_putChar_b72d1_J2_length_9d52b
theorem dJ2_putChar_b72d1_0 : decode cJ2_putChar_b72d1 0 = .ok (.getstatic 44, 3) := by decide +kernel
theorem dJ2_putChar_b72d1_3 : decode cJ2_putChar_b72d1 3 = .ok (.ifCond .ne 25, 3) := by decide +kernel
theorem dJ2_putChar_b72d1_6 : decode cJ2_putChar_b72d1 6 = .ok (.iload_n 1, 1) := by decide +kernel
theorem dJ2_putChar_b72d1_7 : decode cJ2_putChar_b72d1 7 = .ok (.ifCond .lt 11, 3) := by decide +kernel
theorem dJ2_putChar_b72d1_10 : decode cJ2_putChar_b72d1 10 = .ok (.iload_n 1, 1) := by decide +kernel
theorem dJ2_putChar_b72d1_11 : decode cJ2_putChar_b72d1 11 = .ok (.aload_n 0, 1) := by decide +kernel
theorem dJ2_putChar_b72d1_12 : decode cJ2_putChar_b72d1 12 = .ok (.invokestatic 48, 3) := by decide +kernel
theorem dJ2_putChar_b72d1_15 : decode cJ2_putChar_b72d1 15 = .ok (.if_icmp .lt 13, 3) := by decide +kernel
theorem dJ2_putChar_b72d1_18 : decode cJ2_putChar_b72d1 18 = .ok (.new 52, 3) := by decide +kernel
theorem dJ2_putChar_b72d1_21 : decode cJ2_putChar_b72d1 21 = .ok (.dup, 1) := by decide +kernel
theorem dJ2_putChar_b72d1_22 : decode cJ2_putChar_b72d1 22 = .ok (.ldc 54, 2) := by decide +kernel
theorem dJ2_putChar_b72d1_24 : decode cJ2_putChar_b72d1 24 = .ok (.invokespecial 56, 3) := by decide +kernel
theorem dJ2_putChar_b72d1_27 : decode cJ2_putChar_b72d1 27 = .ok (.athrow, 1) := by decide +kernel
theorem dJ2_putChar_b72d1_28 : decode cJ2_putChar_b72d1 28 = .ok (.iload_n 1, 1) := by decide +kernel
theorem dJ2_putChar_b72d1_29 : decode cJ2_putChar_b72d1 29 = .ok (.iconst 1, 1) := by decide +kernel
theorem dJ2_putChar_b72d1_30 : decode cJ2_putChar_b72d1 30 = .ok (.ishl, 1) := by decide +kernel
theorem dJ2_putChar_b72d1_31 : decode cJ2_putChar_b72d1 31 = .ok (.istore_n 1, 1) := by decide +kernel
theorem dJ2_putChar_b72d1_32 : decode cJ2_putChar_b72d1 32 = .ok (.aload_n 0, 1) := by decide +kernel
theorem dJ2_putChar_b72d1_33 : decode cJ2_putChar_b72d1 33 = .ok (.iload_n 1, 1) := by decide +kernel
theorem dJ2_putChar_b72d1_34 : decode cJ2_putChar_b72d1 34 = .ok (.iinc 1 1, 3) := by decide +kernel
theorem dJ2_putChar_b72d1_37 : decode cJ2_putChar_b72d1 37 = .ok (.iload_n 2, 1) := by decide +kernel
theorem dJ2_putChar_b72d1_38 : decode cJ2_putChar_b72d1 38 = .ok (.getstatic 59, 3) := by decide +kernel
theorem dJ2_putChar_b72d1_41 : decode cJ2_putChar_b72d1 41 = .ok (.ishr, 1) := by decide +kernel
theorem dJ2_putChar_b72d1_42 : decode cJ2_putChar_b72d1 42 = .ok (.i2b, 1) := by decide +kernel
theorem dJ2_putChar_b72d1_43 : decode cJ2_putChar_b72d1 43 = .ok (.bastore, 1) := by decide +kernel
theorem dJ2_putChar_b72d1_44 : decode cJ2_putChar_b72d1 44 = .ok (.aload_n 0, 1) := by decide +kernel
theorem dJ2_putChar_b72d1_45 : decode cJ2_putChar_b72d1 45 = .ok (.iload_n 1, 1) := by decide +kernel
theorem dJ2_putChar_b72d1_46 : decode cJ2_putChar_b72d1 46 = .ok (.iload_n 2, 1) := by decide +kernel
theorem dJ2_putChar_b72d1_47 : decode cJ2_putChar_b72d1 47 = .ok (.getstatic 63, 3) := by decide +kernel
theorem dJ2_putChar_b72d1_50 : decode cJ2_putChar_b72d1 50 = .ok (.ishr, 1) := by decide +kernel
theorem dJ2_putChar_b72d1_51 : decode cJ2_putChar_b72d1 51 = .ok (.i2b, 1) := by decide +kernel
theorem dJ2_putChar_b72d1_52 : decode cJ2_putChar_b72d1 52 = .ok (.bastore, 1) := by decide +kernel
theorem dJ2_putChar_b72d1_53 : decode cJ2_putChar_b72d1 53 = .ok (.return_, 1) := by decide +kernel
set_option maxRecDepth 20000 in
theorem ggJ2_getChar_3b067_J2_length_9d52b : GoodIn wsJ2_getChar_3b067 wsJ2_length_9d52b := goodIn_r _ [7] rfl (by decide +kernel)
set_option maxRecDepth 20000 in
theorem gJ2_getChar_3b067_J2_length_9d52b : GoodIn wsJ2_getChar_3b067 (va_wsS RJ2 48 yJ2_length_9d52b wsJ2_length_9d52b) := goodIn_app (goodIn_r _ [4, 5, 6] rfl (by decide +kernel)) ggJ2_getChar_3b067_J2_length_9d52b
theorem dJ2_getChar_3b067_0 : decode cJ2_getChar_3b067 0 = .ok (.getstatic 44, 3) := by decide +kernel
theorem dJ2_getChar_3b067_3 : decode cJ2_getChar_3b067 3 = .ok (.ifCond .ne 25, 3) := by decide +kernel
theorem dJ2_getChar_3b067_6 : decode cJ2_getChar_3b067 6 = .ok (.iload_n 1, 1) := by decide +kernel
theorem dJ2_getChar_3b067_7 : decode cJ2_getChar_3b067 7 = .ok (.ifCond .lt 11, 3) := by decide +kernel
theorem dJ2_getChar_3b067_10 : decode cJ2_getChar_3b067 10 = .ok (.iload_n 1, 1) := by decide +kernel
theorem dJ2_getChar_3b067_11 : decode cJ2_getChar_3b067 11 = .ok (.aload_n 0, 1) := by decide +kernel
theorem dJ2_getChar_3b067_12 : decode cJ2_getChar_3b067 12 = .ok (.invokestatic 48, 3) := by decide +kernel
theorem dJ2_getChar_3b067_15 : decode cJ2_getChar_3b067 15 = .ok (.if_icmp .lt 13, 3) := by decide +kernel
theorem dJ2_getChar_3b067_18 : decode cJ2_getChar_3b067 18 = .ok (.new 52, 3) := by decide +kernel
theorem dJ2_getChar_3b067_21 : decode cJ2_getChar_3b067 21 = .ok (.dup, 1) := by decide +kernel
theorem dJ2_getChar_3b067_22 : decode cJ2_getChar_3b067 22 = .ok (.ldc 54, 2) := by decide +kernel
theorem dJ2_getChar_3b067_24 : decode cJ2_getChar_3b067 24 = .ok (.invokespecial 56, 3) := by decide +kernel
theorem dJ2_getChar_3b067_27 : decode cJ2_getChar_3b067 27 = .ok (.athrow, 1) := by decide +kernel
theorem dJ2_getChar_3b067_28 : decode cJ2_getChar_3b067 28 = .ok (.iload_n 1, 1) := by decide +kernel
theorem dJ2_getChar_3b067_29 : decode cJ2_getChar_3b067 29 = .ok (.iconst 1, 1) := by decide +kernel
theorem dJ2_getChar_3b067_30 : decode cJ2_getChar_3b067 30 = .ok (.ishl, 1) := by decide +kernel
theorem dJ2_getChar_3b067_31 : decode cJ2_getChar_3b067 31 = .ok (.istore_n 1, 1) := by decide +kernel
theorem dJ2_getChar_3b067_32 : decode cJ2_getChar_3b067 32 = .ok (.aload_n 0, 1) := by decide +kernel
theorem dJ2_getChar_3b067_33 : decode cJ2_getChar_3b067 33 = .ok (.iload_n 1, 1) := by decide +kernel
theorem dJ2_getChar_3b067_34 : decode cJ2_getChar_3b067 34 = .ok (.iinc 1 1, 3) := by decide +kernel
theorem dJ2_getChar_3b067_37 : decode cJ2_getChar_3b067 37 = .ok (.baload, 1) := by decide +kernel
theorem dJ2_getChar_3b067_38 : decode cJ2_getChar_3b067 38 = .ok (.sipush 255, 3) := by decide +kernel
theorem dJ2_getChar_3b067_41 : decode cJ2_getChar_3b067 41 = .ok (.iand, 1) := by decide +kernel
theorem dJ2_getChar_3b067_42 : decode cJ2_getChar_3b067 42 = .ok (.getstatic 59, 3) := by decide +kernel
theorem dJ2_getChar_3b067_45 : decode cJ2_getChar_3b067 45 = .ok (.ishl, 1) := by decide +kernel
theorem dJ2_getChar_3b067_46 : decode cJ2_getChar_3b067 46 = .ok (.aload_n 0, 1) := by decide +kernel
theorem dJ2_getChar_3b067_47 : decode cJ2_getChar_3b067 47 = .ok (.iload_n 1, 1) := by decide +kernel
theorem dJ2_getChar_3b067_48 : decode cJ2_getChar_3b067 48 = .ok (.baload, 1) := by decide +kernel
theorem dJ2_getChar_3b067_49 : decode cJ2_getChar_3b067 49 = .ok (.sipush 255, 3) := by decide +kernel
theorem dJ2_getChar_3b067_52 : decode cJ2_getChar_3b067 52 = .ok (.iand, 1) := by decide +kernel
theorem dJ2_getChar_3b067_53 : decode cJ2_getChar_3b067 53 = .ok (.getstatic 63, 3) := by decide +kernel
theorem dJ2_getChar_3b067_56 : decode cJ2_getChar_3b067 56 = .ok (.ishl, 1) := by decide +kernel
theorem dJ2_getChar_3b067_57 : decode cJ2_getChar_3b067 57 = .ok (.ior, 1) := by decide +kernel
theorem dJ2_getChar_3b067_58 : decode cJ2_getChar_3b067 58 = .ok (.i2c, 1) := by decide +kernel
theorem dJ2_getChar_3b067_59 : decode cJ2_getChar_3b067 59 = .ok (.ireturn, 1) := by decide +kernel
theorem dJ2_length_9d52b_0 : decode cJ2_length_9d52b 0 = .ok (.aload_n 0, 1) := by decide +kernel
theorem dJ2_length_9d52b_1 : decode cJ2_length_9d52b 1 = .ok (.arraylength, 1) := by decide +kernel
theorem dJ2_length_9d52b_2 : decode cJ2_length_9d52b 2 = .ok (.iconst 1, 1) := by decide +kernel
theorem dJ2_length_9d52b_3 : decode cJ2_length_9d52b 3 = .ok (.ishr, 1) := by decide +kernel
theorem dJ2_length_9d52b_4 : decode cJ2_length_9d52b 4 = .ok (.ireturn, 1) := by decide +kernel
theorem dJ2_coderFromArrayLen_85cad_0 : decode cJ2_coderFromArrayLen_85cad 0 = .ok (.iload_n 1, 1) := by decide +kernel
theorem dJ2_coderFromArrayLen_85cad_1 : decode cJ2_coderFromArrayLen_85cad 1 = .ok (.aload_n 0, 1) := by decide +kernel
theorem dJ2_coderFromArrayLen_85cad_2 : decode cJ2_coderFromArrayLen_85cad 2 = .ok (.arraylength, 1) := by decide +kernel
theorem dJ2_coderFromArrayLen_85cad_3 : decode cJ2_coderFromArrayLen_85cad 3 = .ok (.isub, 1) := by decide +kernel
theorem dJ2_coderFromArrayLen_85cad_4 : decode cJ2_coderFromArrayLen_85cad 4 = .ok (.bipush 31, 2) := by decide +kernel
theorem dJ2_coderFromArrayLen_85cad_6 : decode cJ2_coderFromArrayLen_85cad 6 = .ok (.iushr, 1) := by decide +kernel
theorem dJ2_coderFromArrayLen_85cad_7 : decode cJ2_coderFromArrayLen_85cad 7 = .ok (.i2b, 1) := by decide +kernel
theorem dJ2_coderFromArrayLen_85cad_8 : decode cJ2_coderFromArrayLen_85cad 8 = .ok (.ireturn, 1) := by decide +kernel
set_option maxRecDepth 20000 in
theorem ggJ2_compress_39247_J2_compress_5af95 : GoodIn wsJ2_compress_39247 wsJ2_compress_5af95 := goodIn_r _ [5, 6, 7, 4, 8, 9, 10, 11, 12, 13, 14, 15, 16, 17, 18, 19, 20, 21, 22, 23, 24, 25, 26] rfl (by decide +kernel)
set_option maxRecDepth 20000 in
theorem gJ2_compress_39247_J2_compress_5af95 : GoodIn wsJ2_compress_39247 (va_wsS RJ2 123 yJ2_compress_5af95 wsJ2_compress_5af95) := goodIn_app (goodIn_r _ [2, 3, 4] rfl (by decide +kernel)) ggJ2_compress_39247_J2_compress_5af95
set_option maxRecDepth 20000 in
theorem ggJ2_compress_39247_J2_newBytesLength_0f7a4 : GoodIn wsJ2_compress_39247 wsJ2_newBytesLength_0f7a4 := goodIn_r _ [29, 30] rfl (by decide +kernel)
set_option maxRecDepth 20000 in
theorem gJ2_compress_39247_J2_newBytesLength_0f7a4 : GoodIn wsJ2_compress_39247 (va_wsS RJ2 11 yJ2_newBytesLength_0f7a4 wsJ2_newBytesLength_0f7a4) := goodIn_app (goodIn_r _ [27, 28, 4] rfl (by decide +kernel)) ggJ2_compress_39247_J2_newBytesLength_0f7a4
set_option maxRecDepth 20000 in
theorem ggJ2_compress_39247_J7_copyOfRange_39247 : GoodIn wsJ2_compress_39247 wsJ7_copyOfRange_39247 := goodIn_r _ [34, 35, 36, 37, 38, 39, 40, 41, 42, 33, 43, 1, 44, 45, 46, 47, 48, 49, 50, 51, 52, 53, 54, 55, 56, 57, 58, 59, 60, 61] rfl (by decide +kernel)
set_option maxRecDepth 20000 in
theorem gJ2_compress_39247_J7_copyOfRange_39247 : GoodIn wsJ2_compress_39247 (va_wsS RJ2 126 yJ7_copyOfRange_39247 wsJ7_copyOfRange_39247) := goodIn_app (goodIn_r _ [31, 32, 33] rfl (by decide +kernel)) ggJ2_compress_39247_J7_copyOfRange_39247
set_option maxRecDepth 20000 in
theorem ggJ2_compress_39247_J2_getChar_3b067 : GoodIn wsJ2_compress_39247 wsJ2_getChar_3b067 := goodIn_r _ [23, 24, 25, 26, 9, 10, 4, 11] rfl (by decide +kernel)
set_option maxRecDepth 20000 in
theorem gJ2_compress_39247_J2_getChar_3b067 : GoodIn wsJ2_compress_39247 (va_wsS RJ2 71 yJ2_getChar_3b067 wsJ2_getChar_3b067) := goodIn_app (goodIn_r _ [21, 22, 4] rfl (by decide +kernel)) ggJ2_compress_39247_J2_getChar_3b067
theorem dJ2_compress_39247_0 : decode cJ2_compress_39247 0 = .ok (.iload_n 2, 1) := by decide +kernel
theorem dJ2_compress_39247_1 : decode cJ2_compress_39247 1 = .ok (.newarray .byte, 2) := by decide +kernel
theorem dJ2_compress_39247_3 : decode cJ2_compress_39247 3 = .ok (.astore_n 3, 1) := by decide +kernel
theorem dJ2_compress_39247_4 : decode cJ2_compress_39247 4 = .ok (.aload_n 0, 1) := by decide +kernel
theorem dJ2_compress_39247_5 : decode cJ2_compress_39247 5 = .ok (.iload_n 1, 1) := by decide +kernel
theorem dJ2_compress_39247_6 : decode cJ2_compress_39247 6 = .ok (.aload_n 3, 1) := by decide +kernel
theorem dJ2_compress_39247_7 : decode cJ2_compress_39247 7 = .ok (.iconst 0, 1) := by decide +kernel
theorem dJ2_compress_39247_8 : decode cJ2_compress_39247 8 = .ok (.iload_n 2, 1) := by decide +kernel
theorem dJ2_compress_39247_9 : decode cJ2_compress_39247 9 = .ok (.invokestatic 123, 3) := by decide +kernel
theorem dJ2_compress_39247_12 : decode cJ2_compress_39247 12 = .ok (.istore 4, 2) := by decide +kernel
theorem dJ2_compress_39247_14 : decode cJ2_compress_39247 14 = .ok (.iload 4, 2) := by decide +kernel
theorem dJ2_compress_39247_16 : decode cJ2_compress_39247 16 = .ok (.iload_n 2, 1) := by decide +kernel
theorem dJ2_compress_39247_17 : decode cJ2_compress_39247 17 = .ok (.if_icmp .eq 47, 3) := by decide +kernel
theorem dJ2_compress_39247_20 : decode cJ2_compress_39247 20 = .ok (.aload_n 0, 1) := by decide +kernel
theorem dJ2_compress_39247_21 : decode cJ2_compress_39247 21 = .ok (.iload_n 1, 1) := by decide +kernel
theorem dJ2_compress_39247_22 : decode cJ2_compress_39247 22 = .ok (.iconst 1, 1) := by decide +kernel
theorem dJ2_compress_39247_23 : decode cJ2_compress_39247 23 = .ok (.ishl, 1) := by decide +kernel
theorem dJ2_compress_39247_24 : decode cJ2_compress_39247 24 = .ok (.iload_n 1, 1) := by decide +kernel
theorem dJ2_compress_39247_25 : decode cJ2_compress_39247 25 = .ok (.iload_n 2, 1) := by decide +kernel
theorem dJ2_compress_39247_26 : decode cJ2_compress_39247 26 = .ok (.iadd, 1) := by decide +kernel
theorem dJ2_compress_39247_27 : decode cJ2_compress_39247 27 = .ok (.invokestatic 11, 3) := by decide +kernel
theorem dJ2_compress_39247_30 : decode cJ2_compress_39247 30 = .ok (.invokestatic 126, 3) := by decide +kernel
theorem dJ2_compress_39247_33 : decode cJ2_compress_39247 33 = .ok (.astore 5, 2) := by decide +kernel
theorem dJ2_compress_39247_35 : decode cJ2_compress_39247 35 = .ok (.aload 5, 2) := by decide +kernel
theorem dJ2_compress_39247_37 : decode cJ2_compress_39247 37 = .ok (.iload 4, 2) := by decide +kernel
theorem dJ2_compress_39247_39 : decode cJ2_compress_39247 39 = .ok (.invokestatic 71, 3) := by decide +kernel
theorem dJ2_compress_39247_42 : decode cJ2_compress_39247 42 = .ok (.sipush 255, 3) := by decide +kernel
theorem dJ2_compress_39247_45 : decode cJ2_compress_39247 45 = .ok (.if_icmp .gt 16, 3) := by decide +kernel
theorem dJ2_compress_39247_48 : decode cJ2_compress_39247 48 = .ok (.aload 5, 2) := by decide +kernel
theorem dJ2_compress_39247_50 : decode cJ2_compress_39247 50 = .ok (.iconst 0, 1) := by decide +kernel
theorem dJ2_compress_39247_51 : decode cJ2_compress_39247 51 = .ok (.aload_n 3, 1) := by decide +kernel
theorem dJ2_compress_39247_52 : decode cJ2_compress_39247 52 = .ok (.iconst 0, 1) := by decide +kernel
theorem dJ2_compress_39247_53 : decode cJ2_compress_39247 53 = .ok (.iload_n 2, 1) := by decide +kernel
theorem dJ2_compress_39247_54 : decode cJ2_compress_39247 54 = .ok (.invokestatic 123, 3) := by decide +kernel
theorem dJ2_compress_39247_57 : decode cJ2_compress_39247 57 = .ok (.iload_n 2, 1) := by decide +kernel
theorem dJ2_compress_39247_58 : decode cJ2_compress_39247 58 = .ok (.if_icmp .eq 6, 3) := by decide +kernel
theorem dJ2_compress_39247_61 : decode cJ2_compress_39247 61 = .ok (.aload 5, 2) := by decide +kernel
theorem dJ2_compress_39247_63 : decode cJ2_compress_39247 63 = .ok (.areturn, 1) := by decide +kernel
theorem dJ2_compress_39247_64 : decode cJ2_compress_39247 64 = .ok (.aload_n 3, 1) := by decide +kernel
theorem dJ2_compress_39247_65 : decode cJ2_compress_39247 65 = .ok (.areturn, 1) := by decide +kernel
set_option maxRecDepth 20000 in
theorem ggJ2_compress_5af95_J2_checkBoundsOffCount_d044e : GoodIn wsJ2_compress_5af95 wsJ2_checkBoundsOffCount_d044e := goodIn_r _ [4, 5, 6, 3, 7, 8, 9, 10, 11, 12, 13, 14, 15, 16] rfl (by decide +kernel)
set_option maxRecDepth 20000 in
theorem gJ2_compress_5af95_J2_checkBoundsOffCount_d044e : GoodIn wsJ2_compress_5af95 (va_wsS RJ2 173 yJ2_checkBoundsOffCount_d044e wsJ2_checkBoundsOffCount_d044e) := goodIn_app (goodIn_r _ [1, 2, 3] rfl (by decide +kernel)) ggJ2_compress_5af95_J2_checkBoundsOffCount_d044e
set_option maxRecDepth 20000 in
theorem ggJ2_compress_5af95_J2_getChar_3b067 : GoodIn wsJ2_compress_5af95 wsJ2_getChar_3b067 := goodIn_r _ [19, 20, 21, 22, 5, 6, 3, 7] rfl (by decide +kernel)
set_option maxRecDepth 20000 in
theorem gJ2_compress_5af95_J2_getChar_3b067 : GoodIn wsJ2_compress_5af95 (va_wsS RJ2 71 yJ2_getChar_3b067 wsJ2_getChar_3b067) := goodIn_app (goodIn_r _ [17, 18, 3] rfl (by decide +kernel)) ggJ2_compress_5af95_J2_getChar_3b067
theorem dJ2_compress_5af95_0 : decode cJ2_compress_5af95 0 = .ok (.iload_n 1, 1) := by decide +kernel
theorem dJ2_compress_5af95_1 : decode cJ2_compress_5af95 1 = .ok (.iload 4, 2) := by decide +kernel
theorem dJ2_compress_5af95_3 : decode cJ2_compress_5af95 3 = .ok (.aload_n 0, 1) := by decide +kernel
theorem dJ2_compress_5af95_4 : decode cJ2_compress_5af95 4 = .ok (.invokestatic 173, 3) := by decide +kernel
theorem dJ2_compress_5af95_7 : decode cJ2_compress_5af95 7 = .ok (.iconst 0, 1) := by decide +kernel
theorem dJ2_compress_5af95_8 : decode cJ2_compress_5af95 8 = .ok (.istore 5, 2) := by decide +kernel
theorem dJ2_compress_5af95_10 : decode cJ2_compress_5af95 10 = .ok (.iload 5, 2) := by decide +kernel
theorem dJ2_compress_5af95_12 : decode cJ2_compress_5af95 12 = .ok (.iload 4, 2) := by decide +kernel
theorem dJ2_compress_5af95_14 : decode cJ2_compress_5af95 14 = .ok (.if_icmp .ge 39, 3) := by decide +kernel
theorem dJ2_compress_5af95_17 : decode cJ2_compress_5af95 17 = .ok (.aload_n 0, 1) := by decide +kernel
theorem dJ2_compress_5af95_18 : decode cJ2_compress_5af95 18 = .ok (.iload_n 1, 1) := by decide +kernel
theorem dJ2_compress_5af95_19 : decode cJ2_compress_5af95 19 = .ok (.invokestatic 71, 3) := by decide +kernel
theorem dJ2_compress_5af95_22 : decode cJ2_compress_5af95 22 = .ok (.istore 6, 2) := by decide +kernel
theorem dJ2_compress_5af95_24 : decode cJ2_compress_5af95 24 = .ok (.iload 6, 2) := by decide +kernel
theorem dJ2_compress_5af95_26 : decode cJ2_compress_5af95 26 = .ok (.sipush 255, 3) := by decide +kernel
theorem dJ2_compress_5af95_29 : decode cJ2_compress_5af95 29 = .ok (.if_icmp .le 6, 3) := by decide +kernel
theorem dJ2_compress_5af95_32 : decode cJ2_compress_5af95 32 = .ok (.iload 5, 2) := by decide +kernel
theorem dJ2_compress_5af95_34 : decode cJ2_compress_5af95 34 = .ok (.ireturn, 1) := by decide +kernel
theorem dJ2_compress_5af95_35 : decode cJ2_compress_5af95 35 = .ok (.aload_n 2, 1) := by decide +kernel
theorem dJ2_compress_5af95_36 : decode cJ2_compress_5af95 36 = .ok (.iload_n 3, 1) := by decide +kernel
theorem dJ2_compress_5af95_37 : decode cJ2_compress_5af95 37 = .ok (.iload 6, 2) := by decide +kernel
theorem dJ2_compress_5af95_39 : decode cJ2_compress_5af95 39 = .ok (.i2b, 1) := by decide +kernel
theorem dJ2_compress_5af95_40 : decode cJ2_compress_5af95 40 = .ok (.bastore, 1) := by decide +kernel
theorem dJ2_compress_5af95_41 : decode cJ2_compress_5af95 41 = .ok (.iinc 1 1, 3) := by decide +kernel
theorem dJ2_compress_5af95_44 : decode cJ2_compress_5af95 44 = .ok (.iinc 3 1, 3) := by decide +kernel
theorem dJ2_compress_5af95_47 : decode cJ2_compress_5af95 47 = .ok (.iinc 5 1, 3) := by decide +kernel
theorem dJ2_compress_5af95_50 : decode cJ2_compress_5af95 50 = .ok (.goto (-40), 3) := by decide +kernel
theorem dJ2_compress_5af95_53 : decode cJ2_compress_5af95 53 = .ok (.iload 4, 2) := by decide +kernel
theorem dJ2_compress_5af95_55 : decode cJ2_compress_5af95 55 = .ok (.ireturn, 1) := by decide +kernel
set_option maxRecDepth 20000 in
theorem ggJ2_getChars_46870_J2_checkBoundsBeginEnd_d044e : GoodIn wsJ2_getChars_46870 wsJ2_checkBoundsBeginEnd_d044e := goodIn_r _ [5, 6, 7, 4, 8, 9, 10, 11, 12, 13, 14, 15, 16, 17] rfl (by decide +kernel)
set_option maxRecDepth 20000 in
theorem gJ2_getChars_46870_J2_checkBoundsBeginEnd_d044e : GoodIn wsJ2_getChars_46870 (va_wsS RJ2 96 yJ2_checkBoundsBeginEnd_d044e wsJ2_checkBoundsBeginEnd_d044e) := goodIn_app (goodIn_r _ [2, 3, 4] rfl (by decide +kernel)) ggJ2_getChars_46870_J2_checkBoundsBeginEnd_d044e
set_option maxRecDepth 20000 in
theorem ggJ2_getChars_46870_J2_getChars_ba4f3 : GoodIn wsJ2_getChars_46870 wsJ2_getChars_ba4f3 := goodIn_r _ [20, 21, 22, 23, 24, 4, 25, 1, 26, 27, 6, 7, 8] rfl (by decide +kernel)
set_option maxRecDepth 20000 in
theorem gJ2_getChars_46870_J2_getChars_ba4f3 : GoodIn wsJ2_getChars_46870 (va_wsS RJ2 393 yJ2_getChars_ba4f3 wsJ2_getChars_ba4f3) := goodIn_app (goodIn_r _ [18, 19, 4] rfl (by decide +kernel)) ggJ2_getChars_46870_J2_getChars_ba4f3
theorem dJ2_getChars_46870_0 : decode cJ2_getChars_46870 0 = .ok (.iload_n 1, 1) := by decide +kernel
theorem dJ2_getChars_46870_1 : decode cJ2_getChars_46870 1 = .ok (.iload_n 2, 1) := by decide +kernel
theorem dJ2_getChars_46870_2 : decode cJ2_getChars_46870 2 = .ok (.aload_n 3, 1) := by decide +kernel
theorem dJ2_getChars_46870_3 : decode cJ2_getChars_46870 3 = .ok (.invokestatic 96, 3) := by decide +kernel
theorem dJ2_getChars_46870_6 : decode cJ2_getChars_46870 6 = .ok (.iload_n 0, 1) := by decide +kernel
theorem dJ2_getChars_46870_7 : decode cJ2_getChars_46870 7 = .ok (.iload_n 2, 1) := by decide +kernel
theorem dJ2_getChars_46870_8 : decode cJ2_getChars_46870 8 = .ok (.aload_n 3, 1) := by decide +kernel
theorem dJ2_getChars_46870_9 : decode cJ2_getChars_46870 9 = .ok (.invokestatic 393, 3) := by decide +kernel
theorem dJ2_getChars_46870_12 : decode cJ2_getChars_46870 12 = .ok (.istore 4, 2) := by decide +kernel
theorem dJ2_getChars_46870_14 : decode cJ2_getChars_46870 14 = .ok (.getstatic 44, 3) := by decide +kernel
theorem dJ2_getChars_46870_17 : decode cJ2_getChars_46870 17 = .ok (.ifCond .ne 17, 3) := by decide +kernel
theorem dJ2_getChars_46870_20 : decode cJ2_getChars_46870 20 = .ok (.iload_n 1, 1) := by decide +kernel
theorem dJ2_getChars_46870_21 : decode cJ2_getChars_46870 21 = .ok (.iload 4, 2) := by decide +kernel
theorem dJ2_getChars_46870_23 : decode cJ2_getChars_46870 23 = .ok (.if_icmp .eq 11, 3) := by decide +kernel
theorem dJ2_getChars_46870_26 : decode cJ2_getChars_46870 26 = .ok (.new 52, 3) := by decide +kernel
theorem dJ2_getChars_46870_29 : decode cJ2_getChars_46870 29 = .ok (.dup, 1) := by decide +kernel
theorem dJ2_getChars_46870_30 : decode cJ2_getChars_46870 30 = .ok (.invokespecial 66, 3) := by decide +kernel
theorem dJ2_getChars_46870_33 : decode cJ2_getChars_46870 33 = .ok (.athrow, 1) := by decide +kernel
theorem dJ2_getChars_46870_34 : decode cJ2_getChars_46870 34 = .ok (.iload 4, 2) := by decide +kernel
theorem dJ2_getChars_46870_36 : decode cJ2_getChars_46870 36 = .ok (.ireturn, 1) := by decide +kernel
set_option maxRecDepth 20000 in
theorem ggJ2_putCharsAt_cd4e5_J2_checkBoundsBeginEnd_d044e : GoodIn wsJ2_putCharsAt_cd4e5 wsJ2_checkBoundsBeginEnd_d044e := goodIn_r _ [5, 6, 7, 4, 8, 9, 10, 11, 12, 13, 14, 15, 16, 17] rfl (by decide +kernel)
set_option maxRecDepth 20000 in
theorem gJ2_putCharsAt_cd4e5_J2_checkBoundsBeginEnd_d044e : GoodIn wsJ2_putCharsAt_cd4e5 (va_wsS RJ2 96 yJ2_checkBoundsBeginEnd_d044e wsJ2_checkBoundsBeginEnd_d044e) := goodIn_app (goodIn_r _ [2, 3, 4] rfl (by decide +kernel)) ggJ2_putCharsAt_cd4e5_J2_checkBoundsBeginEnd_d044e
set_option maxRecDepth 20000 in
theorem ggJ2_putCharsAt_cd4e5_J2_putChar_b72d1 : GoodIn wsJ2_putCharsAt_cd4e5 wsJ2_putChar_b72d1 := goodIn_r _ [20, 1, 21, 22, 6, 7, 4, 8] rfl (by decide +kernel)
set_option maxRecDepth 20000 in
theorem gJ2_putCharsAt_cd4e5_J2_putChar_b72d1 : GoodIn wsJ2_putCharsAt_cd4e5 (va_wsS RJ2 111 yJ2_putChar_b72d1 wsJ2_putChar_b72d1) := goodIn_app (goodIn_r _ [18, 19, 4] rfl (by decide +kernel)) ggJ2_putCharsAt_cd4e5_J2_putChar_b72d1
theorem dJ2_putCharsAt_cd4e5_0 : decode cJ2_putCharsAt_cd4e5 0 = .ok (.iload_n 1, 1) := by decide +kernel
theorem dJ2_putCharsAt_cd4e5_1 : decode cJ2_putCharsAt_cd4e5 1 = .ok (.iconst 4, 1) := by decide +kernel
theorem dJ2_putCharsAt_cd4e5_2 : decode cJ2_putCharsAt_cd4e5 2 = .ok (.iadd, 1) := by decide +kernel
theorem dJ2_putCharsAt_cd4e5_3 : decode cJ2_putCharsAt_cd4e5 3 = .ok (.istore 6, 2) := by decide +kernel
theorem dJ2_putCharsAt_cd4e5_5 : decode cJ2_putCharsAt_cd4e5 5 = .ok (.iload_n 1, 1) := by decide +kernel
theorem dJ2_putCharsAt_cd4e5_6 : decode cJ2_putCharsAt_cd4e5 6 = .ok (.iload 6, 2) := by decide +kernel
theorem dJ2_putCharsAt_cd4e5_8 : decode cJ2_putCharsAt_cd4e5 8 = .ok (.aload_n 0, 1) := by decide +kernel
theorem dJ2_putCharsAt_cd4e5_9 : decode cJ2_putCharsAt_cd4e5 9 = .ok (.invokestatic 96, 3) := by decide +kernel
theorem dJ2_putCharsAt_cd4e5_12 : decode cJ2_putCharsAt_cd4e5 12 = .ok (.aload_n 0, 1) := by decide +kernel
theorem dJ2_putCharsAt_cd4e5_13 : decode cJ2_putCharsAt_cd4e5 13 = .ok (.iload_n 1, 1) := by decide +kernel
theorem dJ2_putCharsAt_cd4e5_14 : decode cJ2_putCharsAt_cd4e5 14 = .ok (.iinc 1 1, 3) := by decide +kernel
theorem dJ2_putCharsAt_cd4e5_17 : decode cJ2_putCharsAt_cd4e5 17 = .ok (.iload_n 2, 1) := by decide +kernel
theorem dJ2_putCharsAt_cd4e5_18 : decode cJ2_putCharsAt_cd4e5 18 = .ok (.invokestatic 111, 3) := by decide +kernel
theorem dJ2_putCharsAt_cd4e5_21 : decode cJ2_putCharsAt_cd4e5 21 = .ok (.aload_n 0, 1) := by decide +kernel
theorem dJ2_putCharsAt_cd4e5_22 : decode cJ2_putCharsAt_cd4e5 22 = .ok (.iload_n 1, 1) := by decide +kernel
theorem dJ2_putCharsAt_cd4e5_23 : decode cJ2_putCharsAt_cd4e5 23 = .ok (.iinc 1 1, 3) := by decide +kernel
theorem dJ2_putCharsAt_cd4e5_26 : decode cJ2_putCharsAt_cd4e5 26 = .ok (.iload_n 3, 1) := by decide +kernel
theorem dJ2_putCharsAt_cd4e5_27 : decode cJ2_putCharsAt_cd4e5 27 = .ok (.invokestatic 111, 3) := by decide +kernel
theorem dJ2_putCharsAt_cd4e5_30 : decode cJ2_putCharsAt_cd4e5 30 = .ok (.aload_n 0, 1) := by decide +kernel
theorem dJ2_putCharsAt_cd4e5_31 : decode cJ2_putCharsAt_cd4e5 31 = .ok (.iload_n 1, 1) := by decide +kernel
theorem dJ2_putCharsAt_cd4e5_32 : decode cJ2_putCharsAt_cd4e5 32 = .ok (.iinc 1 1, 3) := by decide +kernel
theorem dJ2_putCharsAt_cd4e5_35 : decode cJ2_putCharsAt_cd4e5 35 = .ok (.iload 4, 2) := by decide +kernel
theorem dJ2_putCharsAt_cd4e5_37 : decode cJ2_putCharsAt_cd4e5 37 = .ok (.invokestatic 111, 3) := by decide +kernel
theorem dJ2_putCharsAt_cd4e5_40 : decode cJ2_putCharsAt_cd4e5 40 = .ok (.aload_n 0, 1) := by decide +kernel
theorem dJ2_putCharsAt_cd4e5_41 : decode cJ2_putCharsAt_cd4e5 41 = .ok (.iload_n 1, 1) := by decide +kernel
theorem dJ2_putCharsAt_cd4e5_42 : decode cJ2_putCharsAt_cd4e5 42 = .ok (.iinc 1 1, 3) := by decide +kernel
theorem dJ2_putCharsAt_cd4e5_45 : decode cJ2_putCharsAt_cd4e5 45 = .ok (.iload 5, 2) := by decide +kernel
theorem dJ2_putCharsAt_cd4e5_47 : decode cJ2_putCharsAt_cd4e5 47 = .ok (.invokestatic 111, 3) := by decide +kernel
theorem dJ2_putCharsAt_cd4e5_50 : decode cJ2_putCharsAt_cd4e5 50 = .ok (.getstatic 44, 3) := by decide +kernel
theorem dJ2_putCharsAt_cd4e5_53 : decode cJ2_putCharsAt_cd4e5 53 = .ok (.ifCond .ne 17, 3) := by decide +kernel
theorem dJ2_putCharsAt_cd4e5_56 : decode cJ2_putCharsAt_cd4e5 56 = .ok (.iload_n 1, 1) := by decide +kernel
theorem dJ2_putCharsAt_cd4e5_57 : decode cJ2_putCharsAt_cd4e5 57 = .ok (.iload 6, 2) := by decide +kernel
theorem dJ2_putCharsAt_cd4e5_59 : decode cJ2_putCharsAt_cd4e5 59 = .ok (.if_icmp .eq 11, 3) := by decide +kernel
theorem dJ2_putCharsAt_cd4e5_62 : decode cJ2_putCharsAt_cd4e5 62 = .ok (.new 52, 3) := by decide +kernel
theorem dJ2_putCharsAt_cd4e5_65 : decode cJ2_putCharsAt_cd4e5 65 = .ok (.dup, 1) := by decide +kernel
theorem dJ2_putCharsAt_cd4e5_66 : decode cJ2_putCharsAt_cd4e5 66 = .ok (.invokespecial 66, 3) := by decide +kernel
theorem dJ2_putCharsAt_cd4e5_69 : decode cJ2_putCharsAt_cd4e5 69 = .ok (.athrow, 1) := by decide +kernel
theorem dJ2_putCharsAt_cd4e5_70 : decode cJ2_putCharsAt_cd4e5 70 = .ok (.iload 6, 2) := by decide +kernel
theorem dJ2_putCharsAt_cd4e5_72 : decode cJ2_putCharsAt_cd4e5 72 = .ok (.ireturn, 1) := by decide +kernel
set_option maxRecDepth 20000 in
theorem ggJ2_charAt_3b067_J2_checkIndex_2214a : GoodIn wsJ2_charAt_3b067 wsJ2_checkIndex_2214a := goodIn_r _ [4, 5, 6, 3, 7, 8, 9, 10, 11, 12, 13, 14, 15, 16] rfl (by decide +kernel)
set_option maxRecDepth 20000 in
theorem gJ2_charAt_3b067_J2_checkIndex_2214a : GoodIn wsJ2_charAt_3b067 (va_wsS RJ2 67 yJ2_checkIndex_2214a wsJ2_checkIndex_2214a) := goodIn_app (goodIn_r _ [1, 2, 3] rfl (by decide +kernel)) ggJ2_charAt_3b067_J2_checkIndex_2214a
set_option maxRecDepth 20000 in
theorem ggJ2_charAt_3b067_J2_getChar_3b067 : GoodIn wsJ2_charAt_3b067 wsJ2_getChar_3b067 := goodIn_r _ [19, 20, 21, 22, 5, 6, 3, 7] rfl (by decide +kernel)
set_option maxRecDepth 20000 in
theorem gJ2_charAt_3b067_J2_getChar_3b067 : GoodIn wsJ2_charAt_3b067 (va_wsS RJ2 71 yJ2_getChar_3b067 wsJ2_getChar_3b067) := goodIn_app (goodIn_r _ [17, 18, 3] rfl (by decide +kernel)) ggJ2_charAt_3b067_J2_getChar_3b067
theorem dJ2_charAt_3b067_0 : decode cJ2_charAt_3b067 0 = .ok (.iload_n 1, 1) := by decide +kernel
theorem dJ2_charAt_3b067_1 : decode cJ2_charAt_3b067 1 = .ok (.aload_n 0, 1) := by decide +kernel
theorem dJ2_charAt_3b067_2 : decode cJ2_charAt_3b067 2 = .ok (.invokestatic 67, 3) := by decide +kernel
theorem dJ2_charAt_3b067_5 : decode cJ2_charAt_3b067 5 = .ok (.aload_n 0, 1) := by decide +kernel
theorem dJ2_charAt_3b067_6 : decode cJ2_charAt_3b067 6 = .ok (.iload_n 1, 1) := by decide +kernel
theorem dJ2_charAt_3b067_7 : decode cJ2_charAt_3b067 7 = .ok (.invokestatic 71, 3) := by decide +kernel
theorem dJ2_charAt_3b067_10 : decode cJ2_charAt_3b067 10 = .ok (.ireturn, 1) := by decide +kernel
set_option maxRecDepth 20000 in
theorem ggJ2_inflate_0e8fd_J2_checkBoundsOffCount_d044e : GoodIn wsJ2_inflate_0e8fd wsJ2_checkBoundsOffCount_d044e := goodIn_r _ [4, 5, 6, 3, 7, 8, 9, 10, 11, 12, 13, 14, 15, 16] rfl (by decide +kernel)
set_option maxRecDepth 20000 in
theorem gJ2_inflate_0e8fd_J2_checkBoundsOffCount_d044e : GoodIn wsJ2_inflate_0e8fd (va_wsS RJ2 173 yJ2_checkBoundsOffCount_d044e wsJ2_checkBoundsOffCount_d044e) := goodIn_app (goodIn_r _ [1, 2, 3] rfl (by decide +kernel)) ggJ2_inflate_0e8fd_J2_checkBoundsOffCount_d044e
set_option maxRecDepth 20000 in
theorem ggJ2_inflate_0e8fd_J2_putChar_b72d1 : GoodIn wsJ2_inflate_0e8fd wsJ2_putChar_b72d1 := goodIn_r _ [19, 20, 21, 22, 5, 6, 3, 7] rfl (by decide +kernel)
set_option maxRecDepth 20000 in
theorem gJ2_inflate_0e8fd_J2_putChar_b72d1 : GoodIn wsJ2_inflate_0e8fd (va_wsS RJ2 111 yJ2_putChar_b72d1 wsJ2_putChar_b72d1) := goodIn_app (goodIn_r _ [17, 18, 3] rfl (by decide +kernel)) ggJ2_inflate_0e8fd_J2_putChar_b72d1
theorem dJ2_inflate_0e8fd_0 : decode cJ2_inflate_0e8fd 0 = .ok (.iload_n 3, 1) := by decide +kernel
theorem dJ2_inflate_0e8fd_1 : decode cJ2_inflate_0e8fd 1 = .ok (.iload 4, 2) := by decide +kernel
theorem dJ2_inflate_0e8fd_3 : decode cJ2_inflate_0e8fd 3 = .ok (.aload_n 2, 1) := by decide +kernel
theorem dJ2_inflate_0e8fd_4 : decode cJ2_inflate_0e8fd 4 = .ok (.invokestatic 173, 3) := by decide +kernel
theorem dJ2_inflate_0e8fd_7 : decode cJ2_inflate_0e8fd 7 = .ok (.iconst 0, 1) := by decide +kernel
theorem dJ2_inflate_0e8fd_8 : decode cJ2_inflate_0e8fd 8 = .ok (.istore 5, 2) := by decide +kernel
theorem dJ2_inflate_0e8fd_10 : decode cJ2_inflate_0e8fd 10 = .ok (.iload 5, 2) := by decide +kernel
theorem dJ2_inflate_0e8fd_12 : decode cJ2_inflate_0e8fd 12 = .ok (.iload 4, 2) := by decide +kernel
theorem dJ2_inflate_0e8fd_14 : decode cJ2_inflate_0e8fd 14 = .ok (.if_icmp .ge 27, 3) := by decide +kernel
theorem dJ2_inflate_0e8fd_17 : decode cJ2_inflate_0e8fd 17 = .ok (.aload_n 2, 1) := by decide +kernel
theorem dJ2_inflate_0e8fd_18 : decode cJ2_inflate_0e8fd 18 = .ok (.iload_n 3, 1) := by decide +kernel
theorem dJ2_inflate_0e8fd_19 : decode cJ2_inflate_0e8fd 19 = .ok (.iinc 3 1, 3) := by decide +kernel
theorem dJ2_inflate_0e8fd_22 : decode cJ2_inflate_0e8fd 22 = .ok (.aload_n 0, 1) := by decide +kernel
theorem dJ2_inflate_0e8fd_23 : decode cJ2_inflate_0e8fd 23 = .ok (.iload_n 1, 1) := by decide +kernel
theorem dJ2_inflate_0e8fd_24 : decode cJ2_inflate_0e8fd 24 = .ok (.iinc 1 1, 3) := by decide +kernel
theorem dJ2_inflate_0e8fd_27 : decode cJ2_inflate_0e8fd 27 = .ok (.baload, 1) := by decide +kernel
theorem dJ2_inflate_0e8fd_28 : decode cJ2_inflate_0e8fd 28 = .ok (.sipush 255, 3) := by decide +kernel
theorem dJ2_inflate_0e8fd_31 : decode cJ2_inflate_0e8fd 31 = .ok (.iand, 1) := by decide +kernel
theorem dJ2_inflate_0e8fd_32 : decode cJ2_inflate_0e8fd 32 = .ok (.invokestatic 111, 3) := by decide +kernel
theorem dJ2_inflate_0e8fd_35 : decode cJ2_inflate_0e8fd 35 = .ok (.iinc 5 1, 3) := by decide +kernel
theorem dJ2_inflate_0e8fd_38 : decode cJ2_inflate_0e8fd 38 = .ok (.goto (-28), 3) := by decide +kernel
theorem dJ2_inflate_0e8fd_41 : decode cJ2_inflate_0e8fd 41 = .ok (.return_, 1) := by decide +kernel
set_option maxRecDepth 20000 in
theorem ggJ2_getChars_ba4f3_J2_putChar_b72d1 : GoodIn wsJ2_getChars_ba4f3 wsJ2_putChar_b72d1 := goodIn_r _ [6, 7, 8, 9, 10, 11, 5, 12] rfl (by decide +kernel)
set_option maxRecDepth 20000 in
theorem gJ2_getChars_ba4f3_J2_putChar_b72d1 : GoodIn wsJ2_getChars_ba4f3 (va_wsS RJ2 111 yJ2_putChar_b72d1 wsJ2_putChar_b72d1) := goodIn_app (goodIn_r _ [3, 4, 5] rfl (by decide +kernel)) ggJ2_getChars_ba4f3_J2_putChar_b72d1
theorem dJ2_getChars_ba4f3_0 : decode cJ2_getChars_ba4f3 0 = .ok (.iload_n 1, 1) := by decide +kernel
theorem dJ2_getChars_ba4f3_1 : decode cJ2_getChars_ba4f3 1 = .ok (.istore 5, 2) := by decide +kernel
theorem dJ2_getChars_ba4f3_3 : decode cJ2_getChars_ba4f3 3 = .ok (.iload_n 0, 1) := by decide +kernel
theorem dJ2_getChars_ba4f3_4 : decode cJ2_getChars_ba4f3 4 = .ok (.ifCond .ge 7, 3) := by decide +kernel
theorem dJ2_getChars_ba4f3_7 : decode cJ2_getChars_ba4f3 7 = .ok (.iconst 1, 1) := by decide +kernel
theorem dJ2_getChars_ba4f3_8 : decode cJ2_getChars_ba4f3 8 = .ok (.goto 4, 3) := by decide +kernel
theorem dJ2_getChars_ba4f3_11 : decode cJ2_getChars_ba4f3 11 = .ok (.iconst 0, 1) := by decide +kernel
theorem dJ2_getChars_ba4f3_12 : decode cJ2_getChars_ba4f3 12 = .ok (.istore 6, 2) := by decide +kernel
theorem dJ2_getChars_ba4f3_14 : decode cJ2_getChars_ba4f3 14 = .ok (.iload 6, 2) := by decide +kernel
theorem dJ2_getChars_ba4f3_16 : decode cJ2_getChars_ba4f3 16 = .ok (.ifCond .ne 6, 3) := by decide +kernel
theorem dJ2_getChars_ba4f3_19 : decode cJ2_getChars_ba4f3 19 = .ok (.iload_n 0, 1) := by decide +kernel
theorem dJ2_getChars_ba4f3_20 : decode cJ2_getChars_ba4f3 20 = .ok (.ineg, 1) := by decide +kernel
theorem dJ2_getChars_ba4f3_21 : decode cJ2_getChars_ba4f3 21 = .ok (.istore_n 0, 1) := by decide +kernel
theorem dJ2_getChars_ba4f3_22 : decode cJ2_getChars_ba4f3 22 = .ok (.iload_n 0, 1) := by decide +kernel
theorem dJ2_getChars_ba4f3_23 : decode cJ2_getChars_ba4f3 23 = .ok (.bipush (-100), 2) := by decide +kernel
theorem dJ2_getChars_ba4f3_25 : decode cJ2_getChars_ba4f3 25 = .ok (.if_icmp .gt 51, 3) := by decide +kernel
theorem dJ2_getChars_ba4f3_28 : decode cJ2_getChars_ba4f3 28 = .ok (.iload_n 0, 1) := by decide +kernel
theorem dJ2_getChars_ba4f3_29 : decode cJ2_getChars_ba4f3 29 = .ok (.bipush 100, 2) := by decide +kernel
theorem dJ2_getChars_ba4f3_31 : decode cJ2_getChars_ba4f3 31 = .ok (.idiv, 1) := by decide +kernel
theorem dJ2_getChars_ba4f3_32 : decode cJ2_getChars_ba4f3 32 = .ok (.istore_n 3, 1) := by decide +kernel
theorem dJ2_getChars_ba4f3_33 : decode cJ2_getChars_ba4f3 33 = .ok (.iload_n 3, 1) := by decide +kernel
theorem dJ2_getChars_ba4f3_34 : decode cJ2_getChars_ba4f3 34 = .ok (.bipush 100, 2) := by decide +kernel
theorem dJ2_getChars_ba4f3_36 : decode cJ2_getChars_ba4f3 36 = .ok (.imul, 1) := by decide +kernel
theorem dJ2_getChars_ba4f3_37 : decode cJ2_getChars_ba4f3 37 = .ok (.iload_n 0, 1) := by decide +kernel
theorem dJ2_getChars_ba4f3_38 : decode cJ2_getChars_ba4f3 38 = .ok (.isub, 1) := by decide +kernel
theorem dJ2_getChars_ba4f3_39 : decode cJ2_getChars_ba4f3 39 = .ok (.istore 4, 2) := by decide +kernel
theorem dJ2_getChars_ba4f3_41 : decode cJ2_getChars_ba4f3 41 = .ok (.iload_n 3, 1) := by decide +kernel
theorem dJ2_getChars_ba4f3_42 : decode cJ2_getChars_ba4f3 42 = .ok (.istore_n 0, 1) := by decide +kernel
theorem dJ2_getChars_ba4f3_43 : decode cJ2_getChars_ba4f3 43 = .ok (.aload_n 2, 1) := by decide +kernel
theorem dJ2_getChars_ba4f3_44 : decode cJ2_getChars_ba4f3 44 = .ok (.iinc 5 (-1), 3) := by decide +kernel
theorem dJ2_getChars_ba4f3_47 : decode cJ2_getChars_ba4f3 47 = .ok (.iload 5, 2) := by decide +kernel
theorem dJ2_getChars_ba4f3_49 : decode cJ2_getChars_ba4f3 49 = .ok (.getstatic 403, 3) := by decide +kernel
theorem dJ2_getChars_ba4f3_52 : decode cJ2_getChars_ba4f3 52 = .ok (.iload 4, 2) := by decide +kernel
theorem dJ2_getChars_ba4f3_54 : decode cJ2_getChars_ba4f3 54 = .ok (.baload, 1) := by decide +kernel
theorem dJ2_getChars_ba4f3_55 : decode cJ2_getChars_ba4f3 55 = .ok (.invokestatic 111, 3) := by decide +kernel
theorem dJ2_getChars_ba4f3_58 : decode cJ2_getChars_ba4f3 58 = .ok (.aload_n 2, 1) := by decide +kernel
theorem dJ2_getChars_ba4f3_59 : decode cJ2_getChars_ba4f3 59 = .ok (.iinc 5 (-1), 3) := by decide +kernel
theorem dJ2_getChars_ba4f3_62 : decode cJ2_getChars_ba4f3 62 = .ok (.iload 5, 2) := by decide +kernel
theorem dJ2_getChars_ba4f3_64 : decode cJ2_getChars_ba4f3 64 = .ok (.getstatic 407, 3) := by decide +kernel
theorem dJ2_getChars_ba4f3_67 : decode cJ2_getChars_ba4f3 67 = .ok (.iload 4, 2) := by decide +kernel
theorem dJ2_getChars_ba4f3_69 : decode cJ2_getChars_ba4f3 69 = .ok (.baload, 1) := by decide +kernel
theorem dJ2_getChars_ba4f3_70 : decode cJ2_getChars_ba4f3 70 = .ok (.invokestatic 111, 3) := by decide +kernel
theorem dJ2_getChars_ba4f3_73 : decode cJ2_getChars_ba4f3 73 = .ok (.goto (-51), 3) := by decide +kernel
theorem dJ2_getChars_ba4f3_76 : decode cJ2_getChars_ba4f3 76 = .ok (.aload_n 2, 1) := by decide +kernel
theorem dJ2_getChars_ba4f3_77 : decode cJ2_getChars_ba4f3 77 = .ok (.iinc 5 (-1), 3) := by decide +kernel
theorem dJ2_getChars_ba4f3_80 : decode cJ2_getChars_ba4f3 80 = .ok (.iload 5, 2) := by decide +kernel
theorem dJ2_getChars_ba4f3_82 : decode cJ2_getChars_ba4f3 82 = .ok (.getstatic 403, 3) := by decide +kernel
theorem dJ2_getChars_ba4f3_85 : decode cJ2_getChars_ba4f3 85 = .ok (.iload_n 0, 1) := by decide +kernel
theorem dJ2_getChars_ba4f3_86 : decode cJ2_getChars_ba4f3 86 = .ok (.ineg, 1) := by decide +kernel
theorem dJ2_getChars_ba4f3_87 : decode cJ2_getChars_ba4f3 87 = .ok (.baload, 1) := by decide +kernel
theorem dJ2_getChars_ba4f3_88 : decode cJ2_getChars_ba4f3 88 = .ok (.invokestatic 111, 3) := by decide +kernel
theorem dJ2_getChars_ba4f3_91 : decode cJ2_getChars_ba4f3 91 = .ok (.iload_n 0, 1) := by decide +kernel
theorem dJ2_getChars_ba4f3_92 : decode cJ2_getChars_ba4f3 92 = .ok (.bipush (-9), 2) := by decide +kernel
theorem dJ2_getChars_ba4f3_94 : decode cJ2_getChars_ba4f3 94 = .ok (.if_icmp .ge 18, 3) := by decide +kernel
theorem dJ2_getChars_ba4f3_97 : decode cJ2_getChars_ba4f3 97 = .ok (.aload_n 2, 1) := by decide +kernel
theorem dJ2_getChars_ba4f3_98 : decode cJ2_getChars_ba4f3 98 = .ok (.iinc 5 (-1), 3) := by decide +kernel
theorem dJ2_getChars_ba4f3_101 : decode cJ2_getChars_ba4f3 101 = .ok (.iload 5, 2) := by decide +kernel
theorem dJ2_getChars_ba4f3_103 : decode cJ2_getChars_ba4f3 103 = .ok (.getstatic 407, 3) := by decide +kernel
theorem dJ2_getChars_ba4f3_106 : decode cJ2_getChars_ba4f3 106 = .ok (.iload_n 0, 1) := by decide +kernel
theorem dJ2_getChars_ba4f3_107 : decode cJ2_getChars_ba4f3 107 = .ok (.ineg, 1) := by decide +kernel
theorem dJ2_getChars_ba4f3_108 : decode cJ2_getChars_ba4f3 108 = .ok (.baload, 1) := by decide +kernel
theorem dJ2_getChars_ba4f3_109 : decode cJ2_getChars_ba4f3 109 = .ok (.invokestatic 111, 3) := by decide +kernel
theorem dJ2_getChars_ba4f3_112 : decode cJ2_getChars_ba4f3 112 = .ok (.iload 6, 2) := by decide +kernel
theorem dJ2_getChars_ba4f3_114 : decode cJ2_getChars_ba4f3 114 = .ok (.ifCond .eq 14, 3) := by decide +kernel
theorem dJ2_getChars_ba4f3_117 : decode cJ2_getChars_ba4f3 117 = .ok (.aload_n 2, 1) := by decide +kernel
theorem dJ2_getChars_ba4f3_118 : decode cJ2_getChars_ba4f3 118 = .ok (.iinc 5 (-1), 3) := by decide +kernel
theorem dJ2_getChars_ba4f3_121 : decode cJ2_getChars_ba4f3 121 = .ok (.iload 5, 2) := by decide +kernel
theorem dJ2_getChars_ba4f3_123 : decode cJ2_getChars_ba4f3 123 = .ok (.bipush 45, 2) := by decide +kernel
theorem dJ2_getChars_ba4f3_125 : decode cJ2_getChars_ba4f3 125 = .ok (.invokestatic 111, 3) := by decide +kernel
theorem dJ2_getChars_ba4f3_128 : decode cJ2_getChars_ba4f3 128 = .ok (.iload 5, 2) := by decide +kernel
theorem dJ2_getChars_ba4f3_130 : decode cJ2_getChars_ba4f3 130 = .ok (.ireturn, 1) := by decide +kernel
set_option maxRecDepth 20000 in
theorem ggJ2_checkIndex_2214a_J2_length_9d52b : GoodIn wsJ2_checkIndex_2214a wsJ2_length_9d52b := goodIn_r _ [4] rfl (by decide +kernel)
set_option maxRecDepth 20000 in
theorem gJ2_checkIndex_2214a_J2_length_9d52b : GoodIn wsJ2_checkIndex_2214a (va_wsS RJ2 48 yJ2_length_9d52b wsJ2_length_9d52b) := goodIn_app (goodIn_r _ [1, 2, 3] rfl (by decide +kernel)) ggJ2_checkIndex_2214a_J2_length_9d52b
set_option maxRecDepth 20000 in
theorem ggJ2_checkIndex_2214a_J0_checkIndex_df160 : GoodIn wsJ2_checkIndex_2214a wsJ0_checkIndex_df160 := goodIn_r _ [8, 9, 10, 11, 12, 13] rfl (by decide +kernel)
set_option maxRecDepth 20000 in
theorem gJ2_checkIndex_2214a_J0_checkIndex_df160 : GoodIn wsJ2_checkIndex_2214a (va_wsS RJ2 414 yJ0_checkIndex_df160 wsJ0_checkIndex_df160) := goodIn_app (goodIn_r _ [5, 6, 7] rfl (by decide +kernel)) ggJ2_checkIndex_2214a_J0_checkIndex_df160
theorem dJ2_checkIndex_2214a_0 : decode cJ2_checkIndex_2214a 0 = .ok (.iload_n 0, 1) := by decide +kernel
theorem dJ2_checkIndex_2214a_1 : decode cJ2_checkIndex_2214a 1 = .ok (.aload_n 1, 1) := by decide +kernel
theorem dJ2_checkIndex_2214a_2 : decode cJ2_checkIndex_2214a 2 = .ok (.invokestatic 48, 3) := by decide +kernel
theorem dJ2_checkIndex_2214a_5 : decode cJ2_checkIndex_2214a 5 = .ok (.invokestatic 414, 3) := by decide +kernel
theorem dJ2_checkIndex_2214a_8 : decode cJ2_checkIndex_2214a 8 = .ok (.return_, 1) := by decide +kernel
set_option maxRecDepth 20000 in
theorem ggJ2_checkBoundsBeginEnd_d044e_J2_length_9d52b : GoodIn wsJ2_checkBoundsBeginEnd_d044e wsJ2_length_9d52b := goodIn_r _ [4] rfl (by decide +kernel)
set_option maxRecDepth 20000 in
theorem gJ2_checkBoundsBeginEnd_d044e_J2_length_9d52b : GoodIn wsJ2_checkBoundsBeginEnd_d044e (va_wsS RJ2 48 yJ2_length_9d52b wsJ2_length_9d52b) := goodIn_app (goodIn_r _ [1, 2, 3] rfl (by decide +kernel)) ggJ2_checkBoundsBeginEnd_d044e_J2_length_9d52b
set_option maxRecDepth 20000 in
theorem ggJ2_checkBoundsBeginEnd_d044e_J0_checkBoundsBeginEnd_23922 : GoodIn wsJ2_checkBoundsBeginEnd_d044e wsJ0_checkBoundsBeginEnd_23922 := goodIn_r _ [8, 9, 10, 11, 12, 13] rfl (by decide +kernel)
set_option maxRecDepth 20000 in
theorem gJ2_checkBoundsBeginEnd_d044e_J0_checkBoundsBeginEnd_23922 : GoodIn wsJ2_checkBoundsBeginEnd_d044e (va_wsS RJ2 241 yJ0_checkBoundsBeginEnd_23922 wsJ0_checkBoundsBeginEnd_23922) := goodIn_app (goodIn_r _ [5, 6, 7] rfl (by decide +kernel)) ggJ2_checkBoundsBeginEnd_d044e_J0_checkBoundsBeginEnd_23922
theorem dJ2_checkBoundsBeginEnd_d044e_0 : decode cJ2_checkBoundsBeginEnd_d044e 0 = .ok (.iload_n 0, 1) := by decide +kernel
theorem dJ2_checkBoundsBeginEnd_d044e_1 : decode cJ2_checkBoundsBeginEnd_d044e 1 = .ok (.iload_n 1, 1) := by decide +kernel
theorem dJ2_checkBoundsBeginEnd_d044e_2 : decode cJ2_checkBoundsBeginEnd_d044e 2 = .ok (.aload_n 2, 1) := by decide +kernel
theorem dJ2_checkBoundsBeginEnd_d044e_3 : decode cJ2_checkBoundsBeginEnd_d044e 3 = .ok (.invokestatic 48, 3) := by decide +kernel
theorem dJ2_checkBoundsBeginEnd_d044e_6 : decode cJ2_checkBoundsBeginEnd_d044e 6 = .ok (.invokestatic 241, 3) := by decide +kernel
theorem dJ2_checkBoundsBeginEnd_d044e_9 : decode cJ2_checkBoundsBeginEnd_d044e 9 = .ok (.return_, 1) := by decide +kernel
set_option maxRecDepth 20000 in
theorem ggJ2_checkBoundsOffCount_d044e_J2_length_9d52b : GoodIn wsJ2_checkBoundsOffCount_d044e wsJ2_length_9d52b := goodIn_r _ [4] rfl (by decide +kernel)
set_option maxRecDepth 20000 in
theorem gJ2_checkBoundsOffCount_d044e_J2_length_9d52b : GoodIn wsJ2_checkBoundsOffCount_d044e (va_wsS RJ2 48 yJ2_length_9d52b wsJ2_length_9d52b) := goodIn_app (goodIn_r _ [1, 2, 3] rfl (by decide +kernel)) ggJ2_checkBoundsOffCount_d044e_J2_length_9d52b
set_option maxRecDepth 20000 in
theorem ggJ2_checkBoundsOffCount_d044e_J0_checkBoundsOffCount_cabcc : GoodIn wsJ2_checkBoundsOffCount_d044e wsJ0_checkBoundsOffCount_cabcc := goodIn_r _ [8, 9, 10, 11, 12, 13] rfl (by decide +kernel)
set_option maxRecDepth 20000 in
theorem gJ2_checkBoundsOffCount_d044e_J0_checkBoundsOffCount_cabcc : GoodIn wsJ2_checkBoundsOffCount_d044e (va_wsS RJ2 419 yJ0_checkBoundsOffCount_cabcc wsJ0_checkBoundsOffCount_cabcc) := goodIn_app (goodIn_r _ [5, 6, 7] rfl (by decide +kernel)) ggJ2_checkBoundsOffCount_d044e_J0_checkBoundsOffCount_cabcc
theorem dJ2_checkBoundsOffCount_d044e_0 : decode cJ2_checkBoundsOffCount_d044e 0 = .ok (.iload_n 0, 1) := by decide +kernel
theorem dJ2_checkBoundsOffCount_d044e_1 : decode cJ2_checkBoundsOffCount_d044e 1 = .ok (.iload_n 1, 1) := by decide +kernel
theorem dJ2_checkBoundsOffCount_d044e_2 : decode cJ2_checkBoundsOffCount_d044e 2 = .ok (.aload_n 2, 1) := by decide +kernel
theorem dJ2_checkBoundsOffCount_d044e_3 : decode cJ2_checkBoundsOffCount_d044e 3 = .ok (.invokestatic 48, 3) := by decide +kernel
theorem dJ2_checkBoundsOffCount_d044e_6 : decode cJ2_checkBoundsOffCount_d044e 6 = .ok (.invokestatic 419, 3) := by decide +kernel
theorem dJ2_checkBoundsOffCount_d044e_9 : decode cJ2_checkBoundsOffCount_d044e 9 = .ok (.pop, 1) := by decide +kernel
theorem dJ2_checkBoundsOffCount_d044e_10 : decode cJ2_checkBoundsOffCount_d044e 10 = .ok (.return_, 1) := by decide +kernel
theorem dJ7_copyOf_9075b_0 : decode cJ7_copyOf_9075b 0 = .ok (.iload_n 1, 1) := by decide +kernel
theorem dJ7_copyOf_9075b_1 : decode cJ7_copyOf_9075b 1 = .ok (.aload_n 0, 1) := by decide +kernel
theorem dJ7_copyOf_9075b_2 : decode cJ7_copyOf_9075b 2 = .ok (.arraylength, 1) := by decide +kernel
theorem dJ7_copyOf_9075b_3 : decode cJ7_copyOf_9075b 3 = .ok (.if_icmp .ne 11, 3) := by decide +kernel
theorem dJ7_copyOf_9075b_6 : decode cJ7_copyOf_9075b 6 = .ok (.aload_n 0, 1) := by decide +kernel
theorem dJ7_copyOf_9075b_7 : decode cJ7_copyOf_9075b 7 = .ok (.invokevirtual 310, 3) := by decide +kernel
theorem dJ7_copyOf_9075b_10 : decode cJ7_copyOf_9075b 10 = .ok (.checkcast 311, 3) := by decide +kernel
theorem dJ7_copyOf_9075b_13 : decode cJ7_copyOf_9075b 13 = .ok (.areturn, 1) := by decide +kernel
theorem dJ7_copyOf_9075b_14 : decode cJ7_copyOf_9075b 14 = .ok (.iload_n 1, 1) := by decide +kernel
theorem dJ7_copyOf_9075b_15 : decode cJ7_copyOf_9075b 15 = .ok (.newarray .byte, 2) := by decide +kernel
theorem dJ7_copyOf_9075b_17 : decode cJ7_copyOf_9075b 17 = .ok (.astore_n 2, 1) := by decide +kernel
theorem dJ7_copyOf_9075b_18 : decode cJ7_copyOf_9075b 18 = .ok (.aload_n 0, 1) := by decide +kernel
theorem dJ7_copyOf_9075b_19 : decode cJ7_copyOf_9075b 19 = .ok (.iconst 0, 1) := by decide +kernel
theorem dJ7_copyOf_9075b_20 : decode cJ7_copyOf_9075b 20 = .ok (.aload_n 2, 1) := by decide +kernel
theorem dJ7_copyOf_9075b_21 : decode cJ7_copyOf_9075b 21 = .ok (.iconst 0, 1) := by decide +kernel
theorem dJ7_copyOf_9075b_22 : decode cJ7_copyOf_9075b 22 = .ok (.aload_n 0, 1) := by decide +kernel
theorem dJ7_copyOf_9075b_23 : decode cJ7_copyOf_9075b 23 = .ok (.arraylength, 1) := by decide +kernel
theorem dJ7_copyOf_9075b_24 : decode cJ7_copyOf_9075b 24 = .ok (.iload_n 1, 1) := by decide +kernel
theorem dJ7_copyOf_9075b_25 : decode cJ7_copyOf_9075b 25 = .ok (.invokestatic 304, 3) := by decide +kernel
theorem dJ7_copyOf_9075b_28 : decode cJ7_copyOf_9075b 28 = .ok (.invokestatic 150, 3) := by decide +kernel
theorem dJ7_copyOf_9075b_31 : decode cJ7_copyOf_9075b 31 = .ok (.aload_n 2, 1) := by decide +kernel
theorem dJ7_copyOf_9075b_32 : decode cJ7_copyOf_9075b 32 = .ok (.areturn, 1) := by decide +kernel
theorem dJ7_checkLength_df160_0 : decode cJ7_checkLength_df160 0 = .ok (.iload_n 1, 1) := by decide +kernel
theorem dJ7_checkLength_df160_1 : decode cJ7_checkLength_df160 1 = .ok (.iload_n 0, 1) := by decide +kernel
theorem dJ7_checkLength_df160_2 : decode cJ7_checkLength_df160 2 = .ok (.if_icmp .ge 35, 3) := by decide +kernel
theorem dJ7_checkLength_df160_5 : decode cJ7_checkLength_df160 5 = .ok (.new 43, 3) := by decide +kernel
theorem dJ7_checkLength_df160_8 : decode cJ7_checkLength_df160 8 = .ok (.dup, 1) := by decide +kernel
theorem dJ7_checkLength_df160_9 : decode cJ7_checkLength_df160 9 = .ok (.new 45, 3) := by decide +kernel
theorem dJ7_checkLength_df160_12 : decode cJ7_checkLength_df160 12 = .ok (.dup, 1) := by decide +kernel
theorem dJ7_checkLength_df160_13 : decode cJ7_checkLength_df160 13 = .ok (.invokespecial 47, 3) := by decide +kernel
theorem dJ7_checkLength_df160_16 : decode cJ7_checkLength_df160 16 = .ok (.iload_n 0, 1) := by decide +kernel
theorem dJ7_checkLength_df160_17 : decode cJ7_checkLength_df160 17 = .ok (.invokevirtual 54, 3) := by decide +kernel
theorem dJ7_checkLength_df160_20 : decode cJ7_checkLength_df160 20 = .ok (.ldc_w 337, 3) := by decide +kernel
theorem dJ7_checkLength_df160_23 : decode cJ7_checkLength_df160 23 = .ok (.invokevirtual 50, 3) := by decide +kernel
theorem dJ7_checkLength_df160_26 : decode cJ7_checkLength_df160 26 = .ok (.iload_n 1, 1) := by decide +kernel
theorem dJ7_checkLength_df160_27 : decode cJ7_checkLength_df160 27 = .ok (.invokevirtual 54, 3) := by decide +kernel
theorem dJ7_checkLength_df160_30 : decode cJ7_checkLength_df160 30 = .ok (.invokevirtual 61, 3) := by decide +kernel
theorem dJ7_checkLength_df160_33 : decode cJ7_checkLength_df160 33 = .ok (.invokespecial 65, 3) := by decide +kernel
theorem dJ7_checkLength_df160_36 : decode cJ7_checkLength_df160 36 = .ok (.athrow, 1) := by decide +kernel
theorem dJ7_checkLength_df160_37 : decode cJ7_checkLength_df160 37 = .ok (.return_, 1) := by decide +kernel
set_option maxRecDepth 20000 in
theorem ggJ7_copyOfRange_39247_J7_copyOfRangeByte_39247 : GoodIn wsJ7_copyOfRange_39247 wsJ7_copyOfRangeByte_39247 := goodIn_r _ [10, 11, 12, 13, 14, 15, 16, 17, 18, 19, 20, 21, 9, 22, 23, 24, 25, 26, 27, 28, 29] rfl (by decide +kernel)
set_option maxRecDepth 20000 in
theorem gJ7_copyOfRange_39247_J7_copyOfRangeByte_39247 : GoodIn wsJ7_copyOfRange_39247 (va_wsS RJ7 339 yJ7_copyOfRangeByte_39247 wsJ7_copyOfRangeByte_39247) := goodIn_app (goodIn_r _ [7, 8, 9] rfl (by decide +kernel)) ggJ7_copyOfRange_39247_J7_copyOfRangeByte_39247
theorem dJ7_copyOfRange_39247_0 : decode cJ7_copyOfRange_39247 0 = .ok (.iload_n 1, 1) := by decide +kernel
theorem dJ7_copyOfRange_39247_1 : decode cJ7_copyOfRange_39247 1 = .ok (.ifCond .ne 9, 3) := by decide +kernel
theorem dJ7_copyOfRange_39247_4 : decode cJ7_copyOfRange_39247 4 = .ok (.iload_n 2, 1) := by decide +kernel
theorem dJ7_copyOfRange_39247_5 : decode cJ7_copyOfRange_39247 5 = .ok (.aload_n 0, 1) := by decide +kernel
theorem dJ7_copyOfRange_39247_6 : decode cJ7_copyOfRange_39247 6 = .ok (.arraylength, 1) := by decide +kernel
theorem dJ7_copyOfRange_39247_7 : decode cJ7_copyOfRange_39247 7 = .ok (.if_icmp .eq 10, 3) := by decide +kernel
theorem dJ7_copyOfRange_39247_10 : decode cJ7_copyOfRange_39247 10 = .ok (.aload_n 0, 1) := by decide +kernel
theorem dJ7_copyOfRange_39247_11 : decode cJ7_copyOfRange_39247 11 = .ok (.iload_n 1, 1) := by decide +kernel
theorem dJ7_copyOfRange_39247_12 : decode cJ7_copyOfRange_39247 12 = .ok (.iload_n 2, 1) := by decide +kernel
theorem dJ7_copyOfRange_39247_13 : decode cJ7_copyOfRange_39247 13 = .ok (.invokestatic 339, 3) := by decide +kernel
theorem dJ7_copyOfRange_39247_16 : decode cJ7_copyOfRange_39247 16 = .ok (.areturn, 1) := by decide +kernel
theorem dJ7_copyOfRange_39247_17 : decode cJ7_copyOfRange_39247 17 = .ok (.aload_n 0, 1) := by decide +kernel
theorem dJ7_copyOfRange_39247_18 : decode cJ7_copyOfRange_39247 18 = .ok (.invokevirtual 310, 3) := by decide +kernel
theorem dJ7_copyOfRange_39247_21 : decode cJ7_copyOfRange_39247 21 = .ok (.checkcast 311, 3) := by decide +kernel
theorem dJ7_copyOfRange_39247_24 : decode cJ7_copyOfRange_39247 24 = .ok (.areturn, 1) := by decide +kernel
set_option maxRecDepth 20000 in
theorem ggJ7_copyOfRangeByte_39247_J7_checkLength_df160 : GoodIn wsJ7_copyOfRangeByte_39247 wsJ7_checkLength_df160 := goodIn_r _ [13, 14, 15, 16, 17, 18, 19, 20] rfl (by decide +kernel)
set_option maxRecDepth 20000 in
theorem gJ7_copyOfRangeByte_39247_J7_checkLength_df160 : GoodIn wsJ7_copyOfRangeByte_39247 (va_wsS RJ7 343 yJ7_checkLength_df160 wsJ7_checkLength_df160) := goodIn_app (goodIn_r _ [10, 11, 12] rfl (by decide +kernel)) ggJ7_copyOfRangeByte_39247_J7_checkLength_df160
theorem dJ7_copyOfRangeByte_39247_0 : decode cJ7_copyOfRangeByte_39247 0 = .ok (.iload_n 1, 1) := by decide +kernel
theorem dJ7_copyOfRangeByte_39247_1 : decode cJ7_copyOfRangeByte_39247 1 = .ok (.iload_n 2, 1) := by decide +kernel
theorem dJ7_copyOfRangeByte_39247_2 : decode cJ7_copyOfRangeByte_39247 2 = .ok (.invokestatic 343, 3) := by decide +kernel
theorem dJ7_copyOfRangeByte_39247_5 : decode cJ7_copyOfRangeByte_39247 5 = .ok (.iload_n 2, 1) := by decide +kernel
theorem dJ7_copyOfRangeByte_39247_6 : decode cJ7_copyOfRangeByte_39247 6 = .ok (.iload_n 1, 1) := by decide +kernel
theorem dJ7_copyOfRangeByte_39247_7 : decode cJ7_copyOfRangeByte_39247 7 = .ok (.isub, 1) := by decide +kernel
theorem dJ7_copyOfRangeByte_39247_8 : decode cJ7_copyOfRangeByte_39247 8 = .ok (.istore_n 3, 1) := by decide +kernel
theorem dJ7_copyOfRangeByte_39247_9 : decode cJ7_copyOfRangeByte_39247 9 = .ok (.iload_n 3, 1) := by decide +kernel
theorem dJ7_copyOfRangeByte_39247_10 : decode cJ7_copyOfRangeByte_39247 10 = .ok (.newarray .byte, 2) := by decide +kernel
theorem dJ7_copyOfRangeByte_39247_12 : decode cJ7_copyOfRangeByte_39247 12 = .ok (.astore 4, 2) := by decide +kernel
theorem dJ7_copyOfRangeByte_39247_14 : decode cJ7_copyOfRangeByte_39247 14 = .ok (.aload_n 0, 1) := by decide +kernel
theorem dJ7_copyOfRangeByte_39247_15 : decode cJ7_copyOfRangeByte_39247 15 = .ok (.iload_n 1, 1) := by decide +kernel
theorem dJ7_copyOfRangeByte_39247_16 : decode cJ7_copyOfRangeByte_39247 16 = .ok (.aload 4, 2) := by decide +kernel
theorem dJ7_copyOfRangeByte_39247_18 : decode cJ7_copyOfRangeByte_39247 18 = .ok (.iconst 0, 1) := by decide +kernel
theorem dJ7_copyOfRangeByte_39247_19 : decode cJ7_copyOfRangeByte_39247 19 = .ok (.aload_n 0, 1) := by decide +kernel
theorem dJ7_copyOfRangeByte_39247_20 : decode cJ7_copyOfRangeByte_39247 20 = .ok (.arraylength, 1) := by decide +kernel
theorem dJ7_copyOfRangeByte_39247_21 : decode cJ7_copyOfRangeByte_39247 21 = .ok (.iload_n 1, 1) := by decide +kernel
theorem dJ7_copyOfRangeByte_39247_22 : decode cJ7_copyOfRangeByte_39247 22 = .ok (.isub, 1) := by decide +kernel
theorem dJ7_copyOfRangeByte_39247_23 : decode cJ7_copyOfRangeByte_39247 23 = .ok (.iload_n 3, 1) := by decide +kernel
theorem dJ7_copyOfRangeByte_39247_24 : decode cJ7_copyOfRangeByte_39247 24 = .ok (.invokestatic 304, 3) := by decide +kernel
theorem dJ7_copyOfRangeByte_39247_27 : decode cJ7_copyOfRangeByte_39247 27 = .ok (.invokestatic 150, 3) := by decide +kernel
theorem dJ7_copyOfRangeByte_39247_30 : decode cJ7_copyOfRangeByte_39247 30 = .ok (.aload 4, 2) := by decide +kernel
theorem dJ7_copyOfRangeByte_39247_32 : decode cJ7_copyOfRangeByte_39247 32 = .ok (.areturn, 1) := by decide +kernel
set_option maxRecDepth 20000 in
theorem ggJ8_newLength_cabcc_J8_hugeLength_7cf53 : GoodIn wsJ8_newLength_cabcc wsJ8_hugeLength_7cf53 := goodIn_r _ [9, 5] rfl (by decide +kernel)
set_option maxRecDepth 20000 in
theorem gJ8_newLength_cabcc_J8_hugeLength_7cf53 : GoodIn wsJ8_newLength_cabcc (va_wsS RJ8 201 yJ8_hugeLength_7cf53 wsJ8_hugeLength_7cf53) := goodIn_app (goodIn_r _ [6, 7, 8] rfl (by decide +kernel)) ggJ8_newLength_cabcc_J8_hugeLength_7cf53
theorem dJ8_newLength_cabcc_0 : decode cJ8_newLength_cabcc 0 = .ok (.iload_n 0, 1) := by decide +kernel
theorem dJ8_newLength_cabcc_1 : decode cJ8_newLength_cabcc 1 = .ok (.iload_n 1, 1) := by decide +kernel
theorem dJ8_newLength_cabcc_2 : decode cJ8_newLength_cabcc 2 = .ok (.iload_n 2, 1) := by decide +kernel
theorem dJ8_newLength_cabcc_3 : decode cJ8_newLength_cabcc 3 = .ok (.invokestatic 194, 3) := by decide +kernel
theorem dJ8_newLength_cabcc_6 : decode cJ8_newLength_cabcc 6 = .ok (.iadd, 1) := by decide +kernel
theorem dJ8_newLength_cabcc_7 : decode cJ8_newLength_cabcc 7 = .ok (.istore_n 3, 1) := by decide +kernel
theorem dJ8_newLength_cabcc_8 : decode cJ8_newLength_cabcc 8 = .ok (.iconst 0, 1) := by decide +kernel
theorem dJ8_newLength_cabcc_9 : decode cJ8_newLength_cabcc 9 = .ok (.iload_n 3, 1) := by decide +kernel
theorem dJ8_newLength_cabcc_10 : decode cJ8_newLength_cabcc 10 = .ok (.if_icmp .ge 11, 3) := by decide +kernel
theorem dJ8_newLength_cabcc_13 : decode cJ8_newLength_cabcc 13 = .ok (.iload_n 3, 1) := by decide +kernel
theorem dJ8_newLength_cabcc_14 : decode cJ8_newLength_cabcc 14 = .ok (.ldc 200, 2) := by decide +kernel
theorem dJ8_newLength_cabcc_16 : decode cJ8_newLength_cabcc 16 = .ok (.if_icmp .gt 5, 3) := by decide +kernel
theorem dJ8_newLength_cabcc_19 : decode cJ8_newLength_cabcc 19 = .ok (.iload_n 3, 1) := by decide +kernel
theorem dJ8_newLength_cabcc_20 : decode cJ8_newLength_cabcc 20 = .ok (.ireturn, 1) := by decide +kernel
theorem dJ8_newLength_cabcc_21 : decode cJ8_newLength_cabcc 21 = .ok (.iload_n 0, 1) := by decide +kernel
theorem dJ8_newLength_cabcc_22 : decode cJ8_newLength_cabcc 22 = .ok (.iload_n 1, 1) := by decide +kernel
theorem dJ8_newLength_cabcc_23 : decode cJ8_newLength_cabcc 23 = .ok (.invokestatic 201, 3) := by decide +kernel
theorem dJ8_newLength_cabcc_26 : decode cJ8_newLength_cabcc 26 = .ok (.ireturn, 1) := by decide +kernel
theorem dJ8_hugeLength_7cf53_0 : decode cJ8_hugeLength_7cf53 0 = .ok (.iload_n 0, 1) := by decide +kernel
theorem dJ8_hugeLength_7cf53_1 : decode cJ8_hugeLength_7cf53 1 = .ok (.iload_n 1, 1) := by decide +kernel
theorem dJ8_hugeLength_7cf53_2 : decode cJ8_hugeLength_7cf53 2 = .ok (.iadd, 1) := by decide +kernel
theorem dJ8_hugeLength_7cf53_3 : decode cJ8_hugeLength_7cf53 3 = .ok (.istore_n 2, 1) := by decide +kernel
theorem dJ8_hugeLength_7cf53_4 : decode cJ8_hugeLength_7cf53 4 = .ok (.iload_n 2, 1) := by decide +kernel
theorem dJ8_hugeLength_7cf53_5 : decode cJ8_hugeLength_7cf53 5 = .ok (.ifCond .ge 44, 3) := by decide +kernel
theorem dJ8_hugeLength_7cf53_8 : decode cJ8_hugeLength_7cf53 8 = .ok (.new 204, 3) := by decide +kernel
theorem dJ8_hugeLength_7cf53_11 : decode cJ8_hugeLength_7cf53 11 = .ok (.dup, 1) := by decide +kernel
theorem dJ8_hugeLength_7cf53_12 : decode cJ8_hugeLength_7cf53 12 = .ok (.new 89, 3) := by decide +kernel
theorem dJ8_hugeLength_7cf53_15 : decode cJ8_hugeLength_7cf53 15 = .ok (.dup, 1) := by decide +kernel
theorem dJ8_hugeLength_7cf53_16 : decode cJ8_hugeLength_7cf53 16 = .ok (.invokespecial 91, 3) := by decide +kernel
theorem dJ8_hugeLength_7cf53_19 : decode cJ8_hugeLength_7cf53 19 = .ok (.ldc 206, 2) := by decide +kernel
theorem dJ8_hugeLength_7cf53_21 : decode cJ8_hugeLength_7cf53 21 = .ok (.invokevirtual 94, 3) := by decide +kernel
theorem dJ8_hugeLength_7cf53_24 : decode cJ8_hugeLength_7cf53 24 = .ok (.iload_n 0, 1) := by decide +kernel
theorem dJ8_hugeLength_7cf53_25 : decode cJ8_hugeLength_7cf53 25 = .ok (.invokevirtual 98, 3) := by decide +kernel
theorem dJ8_hugeLength_7cf53_28 : decode cJ8_hugeLength_7cf53 28 = .ok (.ldc 208, 2) := by decide +kernel
theorem dJ8_hugeLength_7cf53_30 : decode cJ8_hugeLength_7cf53 30 = .ok (.invokevirtual 94, 3) := by decide +kernel
theorem dJ8_hugeLength_7cf53_33 : decode cJ8_hugeLength_7cf53 33 = .ok (.iload_n 1, 1) := by decide +kernel
theorem dJ8_hugeLength_7cf53_34 : decode cJ8_hugeLength_7cf53 34 = .ok (.invokevirtual 98, 3) := by decide +kernel
theorem dJ8_hugeLength_7cf53_37 : decode cJ8_hugeLength_7cf53 37 = .ok (.ldc 210, 2) := by decide +kernel
theorem dJ8_hugeLength_7cf53_39 : decode cJ8_hugeLength_7cf53 39 = .ok (.invokevirtual 94, 3) := by decide +kernel
theorem dJ8_hugeLength_7cf53_42 : decode cJ8_hugeLength_7cf53 42 = .ok (.invokevirtual 101, 3) := by decide +kernel
theorem dJ8_hugeLength_7cf53_45 : decode cJ8_hugeLength_7cf53 45 = .ok (.invokespecial 212, 3) := by decide +kernel
theorem dJ8_hugeLength_7cf53_48 : decode cJ8_hugeLength_7cf53 48 = .ok (.athrow, 1) := by decide +kernel
theorem dJ8_hugeLength_7cf53_49 : decode cJ8_hugeLength_7cf53 49 = .ok (.iload_n 2, 1) := by decide +kernel
theorem dJ8_hugeLength_7cf53_50 : decode cJ8_hugeLength_7cf53 50 = .ok (.ldc 200, 2) := by decide +kernel
theorem dJ8_hugeLength_7cf53_52 : decode cJ8_hugeLength_7cf53 52 = .ok (.if_icmp .gt 6, 3) := by decide +kernel
theorem dJ8_hugeLength_7cf53_55 : decode cJ8_hugeLength_7cf53 55 = .ok (.ldc 200, 2) := by decide +kernel
theorem dJ8_hugeLength_7cf53_57 : decode cJ8_hugeLength_7cf53 57 = .ok (.ireturn, 1) := by decide +kernel
theorem dJ8_hugeLength_7cf53_58 : decode cJ8_hugeLength_7cf53 58 = .ok (.iload_n 2, 1) := by decide +kernel
theorem dJ8_hugeLength_7cf53_59 : decode cJ8_hugeLength_7cf53 59 = .ok (.ireturn, 1) := by decide +kernel
theorem dJ3_checkIndex_8e157_0 : decode cJ3_checkIndex_8e157 0 = .ok (.iload_n 0, 1) := by decide +kernel
theorem dJ3_checkIndex_8e157_1 : decode cJ3_checkIndex_8e157 1 = .ok (.ifCond .lt 8, 3) := by decide +kernel
theorem dJ3_checkIndex_8e157_4 : decode cJ3_checkIndex_8e157 4 = .ok (.iload_n 0, 1) := by decide +kernel
theorem dJ3_checkIndex_8e157_5 : decode cJ3_checkIndex_8e157 5 = .ok (.iload_n 1, 1) := by decide +kernel
theorem dJ3_checkIndex_8e157_6 : decode cJ3_checkIndex_8e157 6 = .ok (.if_icmp .lt 10, 3) := by decide +kernel
theorem dJ3_checkIndex_8e157_9 : decode cJ3_checkIndex_8e157 9 = .ok (.aload_n 2, 1) := by decide +kernel
theorem dJ3_checkIndex_8e157_10 : decode cJ3_checkIndex_8e157 10 = .ok (.iload_n 0, 1) := by decide +kernel
theorem dJ3_checkIndex_8e157_11 : decode cJ3_checkIndex_8e157 11 = .ok (.iload_n 1, 1) := by decide +kernel
theorem dJ3_checkIndex_8e157_12 : decode cJ3_checkIndex_8e157 12 = .ok (.invokestatic 95, 3) := by decide +kernel
theorem dJ3_checkIndex_8e157_15 : decode cJ3_checkIndex_8e157 15 = .ok (.athrow, 1) := by decide +kernel
theorem dJ3_checkIndex_8e157_16 : decode cJ3_checkIndex_8e157 16 = .ok (.iload_n 0, 1) := by decide +kernel
theorem dJ3_checkIndex_8e157_17 : decode cJ3_checkIndex_8e157 17 = .ok (.ireturn, 1) := by decide +kernel
theorem dJ3_checkFromToIndex_8c36e_0 : decode cJ3_checkFromToIndex_8c36e 0 = .ok (.iload_n 0, 1) := by decide +kernel
theorem dJ3_checkFromToIndex_8c36e_1 : decode cJ3_checkFromToIndex_8c36e 1 = .ok (.ifCond .lt 13, 3) := by decide +kernel
theorem dJ3_checkFromToIndex_8c36e_4 : decode cJ3_checkFromToIndex_8c36e 4 = .ok (.iload_n 0, 1) := by decide +kernel
theorem dJ3_checkFromToIndex_8c36e_5 : decode cJ3_checkFromToIndex_8c36e 5 = .ok (.iload_n 1, 1) := by decide +kernel
theorem dJ3_checkFromToIndex_8c36e_6 : decode cJ3_checkFromToIndex_8c36e 6 = .ok (.if_icmp .gt 8, 3) := by decide +kernel
theorem dJ3_checkFromToIndex_8c36e_9 : decode cJ3_checkFromToIndex_8c36e 9 = .ok (.iload_n 1, 1) := by decide +kernel
theorem dJ3_checkFromToIndex_8c36e_10 : decode cJ3_checkFromToIndex_8c36e 10 = .ok (.iload_n 2, 1) := by decide +kernel
theorem dJ3_checkFromToIndex_8c36e_11 : decode cJ3_checkFromToIndex_8c36e 11 = .ok (.if_icmp .le 11, 3) := by decide +kernel
theorem dJ3_checkFromToIndex_8c36e_14 : decode cJ3_checkFromToIndex_8c36e 14 = .ok (.aload_n 3, 1) := by decide +kernel
theorem dJ3_checkFromToIndex_8c36e_15 : decode cJ3_checkFromToIndex_8c36e 15 = .ok (.iload_n 0, 1) := by decide +kernel
theorem dJ3_checkFromToIndex_8c36e_16 : decode cJ3_checkFromToIndex_8c36e 16 = .ok (.iload_n 1, 1) := by decide +kernel
theorem dJ3_checkFromToIndex_8c36e_17 : decode cJ3_checkFromToIndex_8c36e 17 = .ok (.iload_n 2, 1) := by decide +kernel
theorem dJ3_checkFromToIndex_8c36e_18 : decode cJ3_checkFromToIndex_8c36e 18 = .ok (.invokestatic 99, 3) := by decide +kernel
theorem dJ3_checkFromToIndex_8c36e_21 : decode cJ3_checkFromToIndex_8c36e 21 = .ok (.athrow, 1) := by decide +kernel
theorem dJ3_checkFromToIndex_8c36e_22 : decode cJ3_checkFromToIndex_8c36e 22 = .ok (.iload_n 0, 1) := by decide +kernel
theorem dJ3_checkFromToIndex_8c36e_23 : decode cJ3_checkFromToIndex_8c36e 23 = .ok (.ireturn, 1) := by decide +kernel
theorem dJ3_checkFromIndexSize_8c36e_0 : decode cJ3_checkFromIndexSize_8c36e 0 = .ok (.iload_n 2, 1) := by decide +kernel
theorem dJ3_checkFromIndexSize_8c36e_1 : decode cJ3_checkFromIndexSize_8c36e 1 = .ok (.iload_n 0, 1) := by decide +kernel
theorem dJ3_checkFromIndexSize_8c36e_2 : decode cJ3_checkFromIndexSize_8c36e 2 = .ok (.ior, 1) := by decide +kernel
theorem dJ3_checkFromIndexSize_8c36e_3 : decode cJ3_checkFromIndexSize_8c36e 3 = .ok (.iload_n 1, 1) := by decide +kernel
theorem dJ3_checkFromIndexSize_8c36e_4 : decode cJ3_checkFromIndexSize_8c36e 4 = .ok (.ior, 1) := by decide +kernel
theorem dJ3_checkFromIndexSize_8c36e_5 : decode cJ3_checkFromIndexSize_8c36e 5 = .ok (.ifCond .lt 10, 3) := by decide +kernel
theorem dJ3_checkFromIndexSize_8c36e_8 : decode cJ3_checkFromIndexSize_8c36e 8 = .ok (.iload_n 1, 1) := by decide +kernel
theorem dJ3_checkFromIndexSize_8c36e_9 : decode cJ3_checkFromIndexSize_8c36e 9 = .ok (.iload_n 2, 1) := by decide +kernel
theorem dJ3_checkFromIndexSize_8c36e_10 : decode cJ3_checkFromIndexSize_8c36e 10 = .ok (.iload_n 0, 1) := by decide +kernel
theorem dJ3_checkFromIndexSize_8c36e_11 : decode cJ3_checkFromIndexSize_8c36e 11 = .ok (.isub, 1) := by decide +kernel
theorem dJ3_checkFromIndexSize_8c36e_12 : decode cJ3_checkFromIndexSize_8c36e 12 = .ok (.if_icmp .le 11, 3) := by decide +kernel
theorem dJ3_checkFromIndexSize_8c36e_15 : decode cJ3_checkFromIndexSize_8c36e 15 = .ok (.aload_n 3, 1) := by decide +kernel
theorem dJ3_checkFromIndexSize_8c36e_16 : decode cJ3_checkFromIndexSize_8c36e 16 = .ok (.iload_n 0, 1) := by decide +kernel
theorem dJ3_checkFromIndexSize_8c36e_17 : decode cJ3_checkFromIndexSize_8c36e 17 = .ok (.iload_n 1, 1) := by decide +kernel
theorem dJ3_checkFromIndexSize_8c36e_18 : decode cJ3_checkFromIndexSize_8c36e 18 = .ok (.iload_n 2, 1) := by decide +kernel
theorem dJ3_checkFromIndexSize_8c36e_19 : decode cJ3_checkFromIndexSize_8c36e 19 = .ok (.invokestatic 103, 3) := by decide +kernel
theorem dJ3_checkFromIndexSize_8c36e_22 : decode cJ3_checkFromIndexSize_8c36e 22 = .ok (.athrow, 1) := by decide +kernel
theorem dJ3_checkFromIndexSize_8c36e_23 : decode cJ3_checkFromIndexSize_8c36e 23 = .ok (.iload_n 0, 1) := by decide +kernel
theorem dJ3_checkFromIndexSize_8c36e_24 : decode cJ3_checkFromIndexSize_8c36e 24 = .ok (.ireturn, 1) := by decide +kernel
theorem dL_at_0 : decode cL_at 0 = .ok (.iload_n 1, 1) := by decide +kernel
theorem dL_at_1 : decode cL_at 1 = .ok (.aload_n 0, 1) := by decide +kernel
theorem dL_at_2 : decode cL_at 2 = .ok (.arraylength, 1) := by decide +kernel
theorem dL_at_3 : decode cL_at 3 = .ok (.if_icmp .ge 9, 3) := by decide +kernel
theorem dL_at_6 : decode cL_at 6 = .ok (.aload_n 0, 1) := by decide +kernel
theorem dL_at_7 : decode cL_at 7 = .ok (.iload_n 1, 1) := by decide +kernel
theorem dL_at_8 : decode cL_at 8 = .ok (.iaload, 1) := by decide +kernel
theorem dL_at_9 : decode cL_at 9 = .ok (.goto 4, 3) := by decide +kernel
theorem dL_at_12 : decode cL_at 12 = .ok (.iconst 0, 1) := by decide +kernel
theorem dL_at_13 : decode cL_at 13 = .ok (.ireturn, 1) := by decide +kernel
theorem dL_some_0 : decode cL_some 0 = .ok (.iload_n 0, 1) := by decide +kernel
theorem dL_some_1 : decode cL_some 1 = .ok (.iload_n 1, 1) := by decide +kernel
theorem dL_some_2 : decode cL_some 2 = .ok (.irem, 1) := by decide +kernel
theorem dL_some_3 : decode cL_some 3 = .ok (.istore_n 2, 1) := by decide +kernel
theorem dL_some_4 : decode cL_some 4 = .ok (.iload_n 2, 1) := by decide +kernel
theorem dL_some_5 : decode cL_some 5 = .ok (.ifCond .ge 9, 3) := by decide +kernel
theorem dL_some_8 : decode cL_some 8 = .ok (.iload_n 2, 1) := by decide +kernel
theorem dL_some_9 : decode cL_some 9 = .ok (.iload_n 1, 1) := by decide +kernel
theorem dL_some_10 : decode cL_some 10 = .ok (.iadd, 1) := by decide +kernel
theorem dL_some_11 : decode cL_some 11 = .ok (.goto 4, 3) := by decide +kernel
theorem dL_some_14 : decode cL_some 14 = .ok (.iload_n 2, 1) := by decide +kernel
theorem dL_some_15 : decode cL_some 15 = .ok (.ireturn, 1) := by decide +kernel
set_option maxRecDepth 20000 in
theorem ggL_join_X7_join : GoodIn wsL_join wsX7_join := goodIn_ca (goodIn_ca (goodIn_ca (goodIn_r _ [6, 7, 8, 9, 5, 10, 11, 12, 13, 14, 15, 16, 17, 18, 19, 20, 21, 22, 23, 24, 25, 26, 27, 28, 29, 30, 31, 32, 33, 34, 35, 36, 37, 38, 39, 40, 41, 42, 43, 44, 45, 46, 47, 48, 49, 50, 51, 52, 53, 54, 55, 56, 57, 58, 59, 60, 61, 62, 63, 64, 65, 66, 67, 68, 69, 70, 71, 72, 73, 74, 75, 76, 77, 78, 79, 80, 81, 82, 83, 84, 85, 86, 87, 88, 89, 90, 91, 92, 93, 94, 95, 96, 97, 98, 99, 100, 101, 102, 103, 104, 105, 106, 107, 108, 109, 110, 111, 112, 113, 114, 115, 116, 117, 118, 119, 120, 121, 122, 123, 124, 125, 126, 127, 128, 129, 130, 131, 132, 133, 134, 135, 136, 137, 138, 139, 140, 141, 142, 143, 144, 145, 146, 147, 148, 149, 150, 151, 152, 153, 154, 155, 156, 157, 158, 159, 160, 161, 162, 163, 164, 165, 166, 167, 168, 169, 170, 171, 172, 173, 174, 175, 176, 177, 178, 179, 180, 181, 182, 183, 184, 185, 186, 187, 188, 189, 190, 191, 192, 193, 194, 195, 196, 197, 198, 199, 200, 201, 202, 203, 204, 205, 206, 207, 208, 209, 210, 211, 212, 213, 214, 215, 216, 217, 218, 219, 220, 221, 222, 223, 224, 225, 226, 227, 228, 229, 230, 231, 232, 233, 234, 235, 236, 237, 238, 239, 240, 241, 242, 243, 244, 245, 246, 247, 248, 249, 250, 251, 252] rfl (by decide +kernel)) (goodIn_sub (fun _ h => List.mem_cons_of_mem _ (List.mem_append_left _ (List.mem_append_left _ (List.mem_append_right _ h)))) (by decide +kernel))) (goodIn_sub (fun _ h => List.mem_cons_of_mem _ (List.mem_append_left _ (List.mem_append_right _ h))) (by decide +kernel))) (goodIn_sub (fun _ h => List.mem_cons_of_mem _ (List.mem_append_right _ h)) (by decide +kernel))
set_option maxRecDepth 20000 in
theorem gL_join_X7_join : GoodIn wsL_join (wsV RL 7 RX7 yX7_join wsX7_join) := goodIn_app (goodIn_r _ [2, 3, 4, 5] rfl (by decide +kernel)) ggL_join_X7_join
theorem dL_join_0 : decode cL_join 0 = .ok (.aload_n 0, 1) := by decide +kernel
theorem dL_join_1 : decode cL_join 1 = .ok (.iload_n 1, 1) := by decide +kernel
theorem dL_join_2 : decode cL_join 2 = .ok (.invokevirtual 7, 3) := by decide +kernel
theorem dL_join_5 : decode cL_join 5 = .ok (.ireturn, 1) := by decide +kernel
theorem dL_join_6 : decode cL_join 6 = .ok (.astore_n 2, 1) := by decide +kernel
theorem dL_join_7 : decode cL_join 7 = .ok (.sipush (-1001), 3) := by decide +kernel
theorem dL_join_10 : decode cL_join 10 = .ok (.ireturn, 1) := by decide +kernel
set_option maxRecDepth 20000 in
theorem ggL_leave_X7_leave : GoodIn wsL_leave wsX7_leave := goodIn_ca (goodIn_ca (goodIn_ca (goodIn_r _ [6, 7, 8, 9, 5, 10, 11, 12, 13, 14, 15, 16, 17, 18, 19, 20, 21, 22, 23, 24, 25, 26, 27, 28, 29, 30, 31, 32, 33, 34, 35, 36, 37, 38, 39, 40, 41, 42, 43, 44, 45, 46, 47, 48, 49, 50, 51, 52, 53, 54, 55, 56, 57, 58, 59, 60, 61, 62, 63, 64, 65, 66, 67, 68, 69, 70, 71, 72, 73, 74, 75, 76, 77, 78, 79, 80, 81, 82, 83, 84, 85, 86, 87, 88, 89, 90, 91, 92, 93, 94, 95, 96, 97, 98, 99, 100, 101, 102, 103, 104, 105, 106, 107, 108, 109, 110, 111, 112, 113, 114, 115, 116, 117, 118, 119, 120, 121, 122, 123, 124, 125, 126, 127, 128, 129, 130, 131, 132, 133, 134, 135, 136, 137, 138, 139, 140, 141, 142, 143, 144, 145, 146, 147, 148, 149, 150, 151, 152, 153, 154, 155, 156, 157, 158, 159, 160, 161, 162, 163, 164, 165, 166, 167, 168, 169, 170, 171, 172, 173, 174, 175, 176, 177, 178, 179, 180, 181, 182, 183, 184, 185, 186, 187, 188, 189, 190, 191, 192, 193, 194, 195, 196, 197, 198, 199, 200, 201, 202, 203, 204, 205, 206, 207, 208, 209, 210, 211, 212, 213, 214, 215, 216, 217, 218, 219, 220, 221, 222, 223, 224, 225, 226, 227, 228, 229, 230, 231, 232, 233, 234, 235, 236, 237, 238, 239, 240, 241, 242, 243, 244, 245, 246, 247, 248, 249, 250, 251, 252] rfl (by decide +kernel)) (goodIn_sub (fun _ h => List.mem_cons_of_mem _ (List.mem_append_left _ (List.mem_append_left _ (List.mem_append_right _ h)))) (by decide +kernel))) (goodIn_sub (fun _ h => List.mem_cons_of_mem _ (List.mem_append_left _ (List.mem_append_right _ h))) (by decide +kernel))) (goodIn_sub (fun _ h => List.mem_cons_of_mem _ (List.mem_append_right _ h)) (by decide +kernel))
set_option maxRecDepth 20000 in
theorem gL_leave_X7_leave : GoodIn wsL_leave (wsV RL 15 RX7 yX7_leave wsX7_leave) := goodIn_app (goodIn_r _ [2, 3, 4, 5] rfl (by decide +kernel)) ggL_leave_X7_leave
theorem dL_leave_0 : decode cL_leave 0 = .ok (.aload_n 0, 1) := by decide +kernel
theorem dL_leave_1 : decode cL_leave 1 = .ok (.iload_n 1, 1) := by decide +kernel
theorem dL_leave_2 : decode cL_leave 2 = .ok (.invokevirtual 15, 3) := by decide +kernel
theorem dL_leave_5 : decode cL_leave 5 = .ok (.ireturn, 1) := by decide +kernel
theorem dL_leave_6 : decode cL_leave 6 = .ok (.astore_n 2, 1) := by decide +kernel
theorem dL_leave_7 : decode cL_leave 7 = .ok (.sipush (-1001), 3) := by decide +kernel
theorem dL_leave_10 : decode cL_leave 10 = .ok (.ireturn, 1) := by decide +kernel
set_option maxRecDepth 20000 in
theorem ggL_move_X7_move : GoodIn wsL_move wsX7_move := goodIn_ca (goodIn_ca (goodIn_ca (goodIn_r _ [6, 7, 8, 9, 5, 10, 11, 12, 13, 14, 15, 16, 17, 18, 19, 20, 21, 22, 23, 24, 25, 26, 27, 28, 29, 30, 31, 32, 33, 34, 35, 36, 37, 38, 39, 40, 41, 42, 43, 44, 45, 46, 47, 48, 49, 50, 51, 52, 53, 54, 55, 56, 57, 58, 59, 60, 61, 62, 63, 64, 65, 66, 67, 68, 69, 70, 71, 72, 73, 74, 75, 76, 77, 78, 79, 80, 81, 82, 83, 84, 85, 86, 87, 88, 89, 90, 91, 92, 93, 94, 95, 96, 97, 98, 99, 100, 101, 102, 103, 104, 105, 106, 107, 108, 109, 110, 111, 112, 113, 114, 115, 116, 117, 118, 119, 120, 121, 122, 123, 124, 125, 126, 127, 128, 129, 130, 131, 132, 133, 134, 135, 136, 137, 138, 139, 140, 141, 142, 143, 144, 145, 146, 147, 148, 149, 150, 151, 152, 153, 154, 155, 156, 157, 158, 159, 160, 161, 162, 163, 164, 165, 166, 167, 168, 169, 170, 171, 172, 173, 174, 175, 176, 177, 178, 179, 180, 181, 182, 183, 184, 185, 186, 187, 188, 189, 190, 191, 192, 193, 194, 195, 196, 197, 198, 199, 200, 201, 202, 203, 204, 205, 206, 207, 208, 209, 210, 211, 212, 213, 214, 215, 216, 217, 218, 219, 220, 221, 222, 223, 224, 225, 226, 227, 228, 229, 230, 231, 232, 233, 234, 235, 236, 237, 238, 239, 240, 241, 242, 243, 244, 245, 246, 247, 248, 249, 250, 251, 252] rfl (by decide +kernel)) (goodIn_sub (fun _ h => List.mem_cons_of_mem _ (List.mem_append_left _ (List.mem_append_left _ (List.mem_append_right _ h)))) (by decide +kernel))) (goodIn_sub (fun _ h => List.mem_cons_of_mem _ (List.mem_append_left _ (List.mem_append_right _ h))) (by decide +kernel))) (goodIn_sub (fun _ h => List.mem_cons_of_mem _ (List.mem_append_right _ h)) (by decide +kernel))
set_option maxRecDepth 20000 in
theorem gL_move_X7_move : GoodIn wsL_move (wsV RL 18 RX7 yX7_move wsX7_move) := goodIn_app (goodIn_r _ [2, 3, 4, 5] rfl (by decide +kernel)) ggL_move_X7_move
theorem dL_move_0 : decode cL_move 0 = .ok (.aload_n 0, 1) := by decide +kernel
theorem dL_move_1 : decode cL_move 1 = .ok (.iload_n 1, 1) := by decide +kernel
theorem dL_move_2 : decode cL_move 2 = .ok (.iload_n 2, 1) := by decide +kernel
theorem dL_move_3 : decode cL_move 3 = .ok (.invokevirtual 18, 3) := by decide +kernel
theorem dL_move_6 : decode cL_move 6 = .ok (.ireturn, 1) := by decide +kernel
theorem dL_move_7 : decode cL_move 7 = .ok (.astore_n 3, 1) := by decide +kernel
theorem dL_move_8 : decode cL_move 8 = .ok (.sipush (-1001), 3) := by decide +kernel
theorem dL_move_11 : decode cL_move 11 = .ok (.ireturn, 1) := by decide +kernel
set_option maxRecDepth 20000 in
theorem ggL_exchange_X7_exchange : GoodIn wsL_exchange wsX7_exchange := goodIn_ca (goodIn_ca (goodIn_ca (goodIn_r _ [6, 7, 8, 9, 5, 10, 11, 12, 13, 14, 15, 16, 17, 18, 19, 20, 21, 22, 23, 24, 25, 26, 27, 28, 29, 30, 31, 32, 33, 34, 35, 36, 37, 38, 39, 40, 41, 42, 43, 44, 45, 46, 47, 48, 49, 50, 51, 52, 53, 54, 55, 56, 57, 58, 59, 60, 61, 62, 63, 64, 65, 66, 67, 68, 69, 70, 71, 72, 73, 74, 75, 76, 77, 78, 79, 80, 81, 82, 83, 84, 85, 86, 87, 88, 89, 90, 91, 92, 93, 94, 95, 96, 97, 98, 99, 100, 101, 102, 103, 104, 105, 106, 107, 108, 109, 110, 111, 112, 113, 114, 115, 116, 117, 118, 119, 120, 121, 122, 123, 124, 125, 126, 127, 128, 129, 130, 131, 132, 133, 134, 135, 136, 137, 138, 139, 140, 141, 142, 143, 144, 145, 146, 147, 148, 149, 150, 151, 152, 153, 154, 155, 156, 157, 158, 159, 160, 161, 162, 163, 164, 165, 166, 167, 168, 169, 170, 171, 172, 173, 174, 175, 176, 177, 178, 179, 180, 181, 182, 183, 184, 185, 186, 187, 188, 189, 190, 191, 192, 193, 194, 195, 196, 197, 198, 199, 200, 201, 202, 203, 204, 205, 206, 207, 208, 209, 210, 211, 212, 213, 214, 215, 216, 217, 218, 219, 220, 221, 222, 223, 224, 225, 226, 227, 228, 229, 230, 231, 232, 233, 234, 235, 236, 237, 238, 239, 240, 241, 242, 243, 244, 245, 246, 247, 248, 249, 250, 251, 252] rfl (by decide +kernel)) (goodIn_sub (fun _ h => List.mem_cons_of_mem _ (List.mem_append_left _ (List.mem_append_left _ (List.mem_append_right _ h)))) (by decide +kernel))) (goodIn_sub (fun _ h => List.mem_cons_of_mem _ (List.mem_append_left _ (List.mem_append_right _ h))) (by decide +kernel))) (goodIn_sub (fun _ h => List.mem_cons_of_mem _ (List.mem_append_right _ h)) (by decide +kernel))
set_option maxRecDepth 20000 in
theorem gL_exchange_X7_exchange : GoodIn wsL_exchange (wsV RL 22 RX7 yX7_exchange wsX7_exchange) := goodIn_app (goodIn_r _ [2, 3, 4, 5] rfl (by decide +kernel)) ggL_exchange_X7_exchange
theorem dL_exchange_0 : decode cL_exchange 0 = .ok (.aload_n 0, 1) := by decide +kernel
theorem dL_exchange_1 : decode cL_exchange 1 = .ok (.iload_n 1, 1) := by decide +kernel
theorem dL_exchange_2 : decode cL_exchange 2 = .ok (.iload_n 2, 1) := by decide +kernel
theorem dL_exchange_3 : decode cL_exchange 3 = .ok (.invokevirtual 22, 3) := by decide +kernel
theorem dL_exchange_6 : decode cL_exchange 6 = .ok (.ireturn, 1) := by decide +kernel
theorem dL_exchange_7 : decode cL_exchange 7 = .ok (.astore_n 3, 1) := by decide +kernel
theorem dL_exchange_8 : decode cL_exchange 8 = .ok (.sipush (-1001), 3) := by decide +kernel
theorem dL_exchange_11 : decode cL_exchange 11 = .ok (.ireturn, 1) := by decide +kernel
set_option maxRecDepth 20000 in
theorem ggL_wager_X7_wager : GoodIn wsL_wager wsX7_wager := goodIn_ca (goodIn_ca (goodIn_ca (goodIn_r _ [6, 7, 8, 9, 5, 10, 11, 12, 13, 14, 15, 16, 17, 18, 19, 20, 21, 22, 23, 24, 25, 26, 27, 28, 29, 30, 31, 32, 33, 34, 35, 36, 37, 38, 39, 40, 41, 42, 43, 44, 45, 46, 47, 48, 49, 50, 51, 52, 53, 54, 55, 56, 57, 58, 59, 60, 61, 62, 63, 64, 65, 66, 67, 68, 69, 70, 71, 72, 73, 74, 75, 76, 77, 78, 79, 80, 81, 82, 83, 84, 85, 86, 87, 88, 89, 90, 91, 92, 93, 94, 95, 96, 97, 98, 99, 100, 101, 102, 103, 104, 105, 106, 107, 108, 109, 110, 111, 112, 113, 114, 115, 116, 117, 118, 119, 120, 121, 122, 123, 124, 125, 126, 127, 128, 129, 130, 131, 132, 133, 134, 135, 136, 137, 138, 139, 140, 141, 142, 143, 144, 145, 146, 147, 148, 149, 150, 151, 152, 153, 154, 155, 156, 157, 158, 159, 160, 161, 162, 163, 164, 165, 166, 167, 168, 169, 170, 171, 172, 173, 174, 175, 176, 177, 178, 179, 180, 181, 182, 183, 184, 185, 186, 187, 188, 189, 190, 191, 192, 193, 194, 195, 196, 197, 198, 199, 200, 201, 202, 203, 204, 205, 206, 207, 208, 209, 210, 211, 212, 213, 214, 215, 216, 217, 218, 219, 220, 221, 222, 223, 224, 225, 226, 227, 228, 229, 230, 231, 232, 233, 234, 235, 236, 237, 238, 239, 240, 241, 242, 243, 244, 245, 246, 247, 248, 249, 250, 251, 252] rfl (by decide +kernel)) (goodIn_sub (fun _ h => List.mem_cons_of_mem _ (List.mem_append_left _ (List.mem_append_left _ (List.mem_append_right _ h)))) (by decide +kernel))) (goodIn_sub (fun _ h => List.mem_cons_of_mem _ (List.mem_append_left _ (List.mem_append_right _ h))) (by decide +kernel))) (goodIn_sub (fun _ h => List.mem_cons_of_mem _ (List.mem_append_right _ h)) (by decide +kernel))
set_option maxRecDepth 20000 in
theorem gL_wager_X7_wager : GoodIn wsL_wager (wsV RL 25 RX7 yX7_wager wsX7_wager) := goodIn_app (goodIn_r _ [2, 3, 4, 5] rfl (by decide +kernel)) ggL_wager_X7_wager
theorem dL_wager_0 : decode cL_wager 0 = .ok (.aload_n 0, 1) := by decide +kernel
theorem dL_wager_1 : decode cL_wager 1 = .ok (.iload_n 1, 1) := by decide +kernel
theorem dL_wager_2 : decode cL_wager 2 = .ok (.iload_n 2, 1) := by decide +kernel
theorem dL_wager_3 : decode cL_wager 3 = .ok (.iload_n 3, 1) := by decide +kernel
theorem dL_wager_4 : decode cL_wager 4 = .ok (.invokevirtual 25, 3) := by decide +kernel
theorem dL_wager_7 : decode cL_wager 7 = .ok (.ireturn, 1) := by decide +kernel
theorem dL_wager_8 : decode cL_wager 8 = .ok (.astore 4, 2) := by decide +kernel
theorem dL_wager_10 : decode cL_wager 10 = .ok (.sipush (-1001), 3) := by decide +kernel
theorem dL_wager_13 : decode cL_wager 13 = .ok (.ireturn, 1) := by decide +kernel
set_option maxRecDepth 20000 in
theorem ggL_tap_X7_tap : GoodIn wsL_tap wsX7_tap := goodIn_ca (goodIn_ca (goodIn_ca (goodIn_r _ [6, 7, 8, 9, 5, 10, 11, 12, 13, 14, 15, 16, 17, 18, 19, 20, 21, 22, 23, 24, 25, 26, 27, 28, 29, 30, 31, 32, 33, 34, 35, 36, 37, 38, 39, 40, 41, 42, 43, 44, 45, 46, 47, 48, 49, 50, 51, 52, 53, 54, 55, 56, 57, 58, 59, 60, 61, 62, 63, 64, 65, 66, 67, 68, 69, 70, 71, 72, 73, 74, 75, 76, 77, 78, 79, 80, 81, 82, 83, 84, 85, 86, 87, 88, 89, 90, 91, 92, 93, 94, 95, 96, 97, 98, 99, 100, 101, 102, 103, 104, 105, 106, 107, 108, 109, 110, 111, 112, 113, 114, 115, 116, 117, 118, 119, 120, 121, 122, 123, 124, 125, 126, 127, 128, 129, 130, 131, 132, 133, 134, 135, 136, 137, 138, 139, 140, 141, 142, 143, 144, 145, 146, 147, 148, 149, 150, 151, 152, 153, 154, 155, 156, 157, 158, 159, 160, 161, 162, 163, 164, 165, 166, 167, 168, 169, 170, 171, 172, 173, 174, 175, 176, 177, 178, 179, 180, 181, 182, 183, 184, 185, 186, 187, 188, 189, 190, 191, 192, 193, 194, 195, 196, 197, 198, 199, 200, 201, 202, 203, 204, 205, 206, 207, 208, 209, 210, 211, 212, 213, 214, 215, 216, 217, 218, 219, 220, 221, 222, 223, 224, 225, 226, 227, 228, 229, 230, 231, 232, 233, 234, 235, 236, 237, 238, 239, 240, 241, 242, 243, 244, 245, 246, 247, 248, 249, 250, 251, 252] rfl (by decide +kernel)) (goodIn_sub (fun _ h => List.mem_cons_of_mem _ (List.mem_append_left _ (List.mem_append_left _ (List.mem_append_right _ h)))) (by decide +kernel))) (goodIn_sub (fun _ h => List.mem_cons_of_mem _ (List.mem_append_left _ (List.mem_append_right _ h))) (by decide +kernel))) (goodIn_sub (fun _ h => List.mem_cons_of_mem _ (List.mem_append_right _ h)) (by decide +kernel))
set_option maxRecDepth 20000 in
theorem gL_tap_X7_tap : GoodIn wsL_tap (wsV RL 29 RX7 yX7_tap wsX7_tap) := goodIn_app (goodIn_r _ [2, 3, 4, 5] rfl (by decide +kernel)) ggL_tap_X7_tap
theorem dL_tap_0 : decode cL_tap 0 = .ok (.aload_n 0, 1) := by decide +kernel
theorem dL_tap_1 : decode cL_tap 1 = .ok (.iload_n 1, 1) := by decide +kernel
theorem dL_tap_2 : decode cL_tap 2 = .ok (.invokevirtual 29, 3) := by decide +kernel
theorem dL_tap_5 : decode cL_tap 5 = .ok (.ireturn, 1) := by decide +kernel
theorem dL_tap_6 : decode cL_tap 6 = .ok (.astore_n 2, 1) := by decide +kernel
theorem dL_tap_7 : decode cL_tap 7 = .ok (.sipush (-1001), 3) := by decide +kernel
theorem dL_tap_10 : decode cL_tap 10 = .ok (.ireturn, 1) := by decide +kernel
set_option maxRecDepth 20000 in
theorem ggL_day_X7_day : GoodIn wsL_day wsX7_day := goodIn_ca (goodIn_ca (goodIn_ca (goodIn_r _ [6, 7, 8, 9, 5, 10, 11, 12, 13, 14, 15, 16, 17, 18, 19, 20, 21, 22, 23, 24, 25, 26, 27, 28, 29, 30, 31, 32, 33, 34, 35, 36, 37, 38, 39, 40, 41, 42, 43, 44, 45, 46, 47, 48, 49, 50, 51, 52, 53, 54, 55, 56, 57, 58, 59, 60, 61, 62, 63, 64, 65, 66, 67, 68, 69, 70, 71, 72, 73, 74, 75, 76, 77, 78, 79, 80, 81, 82, 83, 84, 85, 86, 87, 88, 89, 90, 91, 92, 93, 94, 95, 96, 97, 98, 99, 100, 101, 102, 103, 104, 105, 106, 107, 108, 109, 110, 111, 112, 113, 114, 115, 116, 117, 118, 119, 120, 121, 122, 123, 124, 125, 126, 127, 128, 129, 130, 131, 132, 133, 134, 135, 136, 137, 138, 139, 140, 141, 142, 143, 144, 145, 146, 147, 148, 149, 150, 151, 152, 153, 154, 155, 156, 157, 158, 159, 160, 161, 162, 163, 164, 165, 166, 167, 168, 169, 170, 171, 172, 173, 174, 175, 176, 177, 178, 179, 180, 181, 182, 183, 184, 185, 186, 187, 188, 189, 190, 191, 192, 193, 194, 195, 196, 197, 198, 199, 200, 201, 202, 203, 204, 205, 206, 207, 208, 209, 210, 211, 212, 213, 214, 215, 216, 217, 218, 219, 220, 221, 222, 223, 224, 225, 226, 227, 228, 229, 230, 231, 232, 233, 234, 235, 236, 237, 238, 239, 240, 241, 242, 243, 244, 245, 246, 247, 248, 249, 250, 251, 252] rfl (by decide +kernel)) (goodIn_sub (fun _ h => List.mem_cons_of_mem _ (List.mem_append_left _ (List.mem_append_left _ (List.mem_append_right _ h)))) (by decide +kernel))) (goodIn_sub (fun _ h => List.mem_cons_of_mem _ (List.mem_append_left _ (List.mem_append_right _ h))) (by decide +kernel))) (goodIn_sub (fun _ h => List.mem_cons_of_mem _ (List.mem_append_right _ h)) (by decide +kernel))
set_option maxRecDepth 20000 in
theorem gL_day_X7_day : GoodIn wsL_day (wsV RL 32 RX7 yX7_day wsX7_day) := goodIn_app (goodIn_r _ [2, 3, 4, 5] rfl (by decide +kernel)) ggL_day_X7_day
theorem dL_day_0 : decode cL_day 0 = .ok (.aload_n 0, 1) := by decide +kernel
theorem dL_day_1 : decode cL_day 1 = .ok (.iload_n 1, 1) := by decide +kernel
theorem dL_day_2 : decode cL_day 2 = .ok (.invokevirtual 32, 3) := by decide +kernel
theorem dL_day_5 : decode cL_day 5 = .ok (.ireturn, 1) := by decide +kernel
theorem dL_day_6 : decode cL_day 6 = .ok (.astore_n 2, 1) := by decide +kernel
theorem dL_day_7 : decode cL_day 7 = .ok (.sipush (-1001), 3) := by decide +kernel
theorem dL_day_10 : decode cL_day 10 = .ok (.ireturn, 1) := by decide +kernel
set_option maxRecDepth 20000 in
theorem ggL_bottle_X7_bottle : GoodIn wsL_bottle wsX7_bottle := goodIn_ca (goodIn_ca (goodIn_ca (goodIn_r _ [6, 7, 8, 9, 5, 10, 11, 12, 13, 14, 15, 16, 17, 18, 19, 20, 21, 22, 23, 24, 25, 26, 27, 28, 29, 30, 31, 32, 33, 34, 35, 36, 37, 38, 39, 40, 41, 42, 43, 44, 45, 46, 47, 48, 49, 50, 51, 52, 53, 54, 55, 56, 57, 58, 59, 60, 61, 62, 63, 64, 65, 66, 67, 68, 69, 70, 71, 72, 73, 74, 75, 76, 77, 78, 79, 80, 81, 82, 83, 84, 85, 86, 87, 88, 89, 90, 91, 92, 93, 94, 95, 96, 97, 98, 99, 100, 101, 102, 103, 104, 105, 106, 107, 108, 109, 110, 111, 112, 113, 114, 115, 116, 117, 118, 119, 120, 121, 122, 123, 124, 125, 126, 127, 128, 129, 130, 131, 132, 133, 134, 135, 136, 137, 138, 139, 140, 141, 142, 143, 144, 145, 146, 147, 148, 149, 150, 151, 152, 153, 154, 155, 156, 157, 158, 159, 160, 161, 162, 163, 164, 165, 166, 167, 168, 169, 170, 171, 172, 173, 174, 175, 176, 177, 178, 179, 180, 181, 182, 183, 184, 185, 186, 187, 188, 189, 190, 191, 192, 193, 194, 195, 196, 197, 198, 199, 200, 201, 202, 203, 204, 205, 206, 207, 208, 209, 210, 211, 212, 213, 214, 215, 216, 217, 218, 219, 220, 221, 222, 223, 224, 225, 226, 227, 228, 229, 230, 231, 232, 233, 234, 235, 236, 237, 238, 239, 240, 241, 242, 243, 244, 245, 246, 247, 248, 249, 250, 251, 252] rfl (by decide +kernel)) (goodIn_sub (fun _ h => List.mem_cons_of_mem _ (List.mem_append_left _ (List.mem_append_left _ (List.mem_append_right _ h)))) (by decide +kernel))) (goodIn_sub (fun _ h => List.mem_cons_of_mem _ (List.mem_append_left _ (List.mem_append_right _ h))) (by decide +kernel))) (goodIn_sub (fun _ h => List.mem_cons_of_mem _ (List.mem_append_right _ h)) (by decide +kernel))
set_option maxRecDepth 20000 in
theorem gL_bottle_X7_bottle : GoodIn wsL_bottle (wsV RL 35 RX7 yX7_bottle wsX7_bottle) := goodIn_app (goodIn_r _ [2, 3, 4, 5] rfl (by decide +kernel)) ggL_bottle_X7_bottle
theorem dL_bottle_0 : decode cL_bottle 0 = .ok (.aload_n 0, 1) := by decide +kernel
theorem dL_bottle_1 : decode cL_bottle 1 = .ok (.iload_n 1, 1) := by decide +kernel
theorem dL_bottle_2 : decode cL_bottle 2 = .ok (.invokevirtual 35, 3) := by decide +kernel
theorem dL_bottle_5 : decode cL_bottle 5 = .ok (.ireturn, 1) := by decide +kernel
theorem dL_bottle_6 : decode cL_bottle 6 = .ok (.astore_n 2, 1) := by decide +kernel
theorem dL_bottle_7 : decode cL_bottle 7 = .ok (.sipush (-1001), 3) := by decide +kernel
theorem dL_bottle_10 : decode cL_bottle 10 = .ok (.ireturn, 1) := by decide +kernel
set_option maxRecDepth 20000 in
theorem ggL_letOut_X7_letOut : GoodIn wsL_letOut wsX7_letOut := goodIn_ca (goodIn_ca (goodIn_ca (goodIn_r _ [6, 7, 8, 9, 5, 10, 11, 12, 13, 14, 15, 16, 17, 18, 19, 20, 21, 22, 23, 24, 25, 26, 27, 28, 29, 30, 31, 32, 33, 34, 35, 36, 37, 38, 39, 40, 41, 42, 43, 44, 45, 46, 47, 48, 49, 50, 51, 52, 53, 54, 55, 56, 57, 58, 59, 60, 61, 62, 63, 64, 65, 66, 67, 68, 69, 70, 71, 72, 73, 74, 75, 76, 77, 78, 79, 80, 81, 82, 83, 84, 85, 86, 87, 88, 89, 90, 91, 92, 93, 94, 95, 96, 97, 98, 99, 100, 101, 102, 103, 104, 105, 106, 107, 108, 109, 110, 111, 112, 113, 114, 115, 116, 117, 118, 119, 120, 121, 122, 123, 124, 125, 126, 127, 128, 129, 130, 131, 132, 133, 134, 135, 136, 137, 138, 139, 140, 141, 142, 143, 144, 145, 146, 147, 148, 149, 150, 151, 152, 153, 154, 155, 156, 157, 158, 159, 160, 161, 162, 163, 164, 165, 166, 167, 168, 169, 170, 171, 172, 173, 174, 175, 176, 177, 178, 179, 180, 181, 182, 183, 184, 185, 186, 187, 188, 189, 190, 191, 192, 193, 194, 195, 196, 197, 198, 199, 200, 201, 202, 203, 204, 205, 206, 207, 208, 209, 210, 211, 212, 213, 214, 215, 216, 217, 218, 219, 220, 221, 222, 223, 224, 225, 226, 227, 228, 229, 230, 231, 232, 233, 234, 235, 236, 237, 238, 239, 240, 241, 242, 243, 244, 245, 246, 247, 248, 249, 250, 251, 252] rfl (by decide +kernel)) (goodIn_sub (fun _ h => List.mem_cons_of_mem _ (List.mem_append_left _ (List.mem_append_left _ (List.mem_append_right _ h)))) (by decide +kernel))) (goodIn_sub (fun _ h => List.mem_cons_of_mem _ (List.mem_append_left _ (List.mem_append_right _ h))) (by decide +kernel))) (goodIn_sub (fun _ h => List.mem_cons_of_mem _ (List.mem_append_right _ h)) (by decide +kernel))
set_option maxRecDepth 20000 in
theorem gL_letOut_X7_letOut : GoodIn wsL_letOut (wsV RL 38 RX7 yX7_letOut wsX7_letOut) := goodIn_app (goodIn_r _ [2, 3, 4, 5] rfl (by decide +kernel)) ggL_letOut_X7_letOut
theorem dL_letOut_0 : decode cL_letOut 0 = .ok (.aload_n 0, 1) := by decide +kernel
theorem dL_letOut_1 : decode cL_letOut 1 = .ok (.iload_n 1, 1) := by decide +kernel
theorem dL_letOut_2 : decode cL_letOut 2 = .ok (.invokevirtual 38, 3) := by decide +kernel
theorem dL_letOut_5 : decode cL_letOut 5 = .ok (.ireturn, 1) := by decide +kernel
theorem dL_letOut_6 : decode cL_letOut 6 = .ok (.astore_n 2, 1) := by decide +kernel
theorem dL_letOut_7 : decode cL_letOut 7 = .ok (.sipush (-1001), 3) := by decide +kernel
theorem dL_letOut_10 : decode cL_letOut 10 = .ok (.ireturn, 1) := by decide +kernel
set_option maxRecDepth 20000 in
theorem ggL_read_X7_read : GoodIn wsL_read wsX7_read := goodIn_ca (goodIn_ca (goodIn_ca (goodIn_r _ [6, 7, 8, 9, 5, 10, 11, 12, 13, 14, 15, 16, 17, 18, 19, 20, 21, 22, 23, 24, 25, 26, 27, 28, 29, 30, 31, 32, 33, 34, 35, 36, 37, 38, 39, 40, 41, 42, 43, 44, 45, 46, 47, 48, 49, 50, 51, 52, 53, 54, 55, 56, 57, 58, 59, 60, 61, 62, 63, 64, 65, 66, 67, 68, 69, 70, 71, 72, 73, 74, 75, 76, 77, 78, 79, 80, 81, 82, 83, 84, 85, 86, 87, 88, 89, 90, 91, 92, 93, 94, 95, 96, 97, 98, 99, 100, 101, 102, 103, 104, 105, 106, 107, 108, 109, 110, 111, 112, 113, 114, 115, 116, 117, 118, 119, 120, 121, 122, 123, 124, 125, 126, 127, 128, 129, 130, 131, 132, 133, 134, 135, 136, 137, 138, 139, 140, 141, 142, 143, 144, 145, 146, 147, 148, 149, 150, 151, 152, 153, 154, 155, 156, 157, 158, 159, 160, 161, 162, 163, 164, 165, 166, 167, 168, 169, 170, 171, 172, 173, 174, 175, 176, 177, 178, 179, 180, 181, 182, 183, 184, 185, 186, 187, 188, 189, 190, 191, 192, 193, 194, 195, 196, 197, 198, 199, 200, 201, 202, 203, 204, 205, 206, 207, 208, 209, 210, 211, 212, 213, 214, 215, 216, 217, 218, 219, 220, 221, 222, 223, 224, 225, 226, 227, 228, 229, 230, 231, 232, 233, 234, 235, 236, 237, 238, 239, 240, 241, 242, 243, 244, 245, 246, 247, 248, 249, 250, 251, 252] rfl (by decide +kernel)) (goodIn_sub (fun _ h => List.mem_cons_of_mem _ (List.mem_append_left _ (List.mem_append_left _ (List.mem_append_right _ h)))) (by decide +kernel))) (goodIn_sub (fun _ h => List.mem_cons_of_mem _ (List.mem_append_left _ (List.mem_append_right _ h))) (by decide +kernel))) (goodIn_sub (fun _ h => List.mem_cons_of_mem _ (List.mem_append_right _ h)) (by decide +kernel))
set_option maxRecDepth 20000 in
theorem gL_read_X7_read : GoodIn wsL_read (wsV RL 41 RX7 yX7_read wsX7_read) := goodIn_app (goodIn_r _ [2, 3, 4, 5] rfl (by decide +kernel)) ggL_read_X7_read
theorem dL_read_0 : decode cL_read 0 = .ok (.aload_n 0, 1) := by decide +kernel
theorem dL_read_1 : decode cL_read 1 = .ok (.invokevirtual 41, 3) := by decide +kernel
theorem dL_read_4 : decode cL_read 4 = .ok (.ireturn, 1) := by decide +kernel
theorem dL_read_5 : decode cL_read 5 = .ok (.astore_n 1, 1) := by decide +kernel
theorem dL_read_6 : decode cL_read 6 = .ok (.sipush (-1001), 3) := by decide +kernel
theorem dL_read_9 : decode cL_read 9 = .ok (.ireturn, 1) := by decide +kernel
set_option maxRecDepth 20000 in
theorem ggL_of_X7_memberOf : GoodIn wsL_of wsX7_memberOf := goodIn_ca (goodIn_ca (goodIn_ca (goodIn_r _ [7, 8, 9, 10, 11, 12, 13, 6, 14, 15, 16, 17, 18, 19, 20, 21, 22, 23, 24, 25, 26, 27, 28, 29, 30, 31, 32, 33, 34, 35, 36, 37, 38] rfl (by decide +kernel)) (goodIn_sub (fun _ h => List.mem_cons_of_mem _ (List.mem_append_left _ (List.mem_append_left _ (List.mem_append_right _ h)))) (by decide +kernel))) (goodIn_sub (fun _ h => List.mem_cons_of_mem _ (List.mem_append_left _ (List.mem_append_right _ h))) (by decide +kernel))) (goodIn_sub (fun _ h => List.mem_cons_of_mem _ (List.mem_append_right _ h)) (by decide +kernel))
set_option maxRecDepth 20000 in
theorem gL_of_X7_memberOf : GoodIn wsL_of (wsV RL 45 RX7 yX7_memberOf wsX7_memberOf) := goodIn_app (goodIn_r _ [3, 4, 5, 6] rfl (by decide +kernel)) ggL_of_X7_memberOf
theorem dL_of_0 : decode cL_of 0 = .ok (.aload_n 0, 1) := by decide +kernel
theorem dL_of_1 : decode cL_of 1 = .ok (.iload_n 1, 1) := by decide +kernel
theorem dL_of_2 : decode cL_of 2 = .ok (.iload_n 2, 1) := by decide +kernel
theorem dL_of_3 : decode cL_of 3 = .ok (.invokevirtual 45, 3) := by decide +kernel
theorem dL_of_6 : decode cL_of 6 = .ok (.ireturn, 1) := by decide +kernel
theorem dL_of_7 : decode cL_of 7 = .ok (.astore_n 3, 1) := by decide +kernel
theorem dL_of_8 : decode cL_of 8 = .ok (.sipush (-1001), 3) := by decide +kernel
theorem dL_of_11 : decode cL_of 11 = .ok (.ireturn, 1) := by decide +kernel
theorem dL_of_12 : decode cL_of 12 = .ok (.astore_n 3, 1) := by decide +kernel
theorem dL_of_13 : decode cL_of 13 = .ok (.sipush (-1002), 3) := by decide +kernel
theorem dL_of_16 : decode cL_of 16 = .ok (.ireturn, 1) := by decide +kernel
set_option maxRecDepth 20000 in
theorem ggL_needle_X7_needle : GoodIn wsL_needle wsX7_needle := goodIn_ca (goodIn_ca (goodIn_r _ [6, 7, 8, 9, 10, 5, 11, 12, 13, 14, 15, 16, 17, 18, 19, 20, 21, 22, 23, 24, 25, 26, 27, 28, 29, 30, 31, 32, 33, 34, 35, 36, 37, 38, 39, 40, 41, 42, 43] rfl (by decide +kernel)) (goodIn_sub (fun _ h => List.mem_cons_of_mem _ (List.mem_append_left _ (List.mem_append_right _ h))) (by decide +kernel))) (goodIn_sub (fun _ h => List.mem_cons_of_mem _ (List.mem_append_right _ h)) (by decide +kernel))
set_option maxRecDepth 20000 in
theorem gL_needle_X7_needle : GoodIn wsL_needle (wsV RL 52 RX7 yX7_needle wsX7_needle) := goodIn_app (goodIn_r _ [2, 3, 4, 5] rfl (by decide +kernel)) ggL_needle_X7_needle
theorem dL_needle_0 : decode cL_needle 0 = .ok (.aload_n 0, 1) := by decide +kernel
theorem dL_needle_1 : decode cL_needle 1 = .ok (.iload_n 1, 1) := by decide +kernel
theorem dL_needle_2 : decode cL_needle 2 = .ok (.invokevirtual 52, 3) := by decide +kernel
theorem dL_needle_5 : decode cL_needle 5 = .ok (.ireturn, 1) := by decide +kernel
theorem dL_needle_6 : decode cL_needle 6 = .ok (.astore_n 2, 1) := by decide +kernel
theorem dL_needle_7 : decode cL_needle 7 = .ok (.sipush (-1001), 3) := by decide +kernel
theorem dL_needle_10 : decode cL_needle 10 = .ok (.ireturn, 1) := by decide +kernel
set_option maxRecDepth 20000 in
theorem ggL_needleAgain_X7_needleAgain : GoodIn wsL_needleAgain wsX7_needleAgain := goodIn_ca (goodIn_ca (goodIn_r _ [6, 7, 8, 9, 10, 5, 11, 12, 13, 14, 15, 16, 17, 18, 19, 20, 21, 22, 23, 24, 25, 26, 27, 28, 29, 30, 31, 32, 33, 34, 35, 36, 37, 38, 39, 40, 41, 42, 43] rfl (by decide +kernel)) (goodIn_sub (fun _ h => List.mem_cons_of_mem _ (List.mem_append_left _ (List.mem_append_right _ h))) (by decide +kernel))) (goodIn_sub (fun _ h => List.mem_cons_of_mem _ (List.mem_append_right _ h)) (by decide +kernel))
set_option maxRecDepth 20000 in
theorem gL_needleAgain_X7_needleAgain : GoodIn wsL_needleAgain (wsV RL 55 RX7 yX7_needleAgain wsX7_needleAgain) := goodIn_app (goodIn_r _ [2, 3, 4, 5] rfl (by decide +kernel)) ggL_needleAgain_X7_needleAgain
theorem dL_needleAgain_0 : decode cL_needleAgain 0 = .ok (.aload_n 0, 1) := by decide +kernel
theorem dL_needleAgain_1 : decode cL_needleAgain 1 = .ok (.iload_n 1, 1) := by decide +kernel
theorem dL_needleAgain_2 : decode cL_needleAgain 2 = .ok (.invokevirtual 55, 3) := by decide +kernel
theorem dL_needleAgain_5 : decode cL_needleAgain 5 = .ok (.ireturn, 1) := by decide +kernel
theorem dL_needleAgain_6 : decode cL_needleAgain 6 = .ok (.astore_n 2, 1) := by decide +kernel
theorem dL_needleAgain_7 : decode cL_needleAgain 7 = .ok (.sipush (-1001), 3) := by decide +kernel
theorem dL_needleAgain_10 : decode cL_needleAgain 10 = .ok (.ireturn, 1) := by decide +kernel
set_option maxRecDepth 20000 in
theorem ggL_off_X7_off : GoodIn wsL_off wsX7_off := goodIn_ca (goodIn_ca (goodIn_ca (goodIn_r _ [7, 8, 9, 10, 11, 12, 13, 6, 14, 15, 16, 17, 18, 19, 20, 21, 22, 23, 24, 25, 26, 27, 28, 29, 30, 31, 32, 33, 34, 35, 36, 37, 38, 39, 40, 41, 42, 43, 44, 45, 46, 47, 48, 49, 50, 51, 52, 53, 54, 55, 56, 57, 58] rfl (by decide +kernel)) (goodIn_sub (fun _ h => List.mem_cons_of_mem _ (List.mem_append_left _ (List.mem_append_left _ (List.mem_append_right _ h)))) (by decide +kernel))) (goodIn_sub (fun _ h => List.mem_cons_of_mem _ (List.mem_append_left _ (List.mem_append_right _ h))) (by decide +kernel))) (goodIn_sub (fun _ h => List.mem_cons_of_mem _ (List.mem_append_right _ h)) (by decide +kernel))
set_option maxRecDepth 20000 in
theorem gL_off_X7_off : GoodIn wsL_off (wsV RL 58 RX7 yX7_off wsX7_off) := goodIn_app (goodIn_r _ [3, 4, 5, 6] rfl (by decide +kernel)) ggL_off_X7_off
theorem dL_off_0 : decode cL_off 0 = .ok (.aload_n 0, 1) := by decide +kernel
theorem dL_off_1 : decode cL_off 1 = .ok (.iload_n 1, 1) := by decide +kernel
theorem dL_off_2 : decode cL_off 2 = .ok (.invokevirtual 58, 3) := by decide +kernel
theorem dL_off_5 : decode cL_off 5 = .ok (.ireturn, 1) := by decide +kernel
theorem dL_off_6 : decode cL_off 6 = .ok (.astore_n 2, 1) := by decide +kernel
theorem dL_off_7 : decode cL_off 7 = .ok (.sipush (-1001), 3) := by decide +kernel
theorem dL_off_10 : decode cL_off 10 = .ok (.ireturn, 1) := by decide +kernel
theorem dL_off_11 : decode cL_off 11 = .ok (.astore_n 2, 1) := by decide +kernel
theorem dL_off_12 : decode cL_off 12 = .ok (.sipush (-1002), 3) := by decide +kernel
theorem dL_off_15 : decode cL_off 15 = .ok (.ireturn, 1) := by decide +kernel
set_option maxRecDepth 20000 in
theorem ggL_owner_X7_owner : GoodIn wsL_owner wsX7_owner := goodIn_ca (goodIn_ca (goodIn_ca (goodIn_r _ [7, 8, 9, 10, 11, 12, 13, 14, 6, 15, 16, 17, 18, 19, 20, 21, 22, 23, 24, 25, 26, 27, 28, 29, 30, 31, 32, 33, 34, 35, 36, 37] rfl (by decide +kernel)) (goodIn_sub (fun _ h => List.mem_cons_of_mem _ (List.mem_append_left _ (List.mem_append_left _ (List.mem_append_right _ h)))) (by decide +kernel))) (goodIn_sub (fun _ h => List.mem_cons_of_mem _ (List.mem_append_left _ (List.mem_append_right _ h))) (by decide +kernel))) (goodIn_sub (fun _ h => List.mem_cons_of_mem _ (List.mem_append_right _ h)) (by decide +kernel))
set_option maxRecDepth 20000 in
theorem gL_owner_X7_owner : GoodIn wsL_owner (wsV RL 63 RX7 yX7_owner wsX7_owner) := goodIn_app (goodIn_r _ [3, 4, 5, 6] rfl (by decide +kernel)) ggL_owner_X7_owner
theorem dL_owner_0 : decode cL_owner 0 = .ok (.aload_n 0, 1) := by decide +kernel
theorem dL_owner_1 : decode cL_owner 1 = .ok (.iload_n 1, 1) := by decide +kernel
theorem dL_owner_2 : decode cL_owner 2 = .ok (.invokevirtual 63, 3) := by decide +kernel
theorem dL_owner_5 : decode cL_owner 5 = .ok (.ireturn, 1) := by decide +kernel
theorem dL_owner_6 : decode cL_owner 6 = .ok (.astore_n 2, 1) := by decide +kernel
theorem dL_owner_7 : decode cL_owner 7 = .ok (.sipush (-1001), 3) := by decide +kernel
theorem dL_owner_10 : decode cL_owner 10 = .ok (.ireturn, 1) := by decide +kernel
theorem dL_owner_11 : decode cL_owner 11 = .ok (.astore_n 2, 1) := by decide +kernel
theorem dL_owner_12 : decode cL_owner 12 = .ok (.sipush (-1002), 3) := by decide +kernel
theorem dL_owner_15 : decode cL_owner 15 = .ok (.ireturn, 1) := by decide +kernel
set_option maxRecDepth 20000 in
theorem ggL_wouldWin_X7_wouldWin : GoodIn wsL_wouldWin wsX7_wouldWin := goodIn_ca (goodIn_ca (goodIn_r _ [6, 7, 8, 9, 10, 11, 5, 12, 13, 14, 15, 16, 17, 18, 19, 20, 21, 22, 23, 24, 25, 26, 27, 28, 29, 30, 31, 32, 33, 34, 35, 36, 37, 38, 39, 40, 41, 42, 43, 44, 45, 46, 47, 48, 49, 50, 51, 52, 53, 54, 55, 56, 57, 58, 59, 60, 61, 62, 63, 64, 65, 66, 67, 68, 69, 70, 71] rfl (by decide +kernel)) (goodIn_sub (fun _ h => List.mem_cons_of_mem _ (List.mem_append_left _ (List.mem_append_right _ h))) (by decide +kernel))) (goodIn_sub (fun _ h => List.mem_cons_of_mem _ (List.mem_append_right _ h)) (by decide +kernel))
set_option maxRecDepth 20000 in
theorem gL_wouldWin_X7_wouldWin : GoodIn wsL_wouldWin (wsV RL 66 RX7 yX7_wouldWin wsX7_wouldWin) := goodIn_app (goodIn_r _ [2, 3, 4, 5] rfl (by decide +kernel)) ggL_wouldWin_X7_wouldWin
theorem dL_wouldWin_0 : decode cL_wouldWin 0 = .ok (.aload_n 0, 1) := by decide +kernel
theorem dL_wouldWin_1 : decode cL_wouldWin 1 = .ok (.iload_n 1, 1) := by decide +kernel
theorem dL_wouldWin_2 : decode cL_wouldWin 2 = .ok (.invokevirtual 66, 3) := by decide +kernel
theorem dL_wouldWin_5 : decode cL_wouldWin 5 = .ok (.ireturn, 1) := by decide +kernel
theorem dL_wouldWin_6 : decode cL_wouldWin 6 = .ok (.astore_n 2, 1) := by decide +kernel
theorem dL_wouldWin_7 : decode cL_wouldWin 7 = .ok (.sipush (-1001), 3) := by decide +kernel
theorem dL_wouldWin_10 : decode cL_wouldWin 10 = .ok (.ireturn, 1) := by decide +kernel
set_option maxRecDepth 20000 in
theorem ggL_changeFor_X7_changeFor : GoodIn wsL_changeFor wsX7_changeFor := goodIn_ca (goodIn_ca (goodIn_ca (goodIn_r _ [7, 8, 9, 10, 11, 12, 13, 6, 14, 15, 16, 17, 18, 19, 20, 21, 22, 23, 24, 25, 26, 27, 28, 29, 30, 31, 32, 33, 34, 35, 36, 37, 38, 39, 40, 41, 42, 43, 44, 45, 46, 47, 48, 49, 50, 51, 52, 53, 54, 55, 56, 57, 58, 59, 60, 61, 62, 63, 64, 65, 66, 67, 68, 69, 70, 71, 72, 73, 74, 75, 76, 77, 78, 79, 80, 81, 82] rfl (by decide +kernel)) (goodIn_sub (fun _ h => List.mem_cons_of_mem _ (List.mem_append_left _ (List.mem_append_left _ (List.mem_append_right _ h)))) (by decide +kernel))) (goodIn_sub (fun _ h => List.mem_cons_of_mem _ (List.mem_append_left _ (List.mem_append_right _ h))) (by decide +kernel))) (goodIn_sub (fun _ h => List.mem_cons_of_mem _ (List.mem_append_right _ h)) (by decide +kernel))
set_option maxRecDepth 20000 in
theorem gL_changeFor_X7_changeFor : GoodIn wsL_changeFor (wsV RL 69 RX7 yX7_changeFor wsX7_changeFor) := goodIn_app (goodIn_r _ [3, 4, 5, 6] rfl (by decide +kernel)) ggL_changeFor_X7_changeFor
theorem dL_changeFor_0 : decode cL_changeFor 0 = .ok (.aload_n 0, 1) := by decide +kernel
theorem dL_changeFor_1 : decode cL_changeFor 1 = .ok (.iload_n 1, 1) := by decide +kernel
theorem dL_changeFor_2 : decode cL_changeFor 2 = .ok (.invokevirtual 69, 3) := by decide +kernel
theorem dL_changeFor_5 : decode cL_changeFor 5 = .ok (.ireturn, 1) := by decide +kernel
theorem dL_changeFor_6 : decode cL_changeFor 6 = .ok (.astore_n 2, 1) := by decide +kernel
theorem dL_changeFor_7 : decode cL_changeFor 7 = .ok (.sipush (-1001), 3) := by decide +kernel
theorem dL_changeFor_10 : decode cL_changeFor 10 = .ok (.ireturn, 1) := by decide +kernel
theorem dL_changeFor_11 : decode cL_changeFor 11 = .ok (.astore_n 2, 1) := by decide +kernel
theorem dL_changeFor_12 : decode cL_changeFor 12 = .ok (.sipush (-1002), 3) := by decide +kernel
theorem dL_changeFor_15 : decode cL_changeFor 15 = .ok (.ireturn, 1) := by decide +kernel
set_option maxRecDepth 20000 in
theorem ggL_bestGuess_X7_bestGuess : GoodIn wsL_bestGuess wsX7_bestGuess := goodIn_ca (goodIn_ca (goodIn_r _ [6, 7, 8, 9, 10, 5, 11, 12, 13, 14, 15, 16, 17, 18, 19, 20, 21, 22, 23, 24, 25, 26, 27, 28, 29, 30, 31, 32, 33, 34, 35, 36, 37, 38, 39, 40, 41, 42, 43, 44, 45, 46, 47, 48, 49, 50, 51, 52, 53] rfl (by decide +kernel)) (goodIn_sub (fun _ h => List.mem_cons_of_mem _ (List.mem_append_left _ (List.mem_append_right _ h))) (by decide +kernel))) (goodIn_sub (fun _ h => List.mem_cons_of_mem _ (List.mem_append_right _ h)) (by decide +kernel))
set_option maxRecDepth 20000 in
theorem gL_bestGuess_X7_bestGuess : GoodIn wsL_bestGuess (wsV RL 72 RX7 yX7_bestGuess wsX7_bestGuess) := goodIn_app (goodIn_r _ [2, 3, 4, 5] rfl (by decide +kernel)) ggL_bestGuess_X7_bestGuess
theorem dL_bestGuess_0 : decode cL_bestGuess 0 = .ok (.aload_n 0, 1) := by decide +kernel
theorem dL_bestGuess_1 : decode cL_bestGuess 1 = .ok (.iload_n 1, 1) := by decide +kernel
theorem dL_bestGuess_2 : decode cL_bestGuess 2 = .ok (.invokevirtual 72, 3) := by decide +kernel
theorem dL_bestGuess_5 : decode cL_bestGuess 5 = .ok (.ireturn, 1) := by decide +kernel
theorem dL_bestGuess_6 : decode cL_bestGuess 6 = .ok (.astore_n 2, 1) := by decide +kernel
theorem dL_bestGuess_7 : decode cL_bestGuess 7 = .ok (.sipush (-1001), 3) := by decide +kernel
theorem dL_bestGuess_10 : decode cL_bestGuess 10 = .ok (.ireturn, 1) := by decide +kernel
set_option maxRecDepth 20000 in
theorem ggL_nearestFree_X7_nearestFree : GoodIn wsL_nearestFree wsX7_nearestFree := goodIn_ca (goodIn_ca (goodIn_ca (goodIn_r _ [7, 8, 9, 10, 11, 12, 13, 6, 14, 15, 16, 17, 18, 19, 20, 21, 22, 23, 24, 25, 26, 27, 28, 29, 30, 31, 32, 33, 34, 35, 36, 37, 38, 39, 40, 41, 42, 43, 44, 45, 46, 47, 48, 49] rfl (by decide +kernel)) (goodIn_sub (fun _ h => List.mem_cons_of_mem _ (List.mem_append_left _ (List.mem_append_left _ (List.mem_append_right _ h)))) (by decide +kernel))) (goodIn_sub (fun _ h => List.mem_cons_of_mem _ (List.mem_append_left _ (List.mem_append_right _ h))) (by decide +kernel))) (goodIn_sub (fun _ h => List.mem_cons_of_mem _ (List.mem_append_right _ h)) (by decide +kernel))
set_option maxRecDepth 20000 in
theorem gL_nearestFree_X7_nearestFree : GoodIn wsL_nearestFree (wsV RL 75 RX7 yX7_nearestFree wsX7_nearestFree) := goodIn_app (goodIn_r _ [3, 4, 5, 6] rfl (by decide +kernel)) ggL_nearestFree_X7_nearestFree
theorem dL_nearestFree_0 : decode cL_nearestFree 0 = .ok (.aload_n 0, 1) := by decide +kernel
theorem dL_nearestFree_1 : decode cL_nearestFree 1 = .ok (.iload_n 1, 1) := by decide +kernel
theorem dL_nearestFree_2 : decode cL_nearestFree 2 = .ok (.invokevirtual 75, 3) := by decide +kernel
theorem dL_nearestFree_5 : decode cL_nearestFree 5 = .ok (.ireturn, 1) := by decide +kernel
theorem dL_nearestFree_6 : decode cL_nearestFree 6 = .ok (.astore_n 2, 1) := by decide +kernel
theorem dL_nearestFree_7 : decode cL_nearestFree 7 = .ok (.sipush (-1001), 3) := by decide +kernel
theorem dL_nearestFree_10 : decode cL_nearestFree 10 = .ok (.ireturn, 1) := by decide +kernel
theorem dL_nearestFree_11 : decode cL_nearestFree 11 = .ok (.astore_n 2, 1) := by decide +kernel
theorem dL_nearestFree_12 : decode cL_nearestFree 12 = .ok (.sipush (-1002), 3) := by decide +kernel
theorem dL_nearestFree_15 : decode cL_nearestFree 15 = .ok (.ireturn, 1) := by decide +kernel
set_option maxRecDepth 20000 in
theorem ggL_ranked_X7_ranked : GoodIn wsL_ranked wsX7_ranked := goodIn_ca (goodIn_ca (goodIn_ca (goodIn_r _ [7, 8, 9, 10, 11, 12, 13, 14, 15, 16, 17, 18, 19, 20, 21, 22, 23, 24, 25, 26, 27, 28, 29, 30, 31, 32, 33, 34, 35, 36, 37, 38, 39, 40, 41, 42, 43, 44, 45, 46, 47, 48, 49] rfl (by decide +kernel)) (goodIn_sub (fun _ h => List.mem_cons_of_mem _ (List.mem_append_left _ (List.mem_append_left _ (List.mem_append_right _ h)))) (by decide +kernel))) (goodIn_sub (fun _ h => List.mem_cons_of_mem _ (List.mem_append_left _ (List.mem_append_right _ h))) (by decide +kernel))) (goodIn_sub (fun _ h => List.mem_cons_of_mem _ (List.mem_append_right _ h)) (by decide +kernel))
set_option maxRecDepth 20000 in
theorem gL_ranked_X7_ranked : GoodIn wsL_ranked (wsV RL 78 RX7 yX7_ranked wsX7_ranked) := goodIn_app (goodIn_r _ [3, 4, 5, 6] rfl (by decide +kernel)) ggL_ranked_X7_ranked
theorem dL_ranked_0 : decode cL_ranked 0 = .ok (.aload_n 0, 1) := by decide +kernel
theorem dL_ranked_1 : decode cL_ranked 1 = .ok (.iload_n 1, 1) := by decide +kernel
theorem dL_ranked_2 : decode cL_ranked 2 = .ok (.iload_n 2, 1) := by decide +kernel
theorem dL_ranked_3 : decode cL_ranked 3 = .ok (.invokevirtual 78, 3) := by decide +kernel
theorem dL_ranked_6 : decode cL_ranked 6 = .ok (.ireturn, 1) := by decide +kernel
theorem dL_ranked_7 : decode cL_ranked 7 = .ok (.astore_n 3, 1) := by decide +kernel
theorem dL_ranked_8 : decode cL_ranked 8 = .ok (.sipush (-1001), 3) := by decide +kernel
theorem dL_ranked_11 : decode cL_ranked 11 = .ok (.ireturn, 1) := by decide +kernel
theorem dL_ranked_12 : decode cL_ranked 12 = .ok (.astore_n 3, 1) := by decide +kernel
theorem dL_ranked_13 : decode cL_ranked 13 = .ok (.sipush (-1002), 3) := by decide +kernel
theorem dL_ranked_16 : decode cL_ranked 16 = .ok (.ireturn, 1) := by decide +kernel
set_option maxRecDepth 20000 in
theorem ggL_weather_X7_weather : GoodIn wsL_weather wsX7_weather := goodIn_ca (goodIn_ca (goodIn_r _ [6, 7, 8, 9, 10, 11, 12, 13, 14, 15, 16, 17, 18, 19, 20, 21, 22, 23, 24, 25, 26, 27] rfl (by decide +kernel)) (goodIn_sub (fun _ h => List.mem_cons_of_mem _ (List.mem_append_left _ (List.mem_append_right _ h))) (by decide +kernel))) (goodIn_sub (fun _ h => List.mem_cons_of_mem _ (List.mem_append_right _ h)) (by decide +kernel))
set_option maxRecDepth 20000 in
theorem gL_weather_X7_weather : GoodIn wsL_weather (wsV RL 81 RX7 yX7_weather wsX7_weather) := goodIn_app (goodIn_r _ [2, 3, 4, 5] rfl (by decide +kernel)) ggL_weather_X7_weather
theorem dL_weather_0 : decode cL_weather 0 = .ok (.aload_n 0, 1) := by decide +kernel
theorem dL_weather_1 : decode cL_weather 1 = .ok (.iload_n 1, 1) := by decide +kernel
theorem dL_weather_2 : decode cL_weather 2 = .ok (.invokevirtual 81, 3) := by decide +kernel
theorem dL_weather_5 : decode cL_weather 5 = .ok (.ireturn, 1) := by decide +kernel
theorem dL_weather_6 : decode cL_weather 6 = .ok (.astore_n 2, 1) := by decide +kernel
theorem dL_weather_7 : decode cL_weather 7 = .ok (.sipush (-1001), 3) := by decide +kernel
theorem dL_weather_10 : decode cL_weather 10 = .ok (.ireturn, 1) := by decide +kernel
set_option maxRecDepth 20000 in
theorem ggL_append_X7_append : GoodIn wsL_append wsX7_append := goodIn_ca (goodIn_ca (goodIn_r _ [6, 7, 8, 9, 10, 11, 12, 13, 14, 15, 16, 17, 18, 19, 20, 21, 22, 23, 24, 25, 26, 27, 28, 29, 30, 31, 32, 33, 34, 35, 36, 37, 38, 39, 40, 41] rfl (by decide +kernel)) (goodIn_sub (fun _ h => List.mem_cons_of_mem _ (List.mem_append_left _ (List.mem_append_right _ h))) (by decide +kernel))) (goodIn_sub (fun _ h => List.mem_cons_of_mem _ (List.mem_append_right _ h)) (by decide +kernel))
set_option maxRecDepth 20000 in
theorem gL_append_X7_append : GoodIn wsL_append (wsV RL 84 RX7 yX7_append wsX7_append) := goodIn_app (goodIn_r _ [2, 3, 4, 5] rfl (by decide +kernel)) ggL_append_X7_append
theorem dL_append_0 : decode cL_append 0 = .ok (.aload_n 0, 1) := by decide +kernel
theorem dL_append_1 : decode cL_append 1 = .ok (.iload_n 1, 1) := by decide +kernel
theorem dL_append_2 : decode cL_append 2 = .ok (.invokevirtual 84, 3) := by decide +kernel
theorem dL_append_5 : decode cL_append 5 = .ok (.ireturn, 1) := by decide +kernel
theorem dL_append_6 : decode cL_append 6 = .ok (.astore_n 2, 1) := by decide +kernel
theorem dL_append_7 : decode cL_append 7 = .ok (.sipush (-1001), 3) := by decide +kernel
theorem dL_append_10 : decode cL_append 10 = .ok (.ireturn, 1) := by decide +kernel
set_option maxRecDepth 20000 in
theorem ggL_commands_X7_commands : GoodIn wsL_commands wsX7_commands := goodIn_ca (goodIn_ca (goodIn_ca (goodIn_ca (goodIn_r _ [7, 8, 9, 10, 11, 12, 13, 14, 15, 16, 17, 18, 19, 20, 21, 22, 23, 24, 25, 26, 27, 28, 29, 30, 31, 32, 33, 34, 35, 36, 37, 38, 39, 40, 41, 42, 43, 44, 45, 46, 47, 48, 49, 50, 51, 52, 53, 54, 55, 56, 57, 58, 59, 60, 61, 62, 63, 64, 65, 66, 67, 68, 69, 70, 71, 72, 73, 74, 75, 76, 77, 78, 79, 80, 81, 82, 83, 84, 85, 86, 87, 88, 89, 90, 91, 92, 93, 94, 95, 96, 97, 98, 99, 100, 101, 102, 103, 104, 105, 106, 107, 108, 109, 110, 111, 112, 113, 114, 6, 115, 116, 117, 118, 119, 120, 121, 122, 123, 124, 125, 126, 127, 128, 129, 130, 131, 132, 133, 134, 135, 136, 137, 138, 139, 140, 141, 142, 143, 144, 145, 146, 147, 148, 149, 150, 151, 152, 153, 154, 155, 156, 157, 158, 159, 160, 161, 162, 163, 164, 165, 166, 167, 168, 169, 170, 171, 172, 173, 174, 175, 176, 177, 178, 179, 180, 181, 182, 183, 184, 185, 186, 187, 188, 189, 190, 191, 192, 193, 194, 195, 196, 197, 198, 199, 200, 201, 202, 203, 204, 205, 206, 207, 208, 209, 210, 211, 212, 213, 214, 215, 216, 217, 218, 219, 220, 221, 222, 223, 224, 225, 226, 227, 228, 229, 230, 231, 232, 233, 234, 235, 236, 237, 238, 239, 240, 241, 242, 243, 244, 245, 246, 247, 248, 249, 250, 251, 252, 253, 254, 255, 256, 257, 258, 259, 260, 261, 262, 263, 264, 265, 266, 267, 268, 269, 270, 271, 272, 273, 274, 275, 276, 277, 278, 279, 280, 281, 282, 283, 284, 285, 286, 287, 288, 289, 290, 291, 292, 293, 294, 295, 296, 297, 298, 299, 300, 301, 302, 303, 304, 305, 306, 307, 308, 309, 310, 311, 312, 313, 314, 315, 316, 317, 318, 319, 320, 321, 322, 323, 324, 325, 326, 327, 328, 329, 330, 331, 332, 333, 334, 335, 336] rfl (by decide +kernel)) (goodIn_sub (fun _ h => List.mem_cons_of_mem _ (List.mem_append_left _ (List.mem_append_left _ (List.mem_append_left _ (List.mem_append_right _ h))))) (by decide +kernel))) (goodIn_sub (fun _ h => List.mem_cons_of_mem _ (List.mem_append_left _ (List.mem_append_left _ (List.mem_append_right _ h)))) (by decide +kernel))) (goodIn_sub (fun _ h => List.mem_cons_of_mem _ (List.mem_append_left _ (List.mem_append_right _ h))) (by decide +kernel))) (goodIn_sub (fun _ h => List.mem_cons_of_mem _ (List.mem_append_right _ h)) (by decide +kernel))
set_option maxRecDepth 20000 in
theorem gL_commands_X7_commands : GoodIn wsL_commands (wsV RL 90 RX7 yX7_commands wsX7_commands) := goodIn_app (goodIn_r _ [3, 4, 5, 6] rfl (by decide +kernel)) ggL_commands_X7_commands
theorem dL_commands_0 : decode cL_commands 0 = .ok (.aload_n 0, 1) := by decide +kernel
theorem dL_commands_1 : decode cL_commands 1 = .ok (.invokevirtual 90, 3) := by decide +kernel
theorem dL_commands_4 : decode cL_commands 4 = .ok (.ireturn, 1) := by decide +kernel
theorem dL_commands_5 : decode cL_commands 5 = .ok (.astore_n 1, 1) := by decide +kernel
theorem dL_commands_6 : decode cL_commands 6 = .ok (.sipush (-1001), 3) := by decide +kernel
theorem dL_commands_9 : decode cL_commands 9 = .ok (.ireturn, 1) := by decide +kernel
theorem dL_commands_10 : decode cL_commands 10 = .ok (.astore_n 1, 1) := by decide +kernel
theorem dL_commands_11 : decode cL_commands 11 = .ok (.sipush (-1002), 3) := by decide +kernel
theorem dL_commands_14 : decode cL_commands 14 = .ok (.ireturn, 1) := by decide +kernel
set_option maxRecDepth 20000 in
theorem ggL_reason_X7_reason : GoodIn wsL_reason wsX7_reason := goodIn_ca (goodIn_ca (goodIn_r _ [7, 8, 9, 10, 11, 12, 13, 14, 15, 16, 17, 18, 19, 20, 21, 22, 23, 24, 25] rfl (by decide +kernel)) (goodIn_sub (fun _ h => List.mem_cons_of_mem _ (List.mem_append_left _ (List.mem_append_right _ h))) (by decide +kernel))) (goodIn_sub (fun _ h => List.mem_cons_of_mem _ (List.mem_append_right _ h)) (by decide +kernel))
set_option maxRecDepth 20000 in
theorem gL_reason_X7_reason : GoodIn wsL_reason (wsV RL 93 RX7 yX7_reason wsX7_reason) := goodIn_app (goodIn_r _ [3, 4, 5, 6] rfl (by decide +kernel)) ggL_reason_X7_reason
theorem dL_reason_0 : decode cL_reason 0 = .ok (.aload_n 0, 1) := by decide +kernel
theorem dL_reason_1 : decode cL_reason 1 = .ok (.iload_n 1, 1) := by decide +kernel
theorem dL_reason_2 : decode cL_reason 2 = .ok (.invokevirtual 93, 3) := by decide +kernel
theorem dL_reason_5 : decode cL_reason 5 = .ok (.ireturn, 1) := by decide +kernel
theorem dL_reason_6 : decode cL_reason 6 = .ok (.astore_n 2, 1) := by decide +kernel
theorem dL_reason_7 : decode cL_reason 7 = .ok (.sipush (-1001), 3) := by decide +kernel
theorem dL_reason_10 : decode cL_reason 10 = .ok (.ireturn, 1) := by decide +kernel
theorem dL_reason_11 : decode cL_reason 11 = .ok (.astore_n 2, 1) := by decide +kernel
theorem dL_reason_12 : decode cL_reason 12 = .ok (.sipush (-1002), 3) := by decide +kernel
theorem dL_reason_15 : decode cL_reason 15 = .ok (.ireturn, 1) := by decide +kernel
set_option maxRecDepth 20000 in
theorem ggL_line_X7_line : GoodIn wsL_line wsX7_line := goodIn_ca (goodIn_ca (goodIn_ca (goodIn_r _ [6, 7, 8, 9, 10, 11, 5, 12, 13, 14, 15, 16, 17, 18, 19, 20, 21, 22, 23, 24, 25, 26, 27, 28, 29, 30, 31, 32, 33, 34, 35, 36, 37, 38, 39, 40, 41, 42, 43, 44, 45, 46, 47, 48, 49, 50, 51, 52, 53, 54, 55, 56, 57, 58, 59, 60, 61, 62, 63, 64, 65, 66, 67, 68, 69] rfl (by decide +kernel)) (goodIn_sub (fun _ h => List.mem_cons_of_mem _ (List.mem_append_left _ (List.mem_append_left _ (List.mem_append_right _ h)))) (by decide +kernel))) (goodIn_sub (fun _ h => List.mem_cons_of_mem _ (List.mem_append_left _ (List.mem_append_right _ h))) (by decide +kernel))) (goodIn_sub (fun _ h => List.mem_cons_of_mem _ (List.mem_append_right _ h)) (by decide +kernel))
set_option maxRecDepth 20000 in
theorem gL_line_X7_line : GoodIn wsL_line (wsV RL 96 RX7 yX7_line wsX7_line) := goodIn_app (goodIn_r _ [2, 3, 4, 5] rfl (by decide +kernel)) ggL_line_X7_line
theorem dL_line_0 : decode cL_line 0 = .ok (.aload_n 0, 1) := by decide +kernel
theorem dL_line_1 : decode cL_line 1 = .ok (.iload_n 1, 1) := by decide +kernel
theorem dL_line_2 : decode cL_line 2 = .ok (.invokevirtual 96, 3) := by decide +kernel
theorem dL_line_5 : decode cL_line 5 = .ok (.ireturn, 1) := by decide +kernel
theorem dL_line_6 : decode cL_line 6 = .ok (.astore_n 2, 1) := by decide +kernel
theorem dL_line_7 : decode cL_line 7 = .ok (.sipush (-1001), 3) := by decide +kernel
theorem dL_line_10 : decode cL_line 10 = .ok (.ireturn, 1) := by decide +kernel
set_option maxRecDepth 20000 in
theorem ggL_character_X7_character : GoodIn wsL_character wsX7_character := goodIn_ca (goodIn_ca (goodIn_r _ [6, 7, 8, 9, 10, 11, 12, 13, 14, 15, 16, 17, 18, 19, 20, 21, 22, 23, 24, 25, 26, 27, 28, 29, 30, 31, 32, 33] rfl (by decide +kernel)) (goodIn_sub (fun _ h => List.mem_cons_of_mem _ (List.mem_append_left _ (List.mem_append_right _ h))) (by decide +kernel))) (goodIn_sub (fun _ h => List.mem_cons_of_mem _ (List.mem_append_right _ h)) (by decide +kernel))
set_option maxRecDepth 20000 in
theorem gL_character_X7_character : GoodIn wsL_character (wsV RL 99 RX7 yX7_character wsX7_character) := goodIn_app (goodIn_r _ [2, 3, 4, 5] rfl (by decide +kernel)) ggL_character_X7_character
theorem dL_character_0 : decode cL_character 0 = .ok (.aload_n 0, 1) := by decide +kernel
theorem dL_character_1 : decode cL_character 1 = .ok (.iload_n 1, 1) := by decide +kernel
theorem dL_character_2 : decode cL_character 2 = .ok (.invokevirtual 99, 3) := by decide +kernel
theorem dL_character_5 : decode cL_character 5 = .ok (.ireturn, 1) := by decide +kernel
theorem dL_character_6 : decode cL_character 6 = .ok (.astore_n 2, 1) := by decide +kernel
theorem dL_character_7 : decode cL_character 7 = .ok (.sipush (-1001), 3) := by decide +kernel
theorem dL_character_10 : decode cL_character 10 = .ok (.ireturn, 1) := by decide +kernel
set_option maxRecDepth 20000 in
theorem ggL_meanCoins_X7_meanCoins : GoodIn wsL_meanCoins wsX7_meanCoins := goodIn_ca (goodIn_ca (goodIn_r _ [7, 8, 9, 10, 11, 12, 13, 14, 15, 16, 17, 18, 19, 20, 21, 22, 23, 24, 25, 26, 27, 28, 29, 30, 31, 32, 33, 34, 35, 36] rfl (by decide +kernel)) (goodIn_sub (fun _ h => List.mem_cons_of_mem _ (List.mem_append_left _ (List.mem_append_right _ h))) (by decide +kernel))) (goodIn_sub (fun _ h => List.mem_cons_of_mem _ (List.mem_append_right _ h)) (by decide +kernel))
set_option maxRecDepth 20000 in
theorem gL_meanCoins_X7_meanCoins : GoodIn wsL_meanCoins (wsV RL 103 RX7 yX7_meanCoins wsX7_meanCoins) := goodIn_app (goodIn_r _ [3, 4, 5, 6] rfl (by decide +kernel)) ggL_meanCoins_X7_meanCoins
theorem dL_meanCoins_0 : decode cL_meanCoins 0 = .ok (.aload_n 0, 1) := by decide +kernel
theorem dL_meanCoins_1 : decode cL_meanCoins 1 = .ok (.invokevirtual 103, 3) := by decide +kernel
theorem dL_meanCoins_4 : decode cL_meanCoins 4 = .ok (.dreturn, 1) := by decide +kernel
theorem dL_meanCoins_5 : decode cL_meanCoins 5 = .ok (.astore_n 1, 1) := by decide +kernel
theorem dL_meanCoins_6 : decode cL_meanCoins 6 = .ok (.ldc2_w 109, 3) := by decide +kernel
theorem dL_meanCoins_9 : decode cL_meanCoins 9 = .ok (.dreturn, 1) := by decide +kernel
set_option maxRecDepth 20000 in
theorem ggL_tappedShare_X7_tappedShare : GoodIn wsL_tappedShare wsX7_tappedShare := goodIn_ca (goodIn_ca (goodIn_r _ [7, 8, 9, 10, 11, 12, 13, 14, 15, 16, 17, 18, 19, 20, 21, 22, 23, 24, 25, 26, 27, 28, 29, 30, 31, 32, 33, 34, 35, 36, 37, 38, 39, 40, 41, 42, 43, 44] rfl (by decide +kernel)) (goodIn_sub (fun _ h => List.mem_cons_of_mem _ (List.mem_append_left _ (List.mem_append_right _ h))) (by decide +kernel))) (goodIn_sub (fun _ h => List.mem_cons_of_mem _ (List.mem_append_right _ h)) (by decide +kernel))
set_option maxRecDepth 20000 in
theorem gL_tappedShare_X7_tappedShare : GoodIn wsL_tappedShare (wsV RL 111 RX7 yX7_tappedShare wsX7_tappedShare) := goodIn_app (goodIn_r _ [3, 4, 5, 6] rfl (by decide +kernel)) ggL_tappedShare_X7_tappedShare
theorem dL_tappedShare_0 : decode cL_tappedShare 0 = .ok (.aload_n 0, 1) := by decide +kernel
theorem dL_tappedShare_1 : decode cL_tappedShare 1 = .ok (.invokevirtual 111, 3) := by decide +kernel
theorem dL_tappedShare_4 : decode cL_tappedShare 4 = .ok (.freturn, 1) := by decide +kernel
theorem dL_tappedShare_5 : decode cL_tappedShare 5 = .ok (.astore_n 1, 1) := by decide +kernel
theorem dL_tappedShare_6 : decode cL_tappedShare 6 = .ok (.ldc 115, 2) := by decide +kernel
theorem dL_tappedShare_8 : decode cL_tappedShare 8 = .ok (.freturn, 1) := by decide +kernel
set_option maxRecDepth 20000 in
theorem ggL_account_X7_account : GoodIn wsL_account wsX7_account := goodIn_ca (goodIn_ca (goodIn_r _ [6, 7, 8, 9, 10, 11, 12, 13, 14, 15, 16, 17, 18, 19, 20, 21, 22, 23, 24, 25, 26, 27, 28, 29, 30, 31, 32, 33, 34, 35, 36, 37, 38, 39, 40, 41, 42, 43, 44, 45, 46, 47, 48, 49, 50, 51, 52, 53, 54, 55, 56, 57, 58, 59, 60, 61, 62, 63, 64, 65, 66] rfl (by decide +kernel)) (goodIn_sub (fun _ h => List.mem_cons_of_mem _ (List.mem_append_left _ (List.mem_append_right _ h))) (by decide +kernel))) (goodIn_sub (fun _ h => List.mem_cons_of_mem _ (List.mem_append_right _ h)) (by decide +kernel))
set_option maxRecDepth 20000 in
theorem gL_account_X7_account : GoodIn wsL_account (wsV RL 116 RX7 yX7_account wsX7_account) := goodIn_app (goodIn_r _ [2, 3, 4, 5] rfl (by decide +kernel)) ggL_account_X7_account
theorem dL_account_0 : decode cL_account 0 = .ok (.aload_n 0, 1) := by decide +kernel
theorem dL_account_1 : decode cL_account 1 = .ok (.iload_n 1, 1) := by decide +kernel
theorem dL_account_2 : decode cL_account 2 = .ok (.invokevirtual 116, 3) := by decide +kernel
theorem dL_account_5 : decode cL_account 5 = .ok (.ireturn, 1) := by decide +kernel
theorem dL_account_6 : decode cL_account 6 = .ok (.astore_n 2, 1) := by decide +kernel
theorem dL_account_7 : decode cL_account 7 = .ok (.sipush (-1001), 3) := by decide +kernel
theorem dL_account_10 : decode cL_account 10 = .ok (.ireturn, 1) := by decide +kernel
set_option maxRecDepth 20000 in
theorem ggL_undo_X7_undo : GoodIn wsL_undo wsX7_undo := goodIn_ca (goodIn_r _ [6, 7, 8, 9, 10, 11, 12, 13, 14, 15, 16, 17, 18, 19, 20, 21, 22, 23, 24, 25, 26, 27, 28, 29, 30, 31, 32, 33, 34, 35, 36, 37, 38, 39, 40, 41, 42, 43, 44, 45, 46, 47, 48, 49, 50, 51, 52, 53, 54, 55] rfl (by decide +kernel)) (goodIn_sub (fun _ h => List.mem_cons_of_mem _ (List.mem_append_right _ h)) (by decide +kernel))
set_option maxRecDepth 20000 in
theorem gL_undo_X7_undo : GoodIn wsL_undo (wsV RL 119 RX7 yX7_undo wsX7_undo) := goodIn_app (goodIn_r _ [2, 3, 4, 5] rfl (by decide +kernel)) ggL_undo_X7_undo
theorem dL_undo_0 : decode cL_undo 0 = .ok (.aload_n 0, 1) := by decide +kernel
theorem dL_undo_1 : decode cL_undo 1 = .ok (.invokevirtual 119, 3) := by decide +kernel
theorem dL_undo_4 : decode cL_undo 4 = .ok (.ireturn, 1) := by decide +kernel
theorem dL_undo_5 : decode cL_undo 5 = .ok (.astore_n 1, 1) := by decide +kernel
theorem dL_undo_6 : decode cL_undo 6 = .ok (.sipush (-1001), 3) := by decide +kernel
theorem dL_undo_9 : decode cL_undo 9 = .ok (.ireturn, 1) := by decide +kernel
set_option maxRecDepth 20000 in
theorem ggL_restore_X7_restore : GoodIn wsL_restore wsX7_restore := goodIn_ca (goodIn_ca (goodIn_r _ [6, 7, 8, 9, 10, 11, 12, 13, 14, 15, 16, 17, 18, 19, 20, 21, 22, 23, 24, 25, 26, 27, 28, 29, 30, 31, 32, 33, 34, 35, 36, 37, 38, 39, 40, 41, 42, 43, 44, 45, 46, 47] rfl (by decide +kernel)) (goodIn_sub (fun _ h => List.mem_cons_of_mem _ (List.mem_append_left _ (List.mem_append_right _ h))) (by decide +kernel))) (goodIn_sub (fun _ h => List.mem_cons_of_mem _ (List.mem_append_right _ h)) (by decide +kernel))
set_option maxRecDepth 20000 in
theorem gL_restore_X7_restore : GoodIn wsL_restore (wsV RL 122 RX7 yX7_restore wsX7_restore) := goodIn_app (goodIn_r _ [2, 3, 4, 5] rfl (by decide +kernel)) ggL_restore_X7_restore
theorem dL_restore_0 : decode cL_restore 0 = .ok (.aload_n 0, 1) := by decide +kernel
theorem dL_restore_1 : decode cL_restore 1 = .ok (.invokevirtual 122, 3) := by decide +kernel
theorem dL_restore_4 : decode cL_restore 4 = .ok (.ireturn, 1) := by decide +kernel
theorem dL_restore_5 : decode cL_restore 5 = .ok (.astore_n 1, 1) := by decide +kernel
theorem dL_restore_6 : decode cL_restore 6 = .ok (.sipush (-1001), 3) := by decide +kernel
theorem dL_restore_9 : decode cL_restore 9 = .ok (.ireturn, 1) := by decide +kernel
set_option maxRecDepth 20000 in
theorem ggL_runs_J0_length_8abf5 : GoodIn wsL_runs wsJ0_length_8abf5 := goodIn_r _ [5, 6, 7, 8, 9, 4, 10, 11, 12, 389, 390, 391, 392] rfl (by decide +kernel)
set_option maxRecDepth 20000 in
theorem gL_runs_J0_length_8abf5 : GoodIn wsL_runs (wsV RL 125 RJ0 yJ0_length_8abf5 wsJ0_length_8abf5) := goodIn_app (goodIn_r _ [1, 2, 3, 4] rfl (by decide +kernel)) ggL_runs_J0_length_8abf5
set_option maxRecDepth 20000 in
theorem ggL_runs_J0_charAt_5068e : GoodIn wsL_runs wsJ0_charAt_5068e := goodIn_r _ [16, 6, 17, 18, 19, 4, 20, 11, 12, 21, 22, 23, 24, 25, 26, 27, 28, 29, 30, 31, 32, 33, 34, 35, 36, 37, 38, 39, 40, 41, 42, 43, 44, 45, 46, 47, 48, 49, 389, 390, 391, 392] rfl (by decide +kernel)
set_option maxRecDepth 20000 in
theorem gL_runs_J0_charAt_5068e : GoodIn wsL_runs (wsV RL 130 RJ0 yJ0_charAt_5068e wsJ0_charAt_5068e) := goodIn_app (goodIn_r _ [13, 14, 15, 4] rfl (by decide +kernel)) ggL_runs_J0_charAt_5068e
set_option maxRecDepth 20000 in
theorem ggL_runs_L_append : GoodIn wsL_runs wsL_append := goodIn_ca (goodIn_ca (goodIn_r _ [53, 54, 55, 56, 57, 58, 59, 60, 61, 62, 63, 64, 65, 66, 67, 68, 69, 70, 71, 72, 73, 74, 75, 76, 77, 393, 394, 395, 396, 397, 398, 399, 400, 401, 402, 403, 404, 405, 406, 407, 408, 409] rfl (by decide +kernel)) (goodIn_sub (fun _ h => List.mem_cons_of_mem _ (List.mem_append_left _ (List.mem_append_left _ (List.mem_append_left _ (List.mem_append_left _ (List.mem_append_right _ h)))))) (by decide +kernel))) (goodIn_sub (fun _ h => List.mem_cons_of_mem _ (List.mem_append_left _ (List.mem_append_left _ (List.mem_append_left _ (List.mem_append_right _ h))))) (by decide +kernel))
set_option maxRecDepth 20000 in
theorem gL_runs_L_append : GoodIn wsL_runs (va_wsS RL 133 yL_append wsL_append) := goodIn_app (goodIn_r _ [50, 51, 52] rfl (by decide +kernel)) ggL_runs_L_append
set_option maxRecDepth 20000 in
theorem ggL_runs_L_commands : GoodIn wsL_runs wsL_commands := goodIn_ca (goodIn_ca (goodIn_ca (goodIn_ca (goodIn_r _ [80, 81, 82, 83, 84, 85, 58, 86, 87, 88, 89, 90, 62, 91, 92, 93, 94, 95, 96, 97, 66, 98, 99, 100, 101, 68, 102, 103, 104, 105, 106, 107, 108, 109, 73, 110, 111, 112, 113, 114, 115, 116, 117, 118, 119, 120, 121, 122, 123, 124, 125, 126, 127, 128, 129, 130, 131, 132, 133, 134, 135, 136, 137, 138, 139, 140, 141, 142, 143, 144, 145, 146, 147, 148, 149, 150, 151, 152, 153, 154, 155, 156, 157, 158, 159, 160, 161, 162, 163, 164, 165, 166, 167, 168, 169, 170, 171, 172, 173, 174, 175, 176, 177, 178, 179, 180, 181, 182, 183, 184, 185, 186, 187, 188, 189, 190, 191, 192, 193, 194, 195, 196, 197, 198, 199, 200, 201, 202, 203, 204, 205, 206, 207, 208, 209, 210, 211, 212, 213, 214, 215, 216, 217, 218, 219, 220, 221, 222, 223, 224, 225, 226, 227, 228, 229, 230, 231, 232, 233, 234, 235, 236, 237, 238, 239, 240, 241, 242, 243, 244, 245, 246, 247, 248, 249, 250, 251, 252, 253, 254, 255, 256, 257, 258, 259, 260, 261, 262, 263, 264, 265, 266, 267, 268, 269, 270, 271, 272, 273, 274, 275, 276, 277, 278, 279, 280, 281, 282, 283, 284, 285, 286, 287, 288, 289, 290, 291, 292, 293, 294, 295, 296, 297, 298, 299, 300, 301, 302, 303, 304, 305, 306, 307, 308, 309, 310, 311, 312, 313, 314, 315, 316, 317, 318, 319, 320, 321, 322, 323, 324, 325, 326, 327, 328, 329, 330, 331, 332, 333, 334, 335, 336, 337, 338, 339, 340, 341, 342, 343, 344, 345, 346, 347, 348, 349, 350, 351, 352, 353, 354, 355, 356, 357, 358, 359, 360, 361, 362, 363, 364, 365, 366, 367, 368, 369, 370, 371, 372, 373, 374, 375, 376, 377, 378, 379, 380, 381, 382, 383, 384, 385, 386, 387, 388, 393, 394, 395, 396, 397, 398, 399, 400, 401, 402, 403, 404, 405, 406, 407, 408, 409, 410, 411, 412, 413, 414, 415] rfl (by decide +kernel)) (goodIn_sub (fun _ h => List.mem_cons_of_mem _ (List.mem_append_left _ (List.mem_append_left _ (List.mem_append_right _ h)))) (by decide +kernel))) (goodIn_sub (fun _ h => List.mem_cons_of_mem _ (List.mem_append_left _ (List.mem_append_right _ h))) (by decide +kernel))) (goodIn_sub (fun _ h => List.mem_cons_of_mem _ (List.mem_append_left _ (List.mem_append_left _ (List.mem_append_left _ (List.mem_append_right _ h))))) (by decide +kernel))) (goodIn_sub (fun _ h => List.mem_cons_of_mem _ (List.mem_append_right _ h)) (by decide +kernel))
set_option maxRecDepth 20000 in
theorem gL_runs_L_commands : GoodIn wsL_runs (va_wsS RL 138 yL_commands wsL_commands) := goodIn_app (goodIn_r _ [78, 79, 52] rfl (by decide +kernel)) ggL_runs_L_commands
theorem dL_runs_0 : decode cL_runs 0 = .ok (.iconst 0, 1) := by decide +kernel
theorem dL_runs_1 : decode cL_runs 1 = .ok (.istore_n 2, 1) := by decide +kernel
theorem dL_runs_2 : decode cL_runs 2 = .ok (.iload_n 2, 1) := by decide +kernel
theorem dL_runs_3 : decode cL_runs 3 = .ok (.aload_n 1, 1) := by decide +kernel
theorem dL_runs_4 : decode cL_runs 4 = .ok (.invokevirtual 125, 3) := by decide +kernel
theorem dL_runs_7 : decode cL_runs 7 = .ok (.if_icmp .ge 28, 3) := by decide +kernel
theorem dL_runs_10 : decode cL_runs 10 = .ok (.aload_n 0, 1) := by decide +kernel
theorem dL_runs_11 : decode cL_runs 11 = .ok (.aload_n 1, 1) := by decide +kernel
theorem dL_runs_12 : decode cL_runs 12 = .ok (.iload_n 2, 1) := by decide +kernel
theorem dL_runs_13 : decode cL_runs 13 = .ok (.invokevirtual 130, 3) := by decide +kernel
theorem dL_runs_16 : decode cL_runs 16 = .ok (.invokestatic 133, 3) := by decide +kernel
theorem dL_runs_19 : decode cL_runs 19 = .ok (.iload_n 2, 1) := by decide +kernel
theorem dL_runs_20 : decode cL_runs 20 = .ok (.iconst 1, 1) := by decide +kernel
theorem dL_runs_21 : decode cL_runs 21 = .ok (.iadd, 1) := by decide +kernel
theorem dL_runs_22 : decode cL_runs 22 = .ok (.if_icmp .eq 7, 3) := by decide +kernel
theorem dL_runs_25 : decode cL_runs 25 = .ok (.sipush (-9999), 3) := by decide +kernel
theorem dL_runs_28 : decode cL_runs 28 = .ok (.ireturn, 1) := by decide +kernel
theorem dL_runs_29 : decode cL_runs 29 = .ok (.iinc 2 1, 3) := by decide +kernel
theorem dL_runs_32 : decode cL_runs 32 = .ok (.goto (-30), 3) := by decide +kernel
theorem dL_runs_35 : decode cL_runs 35 = .ok (.aload_n 0, 1) := by decide +kernel
theorem dL_runs_36 : decode cL_runs 36 = .ok (.invokestatic 138, 3) := by decide +kernel
theorem dL_runs_39 : decode cL_runs 39 = .ok (.ireturn, 1) := by decide +kernel
set_option maxRecDepth 20000 in
theorem ggL_is_L_isAt : GoodIn wsL_is wsL_isAt := goodIn_ca (goodIn_ca (goodIn_r _ [4, 5, 6, 3, 7, 8, 9, 10, 11, 12, 13, 14, 15, 16, 17, 18, 19, 20, 21, 22, 23, 24, 25, 26, 27, 28, 29, 30, 31, 32] rfl (by decide +kernel)) (goodIn_sub (fun _ h => List.mem_cons_of_mem _ (List.mem_append_left _ (List.mem_append_right _ h))) (by decide +kernel))) (goodIn_sub (fun _ h => List.mem_cons_of_mem _ (List.mem_append_right _ h)) (by decide +kernel))
set_option maxRecDepth 20000 in
theorem gL_is_L_isAt : GoodIn wsL_is (va_wsS RL 141 yL_isAt wsL_isAt) := goodIn_app (goodIn_r _ [1, 2, 3] rfl (by decide +kernel)) ggL_is_L_isAt
theorem dL_is_0 : decode cL_is 0 = .ok (.aload_n 0, 1) := by decide +kernel
theorem dL_is_1 : decode cL_is 1 = .ok (.iconst 0, 1) := by decide +kernel
theorem dL_is_2 : decode cL_is 2 = .ok (.iload_n 1, 1) := by decide +kernel
theorem dL_is_3 : decode cL_is 3 = .ok (.iload_n 2, 1) := by decide +kernel
theorem dL_is_4 : decode cL_is 4 = .ok (.invokestatic 141, 3) := by decide +kernel
theorem dL_is_7 : decode cL_is 7 = .ok (.ireturn, 1) := by decide +kernel
set_option maxRecDepth 20000 in
theorem ggL_isAt_L_reason : GoodIn wsL_isAt wsL_reason := goodIn_ca (goodIn_ca (goodIn_r _ [4, 5, 6, 7, 8, 9, 10, 11, 12, 13, 14, 15, 16, 17, 18, 19, 20, 21, 22, 23, 24, 25, 26, 27, 28, 29] rfl (by decide +kernel)) (goodIn_sub (fun _ h => List.mem_cons_of_mem _ (List.mem_append_left _ (List.mem_append_right _ h))) (by decide +kernel))) (goodIn_sub (fun _ h => List.mem_cons_of_mem _ (List.mem_append_right _ h)) (by decide +kernel))
set_option maxRecDepth 20000 in
theorem gL_isAt_L_reason : GoodIn wsL_isAt (va_wsS RL 145 yL_reason wsL_reason) := goodIn_app (goodIn_r _ [1, 2, 3] rfl (by decide +kernel)) ggL_isAt_L_reason
theorem dL_isAt_0 : decode cL_isAt 0 = .ok (.aload_n 0, 1) := by decide +kernel
theorem dL_isAt_1 : decode cL_isAt 1 = .ok (.iconst 0, 1) := by decide +kernel
theorem dL_isAt_2 : decode cL_isAt 2 = .ok (.invokestatic 145, 3) := by decide +kernel
theorem dL_isAt_5 : decode cL_isAt 5 = .ok (.iload_n 2, 1) := by decide +kernel
theorem dL_isAt_6 : decode cL_isAt 6 = .ok (.if_icmp .ne 36, 3) := by decide +kernel
theorem dL_isAt_9 : decode cL_isAt 9 = .ok (.aload_n 0, 1) := by decide +kernel
theorem dL_isAt_10 : decode cL_isAt 10 = .ok (.iconst 1, 1) := by decide +kernel
theorem dL_isAt_11 : decode cL_isAt 11 = .ok (.invokestatic 145, 3) := by decide +kernel
theorem dL_isAt_14 : decode cL_isAt 14 = .ok (.iload_n 3, 1) := by decide +kernel
theorem dL_isAt_15 : decode cL_isAt 15 = .ok (.if_icmp .ne 27, 3) := by decide +kernel
theorem dL_isAt_18 : decode cL_isAt 18 = .ok (.aload_n 0, 1) := by decide +kernel
theorem dL_isAt_19 : decode cL_isAt 19 = .ok (.iconst 2, 1) := by decide +kernel
theorem dL_isAt_20 : decode cL_isAt 20 = .ok (.invokestatic 145, 3) := by decide +kernel
theorem dL_isAt_23 : decode cL_isAt 23 = .ok (.iload_n 1, 1) := by decide +kernel
theorem dL_isAt_24 : decode cL_isAt 24 = .ok (.if_icmp .ne 18, 3) := by decide +kernel
theorem dL_isAt_27 : decode cL_isAt 27 = .ok (.aload_n 0, 1) := by decide +kernel
theorem dL_isAt_28 : decode cL_isAt 28 = .ok (.iconst 3, 1) := by decide +kernel
theorem dL_isAt_29 : decode cL_isAt 29 = .ok (.invokestatic 145, 3) := by decide +kernel
theorem dL_isAt_32 : decode cL_isAt 32 = .ok (.sipush (-1001), 3) := by decide +kernel
theorem dL_isAt_35 : decode cL_isAt 35 = .ok (.if_icmp .ne 7, 3) := by decide +kernel
theorem dL_isAt_38 : decode cL_isAt 38 = .ok (.iconst 1, 1) := by decide +kernel
theorem dL_isAt_39 : decode cL_isAt 39 = .ok (.goto 4, 3) := by decide +kernel
theorem dL_isAt_42 : decode cL_isAt 42 = .ok (.iconst 0, 1) := by decide +kernel
theorem dL_isAt_43 : decode cL_isAt 43 = .ok (.ireturn, 1) := by decide +kernel
set_option maxRecDepth 20000 in
theorem ggL_makes_L_at : GoodIn wsL_makes wsL_at := goodIn_ca (goodIn_r _ [4] rfl (by decide +kernel)) (goodIn_sub (fun _ h => List.mem_cons_of_mem _ (List.mem_append_left _ (List.mem_append_left _ (List.mem_append_left _ (List.mem_append_left _ (List.mem_append_left _ (List.mem_append_right _ h))))))) (by decide +kernel))
set_option maxRecDepth 20000 in
theorem gL_makes_L_at : GoodIn wsL_makes (va_wsS RL 150 yL_at wsL_at) := goodIn_app (goodIn_r _ [1, 2, 3] rfl (by decide +kernel)) ggL_makes_L_at
set_option maxRecDepth 20000 in
theorem ggL_makes_L_some : GoodIn wsL_makes wsL_some := goodIn_ca (goodIn_r _ [7] rfl (by decide +kernel)) (goodIn_sub (fun _ h => List.mem_cons_of_mem _ (List.mem_append_left _ (List.mem_append_left _ (List.mem_append_left _ (List.mem_append_left _ (List.mem_append_right _ h)))))) (by decide +kernel))
set_option maxRecDepth 20000 in
theorem gL_makes_L_some : GoodIn wsL_makes (va_wsS RL 154 yL_some wsL_some) := goodIn_app (goodIn_r _ [5, 6, 3] rfl (by decide +kernel)) ggL_makes_L_some
set_option maxRecDepth 20000 in
theorem ggL_makes_L_owner : GoodIn wsL_makes wsL_owner := goodIn_ca (goodIn_ca (goodIn_ca (goodIn_r _ [10, 11, 12, 13, 14, 15, 16, 17, 18, 19, 20, 21, 22, 23, 24, 25, 26, 27, 28, 29, 30, 31, 32, 33, 34, 35, 319, 320, 321, 322, 323, 324, 325, 326, 327, 328, 329, 330] rfl (by decide +kernel)) (goodIn_sub (fun _ h => List.mem_cons_of_mem _ (List.mem_append_left _ (List.mem_append_left _ (List.mem_append_left _ (List.mem_append_right _ h))))) (by decide +kernel))) (goodIn_sub (fun _ h => List.mem_cons_of_mem _ (List.mem_append_left _ (List.mem_append_left _ (List.mem_append_right _ h)))) (by decide +kernel))) (goodIn_sub (fun _ h => List.mem_cons_of_mem _ (List.mem_append_left _ (List.mem_append_left _ (List.mem_append_left _ (List.mem_append_left _ (List.mem_append_left _ (List.mem_append_right _ h))))))) (by decide +kernel))
set_option maxRecDepth 20000 in
theorem gL_makes_L_owner : GoodIn wsL_makes (va_wsS RL 157 yL_owner wsL_owner) := goodIn_app (goodIn_r _ [8, 9, 3] rfl (by decide +kernel)) ggL_makes_L_owner
set_option maxRecDepth 20000 in
theorem ggL_makes_L_join : GoodIn wsL_makes wsL_join := goodIn_ca (goodIn_ca (goodIn_ca (goodIn_r _ [38, 39, 40, 41, 42, 16, 43, 44, 45, 46, 47, 48, 49, 50, 22, 51, 52, 53, 54, 55, 56, 57, 58, 59, 60, 61, 29, 62, 31, 63, 64, 65, 66, 67, 68, 69, 70, 71, 72, 73, 74, 75, 76, 77, 24, 25, 78, 79, 80, 81, 82, 83, 84, 85, 86, 87, 88, 89, 90, 27, 28, 30, 32, 33, 34, 35, 91, 92, 93, 94, 95, 96, 97, 98, 99, 100, 101, 102, 103, 104, 105, 106, 107, 108, 109, 110, 111, 112, 113, 114, 115, 116, 117, 118, 119, 120, 121, 122, 123, 124, 125, 126, 127, 128, 129, 130, 131, 132, 133, 134, 135, 136, 137, 138, 139, 140, 141, 142, 143, 144, 145, 146, 147, 148, 149, 150, 151, 152, 153, 154, 155, 156, 157, 158, 159, 160, 161, 162, 163, 164, 165, 166, 167, 168, 169, 170, 171, 172, 173, 174, 175, 176, 177, 178, 179, 180, 181, 182, 183, 184, 185, 186, 187, 188, 189, 190, 191, 192, 193, 194, 195, 196, 197, 198, 199, 200, 201, 202, 203, 204, 205, 206, 207, 208, 209, 210, 211, 212, 213, 214, 215, 216, 217, 218, 219, 220, 221, 222, 223, 224, 225, 226, 227, 228, 229, 230, 231, 232, 233, 234, 235, 236, 237, 238, 239, 240, 241, 242, 243, 244, 245, 246, 247, 248, 249, 250, 251, 252, 253, 254, 255, 256, 257, 258, 259, 260, 319, 320, 321, 322, 323, 324, 325, 326, 327, 328, 329, 331, 332, 333, 330, 334, 335] rfl (by decide +kernel)) (goodIn_sub (fun _ h => List.mem_cons_of_mem _ (List.mem_append_left _ (List.mem_append_right _ h))) (by decide +kernel))) (goodIn_sub (fun _ h => List.mem_cons_of_mem _ (List.mem_append_left _ (List.mem_append_left _ (List.mem_append_left _ (List.mem_append_left _ (List.mem_append_left _ (List.mem_append_right _ h))))))) (by decide +kernel))) (goodIn_sub (fun _ h => List.mem_cons_of_mem _ (List.mem_append_left _ (List.mem_append_left _ (List.mem_append_left _ (List.mem_append_left _ (List.mem_append_right _ h)))))) (by decide +kernel))
set_option maxRecDepth 20000 in
theorem gL_makes_L_join : GoodIn wsL_makes (va_wsS RL 159 yL_join wsL_join) := goodIn_app (goodIn_r _ [36, 37, 3] rfl (by decide +kernel)) ggL_makes_L_join
set_option maxRecDepth 20000 in
theorem ggL_makes_L_day : GoodIn wsL_makes wsL_day := goodIn_ca (goodIn_ca (goodIn_ca (goodIn_r _ [263, 39, 264, 265, 266, 16, 267, 44, 45, 46, 47, 48, 49, 50, 22, 51, 52, 53, 54, 55, 56, 57, 58, 59, 60, 61, 29, 62, 31, 63, 64, 65, 66, 67, 68, 69, 70, 71, 72, 73, 74, 75, 76, 77, 24, 25, 78, 79, 80, 81, 82, 83, 84, 85, 86, 87, 88, 89, 90, 27, 28, 30, 32, 33, 34, 35, 91, 92, 93, 94, 95, 96, 97, 98, 99, 100, 101, 102, 103, 104, 105, 106, 107, 108, 109, 110, 111, 112, 113, 114, 115, 116, 117, 118, 119, 120, 121, 122, 123, 124, 125, 126, 127, 128, 129, 130, 131, 132, 133, 134, 135, 136, 137, 138, 139, 140, 141, 142, 143, 144, 145, 146, 147, 148, 149, 150, 151, 152, 153, 154, 155, 156, 157, 158, 159, 160, 161, 162, 163, 164, 165, 166, 167, 168, 169, 170, 171, 172, 173, 174, 175, 176, 177, 178, 179, 180, 181, 182, 183, 184, 185, 186, 187, 188, 189, 190, 191, 192, 193, 194, 195, 196, 197, 198, 199, 200, 201, 202, 203, 204, 205, 206, 207, 208, 209, 210, 211, 212, 213, 214, 215, 216, 217, 218, 219, 220, 221, 222, 223, 224, 225, 226, 227, 228, 229, 230, 231, 232, 233, 234, 235, 236, 237, 238, 239, 240, 241, 242, 243, 244, 245, 246, 247, 248, 249, 250, 251, 252, 253, 254, 255, 256, 257, 258, 259, 260, 319, 320, 321, 322, 323, 324, 325, 326, 327, 328, 329, 331, 332, 333, 330, 334, 335] rfl (by decide +kernel)) (goodIn_sub (fun _ h => List.mem_cons_of_mem _ (List.mem_append_left _ (List.mem_append_right _ h))) (by decide +kernel))) (goodIn_sub (fun _ h => List.mem_cons_of_mem _ (List.mem_append_left _ (List.mem_append_left _ (List.mem_append_left _ (List.mem_append_left _ (List.mem_append_left _ (List.mem_append_right _ h))))))) (by decide +kernel))) (goodIn_sub (fun _ h => List.mem_cons_of_mem _ (List.mem_append_left _ (List.mem_append_left _ (List.mem_append_left _ (List.mem_append_left _ (List.mem_append_right _ h)))))) (by decide +kernel))
set_option maxRecDepth 20000 in
theorem gL_makes_L_day : GoodIn wsL_makes (va_wsS RL 161 yL_day wsL_day) := goodIn_app (goodIn_r _ [261, 262, 3] rfl (by decide +kernel)) ggL_makes_L_day
set_option maxRecDepth 20000 in
theorem ggL_makes_L_reason : GoodIn wsL_makes wsL_reason := goodIn_ca (goodIn_ca (goodIn_r _ [270, 11, 12, 271, 272, 273, 16, 274, 18, 19, 20, 21, 242, 243, 244, 319, 320, 321, 322, 323, 324, 325, 326, 327, 328, 329] rfl (by decide +kernel)) (goodIn_sub (fun _ h => List.mem_cons_of_mem _ (List.mem_append_left _ (List.mem_append_left _ (List.mem_append_left _ (List.mem_append_right _ h))))) (by decide +kernel))) (goodIn_sub (fun _ h => List.mem_cons_of_mem _ (List.mem_append_left _ (List.mem_append_left _ (List.mem_append_right _ h)))) (by decide +kernel))
set_option maxRecDepth 20000 in
theorem gL_makes_L_reason : GoodIn wsL_makes (va_wsS RL 145 yL_reason wsL_reason) := goodIn_app (goodIn_r _ [268, 269, 3] rfl (by decide +kernel)) ggL_makes_L_reason
set_option maxRecDepth 20000 in
theorem ggL_makes_L_bestGuess : GoodIn wsL_makes wsL_bestGuess := goodIn_ca (goodIn_ca (goodIn_r _ [277, 278, 279, 280, 281, 16, 282, 22, 283, 284, 285, 286, 287, 288, 289, 118, 119, 29, 120, 31, 290, 83, 84, 85, 291, 217, 203, 218, 215, 33, 34, 35, 292, 293, 294, 295, 259, 140, 260, 296, 297, 298, 319, 320, 321, 322, 323, 324, 325, 326, 327, 328, 329, 330] rfl (by decide +kernel)) (goodIn_sub (fun _ h => List.mem_cons_of_mem _ (List.mem_append_right _ h)) (by decide +kernel))) (goodIn_sub (fun _ h => List.mem_cons_of_mem _ (List.mem_append_left _ (List.mem_append_left _ (List.mem_append_left _ (List.mem_append_left _ (List.mem_append_left _ (List.mem_append_right _ h))))))) (by decide +kernel))
set_option maxRecDepth 20000 in
theorem gL_makes_L_bestGuess : GoodIn wsL_makes (va_wsS RL 163 yL_bestGuess wsL_bestGuess) := goodIn_app (goodIn_r _ [275, 276, 3] rfl (by decide +kernel)) ggL_makes_L_bestGuess
set_option maxRecDepth 20000 in
theorem ggL_makes_L_wager : GoodIn wsL_makes wsL_wager := goodIn_ca (goodIn_ca (goodIn_ca (goodIn_r _ [301, 39, 302, 303, 304, 16, 305, 44, 45, 46, 47, 48, 49, 50, 22, 51, 52, 53, 54, 55, 56, 57, 58, 59, 60, 61, 29, 62, 31, 63, 64, 65, 66, 67, 68, 69, 70, 71, 72, 73, 74, 75, 76, 77, 24, 25, 78, 79, 80, 81, 82, 83, 84, 85, 86, 87, 88, 89, 90, 27, 28, 30, 32, 33, 34, 35, 91, 92, 93, 94, 95, 96, 97, 98, 99, 100, 101, 102, 103, 104, 105, 106, 107, 108, 109, 110, 111, 112, 113, 114, 115, 116, 117, 118, 119, 120, 121, 122, 123, 124, 125, 126, 127, 128, 129, 130, 131, 132, 133, 134, 135, 136, 137, 138, 139, 140, 141, 142, 143, 144, 145, 146, 147, 148, 149, 150, 151, 152, 153, 154, 155, 156, 157, 158, 159, 160, 161, 162, 163, 164, 165, 166, 167, 168, 169, 170, 171, 172, 173, 174, 175, 176, 177, 178, 179, 180, 181, 182, 183, 184, 185, 186, 187, 188, 189, 190, 191, 192, 193, 194, 195, 196, 197, 198, 199, 200, 201, 202, 203, 204, 205, 206, 207, 208, 209, 210, 211, 212, 213, 214, 215, 216, 217, 218, 219, 220, 221, 222, 223, 224, 225, 226, 227, 228, 229, 230, 231, 232, 233, 234, 235, 236, 237, 238, 239, 240, 241, 242, 243, 244, 245, 246, 247, 248, 249, 250, 251, 252, 253, 254, 255, 256, 257, 258, 259, 260, 319, 320, 321, 322, 323, 324, 325, 326, 327, 328, 329, 331, 332, 333, 330, 334, 335] rfl (by decide +kernel)) (goodIn_sub (fun _ h => List.mem_cons_of_mem _ (List.mem_append_left _ (List.mem_append_right _ h))) (by decide +kernel))) (goodIn_sub (fun _ h => List.mem_cons_of_mem _ (List.mem_append_left _ (List.mem_append_left _ (List.mem_append_left _ (List.mem_append_left _ (List.mem_append_left _ (List.mem_append_right _ h))))))) (by decide +kernel))) (goodIn_sub (fun _ h => List.mem_cons_of_mem _ (List.mem_append_left _ (List.mem_append_left _ (List.mem_append_left _ (List.mem_append_left _ (List.mem_append_right _ h)))))) (by decide +kernel))
set_option maxRecDepth 20000 in
theorem gL_makes_L_wager : GoodIn wsL_makes (va_wsS RL 165 yL_wager wsL_wager) := goodIn_app (goodIn_r _ [299, 300, 3] rfl (by decide +kernel)) ggL_makes_L_wager
set_option maxRecDepth 20000 in
theorem ggL_makes_L_is : GoodIn wsL_makes wsL_is := goodIn_ca (goodIn_ca (goodIn_r _ [308, 309, 310, 3, 311, 268, 269, 270, 11, 12, 271, 272, 273, 16, 274, 18, 19, 20, 21, 242, 243, 244, 319, 320, 321, 322, 323, 324, 325, 326, 327, 328, 329] rfl (by decide +kernel)) (goodIn_sub (fun _ h => List.mem_cons_of_mem _ (List.mem_append_left _ (List.mem_append_left _ (List.mem_append_left _ (List.mem_append_right _ h))))) (by decide +kernel))) (goodIn_sub (fun _ h => List.mem_cons_of_mem _ (List.mem_append_left _ (List.mem_append_left _ (List.mem_append_right _ h)))) (by decide +kernel))
set_option maxRecDepth 20000 in
theorem gL_makes_L_is : GoodIn wsL_makes (va_wsS RL 168 yL_is wsL_is) := goodIn_app (goodIn_r _ [306, 307, 3] rfl (by decide +kernel)) ggL_makes_L_is
set_option maxRecDepth 20000 in
theorem ggL_makes_L_tap : GoodIn wsL_makes wsL_tap := goodIn_ca (goodIn_ca (goodIn_ca (goodIn_r _ [314, 39, 315, 316, 317, 16, 318, 44, 45, 46, 47, 48, 49, 50, 22, 51, 52, 53, 54, 55, 56, 57, 58, 59, 60, 61, 29, 62, 31, 63, 64, 65, 66, 67, 68, 69, 70, 71, 72, 73, 74, 75, 76, 77, 24, 25, 78, 79, 80, 81, 82, 83, 84, 85, 86, 87, 88, 89, 90, 27, 28, 30, 32, 33, 34, 35, 91, 92, 93, 94, 95, 96, 97, 98, 99, 100, 101, 102, 103, 104, 105, 106, 107, 108, 109, 110, 111, 112, 113, 114, 115, 116, 117, 118, 119, 120, 121, 122, 123, 124, 125, 126, 127, 128, 129, 130, 131, 132, 133, 134, 135, 136, 137, 138, 139, 140, 141, 142, 143, 144, 145, 146, 147, 148, 149, 150, 151, 152, 153, 154, 155, 156, 157, 158, 159, 160, 161, 162, 163, 164, 165, 166, 167, 168, 169, 170, 171, 172, 173, 174, 175, 176, 177, 178, 179, 180, 181, 182, 183, 184, 185, 186, 187, 188, 189, 190, 191, 192, 193, 194, 195, 196, 197, 198, 199, 200, 201, 202, 203, 204, 205, 206, 207, 208, 209, 210, 211, 212, 213, 214, 215, 216, 217, 218, 219, 220, 221, 222, 223, 224, 225, 226, 227, 228, 229, 230, 231, 232, 233, 234, 235, 236, 237, 238, 239, 240, 241, 242, 243, 244, 245, 246, 247, 248, 249, 250, 251, 252, 253, 254, 255, 256, 257, 258, 259, 260, 319, 320, 321, 322, 323, 324, 325, 326, 327, 328, 329, 331, 332, 333, 330, 334, 335] rfl (by decide +kernel)) (goodIn_sub (fun _ h => List.mem_cons_of_mem _ (List.mem_append_left _ (List.mem_append_right _ h))) (by decide +kernel))) (goodIn_sub (fun _ h => List.mem_cons_of_mem _ (List.mem_append_left _ (List.mem_append_left _ (List.mem_append_left _ (List.mem_append_left _ (List.mem_append_left _ (List.mem_append_right _ h))))))) (by decide +kernel))) (goodIn_sub (fun _ h => List.mem_cons_of_mem _ (List.mem_append_left _ (List.mem_append_left _ (List.mem_append_left _ (List.mem_append_left _ (List.mem_append_right _ h)))))) (by decide +kernel))
set_option maxRecDepth 20000 in
theorem gL_makes_L_tap : GoodIn wsL_makes (va_wsS RL 172 yL_tap wsL_tap) := goodIn_app (goodIn_r _ [312, 313, 3] rfl (by decide +kernel)) ggL_makes_L_tap
theorem dL_makes_0 : decode cL_makes 0 = .ok (.iconst 2, 1) := by decide +kernel
theorem dL_makes_1 : decode cL_makes 1 = .ok (.aload_n 1, 1) := by decide +kernel
theorem dL_makes_2 : decode cL_makes 2 = .ok (.iconst 0, 1) := by decide +kernel
theorem dL_makes_3 : decode cL_makes 3 = .ok (.invokestatic 150, 3) := by decide +kernel
theorem dL_makes_6 : decode cL_makes 6 = .ok (.iconst 5, 1) := by decide +kernel
theorem dL_makes_7 : decode cL_makes 7 = .ok (.invokestatic 154, 3) := by decide +kernel
theorem dL_makes_10 : decode cL_makes 10 = .ok (.iadd, 1) := by decide +kernel
theorem dL_makes_11 : decode cL_makes 11 = .ok (.istore_n 2, 1) := by decide +kernel
theorem dL_makes_12 : decode cL_makes 12 = .ok (.iconst 0, 1) := by decide +kernel
theorem dL_makes_13 : decode cL_makes 13 = .ok (.istore_n 3, 1) := by decide +kernel
theorem dL_makes_14 : decode cL_makes 14 = .ok (.iload_n 3, 1) := by decide +kernel
theorem dL_makes_15 : decode cL_makes 15 = .ok (.iload_n 2, 1) := by decide +kernel
theorem dL_makes_16 : decode cL_makes 16 = .ok (.if_icmp .ge 56, 3) := by decide +kernel
theorem dL_makes_19 : decode cL_makes 19 = .ok (.aload_n 1, 1) := by decide +kernel
theorem dL_makes_20 : decode cL_makes 20 = .ok (.iconst 1, 1) := by decide +kernel
theorem dL_makes_21 : decode cL_makes 21 = .ok (.iload_n 3, 1) := by decide +kernel
theorem dL_makes_22 : decode cL_makes 22 = .ok (.iadd, 1) := by decide +kernel
theorem dL_makes_23 : decode cL_makes 23 = .ok (.invokestatic 150, 3) := by decide +kernel
theorem dL_makes_26 : decode cL_makes 26 = .ok (.bipush 10, 2) := by decide +kernel
theorem dL_makes_28 : decode cL_makes 28 = .ok (.invokestatic 154, 3) := by decide +kernel
theorem dL_makes_31 : decode cL_makes 31 = .ok (.istore 4, 2) := by decide +kernel
theorem dL_makes_33 : decode cL_makes 33 = .ok (.aload_n 0, 1) := by decide +kernel
theorem dL_makes_34 : decode cL_makes 34 = .ok (.iload 4, 2) := by decide +kernel
theorem dL_makes_36 : decode cL_makes 36 = .ok (.invokestatic 157, 3) := by decide +kernel
theorem dL_makes_39 : decode cL_makes 39 = .ok (.ifCond .lt 15, 3) := by decide +kernel
theorem dL_makes_42 : decode cL_makes 42 = .ok (.iload 4, 2) := by decide +kernel
theorem dL_makes_44 : decode cL_makes 44 = .ok (.iconst 1, 1) := by decide +kernel
theorem dL_makes_45 : decode cL_makes 45 = .ok (.iadd, 1) := by decide +kernel
theorem dL_makes_46 : decode cL_makes 46 = .ok (.bipush 10, 2) := by decide +kernel
theorem dL_makes_48 : decode cL_makes 48 = .ok (.irem, 1) := by decide +kernel
theorem dL_makes_49 : decode cL_makes 49 = .ok (.istore 4, 2) := by decide +kernel
theorem dL_makes_51 : decode cL_makes 51 = .ok (.goto (-18), 3) := by decide +kernel
theorem dL_makes_54 : decode cL_makes 54 = .ok (.aload_n 0, 1) := by decide +kernel
theorem dL_makes_55 : decode cL_makes 55 = .ok (.iload 4, 2) := by decide +kernel
theorem dL_makes_57 : decode cL_makes 57 = .ok (.invokestatic 159, 3) := by decide +kernel
theorem dL_makes_60 : decode cL_makes 60 = .ok (.iload_n 3, 1) := by decide +kernel
theorem dL_makes_61 : decode cL_makes 61 = .ok (.if_icmp .eq 5, 3) := by decide +kernel
theorem dL_makes_64 : decode cL_makes 64 = .ok (.iconst 0, 1) := by decide +kernel
theorem dL_makes_65 : decode cL_makes 65 = .ok (.ireturn, 1) := by decide +kernel
theorem dL_makes_66 : decode cL_makes 66 = .ok (.iinc 3 1, 3) := by decide +kernel
theorem dL_makes_69 : decode cL_makes 69 = .ok (.goto (-55), 3) := by decide +kernel
theorem dL_makes_72 : decode cL_makes 72 = .ok (.iconst 0, 1) := by decide +kernel
theorem dL_makes_73 : decode cL_makes 73 = .ok (.istore_n 3, 1) := by decide +kernel
theorem dL_makes_74 : decode cL_makes 74 = .ok (.iload_n 3, 1) := by decide +kernel
theorem dL_makes_75 : decode cL_makes 75 = .ok (.iconst 4, 1) := by decide +kernel
theorem dL_makes_76 : decode cL_makes 76 = .ok (.if_icmp .ge 59, 3) := by decide +kernel
theorem dL_makes_79 : decode cL_makes 79 = .ok (.aload_n 0, 1) := by decide +kernel
theorem dL_makes_80 : decode cL_makes 80 = .ok (.aload_n 1, 1) := by decide +kernel
theorem dL_makes_81 : decode cL_makes 81 = .ok (.bipush 7, 2) := by decide +kernel
theorem dL_makes_83 : decode cL_makes 83 = .ok (.iload_n 3, 1) := by decide +kernel
theorem dL_makes_84 : decode cL_makes 84 = .ok (.iadd, 1) := by decide +kernel
theorem dL_makes_85 : decode cL_makes 85 = .ok (.invokestatic 150, 3) := by decide +kernel
theorem dL_makes_88 : decode cL_makes 88 = .ok (.bipush 81, 2) := by decide +kernel
theorem dL_makes_90 : decode cL_makes 90 = .ok (.invokestatic 154, 3) := by decide +kernel
theorem dL_makes_93 : decode cL_makes 93 = .ok (.bipush 40, 2) := by decide +kernel
theorem dL_makes_95 : decode cL_makes 95 = .ok (.isub, 1) := by decide +kernel
theorem dL_makes_96 : decode cL_makes 96 = .ok (.invokestatic 161, 3) := by decide +kernel
theorem dL_makes_99 : decode cL_makes 99 = .ok (.istore 4, 2) := by decide +kernel
theorem dL_makes_101 : decode cL_makes 101 = .ok (.iload 4, 2) := by decide +kernel
theorem dL_makes_103 : decode cL_makes 103 = .ok (.sipush 900, 3) := by decide +kernel
theorem dL_makes_106 : decode cL_makes 106 = .ok (.if_icmp .ge 23, 3) := by decide +kernel
theorem dL_makes_109 : decode cL_makes 109 = .ok (.iload 4, 2) := by decide +kernel
theorem dL_makes_111 : decode cL_makes 111 = .ok (.sipush (-1001), 3) := by decide +kernel
theorem dL_makes_114 : decode cL_makes 114 = .ok (.if_icmp .ne 13, 3) := by decide +kernel
theorem dL_makes_117 : decode cL_makes 117 = .ok (.aload_n 0, 1) := by decide +kernel
theorem dL_makes_118 : decode cL_makes 118 = .ok (.iconst 0, 1) := by decide +kernel
theorem dL_makes_119 : decode cL_makes 119 = .ok (.invokestatic 145, 3) := by decide +kernel
theorem dL_makes_122 : decode cL_makes 122 = .ok (.bipush 13, 2) := by decide +kernel
theorem dL_makes_124 : decode cL_makes 124 = .ok (.if_icmp .eq 5, 3) := by decide +kernel
theorem dL_makes_127 : decode cL_makes 127 = .ok (.iconst 0, 1) := by decide +kernel
theorem dL_makes_128 : decode cL_makes 128 = .ok (.ireturn, 1) := by decide +kernel
theorem dL_makes_129 : decode cL_makes 129 = .ok (.iinc 3 1, 3) := by decide +kernel
theorem dL_makes_132 : decode cL_makes 132 = .ok (.goto (-58), 3) := by decide +kernel
theorem dL_makes_135 : decode cL_makes 135 = .ok (.iconst 0, 1) := by decide +kernel
theorem dL_makes_136 : decode cL_makes 136 = .ok (.istore_n 3, 1) := by decide +kernel
theorem dL_makes_137 : decode cL_makes 137 = .ok (.iload_n 3, 1) := by decide +kernel
theorem dL_makes_138 : decode cL_makes 138 = .ok (.iload_n 2, 1) := by decide +kernel
theorem dL_makes_139 : decode cL_makes 139 = .ok (.if_icmp .ge 78, 3) := by decide +kernel
theorem dL_makes_142 : decode cL_makes 142 = .ok (.aload_n 1, 1) := by decide +kernel
theorem dL_makes_143 : decode cL_makes 143 = .ok (.bipush 11, 2) := by decide +kernel
theorem dL_makes_145 : decode cL_makes 145 = .ok (.iload_n 3, 1) := by decide +kernel
theorem dL_makes_146 : decode cL_makes 146 = .ok (.iadd, 1) := by decide +kernel
theorem dL_makes_147 : decode cL_makes 147 = .ok (.invokestatic 150, 3) := by decide +kernel
theorem dL_makes_150 : decode cL_makes 150 = .ok (.istore 4, 2) := by decide +kernel
theorem dL_makes_152 : decode cL_makes 152 = .ok (.iload 4, 2) := by decide +kernel
theorem dL_makes_154 : decode cL_makes 154 = .ok (.iconst 4, 1) := by decide +kernel
theorem dL_makes_155 : decode cL_makes 155 = .ok (.invokestatic 154, 3) := by decide +kernel
theorem dL_makes_158 : decode cL_makes 158 = .ok (.ifCond .ne 6, 3) := by decide +kernel
theorem dL_makes_161 : decode cL_makes 161 = .ok (.goto 50, 3) := by decide +kernel
theorem dL_makes_164 : decode cL_makes 164 = .ok (.aload_n 0, 1) := by decide +kernel
theorem dL_makes_165 : decode cL_makes 165 = .ok (.iload_n 3, 1) := by decide +kernel
theorem dL_makes_166 : decode cL_makes 166 = .ok (.aload_n 0, 1) := by decide +kernel
theorem dL_makes_167 : decode cL_makes 167 = .ok (.iload_n 3, 1) := by decide +kernel
theorem dL_makes_168 : decode cL_makes 168 = .ok (.invokestatic 163, 3) := by decide +kernel
theorem dL_makes_171 : decode cL_makes 171 = .ok (.iload 4, 2) := by decide +kernel
theorem dL_makes_173 : decode cL_makes 173 = .ok (.iconst 2, 1) := by decide +kernel
theorem dL_makes_174 : decode cL_makes 174 = .ok (.ishr, 1) := by decide +kernel
theorem dL_makes_175 : decode cL_makes 175 = .ok (.bipush 30, 2) := by decide +kernel
theorem dL_makes_177 : decode cL_makes 177 = .ok (.invokestatic 154, 3) := by decide +kernel
theorem dL_makes_180 : decode cL_makes 180 = .ok (.isub, 1) := by decide +kernel
theorem dL_makes_181 : decode cL_makes 181 = .ok (.iconst 1, 1) := by decide +kernel
theorem dL_makes_182 : decode cL_makes 182 = .ok (.iload 4, 2) := by decide +kernel
theorem dL_makes_184 : decode cL_makes 184 = .ok (.bipush 8, 2) := by decide +kernel
theorem dL_makes_186 : decode cL_makes 186 = .ok (.ishr, 1) := by decide +kernel
theorem dL_makes_187 : decode cL_makes 187 = .ok (.bipush 9, 2) := by decide +kernel
theorem dL_makes_189 : decode cL_makes 189 = .ok (.invokestatic 154, 3) := by decide +kernel
theorem dL_makes_192 : decode cL_makes 192 = .ok (.iadd, 1) := by decide +kernel
theorem dL_makes_193 : decode cL_makes 193 = .ok (.invokestatic 165, 3) := by decide +kernel
theorem dL_makes_196 : decode cL_makes 196 = .ok (.iconst 1, 1) := by decide +kernel
theorem dL_makes_197 : decode cL_makes 197 = .ok (.if_icmp .ge 14, 3) := by decide +kernel
theorem dL_makes_200 : decode cL_makes 200 = .ok (.aload_n 0, 1) := by decide +kernel
theorem dL_makes_201 : decode cL_makes 201 = .ok (.iconst 1, 1) := by decide +kernel
theorem dL_makes_202 : decode cL_makes 202 = .ok (.iconst 0, 1) := by decide +kernel
theorem dL_makes_203 : decode cL_makes 203 = .ok (.invokestatic 168, 3) := by decide +kernel
theorem dL_makes_206 : decode cL_makes 206 = .ok (.ifCond .ne 5, 3) := by decide +kernel
theorem dL_makes_209 : decode cL_makes 209 = .ok (.iconst 0, 1) := by decide +kernel
theorem dL_makes_210 : decode cL_makes 210 = .ok (.ireturn, 1) := by decide +kernel
theorem dL_makes_211 : decode cL_makes 211 = .ok (.iinc 3 1, 3) := by decide +kernel
theorem dL_makes_214 : decode cL_makes 214 = .ok (.goto (-77), 3) := by decide +kernel
theorem dL_makes_217 : decode cL_makes 217 = .ok (.iconst 0, 1) := by decide +kernel
theorem dL_makes_218 : decode cL_makes 218 = .ok (.istore_n 3, 1) := by decide +kernel
theorem dL_makes_219 : decode cL_makes 219 = .ok (.iload_n 3, 1) := by decide +kernel
theorem dL_makes_220 : decode cL_makes 220 = .ok (.iconst 2, 1) := by decide +kernel
theorem dL_makes_221 : decode cL_makes 221 = .ok (.if_icmp .ge 57, 3) := by decide +kernel
theorem dL_makes_224 : decode cL_makes 224 = .ok (.aload_n 0, 1) := by decide +kernel
theorem dL_makes_225 : decode cL_makes 225 = .ok (.aload_n 1, 1) := by decide +kernel
theorem dL_makes_226 : decode cL_makes 226 = .ok (.bipush 17, 2) := by decide +kernel
theorem dL_makes_228 : decode cL_makes 228 = .ok (.iload_n 3, 1) := by decide +kernel
theorem dL_makes_229 : decode cL_makes 229 = .ok (.iadd, 1) := by decide +kernel
theorem dL_makes_230 : decode cL_makes 230 = .ok (.invokestatic 150, 3) := by decide +kernel
theorem dL_makes_233 : decode cL_makes 233 = .ok (.iload_n 2, 1) := by decide +kernel
theorem dL_makes_234 : decode cL_makes 234 = .ok (.invokestatic 154, 3) := by decide +kernel
theorem dL_makes_237 : decode cL_makes 237 = .ok (.invokestatic 172, 3) := by decide +kernel
theorem dL_makes_240 : decode cL_makes 240 = .ok (.istore 4, 2) := by decide +kernel
theorem dL_makes_242 : decode cL_makes 242 = .ok (.iload 4, 2) := by decide +kernel
theorem dL_makes_244 : decode cL_makes 244 = .ok (.sipush (-1001), 3) := by decide +kernel
theorem dL_makes_247 : decode cL_makes 247 = .ok (.if_icmp .ne 25, 3) := by decide +kernel
theorem dL_makes_250 : decode cL_makes 250 = .ok (.aload_n 0, 1) := by decide +kernel
theorem dL_makes_251 : decode cL_makes 251 = .ok (.iconst 0, 1) := by decide +kernel
theorem dL_makes_252 : decode cL_makes 252 = .ok (.invokestatic 145, 3) := by decide +kernel
theorem dL_makes_255 : decode cL_makes 255 = .ok (.bipush 8, 2) := by decide +kernel
theorem dL_makes_257 : decode cL_makes 257 = .ok (.if_icmp .eq 15, 3) := by decide +kernel
theorem dL_makes_260 : decode cL_makes 260 = .ok (.aload_n 0, 1) := by decide +kernel
theorem dL_makes_261 : decode cL_makes 261 = .ok (.iconst 0, 1) := by decide +kernel
theorem dL_makes_262 : decode cL_makes 262 = .ok (.invokestatic 145, 3) := by decide +kernel
theorem dL_makes_265 : decode cL_makes 265 = .ok (.bipush 9, 2) := by decide +kernel
theorem dL_makes_267 : decode cL_makes 267 = .ok (.if_icmp .eq 5, 3) := by decide +kernel
theorem dL_makes_270 : decode cL_makes 270 = .ok (.iconst 0, 1) := by decide +kernel
theorem dL_makes_271 : decode cL_makes 271 = .ok (.ireturn, 1) := by decide +kernel
theorem dL_makes_272 : decode cL_makes 272 = .ok (.iinc 3 1, 3) := by decide +kernel
theorem dL_makes_275 : decode cL_makes 275 = .ok (.goto (-56), 3) := by decide +kernel
theorem dL_makes_278 : decode cL_makes 278 = .ok (.iconst 1, 1) := by decide +kernel
theorem dL_makes_279 : decode cL_makes 279 = .ok (.ireturn, 1) := by decide +kernel
set_option maxRecDepth 20000 in
theorem ggL_asks_L_meanCoins : GoodIn wsL_asks wsL_meanCoins := goodIn_ca (goodIn_ca (goodIn_r _ [5, 6, 7, 8, 9, 10, 11, 12, 13, 14, 15, 16, 17, 18, 19, 20, 21, 22, 23, 24, 25, 26, 27, 28, 29, 328, 329, 330, 331, 332, 333, 334, 335, 336, 337, 338, 339] rfl (by decide +kernel)) (goodIn_sub (fun _ h => List.mem_cons_of_mem _ (List.mem_append_left _ (List.mem_append_left _ (List.mem_append_left _ (List.mem_append_left _ (List.mem_append_left _ (List.mem_append_right _ h))))))) (by decide +kernel))) (goodIn_sub (fun _ h => List.mem_cons_of_mem _ (List.mem_append_left _ (List.mem_append_left _ (List.mem_append_left _ (List.mem_append_left _ (List.mem_append_right _ h)))))) (by decide +kernel))
set_option maxRecDepth 20000 in
theorem gL_asks_L_meanCoins : GoodIn wsL_asks (va_wsS RL 176 yL_meanCoins wsL_meanCoins) := goodIn_app (goodIn_r _ [2, 3, 4] rfl (by decide +kernel)) ggL_asks_L_meanCoins
set_option maxRecDepth 20000 in
theorem ggL_asks_Jxe99ae_doubleToLongBits_ccdee : GoodIn wsL_asks wsJxe99ae_doubleToLongBits_ccdee := goodIn_r _ [33, 34, 35, 36, 37, 38, 39, 40, 32, 41] rfl (by decide +kernel)
set_option maxRecDepth 20000 in
theorem gL_asks_Jxe99ae_doubleToLongBits_ccdee : GoodIn wsL_asks (va_wsS RL 179 yJxe99ae_doubleToLongBits_ccdee wsJxe99ae_doubleToLongBits_ccdee) := goodIn_app (goodIn_r _ [30, 31, 32] rfl (by decide +kernel)) ggL_asks_Jxe99ae_doubleToLongBits_ccdee
set_option maxRecDepth 20000 in
theorem ggL_asks_L_tappedShare : GoodIn wsL_asks wsL_tappedShare := goodIn_ca (goodIn_ca (goodIn_r _ [44, 6, 45, 46, 47, 48, 11, 49, 13, 14, 15, 50, 51, 52, 19, 53, 21, 54, 55, 56, 57, 26, 27, 28, 29, 58, 59, 60, 61, 62, 63, 64, 65, 328, 329, 330, 331, 332, 333, 334, 335, 336, 337, 338, 339] rfl (by decide +kernel)) (goodIn_sub (fun _ h => List.mem_cons_of_mem _ (List.mem_append_left _ (List.mem_append_left _ (List.mem_append_left _ (List.mem_append_left _ (List.mem_append_left _ (List.mem_append_right _ h))))))) (by decide +kernel))) (goodIn_sub (fun _ h => List.mem_cons_of_mem _ (List.mem_append_left _ (List.mem_append_left _ (List.mem_append_left _ (List.mem_append_left _ (List.mem_append_right _ h)))))) (by decide +kernel))
set_option maxRecDepth 20000 in
theorem gL_asks_L_tappedShare : GoodIn wsL_asks (va_wsS RL 185 yL_tappedShare wsL_tappedShare) := goodIn_app (goodIn_r _ [42, 43, 4] rfl (by decide +kernel)) ggL_asks_L_tappedShare
set_option maxRecDepth 20000 in
theorem ggL_asks_Jxf58ca_floatToIntBits_5c35a : GoodIn wsL_asks wsJxf58ca_floatToIntBits_5c35a := goodIn_r _ [69, 70, 71, 72, 73, 74, 75, 76, 68, 77] rfl (by decide +kernel)
set_option maxRecDepth 20000 in
theorem gL_asks_Jxf58ca_floatToIntBits_5c35a : GoodIn wsL_asks (va_wsS RL 188 yJxf58ca_floatToIntBits_5c35a wsJxf58ca_floatToIntBits_5c35a) := goodIn_app (goodIn_r _ [66, 67, 68] rfl (by decide +kernel)) ggL_asks_Jxf58ca_floatToIntBits_5c35a
set_option maxRecDepth 20000 in
theorem ggL_asks_L_account : GoodIn wsL_asks wsL_account := goodIn_ca (goodIn_ca (goodIn_r _ [80, 81, 82, 83, 84, 11, 85, 86, 87, 15, 88, 89, 16, 17, 18, 19, 20, 21, 22, 23, 24, 25, 26, 27, 28, 29, 50, 51, 52, 53, 54, 55, 56, 57, 90, 91, 92, 93, 94, 95, 96, 97, 98, 99, 100, 101, 328, 329, 330, 331, 332, 333, 334, 335, 336, 337, 338, 339, 340, 341, 342, 343, 344, 345, 346, 347, 348] rfl (by decide +kernel)) (goodIn_sub (fun _ h => List.mem_cons_of_mem _ (List.mem_append_left _ (List.mem_append_left _ (List.mem_append_left _ (List.mem_append_right _ h))))) (by decide +kernel))) (goodIn_sub (fun _ h => List.mem_cons_of_mem _ (List.mem_append_left _ (List.mem_append_left _ (List.mem_append_left _ (List.mem_append_left _ (List.mem_append_right _ h)))))) (by decide +kernel))
set_option maxRecDepth 20000 in
theorem gL_asks_L_account : GoodIn wsL_asks (va_wsS RL 194 yL_account wsL_account) := goodIn_app (goodIn_r _ [78, 79, 4] rfl (by decide +kernel)) ggL_asks_L_account
set_option maxRecDepth 20000 in
theorem ggL_asks_L_weather : GoodIn wsL_asks wsL_weather := goodIn_ca (goodIn_ca (goodIn_r _ [104, 81, 105, 106, 107, 11, 108, 86, 87, 15, 16, 17, 18, 19, 20, 21, 328, 329, 330, 331, 332, 333, 334, 335, 336, 337, 338, 339] rfl (by decide +kernel)) (goodIn_sub (fun _ h => List.mem_cons_of_mem _ (List.mem_append_left _ (List.mem_append_left _ (List.mem_append_left _ (List.mem_append_right _ h))))) (by decide +kernel))) (goodIn_sub (fun _ h => List.mem_cons_of_mem _ (List.mem_append_left _ (List.mem_append_left _ (List.mem_append_left _ (List.mem_append_left _ (List.mem_append_right _ h)))))) (by decide +kernel))
set_option maxRecDepth 20000 in
theorem gL_asks_L_weather : GoodIn wsL_asks (va_wsS RL 196 yL_weather wsL_weather) := goodIn_app (goodIn_r _ [102, 103, 4] rfl (by decide +kernel)) ggL_asks_L_weather
set_option maxRecDepth 20000 in
theorem ggL_asks_L_of : GoodIn wsL_asks wsL_of := goodIn_ca (goodIn_ca (goodIn_ca (goodIn_r _ [111, 112, 81, 113, 114, 115, 11, 116, 86, 87, 15, 117, 118, 119, 120, 121, 122, 123, 124, 125, 19, 126, 21, 127, 27, 28, 29, 328, 329, 330, 331, 332, 333, 334, 335, 336, 337, 338, 339] rfl (by decide +kernel)) (goodIn_sub (fun _ h => List.mem_cons_of_mem _ (List.mem_append_left _ (List.mem_append_left _ (List.mem_append_left _ (List.mem_append_right _ h))))) (by decide +kernel))) (goodIn_sub (fun _ h => List.mem_cons_of_mem _ (List.mem_append_left _ (List.mem_append_left _ (List.mem_append_right _ h)))) (by decide +kernel))) (goodIn_sub (fun _ h => List.mem_cons_of_mem _ (List.mem_append_left _ (List.mem_append_left _ (List.mem_append_left _ (List.mem_append_left _ (List.mem_append_right _ h)))))) (by decide +kernel))
set_option maxRecDepth 20000 in
theorem gL_asks_L_of : GoodIn wsL_asks (va_wsS RL 198 yL_of wsL_of) := goodIn_app (goodIn_r _ [109, 110, 4] rfl (by decide +kernel)) ggL_asks_L_of
set_option maxRecDepth 20000 in
theorem ggL_asks_L_needle : GoodIn wsL_asks wsL_needle := goodIn_ca (goodIn_ca (goodIn_r _ [130, 112, 131, 132, 133, 11, 134, 15, 117, 118, 119, 120, 121, 122, 123, 124, 125, 19, 126, 21, 16, 17, 18, 20, 135, 136, 137, 138, 139, 27, 28, 29, 328, 329, 330, 331, 332, 333, 334, 335, 336, 337, 338, 339] rfl (by decide +kernel)) (goodIn_sub (fun _ h => List.mem_cons_of_mem _ (List.mem_append_left _ (List.mem_append_left _ (List.mem_append_right _ h)))) (by decide +kernel))) (goodIn_sub (fun _ h => List.mem_cons_of_mem _ (List.mem_append_left _ (List.mem_append_left _ (List.mem_append_left _ (List.mem_append_left _ (List.mem_append_right _ h)))))) (by decide +kernel))
set_option maxRecDepth 20000 in
theorem gL_asks_L_needle : GoodIn wsL_asks (va_wsS RL 202 yL_needle wsL_needle) := goodIn_app (goodIn_r _ [128, 129, 4] rfl (by decide +kernel)) ggL_asks_L_needle
set_option maxRecDepth 20000 in
theorem ggL_asks_L_off : GoodIn wsL_asks wsL_off := goodIn_ca (goodIn_ca (goodIn_ca (goodIn_r _ [142, 112, 143, 144, 145, 146, 11, 147, 148, 149, 15, 117, 118, 119, 120, 121, 122, 123, 124, 125, 19, 126, 21, 150, 55, 56, 57, 26, 27, 28, 29, 16, 17, 18, 20, 151, 152, 137, 153, 154, 155, 156, 157, 139, 158, 136, 138, 328, 329, 330, 331, 332, 333, 334, 335, 336, 337, 338, 339] rfl (by decide +kernel)) (goodIn_sub (fun _ h => List.mem_cons_of_mem _ (List.mem_append_left _ (List.mem_append_right _ h))) (by decide +kernel))) (goodIn_sub (fun _ h => List.mem_cons_of_mem _ (List.mem_append_left _ (List.mem_append_left _ (List.mem_append_right _ h)))) (by decide +kernel))) (goodIn_sub (fun _ h => List.mem_cons_of_mem _ (List.mem_append_left _ (List.mem_append_left _ (List.mem_append_left _ (List.mem_append_left _ (List.mem_append_right _ h)))))) (by decide +kernel))
set_option maxRecDepth 20000 in
theorem gL_asks_L_off : GoodIn wsL_asks (va_wsS RL 204 yL_off wsL_off) := goodIn_app (goodIn_r _ [140, 141, 4] rfl (by decide +kernel)) ggL_asks_L_off
set_option maxRecDepth 20000 in
theorem ggL_asks_L_changeFor : GoodIn wsL_asks wsL_changeFor := goodIn_ca (goodIn_ca (goodIn_ca (goodIn_r _ [161, 112, 143, 162, 163, 164, 11, 165, 148, 149, 15, 117, 118, 119, 120, 121, 122, 123, 124, 125, 19, 126, 21, 166, 167, 137, 168, 169, 170, 171, 172, 17, 18, 20, 173, 174, 175, 176, 156, 177, 178, 179, 180, 181, 182, 183, 184, 185, 186, 187, 55, 56, 57, 26, 27, 28, 29, 188, 63, 64, 65, 189, 152, 153, 154, 155, 157, 139, 158, 136, 138, 328, 329, 330, 331, 332, 333, 334, 335, 336, 337, 338, 339] rfl (by decide +kernel)) (goodIn_sub (fun _ h => List.mem_cons_of_mem _ (List.mem_append_left _ (List.mem_append_right _ h))) (by decide +kernel))) (goodIn_sub (fun _ h => List.mem_cons_of_mem _ (List.mem_append_left _ (List.mem_append_left _ (List.mem_append_right _ h)))) (by decide +kernel))) (goodIn_sub (fun _ h => List.mem_cons_of_mem _ (List.mem_append_left _ (List.mem_append_left _ (List.mem_append_left _ (List.mem_append_left _ (List.mem_append_right _ h)))))) (by decide +kernel))
set_option maxRecDepth 20000 in
theorem gL_asks_L_changeFor : GoodIn wsL_asks (va_wsS RL 206 yL_changeFor wsL_changeFor) := goodIn_app (goodIn_r _ [159, 160, 4] rfl (by decide +kernel)) ggL_asks_L_changeFor
set_option maxRecDepth 20000 in
theorem ggL_asks_L_bestGuess : GoodIn wsL_asks wsL_bestGuess := goodIn_ca (goodIn_ca (goodIn_r _ [192, 112, 193, 194, 195, 11, 196, 15, 117, 118, 119, 120, 121, 122, 123, 124, 125, 19, 126, 21, 16, 17, 18, 20, 135, 136, 137, 138, 139, 27, 28, 29, 197, 173, 174, 175, 176, 156, 177, 178, 179, 180, 328, 329, 330, 331, 332, 333, 334, 335, 336, 337, 338, 339] rfl (by decide +kernel)) (goodIn_sub (fun _ h => List.mem_cons_of_mem _ (List.mem_append_left _ (List.mem_append_left _ (List.mem_append_right _ h)))) (by decide +kernel))) (goodIn_sub (fun _ h => List.mem_cons_of_mem _ (List.mem_append_left _ (List.mem_append_left _ (List.mem_append_left _ (List.mem_append_left _ (List.mem_append_right _ h)))))) (by decide +kernel))
set_option maxRecDepth 20000 in
theorem gL_asks_L_bestGuess : GoodIn wsL_asks (va_wsS RL 163 yL_bestGuess wsL_bestGuess) := goodIn_app (goodIn_r _ [190, 191, 4] rfl (by decide +kernel)) ggL_asks_L_bestGuess
set_option maxRecDepth 20000 in
theorem ggL_asks_L_nearestFree : GoodIn wsL_asks wsL_nearestFree := goodIn_ca (goodIn_ca (goodIn_ca (goodIn_r _ [200, 112, 143, 201, 202, 203, 11, 204, 148, 149, 15, 117, 118, 119, 120, 121, 122, 123, 124, 125, 19, 126, 21, 127, 27, 28, 29, 205, 206, 207, 208, 209, 210, 211, 212, 213, 214, 26, 328, 329, 330, 331, 332, 333, 334, 335, 336, 337, 338, 339] rfl (by decide +kernel)) (goodIn_sub (fun _ h => List.mem_cons_of_mem _ (List.mem_append_left _ (List.mem_append_right _ h))) (by decide +kernel))) (goodIn_sub (fun _ h => List.mem_cons_of_mem _ (List.mem_append_left _ (List.mem_append_left _ (List.mem_append_right _ h)))) (by decide +kernel))) (goodIn_sub (fun _ h => List.mem_cons_of_mem _ (List.mem_append_left _ (List.mem_append_left _ (List.mem_append_left _ (List.mem_append_left _ (List.mem_append_right _ h)))))) (by decide +kernel))
set_option maxRecDepth 20000 in
theorem gL_asks_L_nearestFree : GoodIn wsL_asks (va_wsS RL 208 yL_nearestFree wsL_nearestFree) := goodIn_app (goodIn_r _ [198, 199, 4] rfl (by decide +kernel)) ggL_asks_L_nearestFree
set_option maxRecDepth 20000 in
theorem ggL_asks_L_ranked : GoodIn wsL_asks wsL_ranked := goodIn_ca (goodIn_ca (goodIn_ca (goodIn_r _ [217, 81, 143, 218, 219, 220, 11, 221, 86, 87, 148, 149, 15, 222, 223, 224, 225, 226, 17, 18, 19, 20, 21, 227, 228, 229, 230, 231, 232, 233, 27, 28, 29, 234, 136, 137, 138, 139, 328, 329, 330, 331, 332, 333, 334, 335, 336, 337, 338, 339] rfl (by decide +kernel)) (goodIn_sub (fun _ h => List.mem_cons_of_mem _ (List.mem_append_left _ (List.mem_append_left _ (List.mem_append_left _ (List.mem_append_right _ h))))) (by decide +kernel))) (goodIn_sub (fun _ h => List.mem_cons_of_mem _ (List.mem_append_left _ (List.mem_append_right _ h))) (by decide +kernel))) (goodIn_sub (fun _ h => List.mem_cons_of_mem _ (List.mem_append_left _ (List.mem_append_left _ (List.mem_append_left _ (List.mem_append_left _ (List.mem_append_right _ h)))))) (by decide +kernel))
set_option maxRecDepth 20000 in
theorem gL_asks_L_ranked : GoodIn wsL_asks (va_wsS RL 210 yL_ranked wsL_ranked) := goodIn_app (goodIn_r _ [215, 216, 4] rfl (by decide +kernel)) ggL_asks_L_ranked
set_option maxRecDepth 20000 in
theorem ggL_asks_L_line : GoodIn wsL_asks wsL_line := goodIn_ca (goodIn_ca (goodIn_ca (goodIn_r _ [237, 112, 238, 239, 240, 11, 241, 242, 15, 117, 118, 119, 120, 121, 122, 123, 124, 125, 19, 126, 21, 243, 244, 245, 246, 247, 248, 249, 27, 28, 29, 250, 251, 252, 253, 254, 255, 256, 257, 258, 259, 260, 261, 262, 55, 56, 57, 26, 263, 63, 64, 65, 264, 265, 266, 267, 328, 329, 330, 331, 332, 333, 334, 335, 336, 337, 338, 339, 349, 350] rfl (by decide +kernel)) (goodIn_sub (fun _ h => List.mem_cons_of_mem _ (List.mem_append_left _ (List.mem_append_left _ (List.mem_append_right _ h)))) (by decide +kernel))) (goodIn_sub (fun _ h => List.mem_cons_of_mem _ (List.mem_append_left _ (List.mem_append_left _ (List.mem_append_left _ (List.mem_append_left _ (List.mem_append_right _ h)))))) (by decide +kernel))) (goodIn_sub (fun _ h => List.mem_cons_of_mem _ (List.mem_append_right _ h)) (by decide +kernel))
set_option maxRecDepth 20000 in
theorem gL_asks_L_line : GoodIn wsL_asks (va_wsS RL 212 yL_line wsL_line) := goodIn_app (goodIn_r _ [235, 236, 4] rfl (by decide +kernel)) ggL_asks_L_line
set_option maxRecDepth 20000 in
theorem ggL_asks_L_character : GoodIn wsL_asks wsL_character := goodIn_ca (goodIn_ca (goodIn_r _ [270, 112, 271, 272, 273, 11, 274, 121, 122, 242, 264, 265, 266, 246, 267, 248, 275, 276, 277, 278, 261, 328, 329, 330, 331, 332, 333, 334, 335, 336, 337, 338, 349, 350] rfl (by decide +kernel)) (goodIn_sub (fun _ h => List.mem_cons_of_mem _ (List.mem_append_left _ (List.mem_append_left _ (List.mem_append_right _ h)))) (by decide +kernel))) (goodIn_sub (fun _ h => List.mem_cons_of_mem _ (List.mem_append_left _ (List.mem_append_left _ (List.mem_append_left _ (List.mem_append_left _ (List.mem_append_right _ h)))))) (by decide +kernel))
set_option maxRecDepth 20000 in
theorem gL_asks_L_character : GoodIn wsL_asks (va_wsS RL 148 yL_character wsL_character) := goodIn_app (goodIn_r _ [268, 269, 4] rfl (by decide +kernel)) ggL_asks_L_character
set_option maxRecDepth 20000 in
theorem ggL_asks_X7_board : GoodIn wsL_asks wsX7_board := goodIn_ca (goodIn_r _ [282, 242, 15, 283, 284, 285, 246, 286, 248, 287, 212, 213, 19, 214, 21, 26, 27, 28, 29, 254, 255, 256, 257, 258, 259, 260, 261, 264, 265, 266, 267, 328, 329, 330, 331, 332, 333, 334, 335, 336, 337, 338, 349, 350, 339] rfl (by decide +kernel)) (goodIn_sub (fun _ h => List.mem_cons_of_mem _ (List.mem_append_left _ (List.mem_append_left _ (List.mem_append_left _ (List.mem_append_left _ (List.mem_append_right _ h)))))) (by decide +kernel))
set_option maxRecDepth 20000 in
theorem gL_asks_X7_board : GoodIn wsL_asks (wsV RL 214 RX7 yX7_board wsX7_board) := goodIn_app (goodIn_r _ [279, 280, 281, 11] rfl (by decide +kernel)) ggL_asks_X7_board
set_option maxRecDepth 20000 in
theorem ggL_asks_X7_winners : GoodIn wsL_asks wsX7_winners := goodIn_ca (goodIn_r _ [291, 15, 16, 17, 18, 19, 20, 21, 292, 182, 137, 183, 172, 184, 185, 186, 187, 55, 56, 57, 26, 27, 28, 29, 188, 63, 64, 65, 189, 152, 153, 154, 155, 156, 157, 139, 158, 136, 138, 328, 329, 330, 331, 332, 333, 334, 335, 336, 337, 338, 339] rfl (by decide +kernel)) (goodIn_sub (fun _ h => List.mem_cons_of_mem _ (List.mem_append_left _ (List.mem_append_left _ (List.mem_append_left _ (List.mem_append_left _ (List.mem_append_right _ h)))))) (by decide +kernel))
set_option maxRecDepth 20000 in
theorem gL_asks_X7_winners : GoodIn wsL_asks (wsV RL 217 RX7 yX7_winners wsX7_winners) := goodIn_app (goodIn_r _ [288, 289, 290, 11] rfl (by decide +kernel)) ggL_asks_X7_winners
set_option maxRecDepth 20000 in
theorem ggL_asks_X7_winnersAgain : GoodIn wsL_asks wsX7_winnersAgain := goodIn_ca (goodIn_r _ [296, 15, 297, 298, 137, 299, 300, 301, 302, 172, 17, 18, 19, 20, 21, 184, 185, 186, 187, 55, 56, 57, 26, 27, 28, 29, 188, 63, 64, 65, 189, 152, 153, 154, 155, 156, 157, 139, 158, 136, 138, 328, 329, 330, 331, 332, 333, 334, 335, 336, 337, 338, 339] rfl (by decide +kernel)) (goodIn_sub (fun _ h => List.mem_cons_of_mem _ (List.mem_append_left _ (List.mem_append_left _ (List.mem_append_left _ (List.mem_append_left _ (List.mem_append_right _ h)))))) (by decide +kernel))
set_option maxRecDepth 20000 in
theorem gL_asks_X7_winnersAgain : GoodIn wsL_asks (wsV RL 220 RX7 yX7_winnersAgain wsX7_winnersAgain) := goodIn_app (goodIn_r _ [293, 294, 295, 11] rfl (by decide +kernel)) ggL_asks_X7_winnersAgain
set_option maxRecDepth 20000 in
theorem ggL_asks_X7_share : GoodIn wsL_asks wsX7_share := goodIn_ca (goodIn_ca (goodIn_r _ [306, 15, 16, 17, 18, 19, 20, 21, 292, 182, 137, 183, 172, 184, 185, 186, 187, 55, 56, 57, 26, 27, 28, 29, 188, 63, 64, 65, 189, 152, 153, 154, 155, 156, 157, 139, 158, 136, 138, 307, 308, 309, 310, 311, 312, 313, 314, 315, 316, 328, 329, 330, 331, 332, 333, 334, 335, 336, 337, 338, 339] rfl (by decide +kernel)) (goodIn_sub (fun _ h => List.mem_cons_of_mem _ (List.mem_append_left _ (List.mem_append_left _ (List.mem_append_left _ (List.mem_append_left _ (List.mem_append_right _ h)))))) (by decide +kernel))) (goodIn_sub (fun _ h => List.mem_cons_of_mem _ (List.mem_append_right _ h)) (by decide +kernel))
set_option maxRecDepth 20000 in
theorem gL_asks_X7_share : GoodIn wsL_asks (wsV RL 223 RX7 yX7_share wsX7_share) := goodIn_app (goodIn_r _ [303, 304, 305, 11] rfl (by decide +kernel)) ggL_asks_X7_share
set_option maxRecDepth 20000 in
theorem ggL_asks_L_wouldWin : GoodIn wsL_asks wsL_wouldWin := goodIn_ca (goodIn_ca (goodIn_r _ [319, 81, 320, 321, 322, 11, 323, 86, 87, 15, 324, 325, 326, 327, 170, 137, 171, 172, 17, 18, 19, 20, 21, 173, 174, 175, 176, 156, 177, 178, 179, 180, 181, 182, 183, 184, 185, 186, 187, 55, 56, 57, 26, 27, 28, 29, 188, 63, 64, 65, 189, 152, 153, 154, 155, 157, 139, 158, 136, 138, 328, 329, 330, 331, 332, 333, 334, 335, 336, 337, 338, 339] rfl (by decide +kernel)) (goodIn_sub (fun _ h => List.mem_cons_of_mem _ (List.mem_append_left _ (List.mem_append_left _ (List.mem_append_left _ (List.mem_append_right _ h))))) (by decide +kernel))) (goodIn_sub (fun _ h => List.mem_cons_of_mem _ (List.mem_append_left _ (List.mem_append_left _ (List.mem_append_left _ (List.mem_append_left _ (List.mem_append_right _ h)))))) (by decide +kernel))
set_option maxRecDepth 20000 in
theorem gL_asks_L_wouldWin : GoodIn wsL_asks (va_wsS RL 226 yL_wouldWin wsL_wouldWin) := goodIn_app (goodIn_r _ [317, 318, 4] rfl (by decide +kernel)) ggL_asks_L_wouldWin
theorem dL_asks_0 : decode cL_asks 0 = .ok (.ldc2_w 174, 3) := by decide +kernel
theorem dL_asks_3 : decode cL_asks 3 = .ok (.aload_n 0, 1) := by decide +kernel
theorem dL_asks_4 : decode cL_asks 4 = .ok (.invokestatic 176, 3) := by decide +kernel
theorem dL_asks_7 : decode cL_asks 7 = .ok (.invokestatic 179, 3) := by decide +kernel
theorem dL_asks_10 : decode cL_asks 10 = .ok (.lmul, 1) := by decide +kernel
theorem dL_asks_11 : decode cL_asks 11 = .ok (.aload_n 0, 1) := by decide +kernel
theorem dL_asks_12 : decode cL_asks 12 = .ok (.invokestatic 185, 3) := by decide +kernel
theorem dL_asks_15 : decode cL_asks 15 = .ok (.invokestatic 188, 3) := by decide +kernel
theorem dL_asks_18 : decode cL_asks 18 = .ok (.i2l, 1) := by decide +kernel
theorem dL_asks_19 : decode cL_asks 19 = .ok (.ladd, 1) := by decide +kernel
theorem dL_asks_20 : decode cL_asks 20 = .ok (.lstore_n 1, 1) := by decide +kernel
theorem dL_asks_21 : decode cL_asks 21 = .ok (.iconst 0, 1) := by decide +kernel
theorem dL_asks_22 : decode cL_asks 22 = .ok (.istore_n 3, 1) := by decide +kernel
theorem dL_asks_23 : decode cL_asks 23 = .ok (.iload_n 3, 1) := by decide +kernel
theorem dL_asks_24 : decode cL_asks 24 = .ok (.bipush 9, 2) := by decide +kernel
theorem dL_asks_26 : decode cL_asks 26 = .ok (.if_icmp .ge 22, 3) := by decide +kernel
theorem dL_asks_29 : decode cL_asks 29 = .ok (.ldc2_w 174, 3) := by decide +kernel
theorem dL_asks_32 : decode cL_asks 32 = .ok (.lload_n 1, 1) := by decide +kernel
theorem dL_asks_33 : decode cL_asks 33 = .ok (.lmul, 1) := by decide +kernel
theorem dL_asks_34 : decode cL_asks 34 = .ok (.aload_n 0, 1) := by decide +kernel
theorem dL_asks_35 : decode cL_asks 35 = .ok (.iload_n 3, 1) := by decide +kernel
theorem dL_asks_36 : decode cL_asks 36 = .ok (.invokestatic 194, 3) := by decide +kernel
theorem dL_asks_39 : decode cL_asks 39 = .ok (.i2l, 1) := by decide +kernel
theorem dL_asks_40 : decode cL_asks 40 = .ok (.ladd, 1) := by decide +kernel
theorem dL_asks_41 : decode cL_asks 41 = .ok (.lstore_n 1, 1) := by decide +kernel
theorem dL_asks_42 : decode cL_asks 42 = .ok (.iinc 3 1, 3) := by decide +kernel
theorem dL_asks_45 : decode cL_asks 45 = .ok (.goto (-22), 3) := by decide +kernel
theorem dL_asks_48 : decode cL_asks 48 = .ok (.iconst 0, 1) := by decide +kernel
theorem dL_asks_49 : decode cL_asks 49 = .ok (.istore_n 3, 1) := by decide +kernel
theorem dL_asks_50 : decode cL_asks 50 = .ok (.iload_n 3, 1) := by decide +kernel
theorem dL_asks_51 : decode cL_asks 51 = .ok (.bipush 6, 2) := by decide +kernel
theorem dL_asks_53 : decode cL_asks 53 = .ok (.if_icmp .ge 22, 3) := by decide +kernel
theorem dL_asks_56 : decode cL_asks 56 = .ok (.ldc2_w 174, 3) := by decide +kernel
theorem dL_asks_59 : decode cL_asks 59 = .ok (.lload_n 1, 1) := by decide +kernel
theorem dL_asks_60 : decode cL_asks 60 = .ok (.lmul, 1) := by decide +kernel
theorem dL_asks_61 : decode cL_asks 61 = .ok (.aload_n 0, 1) := by decide +kernel
theorem dL_asks_62 : decode cL_asks 62 = .ok (.iload_n 3, 1) := by decide +kernel
theorem dL_asks_63 : decode cL_asks 63 = .ok (.invokestatic 196, 3) := by decide +kernel
theorem dL_asks_66 : decode cL_asks 66 = .ok (.i2l, 1) := by decide +kernel
theorem dL_asks_67 : decode cL_asks 67 = .ok (.ladd, 1) := by decide +kernel
theorem dL_asks_68 : decode cL_asks 68 = .ok (.lstore_n 1, 1) := by decide +kernel
theorem dL_asks_69 : decode cL_asks 69 = .ok (.iinc 3 1, 3) := by decide +kernel
theorem dL_asks_72 : decode cL_asks 72 = .ok (.goto (-22), 3) := by decide +kernel
theorem dL_asks_75 : decode cL_asks 75 = .ok (.iconst 0, 1) := by decide +kernel
theorem dL_asks_76 : decode cL_asks 76 = .ok (.istore_n 3, 1) := by decide +kernel
theorem dL_asks_77 : decode cL_asks 77 = .ok (.iload_n 3, 1) := by decide +kernel
theorem dL_asks_78 : decode cL_asks 78 = .ok (.aload_n 0, 1) := by decide +kernel
theorem dL_asks_79 : decode cL_asks 79 = .ok (.iconst 0, 1) := by decide +kernel
theorem dL_asks_80 : decode cL_asks 80 = .ok (.invokestatic 194, 3) := by decide +kernel
theorem dL_asks_83 : decode cL_asks 83 = .ok (.if_icmp .ge 164, 3) := by decide +kernel
theorem dL_asks_86 : decode cL_asks 86 = .ok (.iconst 0, 1) := by decide +kernel
theorem dL_asks_87 : decode cL_asks 87 = .ok (.istore 4, 2) := by decide +kernel
theorem dL_asks_89 : decode cL_asks 89 = .ok (.iload 4, 2) := by decide +kernel
theorem dL_asks_91 : decode cL_asks 91 = .ok (.bipush 7, 2) := by decide +kernel
theorem dL_asks_93 : decode cL_asks 93 = .ok (.if_icmp .ge 24, 3) := by decide +kernel
theorem dL_asks_96 : decode cL_asks 96 = .ok (.ldc2_w 174, 3) := by decide +kernel
theorem dL_asks_99 : decode cL_asks 99 = .ok (.lload_n 1, 1) := by decide +kernel
theorem dL_asks_100 : decode cL_asks 100 = .ok (.lmul, 1) := by decide +kernel
theorem dL_asks_101 : decode cL_asks 101 = .ok (.aload_n 0, 1) := by decide +kernel
theorem dL_asks_102 : decode cL_asks 102 = .ok (.iload_n 3, 1) := by decide +kernel
theorem dL_asks_103 : decode cL_asks 103 = .ok (.iload 4, 2) := by decide +kernel
theorem dL_asks_105 : decode cL_asks 105 = .ok (.invokestatic 198, 3) := by decide +kernel
theorem dL_asks_108 : decode cL_asks 108 = .ok (.i2l, 1) := by decide +kernel
theorem dL_asks_109 : decode cL_asks 109 = .ok (.ladd, 1) := by decide +kernel
theorem dL_asks_110 : decode cL_asks 110 = .ok (.lstore_n 1, 1) := by decide +kernel
theorem dL_asks_111 : decode cL_asks 111 = .ok (.iinc 4 1, 3) := by decide +kernel
theorem dL_asks_114 : decode cL_asks 114 = .ok (.goto (-25), 3) := by decide +kernel
theorem dL_asks_117 : decode cL_asks 117 = .ok (.ldc2_w 174, 3) := by decide +kernel
theorem dL_asks_120 : decode cL_asks 120 = .ok (.ldc2_w 174, 3) := by decide +kernel
theorem dL_asks_123 : decode cL_asks 123 = .ok (.ldc2_w 174, 3) := by decide +kernel
theorem dL_asks_126 : decode cL_asks 126 = .ok (.ldc2_w 174, 3) := by decide +kernel
theorem dL_asks_129 : decode cL_asks 129 = .ok (.ldc2_w 174, 3) := by decide +kernel
theorem dL_asks_132 : decode cL_asks 132 = .ok (.lload_n 1, 1) := by decide +kernel
theorem dL_asks_133 : decode cL_asks 133 = .ok (.lmul, 1) := by decide +kernel
theorem dL_asks_134 : decode cL_asks 134 = .ok (.aload_n 0, 1) := by decide +kernel
theorem dL_asks_135 : decode cL_asks 135 = .ok (.iload_n 3, 1) := by decide +kernel
theorem dL_asks_136 : decode cL_asks 136 = .ok (.invokestatic 202, 3) := by decide +kernel
theorem dL_asks_139 : decode cL_asks 139 = .ok (.i2l, 1) := by decide +kernel
theorem dL_asks_140 : decode cL_asks 140 = .ok (.ladd, 1) := by decide +kernel
theorem dL_asks_141 : decode cL_asks 141 = .ok (.lmul, 1) := by decide +kernel
theorem dL_asks_142 : decode cL_asks 142 = .ok (.aload_n 0, 1) := by decide +kernel
theorem dL_asks_143 : decode cL_asks 143 = .ok (.iload_n 3, 1) := by decide +kernel
theorem dL_asks_144 : decode cL_asks 144 = .ok (.invokestatic 204, 3) := by decide +kernel
theorem dL_asks_147 : decode cL_asks 147 = .ok (.i2l, 1) := by decide +kernel
theorem dL_asks_148 : decode cL_asks 148 = .ok (.ladd, 1) := by decide +kernel
theorem dL_asks_149 : decode cL_asks 149 = .ok (.lmul, 1) := by decide +kernel
theorem dL_asks_150 : decode cL_asks 150 = .ok (.aload_n 0, 1) := by decide +kernel
theorem dL_asks_151 : decode cL_asks 151 = .ok (.iload_n 3, 1) := by decide +kernel
theorem dL_asks_152 : decode cL_asks 152 = .ok (.invokestatic 206, 3) := by decide +kernel
theorem dL_asks_155 : decode cL_asks 155 = .ok (.i2l, 1) := by decide +kernel
theorem dL_asks_156 : decode cL_asks 156 = .ok (.ladd, 1) := by decide +kernel
theorem dL_asks_157 : decode cL_asks 157 = .ok (.lmul, 1) := by decide +kernel
theorem dL_asks_158 : decode cL_asks 158 = .ok (.aload_n 0, 1) := by decide +kernel
theorem dL_asks_159 : decode cL_asks 159 = .ok (.iload_n 3, 1) := by decide +kernel
theorem dL_asks_160 : decode cL_asks 160 = .ok (.invokestatic 163, 3) := by decide +kernel
theorem dL_asks_163 : decode cL_asks 163 = .ok (.i2l, 1) := by decide +kernel
theorem dL_asks_164 : decode cL_asks 164 = .ok (.ladd, 1) := by decide +kernel
theorem dL_asks_165 : decode cL_asks 165 = .ok (.lmul, 1) := by decide +kernel
theorem dL_asks_166 : decode cL_asks 166 = .ok (.aload_n 0, 1) := by decide +kernel
theorem dL_asks_167 : decode cL_asks 167 = .ok (.iload_n 3, 1) := by decide +kernel
theorem dL_asks_168 : decode cL_asks 168 = .ok (.invokestatic 208, 3) := by decide +kernel
theorem dL_asks_171 : decode cL_asks 171 = .ok (.i2l, 1) := by decide +kernel
theorem dL_asks_172 : decode cL_asks 172 = .ok (.ladd, 1) := by decide +kernel
theorem dL_asks_173 : decode cL_asks 173 = .ok (.lstore_n 1, 1) := by decide +kernel
theorem dL_asks_174 : decode cL_asks 174 = .ok (.iconst 0, 1) := by decide +kernel
theorem dL_asks_175 : decode cL_asks 175 = .ok (.istore 4, 2) := by decide +kernel
theorem dL_asks_177 : decode cL_asks 177 = .ok (.iload 4, 2) := by decide +kernel
theorem dL_asks_179 : decode cL_asks 179 = .ok (.iconst 4, 1) := by decide +kernel
theorem dL_asks_180 : decode cL_asks 180 = .ok (.if_icmp .ge 24, 3) := by decide +kernel
theorem dL_asks_183 : decode cL_asks 183 = .ok (.ldc2_w 174, 3) := by decide +kernel
theorem dL_asks_186 : decode cL_asks 186 = .ok (.lload_n 1, 1) := by decide +kernel
theorem dL_asks_187 : decode cL_asks 187 = .ok (.lmul, 1) := by decide +kernel
theorem dL_asks_188 : decode cL_asks 188 = .ok (.aload_n 0, 1) := by decide +kernel
theorem dL_asks_189 : decode cL_asks 189 = .ok (.iload 4, 2) := by decide +kernel
theorem dL_asks_191 : decode cL_asks 191 = .ok (.iload_n 3, 1) := by decide +kernel
theorem dL_asks_192 : decode cL_asks 192 = .ok (.invokestatic 210, 3) := by decide +kernel
theorem dL_asks_195 : decode cL_asks 195 = .ok (.i2l, 1) := by decide +kernel
theorem dL_asks_196 : decode cL_asks 196 = .ok (.ladd, 1) := by decide +kernel
theorem dL_asks_197 : decode cL_asks 197 = .ok (.lstore_n 1, 1) := by decide +kernel
theorem dL_asks_198 : decode cL_asks 198 = .ok (.iinc 4 1, 3) := by decide +kernel
theorem dL_asks_201 : decode cL_asks 201 = .ok (.goto (-24), 3) := by decide +kernel
theorem dL_asks_204 : decode cL_asks 204 = .ok (.aload_n 0, 1) := by decide +kernel
theorem dL_asks_205 : decode cL_asks 205 = .ok (.iload_n 3, 1) := by decide +kernel
theorem dL_asks_206 : decode cL_asks 206 = .ok (.invokestatic 212, 3) := by decide +kernel
theorem dL_asks_209 : decode cL_asks 209 = .ok (.istore 4, 2) := by decide +kernel
theorem dL_asks_211 : decode cL_asks 211 = .ok (.iconst 0, 1) := by decide +kernel
theorem dL_asks_212 : decode cL_asks 212 = .ok (.istore 5, 2) := by decide +kernel
theorem dL_asks_214 : decode cL_asks 214 = .ok (.iload 5, 2) := by decide +kernel
theorem dL_asks_216 : decode cL_asks 216 = .ok (.iload 4, 2) := by decide +kernel
theorem dL_asks_218 : decode cL_asks 218 = .ok (.if_icmp .ge 23, 3) := by decide +kernel
theorem dL_asks_221 : decode cL_asks 221 = .ok (.ldc2_w 174, 3) := by decide +kernel
theorem dL_asks_224 : decode cL_asks 224 = .ok (.lload_n 1, 1) := by decide +kernel
theorem dL_asks_225 : decode cL_asks 225 = .ok (.lmul, 1) := by decide +kernel
theorem dL_asks_226 : decode cL_asks 226 = .ok (.aload_n 0, 1) := by decide +kernel
theorem dL_asks_227 : decode cL_asks 227 = .ok (.iload 5, 2) := by decide +kernel
theorem dL_asks_229 : decode cL_asks 229 = .ok (.invokestatic 148, 3) := by decide +kernel
theorem dL_asks_232 : decode cL_asks 232 = .ok (.i2l, 1) := by decide +kernel
theorem dL_asks_233 : decode cL_asks 233 = .ok (.ladd, 1) := by decide +kernel
theorem dL_asks_234 : decode cL_asks 234 = .ok (.lstore_n 1, 1) := by decide +kernel
theorem dL_asks_235 : decode cL_asks 235 = .ok (.iinc 5 1, 3) := by decide +kernel
theorem dL_asks_238 : decode cL_asks 238 = .ok (.goto (-24), 3) := by decide +kernel
theorem dL_asks_241 : decode cL_asks 241 = .ok (.iinc 3 1, 3) := by decide +kernel
theorem dL_asks_244 : decode cL_asks 244 = .ok (.goto (-167), 3) := by decide +kernel
theorem dL_asks_247 : decode cL_asks 247 = .ok (.aload_n 0, 1) := by decide +kernel
theorem dL_asks_248 : decode cL_asks 248 = .ok (.invokevirtual 214, 3) := by decide +kernel
theorem dL_asks_251 : decode cL_asks 251 = .ok (.istore_n 3, 1) := by decide +kernel
theorem dL_asks_252 : decode cL_asks 252 = .ok (.iconst 0, 1) := by decide +kernel
theorem dL_asks_253 : decode cL_asks 253 = .ok (.istore 4, 2) := by decide +kernel
theorem dL_asks_255 : decode cL_asks 255 = .ok (.iload 4, 2) := by decide +kernel
theorem dL_asks_257 : decode cL_asks 257 = .ok (.iload_n 3, 1) := by decide +kernel
theorem dL_asks_258 : decode cL_asks 258 = .ok (.if_icmp .ge 23, 3) := by decide +kernel
theorem dL_asks_261 : decode cL_asks 261 = .ok (.ldc2_w 174, 3) := by decide +kernel
theorem dL_asks_264 : decode cL_asks 264 = .ok (.lload_n 1, 1) := by decide +kernel
theorem dL_asks_265 : decode cL_asks 265 = .ok (.lmul, 1) := by decide +kernel
theorem dL_asks_266 : decode cL_asks 266 = .ok (.aload_n 0, 1) := by decide +kernel
theorem dL_asks_267 : decode cL_asks 267 = .ok (.iload 4, 2) := by decide +kernel
theorem dL_asks_269 : decode cL_asks 269 = .ok (.invokestatic 148, 3) := by decide +kernel
theorem dL_asks_272 : decode cL_asks 272 = .ok (.i2l, 1) := by decide +kernel
theorem dL_asks_273 : decode cL_asks 273 = .ok (.ladd, 1) := by decide +kernel
theorem dL_asks_274 : decode cL_asks 274 = .ok (.lstore_n 1, 1) := by decide +kernel
theorem dL_asks_275 : decode cL_asks 275 = .ok (.iinc 4 1, 3) := by decide +kernel
theorem dL_asks_278 : decode cL_asks 278 = .ok (.goto (-23), 3) := by decide +kernel
theorem dL_asks_281 : decode cL_asks 281 = .ok (.ldc2_w 174, 3) := by decide +kernel
theorem dL_asks_284 : decode cL_asks 284 = .ok (.ldc2_w 174, 3) := by decide +kernel
theorem dL_asks_287 : decode cL_asks 287 = .ok (.ldc2_w 174, 3) := by decide +kernel
theorem dL_asks_290 : decode cL_asks 290 = .ok (.ldc2_w 174, 3) := by decide +kernel
theorem dL_asks_293 : decode cL_asks 293 = .ok (.lload_n 1, 1) := by decide +kernel
theorem dL_asks_294 : decode cL_asks 294 = .ok (.lmul, 1) := by decide +kernel
theorem dL_asks_295 : decode cL_asks 295 = .ok (.aload_n 0, 1) := by decide +kernel
theorem dL_asks_296 : decode cL_asks 296 = .ok (.invokevirtual 217, 3) := by decide +kernel
theorem dL_asks_299 : decode cL_asks 299 = .ok (.i2l, 1) := by decide +kernel
theorem dL_asks_300 : decode cL_asks 300 = .ok (.ladd, 1) := by decide +kernel
theorem dL_asks_301 : decode cL_asks 301 = .ok (.lmul, 1) := by decide +kernel
theorem dL_asks_302 : decode cL_asks 302 = .ok (.aload_n 0, 1) := by decide +kernel
theorem dL_asks_303 : decode cL_asks 303 = .ok (.invokevirtual 220, 3) := by decide +kernel
theorem dL_asks_306 : decode cL_asks 306 = .ok (.i2l, 1) := by decide +kernel
theorem dL_asks_307 : decode cL_asks 307 = .ok (.ladd, 1) := by decide +kernel
theorem dL_asks_308 : decode cL_asks 308 = .ok (.lmul, 1) := by decide +kernel
theorem dL_asks_309 : decode cL_asks 309 = .ok (.aload_n 0, 1) := by decide +kernel
theorem dL_asks_310 : decode cL_asks 310 = .ok (.invokevirtual 223, 3) := by decide +kernel
theorem dL_asks_313 : decode cL_asks 313 = .ok (.i2l, 1) := by decide +kernel
theorem dL_asks_314 : decode cL_asks 314 = .ok (.ladd, 1) := by decide +kernel
theorem dL_asks_315 : decode cL_asks 315 = .ok (.lmul, 1) := by decide +kernel
theorem dL_asks_316 : decode cL_asks 316 = .ok (.aload_n 0, 1) := by decide +kernel
theorem dL_asks_317 : decode cL_asks 317 = .ok (.bipush 17, 2) := by decide +kernel
theorem dL_asks_319 : decode cL_asks 319 = .ok (.invokestatic 226, 3) := by decide +kernel
theorem dL_asks_322 : decode cL_asks 322 = .ok (.i2l, 1) := by decide +kernel
theorem dL_asks_323 : decode cL_asks 323 = .ok (.ladd, 1) := by decide +kernel
theorem dL_asks_324 : decode cL_asks 324 = .ok (.lreturn, 1) := by decide +kernel
set_option maxRecDepth 20000 in
theorem ggL_changes_L_account : GoodIn wsL_changes wsL_account := goodIn_ca (goodIn_ca (goodIn_r _ [7, 8, 9, 10, 11, 12, 13, 14, 15, 16, 17, 18, 19, 20, 21, 22, 23, 24, 25, 26, 27, 28, 29, 30, 31, 32, 33, 34, 35, 36, 37, 38, 39, 40, 41, 42, 43, 44, 45, 46, 47, 48, 49, 50, 51, 52, 694, 695, 696, 697, 698, 699, 700, 701, 702, 703, 704, 705, 706, 707, 708, 709, 710, 711, 712, 713, 714] rfl (by decide +kernel)) (goodIn_sub (fun _ h => List.mem_cons_of_mem _ (List.mem_append_left _ (List.mem_append_left _ (List.mem_append_left _ (List.mem_append_left _ (List.mem_append_right _ h)))))) (by decide +kernel))) (goodIn_sub (fun _ h => List.mem_cons_of_mem _ (List.mem_append_left _ (List.mem_append_left _ (List.mem_append_left _ (List.mem_append_right _ h))))) (by decide +kernel))
set_option maxRecDepth 20000 in
theorem gL_changes_L_account : GoodIn wsL_changes (va_wsS RL 194 yL_account wsL_account) := goodIn_app (goodIn_r _ [4, 5, 6] rfl (by decide +kernel)) ggL_changes_L_account
set_option maxRecDepth 20000 in
theorem ggL_changes_L_some : GoodIn wsL_changes wsL_some := goodIn_ca (goodIn_r _ [55] rfl (by decide +kernel)) (goodIn_sub (fun _ h => List.mem_cons_of_mem _ (List.mem_append_left _ (List.mem_append_left _ (List.mem_append_right _ h)))) (by decide +kernel))
set_option maxRecDepth 20000 in
theorem gL_changes_L_some : GoodIn wsL_changes (va_wsS RL 154 yL_some wsL_some) := goodIn_app (goodIn_r _ [53, 54, 6] rfl (by decide +kernel)) ggL_changes_L_some
set_option maxRecDepth 20000 in
theorem ggL_changes_L_join : GoodIn wsL_changes wsL_join := goodIn_ca (goodIn_ca (goodIn_ca (goodIn_r _ [58, 59, 60, 61, 62, 12, 63, 64, 65, 66, 67, 68, 69, 17, 16, 70, 71, 72, 73, 44, 74, 75, 76, 77, 78, 79, 22, 80, 24, 81, 82, 83, 84, 85, 86, 87, 88, 89, 90, 91, 92, 93, 94, 95, 96, 97, 98, 99, 100, 101, 102, 20, 21, 23, 103, 104, 105, 106, 107, 108, 109, 110, 29, 30, 31, 32, 111, 112, 113, 114, 115, 116, 117, 118, 119, 120, 121, 122, 123, 124, 125, 126, 127, 128, 129, 130, 131, 132, 133, 134, 135, 136, 137, 138, 139, 140, 141, 142, 143, 144, 145, 38, 39, 40, 146, 147, 148, 149, 150, 151, 152, 153, 154, 155, 156, 157, 158, 159, 160, 161, 162, 163, 164, 165, 166, 167, 168, 169, 170, 171, 172, 173, 174, 175, 176, 177, 178, 179, 180, 181, 182, 183, 184, 185, 186, 187, 188, 189, 190, 191, 192, 193, 194, 195, 196, 197, 198, 199, 200, 201, 202, 203, 204, 205, 206, 207, 208, 209, 210, 211, 212, 213, 34, 35, 36, 37, 214, 215, 216, 217, 218, 219, 220, 221, 222, 223, 224, 225, 226, 227, 228, 229, 230, 231, 232, 233, 234, 235, 236, 237, 238, 239, 240, 241, 242, 243, 244, 245, 246, 247, 248, 249, 250, 251, 252, 253, 254, 255, 256, 257, 258, 259, 260, 261, 262, 263, 264, 265, 266, 267, 268, 269, 46, 270, 271, 272, 694, 695, 696, 697, 698, 699, 700, 701, 702, 703, 704, 706, 707, 708, 705, 715, 716] rfl (by decide +kernel)) (goodIn_sub (fun _ h => List.mem_cons_of_mem _ (List.mem_append_left _ (List.mem_append_right _ h))) (by decide +kernel))) (goodIn_sub (fun _ h => List.mem_cons_of_mem _ (List.mem_append_left _ (List.mem_append_left _ (List.mem_append_left _ (List.mem_append_right _ h))))) (by decide +kernel))) (goodIn_sub (fun _ h => List.mem_cons_of_mem _ (List.mem_append_left _ (List.mem_append_left _ (List.mem_append_right _ h)))) (by decide +kernel))
set_option maxRecDepth 20000 in
theorem gL_changes_L_join : GoodIn wsL_changes (va_wsS RL 159 yL_join wsL_join) := goodIn_app (goodIn_r _ [56, 57, 6] rfl (by decide +kernel)) ggL_changes_L_join
set_option maxRecDepth 20000 in
theorem ggL_changes_L_leave : GoodIn wsL_changes wsL_leave := goodIn_ca (goodIn_ca (goodIn_ca (goodIn_r _ [275, 59, 276, 277, 278, 12, 279, 64, 65, 66, 67, 68, 69, 17, 16, 70, 71, 72, 73, 44, 74, 75, 76, 77, 78, 79, 22, 80, 24, 81, 82, 83, 84, 85, 86, 87, 88, 89, 90, 91, 92, 93, 94, 95, 96, 97, 98, 99, 100, 101, 102, 20, 21, 23, 103, 104, 105, 106, 107, 108, 109, 110, 29, 30, 31, 32, 111, 112, 113, 114, 115, 116, 117, 118, 119, 120, 121, 122, 123, 124, 125, 126, 127, 128, 129, 130, 131, 132, 133, 134, 135, 136, 137, 138, 139, 140, 141, 142, 143, 144, 145, 38, 39, 40, 146, 147, 148, 149, 150, 151, 152, 153, 154, 155, 156, 157, 158, 159, 160, 161, 162, 163, 164, 165, 166, 167, 168, 169, 170, 171, 172, 173, 174, 175, 176, 177, 178, 179, 180, 181, 182, 183, 184, 185, 186, 187, 188, 189, 190, 191, 192, 193, 194, 195, 196, 197, 198, 199, 200, 201, 202, 203, 204, 205, 206, 207, 208, 209, 210, 211, 212, 213, 34, 35, 36, 37, 214, 215, 216, 217, 218, 219, 220, 221, 222, 223, 224, 225, 226, 227, 228, 229, 230, 231, 232, 233, 234, 235, 236, 237, 238, 239, 240, 241, 242, 243, 244, 245, 246, 247, 248, 249, 250, 251, 252, 253, 254, 255, 256, 257, 258, 259, 260, 261, 262, 263, 264, 265, 266, 267, 268, 269, 46, 270, 271, 272, 694, 695, 696, 697, 698, 699, 700, 701, 702, 703, 704, 706, 707, 708, 705, 715, 716] rfl (by decide +kernel)) (goodIn_sub (fun _ h => List.mem_cons_of_mem _ (List.mem_append_left _ (List.mem_append_right _ h))) (by decide +kernel))) (goodIn_sub (fun _ h => List.mem_cons_of_mem _ (List.mem_append_left _ (List.mem_append_left _ (List.mem_append_left _ (List.mem_append_right _ h))))) (by decide +kernel))) (goodIn_sub (fun _ h => List.mem_cons_of_mem _ (List.mem_append_left _ (List.mem_append_left _ (List.mem_append_right _ h)))) (by decide +kernel))
set_option maxRecDepth 20000 in
theorem gL_changes_L_leave : GoodIn wsL_changes (va_wsS RL 228 yL_leave wsL_leave) := goodIn_app (goodIn_r _ [273, 274, 6] rfl (by decide +kernel)) ggL_changes_L_leave
set_option maxRecDepth 20000 in
theorem ggL_changes_L_move : GoodIn wsL_changes wsL_move := goodIn_ca (goodIn_ca (goodIn_ca (goodIn_r _ [282, 59, 283, 284, 285, 12, 286, 64, 65, 66, 67, 68, 69, 17, 16, 70, 71, 72, 73, 44, 74, 75, 76, 77, 78, 79, 22, 80, 24, 81, 82, 83, 84, 85, 86, 87, 88, 89, 90, 91, 92, 93, 94, 95, 96, 97, 98, 99, 100, 101, 102, 20, 21, 23, 103, 104, 105, 106, 107, 108, 109, 110, 29, 30, 31, 32, 111, 112, 113, 114, 115, 116, 117, 118, 119, 120, 121, 122, 123, 124, 125, 126, 127, 128, 129, 130, 131, 132, 133, 134, 135, 136, 137, 138, 139, 140, 141, 142, 143, 144, 145, 38, 39, 40, 146, 147, 148, 149, 150, 151, 152, 153, 154, 155, 156, 157, 158, 159, 160, 161, 162, 163, 164, 165, 166, 167, 168, 169, 170, 171, 172, 173, 174, 175, 176, 177, 178, 179, 180, 181, 182, 183, 184, 185, 186, 187, 188, 189, 190, 191, 192, 193, 194, 195, 196, 197, 198, 199, 200, 201, 202, 203, 204, 205, 206, 207, 208, 209, 210, 211, 212, 213, 34, 35, 36, 37, 214, 215, 216, 217, 218, 219, 220, 221, 222, 223, 224, 225, 226, 227, 228, 229, 230, 231, 232, 233, 234, 235, 236, 237, 238, 239, 240, 241, 242, 243, 244, 245, 246, 247, 248, 249, 250, 251, 252, 253, 254, 255, 256, 257, 258, 259, 260, 261, 262, 263, 264, 265, 266, 267, 268, 269, 46, 270, 271, 272, 694, 695, 696, 697, 698, 699, 700, 701, 702, 703, 704, 706, 707, 708, 705, 715, 716] rfl (by decide +kernel)) (goodIn_sub (fun _ h => List.mem_cons_of_mem _ (List.mem_append_left _ (List.mem_append_right _ h))) (by decide +kernel))) (goodIn_sub (fun _ h => List.mem_cons_of_mem _ (List.mem_append_left _ (List.mem_append_left _ (List.mem_append_left _ (List.mem_append_right _ h))))) (by decide +kernel))) (goodIn_sub (fun _ h => List.mem_cons_of_mem _ (List.mem_append_left _ (List.mem_append_left _ (List.mem_append_right _ h)))) (by decide +kernel))
set_option maxRecDepth 20000 in
theorem gL_changes_L_move : GoodIn wsL_changes (va_wsS RL 230 yL_move wsL_move) := goodIn_app (goodIn_r _ [280, 281, 6] rfl (by decide +kernel)) ggL_changes_L_move
set_option maxRecDepth 20000 in
theorem ggL_changes_L_exchange : GoodIn wsL_changes wsL_exchange := goodIn_ca (goodIn_ca (goodIn_ca (goodIn_r _ [289, 59, 290, 291, 292, 12, 293, 64, 65, 66, 67, 68, 69, 17, 16, 70, 71, 72, 73, 44, 74, 75, 76, 77, 78, 79, 22, 80, 24, 81, 82, 83, 84, 85, 86, 87, 88, 89, 90, 91, 92, 93, 94, 95, 96, 97, 98, 99, 100, 101, 102, 20, 21, 23, 103, 104, 105, 106, 107, 108, 109, 110, 29, 30, 31, 32, 111, 112, 113, 114, 115, 116, 117, 118, 119, 120, 121, 122, 123, 124, 125, 126, 127, 128, 129, 130, 131, 132, 133, 134, 135, 136, 137, 138, 139, 140, 141, 142, 143, 144, 145, 38, 39, 40, 146, 147, 148, 149, 150, 151, 152, 153, 154, 155, 156, 157, 158, 159, 160, 161, 162, 163, 164, 165, 166, 167, 168, 169, 170, 171, 172, 173, 174, 175, 176, 177, 178, 179, 180, 181, 182, 183, 184, 185, 186, 187, 188, 189, 190, 191, 192, 193, 194, 195, 196, 197, 198, 199, 200, 201, 202, 203, 204, 205, 206, 207, 208, 209, 210, 211, 212, 213, 34, 35, 36, 37, 214, 215, 216, 217, 218, 219, 220, 221, 222, 223, 224, 225, 226, 227, 228, 229, 230, 231, 232, 233, 234, 235, 236, 237, 238, 239, 240, 241, 242, 243, 244, 245, 246, 247, 248, 249, 250, 251, 252, 253, 254, 255, 256, 257, 258, 259, 260, 261, 262, 263, 264, 265, 266, 267, 268, 269, 46, 270, 271, 272, 694, 695, 696, 697, 698, 699, 700, 701, 702, 703, 704, 706, 707, 708, 705, 715, 716] rfl (by decide +kernel)) (goodIn_sub (fun _ h => List.mem_cons_of_mem _ (List.mem_append_left _ (List.mem_append_right _ h))) (by decide +kernel))) (goodIn_sub (fun _ h => List.mem_cons_of_mem _ (List.mem_append_left _ (List.mem_append_left _ (List.mem_append_left _ (List.mem_append_right _ h))))) (by decide +kernel))) (goodIn_sub (fun _ h => List.mem_cons_of_mem _ (List.mem_append_left _ (List.mem_append_left _ (List.mem_append_right _ h)))) (by decide +kernel))
set_option maxRecDepth 20000 in
theorem gL_changes_L_exchange : GoodIn wsL_changes (va_wsS RL 232 yL_exchange wsL_exchange) := goodIn_app (goodIn_r _ [287, 288, 6] rfl (by decide +kernel)) ggL_changes_L_exchange
set_option maxRecDepth 20000 in
theorem ggL_changes_L_wager : GoodIn wsL_changes wsL_wager := goodIn_ca (goodIn_ca (goodIn_ca (goodIn_r _ [296, 59, 297, 298, 299, 12, 300, 64, 65, 66, 67, 68, 69, 17, 16, 70, 71, 72, 73, 44, 74, 75, 76, 77, 78, 79, 22, 80, 24, 81, 82, 83, 84, 85, 86, 87, 88, 89, 90, 91, 92, 93, 94, 95, 96, 97, 98, 99, 100, 101, 102, 20, 21, 23, 103, 104, 105, 106, 107, 108, 109, 110, 29, 30, 31, 32, 111, 112, 113, 114, 115, 116, 117, 118, 119, 120, 121, 122, 123, 124, 125, 126, 127, 128, 129, 130, 131, 132, 133, 134, 135, 136, 137, 138, 139, 140, 141, 142, 143, 144, 145, 38, 39, 40, 146, 147, 148, 149, 150, 151, 152, 153, 154, 155, 156, 157, 158, 159, 160, 161, 162, 163, 164, 165, 166, 167, 168, 169, 170, 171, 172, 173, 174, 175, 176, 177, 178, 179, 180, 181, 182, 183, 184, 185, 186, 187, 188, 189, 190, 191, 192, 193, 194, 195, 196, 197, 198, 199, 200, 201, 202, 203, 204, 205, 206, 207, 208, 209, 210, 211, 212, 213, 34, 35, 36, 37, 214, 215, 216, 217, 218, 219, 220, 221, 222, 223, 224, 225, 226, 227, 228, 229, 230, 231, 232, 233, 234, 235, 236, 237, 238, 239, 240, 241, 242, 243, 244, 245, 246, 247, 248, 249, 250, 251, 252, 253, 254, 255, 256, 257, 258, 259, 260, 261, 262, 263, 264, 265, 266, 267, 268, 269, 46, 270, 271, 272, 694, 695, 696, 697, 698, 699, 700, 701, 702, 703, 704, 706, 707, 708, 705, 715, 716] rfl (by decide +kernel)) (goodIn_sub (fun _ h => List.mem_cons_of_mem _ (List.mem_append_left _ (List.mem_append_right _ h))) (by decide +kernel))) (goodIn_sub (fun _ h => List.mem_cons_of_mem _ (List.mem_append_left _ (List.mem_append_left _ (List.mem_append_left _ (List.mem_append_right _ h))))) (by decide +kernel))) (goodIn_sub (fun _ h => List.mem_cons_of_mem _ (List.mem_append_left _ (List.mem_append_left _ (List.mem_append_right _ h)))) (by decide +kernel))
set_option maxRecDepth 20000 in
theorem gL_changes_L_wager : GoodIn wsL_changes (va_wsS RL 165 yL_wager wsL_wager) := goodIn_app (goodIn_r _ [294, 295, 6] rfl (by decide +kernel)) ggL_changes_L_wager
set_option maxRecDepth 20000 in
theorem ggL_changes_L_tap : GoodIn wsL_changes wsL_tap := goodIn_ca (goodIn_ca (goodIn_ca (goodIn_r _ [303, 59, 304, 305, 306, 12, 307, 64, 65, 66, 67, 68, 69, 17, 16, 70, 71, 72, 73, 44, 74, 75, 76, 77, 78, 79, 22, 80, 24, 81, 82, 83, 84, 85, 86, 87, 88, 89, 90, 91, 92, 93, 94, 95, 96, 97, 98, 99, 100, 101, 102, 20, 21, 23, 103, 104, 105, 106, 107, 108, 109, 110, 29, 30, 31, 32, 111, 112, 113, 114, 115, 116, 117, 118, 119, 120, 121, 122, 123, 124, 125, 126, 127, 128, 129, 130, 131, 132, 133, 134, 135, 136, 137, 138, 139, 140, 141, 142, 143, 144, 145, 38, 39, 40, 146, 147, 148, 149, 150, 151, 152, 153, 154, 155, 156, 157, 158, 159, 160, 161, 162, 163, 164, 165, 166, 167, 168, 169, 170, 171, 172, 173, 174, 175, 176, 177, 178, 179, 180, 181, 182, 183, 184, 185, 186, 187, 188, 189, 190, 191, 192, 193, 194, 195, 196, 197, 198, 199, 200, 201, 202, 203, 204, 205, 206, 207, 208, 209, 210, 211, 212, 213, 34, 35, 36, 37, 214, 215, 216, 217, 218, 219, 220, 221, 222, 223, 224, 225, 226, 227, 228, 229, 230, 231, 232, 233, 234, 235, 236, 237, 238, 239, 240, 241, 242, 243, 244, 245, 246, 247, 248, 249, 250, 251, 252, 253, 254, 255, 256, 257, 258, 259, 260, 261, 262, 263, 264, 265, 266, 267, 268, 269, 46, 270, 271, 272, 694, 695, 696, 697, 698, 699, 700, 701, 702, 703, 704, 706, 707, 708, 705, 715, 716] rfl (by decide +kernel)) (goodIn_sub (fun _ h => List.mem_cons_of_mem _ (List.mem_append_left _ (List.mem_append_right _ h))) (by decide +kernel))) (goodIn_sub (fun _ h => List.mem_cons_of_mem _ (List.mem_append_left _ (List.mem_append_left _ (List.mem_append_left _ (List.mem_append_right _ h))))) (by decide +kernel))) (goodIn_sub (fun _ h => List.mem_cons_of_mem _ (List.mem_append_left _ (List.mem_append_left _ (List.mem_append_right _ h)))) (by decide +kernel))
set_option maxRecDepth 20000 in
theorem gL_changes_L_tap : GoodIn wsL_changes (va_wsS RL 172 yL_tap wsL_tap) := goodIn_app (goodIn_r _ [301, 302, 6] rfl (by decide +kernel)) ggL_changes_L_tap
set_option maxRecDepth 20000 in
theorem ggL_changes_L_bottle : GoodIn wsL_changes wsL_bottle := goodIn_ca (goodIn_ca (goodIn_ca (goodIn_r _ [310, 59, 311, 312, 313, 12, 314, 64, 65, 66, 67, 68, 69, 17, 16, 70, 71, 72, 73, 44, 74, 75, 76, 77, 78, 79, 22, 80, 24, 81, 82, 83, 84, 85, 86, 87, 88, 89, 90, 91, 92, 93, 94, 95, 96, 97, 98, 99, 100, 101, 102, 20, 21, 23, 103, 104, 105, 106, 107, 108, 109, 110, 29, 30, 31, 32, 111, 112, 113, 114, 115, 116, 117, 118, 119, 120, 121, 122, 123, 124, 125, 126, 127, 128, 129, 130, 131, 132, 133, 134, 135, 136, 137, 138, 139, 140, 141, 142, 143, 144, 145, 38, 39, 40, 146, 147, 148, 149, 150, 151, 152, 153, 154, 155, 156, 157, 158, 159, 160, 161, 162, 163, 164, 165, 166, 167, 168, 169, 170, 171, 172, 173, 174, 175, 176, 177, 178, 179, 180, 181, 182, 183, 184, 185, 186, 187, 188, 189, 190, 191, 192, 193, 194, 195, 196, 197, 198, 199, 200, 201, 202, 203, 204, 205, 206, 207, 208, 209, 210, 211, 212, 213, 34, 35, 36, 37, 214, 215, 216, 217, 218, 219, 220, 221, 222, 223, 224, 225, 226, 227, 228, 229, 230, 231, 232, 233, 234, 235, 236, 237, 238, 239, 240, 241, 242, 243, 244, 245, 246, 247, 248, 249, 250, 251, 252, 253, 254, 255, 256, 257, 258, 259, 260, 261, 262, 263, 264, 265, 266, 267, 268, 269, 46, 270, 271, 272, 694, 695, 696, 697, 698, 699, 700, 701, 702, 703, 704, 706, 707, 708, 705, 715, 716] rfl (by decide +kernel)) (goodIn_sub (fun _ h => List.mem_cons_of_mem _ (List.mem_append_left _ (List.mem_append_right _ h))) (by decide +kernel))) (goodIn_sub (fun _ h => List.mem_cons_of_mem _ (List.mem_append_left _ (List.mem_append_left _ (List.mem_append_left _ (List.mem_append_right _ h))))) (by decide +kernel))) (goodIn_sub (fun _ h => List.mem_cons_of_mem _ (List.mem_append_left _ (List.mem_append_left _ (List.mem_append_right _ h)))) (by decide +kernel))
set_option maxRecDepth 20000 in
theorem gL_changes_L_bottle : GoodIn wsL_changes (va_wsS RL 234 yL_bottle wsL_bottle) := goodIn_app (goodIn_r _ [308, 309, 6] rfl (by decide +kernel)) ggL_changes_L_bottle
set_option maxRecDepth 20000 in
theorem ggL_changes_L_letOut : GoodIn wsL_changes wsL_letOut := goodIn_ca (goodIn_ca (goodIn_ca (goodIn_r _ [317, 59, 318, 319, 320, 12, 321, 64, 65, 66, 67, 68, 69, 17, 16, 70, 71, 72, 73, 44, 74, 75, 76, 77, 78, 79, 22, 80, 24, 81, 82, 83, 84, 85, 86, 87, 88, 89, 90, 91, 92, 93, 94, 95, 96, 97, 98, 99, 100, 101, 102, 20, 21, 23, 103, 104, 105, 106, 107, 108, 109, 110, 29, 30, 31, 32, 111, 112, 113, 114, 115, 116, 117, 118, 119, 120, 121, 122, 123, 124, 125, 126, 127, 128, 129, 130, 131, 132, 133, 134, 135, 136, 137, 138, 139, 140, 141, 142, 143, 144, 145, 38, 39, 40, 146, 147, 148, 149, 150, 151, 152, 153, 154, 155, 156, 157, 158, 159, 160, 161, 162, 163, 164, 165, 166, 167, 168, 169, 170, 171, 172, 173, 174, 175, 176, 177, 178, 179, 180, 181, 182, 183, 184, 185, 186, 187, 188, 189, 190, 191, 192, 193, 194, 195, 196, 197, 198, 199, 200, 201, 202, 203, 204, 205, 206, 207, 208, 209, 210, 211, 212, 213, 34, 35, 36, 37, 214, 215, 216, 217, 218, 219, 220, 221, 222, 223, 224, 225, 226, 227, 228, 229, 230, 231, 232, 233, 234, 235, 236, 237, 238, 239, 240, 241, 242, 243, 244, 245, 246, 247, 248, 249, 250, 251, 252, 253, 254, 255, 256, 257, 258, 259, 260, 261, 262, 263, 264, 265, 266, 267, 268, 269, 46, 270, 271, 272, 694, 695, 696, 697, 698, 699, 700, 701, 702, 703, 704, 706, 707, 708, 705, 715, 716] rfl (by decide +kernel)) (goodIn_sub (fun _ h => List.mem_cons_of_mem _ (List.mem_append_left _ (List.mem_append_right _ h))) (by decide +kernel))) (goodIn_sub (fun _ h => List.mem_cons_of_mem _ (List.mem_append_left _ (List.mem_append_left _ (List.mem_append_left _ (List.mem_append_right _ h))))) (by decide +kernel))) (goodIn_sub (fun _ h => List.mem_cons_of_mem _ (List.mem_append_left _ (List.mem_append_left _ (List.mem_append_right _ h)))) (by decide +kernel))
set_option maxRecDepth 20000 in
theorem gL_changes_L_letOut : GoodIn wsL_changes (va_wsS RL 236 yL_letOut wsL_letOut) := goodIn_app (goodIn_r _ [315, 316, 6] rfl (by decide +kernel)) ggL_changes_L_letOut
set_option maxRecDepth 20000 in
theorem ggL_changes_L_read : GoodIn wsL_changes wsL_read := goodIn_ca (goodIn_ca (goodIn_ca (goodIn_r _ [324, 59, 325, 326, 327, 12, 328, 64, 65, 66, 67, 68, 69, 17, 16, 70, 71, 72, 73, 44, 74, 75, 76, 77, 78, 79, 22, 80, 24, 81, 82, 83, 84, 85, 86, 87, 88, 89, 90, 91, 92, 93, 94, 95, 96, 97, 98, 99, 100, 101, 102, 20, 21, 23, 103, 104, 105, 106, 107, 108, 109, 110, 29, 30, 31, 32, 111, 112, 113, 114, 115, 116, 117, 118, 119, 120, 121, 122, 123, 124, 125, 126, 127, 128, 129, 130, 131, 132, 133, 134, 135, 136, 137, 138, 139, 140, 141, 142, 143, 144, 145, 38, 39, 40, 146, 147, 148, 149, 150, 151, 152, 153, 154, 155, 156, 157, 158, 159, 160, 161, 162, 163, 164, 165, 166, 167, 168, 169, 170, 171, 172, 173, 174, 175, 176, 177, 178, 179, 180, 181, 182, 183, 184, 185, 186, 187, 188, 189, 190, 191, 192, 193, 194, 195, 196, 197, 198, 199, 200, 201, 202, 203, 204, 205, 206, 207, 208, 209, 210, 211, 212, 213, 34, 35, 36, 37, 214, 215, 216, 217, 218, 219, 220, 221, 222, 223, 224, 225, 226, 227, 228, 229, 230, 231, 232, 233, 234, 235, 236, 237, 238, 239, 240, 241, 242, 243, 244, 245, 246, 247, 248, 249, 250, 251, 252, 253, 254, 255, 256, 257, 258, 259, 260, 261, 262, 263, 264, 265, 266, 267, 268, 269, 46, 270, 271, 272, 694, 695, 696, 697, 698, 699, 700, 701, 702, 703, 704, 706, 707, 708, 705, 715, 716] rfl (by decide +kernel)) (goodIn_sub (fun _ h => List.mem_cons_of_mem _ (List.mem_append_left _ (List.mem_append_right _ h))) (by decide +kernel))) (goodIn_sub (fun _ h => List.mem_cons_of_mem _ (List.mem_append_left _ (List.mem_append_left _ (List.mem_append_left _ (List.mem_append_right _ h))))) (by decide +kernel))) (goodIn_sub (fun _ h => List.mem_cons_of_mem _ (List.mem_append_left _ (List.mem_append_left _ (List.mem_append_right _ h)))) (by decide +kernel))
set_option maxRecDepth 20000 in
theorem gL_changes_L_read : GoodIn wsL_changes (va_wsS RL 238 yL_read wsL_read) := goodIn_app (goodIn_r _ [322, 323, 6] rfl (by decide +kernel)) ggL_changes_L_read
set_option maxRecDepth 20000 in
theorem ggL_changes_J4_init_da8c8 : GoodIn wsL_changes wsJ4_init_da8c8 := goodIn_r _ [331, 332, 333, 334, 335, 336, 337, 338, 339, 340, 341, 342, 343, 344, 345, 346, 347, 348, 349, 350, 690, 691, 692, 693] rfl (by decide +kernel)
set_option maxRecDepth 20000 in
theorem gL_changes_J4_init_da8c8 : GoodIn wsL_changes (wsJ4_init_da8c8) := ggL_changes_J4_init_da8c8
set_option maxRecDepth 20000 in
theorem ggL_changes_J4_append_15ec4 : GoodIn wsL_changes wsJ4_append_15ec4 := goodIn_r _ [354, 355, 356, 357, 358, 334, 359, 360, 361, 362, 363, 364, 365, 341, 366, 367, 368, 369, 370, 342, 371, 372, 373, 374, 375, 376, 377, 378, 379, 380, 381, 382, 157, 383, 384, 385, 386, 387, 388, 389, 390, 391, 392, 393, 394, 395, 396, 397, 340, 398, 271, 272, 399, 82, 83, 84, 400, 401, 402, 403, 404, 339, 405, 406, 345, 407, 408, 409, 410, 411, 412, 413, 414, 415, 416, 417, 418, 419, 420, 421, 422, 423, 424, 425, 426, 427, 428, 429, 430, 431, 432, 433, 434, 435, 436, 437, 438, 439, 440, 441, 442, 443, 444, 445, 446, 447, 448, 449, 450, 451, 452, 453, 454, 455, 343, 344, 346, 347, 348, 349, 350, 456, 457, 458, 459, 460, 461, 462, 463, 464, 465, 466, 467, 468, 469, 470, 471, 472, 473, 474, 475, 476, 477, 690, 691, 692, 693, 717, 718, 719, 720] rfl (by decide +kernel)
set_option maxRecDepth 20000 in
theorem gL_changes_J4_append_15ec4 : GoodIn wsL_changes (wsV RL 245 RJ4 yJ4_append_15ec4 wsJ4_append_15ec4) := goodIn_app (goodIn_r _ [351, 352, 353, 3] rfl (by decide +kernel)) ggL_changes_J4_append_15ec4
set_option maxRecDepth 20000 in
theorem ggL_changes_J4_append_bf812 : GoodIn wsL_changes wsJ4_append_bf812 := goodIn_r _ [481, 482, 483, 357, 484, 334, 485, 360, 341, 486, 487, 237, 488, 366, 367, 368, 369, 370, 342, 371, 372, 373, 374, 375, 376, 377, 378, 379, 380, 381, 382, 157, 383, 384, 385, 386, 387, 388, 389, 390, 391, 392, 393, 394, 395, 396, 397, 340, 398, 271, 272, 399, 82, 83, 84, 400, 401, 402, 403, 404, 339, 489, 490, 491, 492, 493, 494, 495, 345, 496, 408, 409, 410, 411, 412, 413, 414, 415, 416, 417, 418, 419, 420, 421, 422, 423, 497, 498, 499, 500, 501, 424, 425, 426, 427, 428, 690, 691, 692, 693] rfl (by decide +kernel)
set_option maxRecDepth 20000 in
theorem gL_changes_J4_append_bf812 : GoodIn wsL_changes (wsV RL 248 RJ4 yJ4_append_bf812 wsJ4_append_bf812) := goodIn_app (goodIn_r _ [478, 479, 480, 3] rfl (by decide +kernel)) ggL_changes_J4_append_bf812
set_option maxRecDepth 20000 in
theorem ggL_changes_J4_toString_0e30d : GoodIn wsL_changes wsJ4_toString_0e30d := goodIn_r _ [505, 506, 507, 417, 508, 509, 510, 511, 512, 513, 514, 337, 338, 439, 433, 438, 515, 516, 517, 518, 519, 334, 520, 341, 521, 522, 523, 524, 525, 3, 526, 527, 357, 528, 529, 360, 530, 401, 402, 403, 404, 339, 342, 531, 532, 390, 533, 392, 393, 394, 395, 396, 397, 534, 535, 536, 340, 398, 271, 157, 272, 399, 82, 83, 84, 537, 538, 539, 540, 2, 541, 542, 345, 543, 544, 545, 546, 463, 464, 465, 412, 413, 414, 466, 467, 468, 419, 469, 470, 422, 471, 547, 548, 549, 408, 427, 428, 347, 348, 349, 350, 550, 551, 552, 553, 717, 718, 719, 720, 690, 691, 692, 693] rfl (by decide +kernel)
set_option maxRecDepth 20000 in
theorem gL_changes_J4_toString_0e30d : GoodIn wsL_changes (wsV RL 253 RJ4 yJ4_toString_0e30d wsJ4_toString_0e30d) := goodIn_app (goodIn_r _ [502, 503, 504, 3] rfl (by decide +kernel)) ggL_changes_J4_toString_0e30d
set_option maxRecDepth 20000 in
theorem ggL_changes_L_runs : GoodIn wsL_changes wsL_runs := goodIn_ca (goodIn_ca (goodIn_ca (goodIn_ca (goodIn_ca (goodIn_r _ [556, 557, 430, 431, 417, 432, 433, 434, 435, 436, 437, 438, 439, 558, 559, 560, 561, 562, 563, 564, 565, 566, 567, 458, 568, 569, 570, 571, 419, 572, 573, 422, 574, 575, 576, 345, 577, 578, 579, 580, 412, 413, 414, 581, 547, 548, 549, 408, 427, 428, 582, 583, 6, 584, 585, 586, 587, 588, 12, 589, 590, 591, 18, 592, 593, 594, 50, 595, 52, 596, 597, 598, 599, 600, 47, 48, 49, 51, 601, 602, 603, 8, 59, 604, 605, 606, 607, 14, 15, 68, 69, 608, 17, 16, 70, 609, 610, 611, 612, 613, 614, 615, 616, 617, 618, 619, 620, 621, 622, 623, 624, 625, 626, 627, 628, 629, 630, 631, 632, 633, 634, 635, 636, 637, 638, 639, 640, 641, 642, 643, 644, 645, 646, 647, 648, 649, 650, 651, 652, 653, 654, 655, 656, 657, 658, 659, 660, 661, 71, 72, 73, 44, 74, 75, 76, 77, 78, 79, 22, 80, 24, 81, 82, 83, 84, 662, 663, 664, 665, 666, 667, 668, 669, 670, 671, 672, 673, 674, 85, 86, 87, 88, 89, 90, 91, 92, 93, 94, 95, 96, 97, 98, 99, 100, 101, 102, 20, 21, 23, 103, 104, 105, 106, 107, 108, 109, 110, 29, 30, 31, 32, 111, 112, 113, 114, 115, 116, 117, 118, 119, 120, 121, 122, 123, 124, 125, 126, 127, 128, 129, 130, 131, 132, 133, 134, 135, 136, 137, 138, 139, 140, 141, 142, 143, 144, 145, 38, 39, 40, 146, 147, 148, 149, 150, 151, 152, 153, 154, 155, 156, 157, 158, 159, 160, 161, 162, 163, 164, 165, 166, 167, 168, 169, 170, 171, 172, 173, 174, 175, 176, 177, 178, 179, 180, 181, 182, 183, 184, 185, 186, 187, 188, 189, 190, 191, 192, 193, 194, 195, 196, 197, 198, 199, 200, 201, 202, 203, 204, 205, 206, 207, 208, 209, 210, 211, 212, 213, 34, 35, 36, 37, 214, 215, 216, 217, 218, 219, 220, 221, 222, 223, 224, 225, 226, 227, 228, 229, 230, 231, 232, 233, 234, 235, 236, 237, 238, 239, 240, 241, 242, 243, 244, 245, 246, 247, 248, 249, 250, 675, 676, 677, 678, 679, 680, 681, 682, 251, 252, 253, 254, 255, 256, 257, 258, 259, 260, 261, 262, 263, 264, 265, 266, 267, 268, 269, 46, 270, 271, 272, 717, 718, 719, 720, 694, 695, 696, 697, 698, 699, 700, 701, 702, 703, 704, 709, 710, 711, 712, 713, 714, 706, 707, 708, 705, 715, 716] rfl (by decide +kernel)) (goodIn_sub (fun _ h => List.mem_cons_of_mem _ (List.mem_append_right _ h)) (by decide +kernel))) (goodIn_sub (fun _ h => List.mem_cons_of_mem _ (List.mem_append_left _ (List.mem_append_left _ (List.mem_append_left _ (List.mem_append_right _ h))))) (by decide +kernel))) (goodIn_sub (fun _ h => List.mem_cons_of_mem _ (List.mem_append_left _ (List.mem_append_left _ (List.mem_append_left _ (List.mem_append_left _ (List.mem_append_right _ h)))))) (by decide +kernel))) (goodIn_sub (fun _ h => List.mem_cons_of_mem _ (List.mem_append_left _ (List.mem_append_right _ h))) (by decide +kernel))) (goodIn_sub (fun _ h => List.mem_cons_of_mem _ (List.mem_append_left _ (List.mem_append_left _ (List.mem_append_right _ h)))) (by decide +kernel))
set_option maxRecDepth 20000 in
theorem gL_changes_L_runs : GoodIn wsL_changes (va_wsS RL 261 yL_runs wsL_runs) := goodIn_app (goodIn_r _ [554, 555, 6] rfl (by decide +kernel)) ggL_changes_L_runs
set_option maxRecDepth 20000 in
theorem ggL_changes_L_day : GoodIn wsL_changes wsL_day := goodIn_ca (goodIn_ca (goodIn_ca (goodIn_r _ [685, 59, 686, 687, 688, 12, 689, 64, 65, 66, 67, 68, 69, 17, 16, 70, 71, 72, 73, 44, 74, 75, 76, 77, 78, 79, 22, 80, 24, 81, 82, 83, 84, 85, 86, 87, 88, 89, 90, 91, 92, 93, 94, 95, 96, 97, 98, 99, 100, 101, 102, 20, 21, 23, 103, 104, 105, 106, 107, 108, 109, 110, 29, 30, 31, 32, 111, 112, 113, 114, 115, 116, 117, 118, 119, 120, 121, 122, 123, 124, 125, 126, 127, 128, 129, 130, 131, 132, 133, 134, 135, 136, 137, 138, 139, 140, 141, 142, 143, 144, 145, 38, 39, 40, 146, 147, 148, 149, 150, 151, 152, 153, 154, 155, 156, 157, 158, 159, 160, 161, 162, 163, 164, 165, 166, 167, 168, 169, 170, 171, 172, 173, 174, 175, 176, 177, 178, 179, 180, 181, 182, 183, 184, 185, 186, 187, 188, 189, 190, 191, 192, 193, 194, 195, 196, 197, 198, 199, 200, 201, 202, 203, 204, 205, 206, 207, 208, 209, 210, 211, 212, 213, 34, 35, 36, 37, 214, 215, 216, 217, 218, 219, 220, 221, 222, 223, 224, 225, 226, 227, 228, 229, 230, 231, 232, 233, 234, 235, 236, 237, 238, 239, 240, 241, 242, 243, 244, 245, 246, 247, 248, 249, 250, 251, 252, 253, 254, 255, 256, 257, 258, 259, 260, 261, 262, 263, 264, 265, 266, 267, 268, 269, 46, 270, 271, 272, 694, 695, 696, 697, 698, 699, 700, 701, 702, 703, 704, 706, 707, 708, 705, 715, 716] rfl (by decide +kernel)) (goodIn_sub (fun _ h => List.mem_cons_of_mem _ (List.mem_append_left _ (List.mem_append_right _ h))) (by decide +kernel))) (goodIn_sub (fun _ h => List.mem_cons_of_mem _ (List.mem_append_left _ (List.mem_append_left _ (List.mem_append_left _ (List.mem_append_right _ h))))) (by decide +kernel))) (goodIn_sub (fun _ h => List.mem_cons_of_mem _ (List.mem_append_left _ (List.mem_append_left _ (List.mem_append_right _ h)))) (by decide +kernel))
set_option maxRecDepth 20000 in
theorem gL_changes_L_day : GoodIn wsL_changes (va_wsS RL 161 yL_day wsL_day) := goodIn_app (goodIn_r _ [683, 684, 6] rfl (by decide +kernel)) ggL_changes_L_day
theorem dL_changes_0 : decode cL_changes 0 = .ok (.iload_n 1, 1) := by decide +kernel
theorem dL_changes_1 : decode cL_changes 1 = .ok (.iconst 4, 1) := by decide +kernel
theorem dL_changes_2 : decode cL_changes 2 = .ok (.ishr, 1) := by decide +kernel
theorem dL_changes_3 : decode cL_changes 3 = .ok (.aload_n 0, 1) := by decide +kernel
theorem dL_changes_4 : decode cL_changes 4 = .ok (.iconst 0, 1) := by decide +kernel
theorem dL_changes_5 : decode cL_changes 5 = .ok (.invokestatic 194, 3) := by decide +kernel
theorem dL_changes_8 : decode cL_changes 8 = .ok (.iconst 1, 1) := by decide +kernel
theorem dL_changes_9 : decode cL_changes 9 = .ok (.iadd, 1) := by decide +kernel
theorem dL_changes_10 : decode cL_changes 10 = .ok (.invokestatic 154, 3) := by decide +kernel
theorem dL_changes_13 : decode cL_changes 13 = .ok (.istore_n 2, 1) := by decide +kernel
theorem dL_changes_14 : decode cL_changes 14 = .ok (.iload_n 1, 1) := by decide +kernel
theorem dL_changes_15 : decode cL_changes 15 = .ok (.bipush 22, 2) := by decide +kernel
theorem dL_changes_17 : decode cL_changes 17 = .ok (.invokestatic 154, 3) := by decide +kernel
theorem dL_changes_20 : decode cL_changes 20 = .ok (.tableswitch 378 0 16 #[84, 108, 125, 125, 151, 182, 182, 182, 222, 222, 239, 239, 256, 273, 273, 289, 289], 84) := by decide +kernel
theorem dL_changes_104 : decode cL_changes 104 = .ok (.aload_n 0, 1) := by decide +kernel
theorem dL_changes_105 : decode cL_changes 105 = .ok (.iload_n 1, 1) := by decide +kernel
theorem dL_changes_106 : decode cL_changes 106 = .ok (.iconst 4, 1) := by decide +kernel
theorem dL_changes_107 : decode cL_changes 107 = .ok (.ishr, 1) := by decide +kernel
theorem dL_changes_108 : decode cL_changes 108 = .ok (.bipush 11, 2) := by decide +kernel
theorem dL_changes_110 : decode cL_changes 110 = .ok (.invokestatic 154, 3) := by decide +kernel
theorem dL_changes_113 : decode cL_changes 113 = .ok (.invokestatic 159, 3) := by decide +kernel
theorem dL_changes_116 : decode cL_changes 116 = .ok (.sipush (-1001), 3) := by decide +kernel
theorem dL_changes_119 : decode cL_changes 119 = .ok (.if_icmp .eq 7, 3) := by decide +kernel
theorem dL_changes_122 : decode cL_changes 122 = .ok (.iconst 1, 1) := by decide +kernel
theorem dL_changes_123 : decode cL_changes 123 = .ok (.goto 4, 3) := by decide +kernel
theorem dL_changes_126 : decode cL_changes 126 = .ok (.iconst 0, 1) := by decide +kernel
theorem dL_changes_127 : decode cL_changes 127 = .ok (.ireturn, 1) := by decide +kernel
theorem dL_changes_128 : decode cL_changes 128 = .ok (.aload_n 0, 1) := by decide +kernel
theorem dL_changes_129 : decode cL_changes 129 = .ok (.iload_n 2, 1) := by decide +kernel
theorem dL_changes_130 : decode cL_changes 130 = .ok (.invokestatic 228, 3) := by decide +kernel
theorem dL_changes_133 : decode cL_changes 133 = .ok (.sipush (-1001), 3) := by decide +kernel
theorem dL_changes_136 : decode cL_changes 136 = .ok (.if_icmp .eq 7, 3) := by decide +kernel
theorem dL_changes_139 : decode cL_changes 139 = .ok (.iconst 1, 1) := by decide +kernel
theorem dL_changes_140 : decode cL_changes 140 = .ok (.goto 4, 3) := by decide +kernel
theorem dL_changes_143 : decode cL_changes 143 = .ok (.iconst 0, 1) := by decide +kernel
theorem dL_changes_144 : decode cL_changes 144 = .ok (.ireturn, 1) := by decide +kernel
theorem dL_changes_145 : decode cL_changes 145 = .ok (.aload_n 0, 1) := by decide +kernel
theorem dL_changes_146 : decode cL_changes 146 = .ok (.iload_n 2, 1) := by decide +kernel
theorem dL_changes_147 : decode cL_changes 147 = .ok (.iload_n 1, 1) := by decide +kernel
theorem dL_changes_148 : decode cL_changes 148 = .ok (.bipush 8, 2) := by decide +kernel
theorem dL_changes_150 : decode cL_changes 150 = .ok (.ishr, 1) := by decide +kernel
theorem dL_changes_151 : decode cL_changes 151 = .ok (.bipush 11, 2) := by decide +kernel
theorem dL_changes_153 : decode cL_changes 153 = .ok (.invokestatic 154, 3) := by decide +kernel
theorem dL_changes_156 : decode cL_changes 156 = .ok (.invokestatic 230, 3) := by decide +kernel
theorem dL_changes_159 : decode cL_changes 159 = .ok (.sipush (-1001), 3) := by decide +kernel
theorem dL_changes_162 : decode cL_changes 162 = .ok (.if_icmp .eq 7, 3) := by decide +kernel
theorem dL_changes_165 : decode cL_changes 165 = .ok (.iconst 1, 1) := by decide +kernel
theorem dL_changes_166 : decode cL_changes 166 = .ok (.goto 4, 3) := by decide +kernel
theorem dL_changes_169 : decode cL_changes 169 = .ok (.iconst 0, 1) := by decide +kernel
theorem dL_changes_170 : decode cL_changes 170 = .ok (.ireturn, 1) := by decide +kernel
theorem dL_changes_171 : decode cL_changes 171 = .ok (.aload_n 0, 1) := by decide +kernel
theorem dL_changes_172 : decode cL_changes 172 = .ok (.iload_n 2, 1) := by decide +kernel
theorem dL_changes_173 : decode cL_changes 173 = .ok (.iload_n 1, 1) := by decide +kernel
theorem dL_changes_174 : decode cL_changes 174 = .ok (.bipush 8, 2) := by decide +kernel
theorem dL_changes_176 : decode cL_changes 176 = .ok (.ishr, 1) := by decide +kernel
theorem dL_changes_177 : decode cL_changes 177 = .ok (.aload_n 0, 1) := by decide +kernel
theorem dL_changes_178 : decode cL_changes 178 = .ok (.iconst 0, 1) := by decide +kernel
theorem dL_changes_179 : decode cL_changes 179 = .ok (.invokestatic 194, 3) := by decide +kernel
theorem dL_changes_182 : decode cL_changes 182 = .ok (.iconst 1, 1) := by decide +kernel
theorem dL_changes_183 : decode cL_changes 183 = .ok (.iadd, 1) := by decide +kernel
theorem dL_changes_184 : decode cL_changes 184 = .ok (.invokestatic 154, 3) := by decide +kernel
theorem dL_changes_187 : decode cL_changes 187 = .ok (.invokestatic 232, 3) := by decide +kernel
theorem dL_changes_190 : decode cL_changes 190 = .ok (.sipush (-1001), 3) := by decide +kernel
theorem dL_changes_193 : decode cL_changes 193 = .ok (.if_icmp .eq 7, 3) := by decide +kernel
theorem dL_changes_196 : decode cL_changes 196 = .ok (.iconst 1, 1) := by decide +kernel
theorem dL_changes_197 : decode cL_changes 197 = .ok (.goto 4, 3) := by decide +kernel
theorem dL_changes_200 : decode cL_changes 200 = .ok (.iconst 0, 1) := by decide +kernel
theorem dL_changes_201 : decode cL_changes 201 = .ok (.ireturn, 1) := by decide +kernel
theorem dL_changes_202 : decode cL_changes 202 = .ok (.aload_n 0, 1) := by decide +kernel
theorem dL_changes_203 : decode cL_changes 203 = .ok (.iload_n 2, 1) := by decide +kernel
theorem dL_changes_204 : decode cL_changes 204 = .ok (.sipush 690, 3) := by decide +kernel
theorem dL_changes_207 : decode cL_changes 207 = .ok (.iload_n 1, 1) := by decide +kernel
theorem dL_changes_208 : decode cL_changes 208 = .ok (.bipush 8, 2) := by decide +kernel
theorem dL_changes_210 : decode cL_changes 210 = .ok (.ishr, 1) := by decide +kernel
theorem dL_changes_211 : decode cL_changes 211 = .ok (.sipush 420, 3) := by decide +kernel
theorem dL_changes_214 : decode cL_changes 214 = .ok (.invokestatic 154, 3) := by decide +kernel
theorem dL_changes_217 : decode cL_changes 217 = .ok (.iadd, 1) := by decide +kernel
theorem dL_changes_218 : decode cL_changes 218 = .ok (.iload_n 1, 1) := by decide +kernel
theorem dL_changes_219 : decode cL_changes 219 = .ok (.bipush 12, 2) := by decide +kernel
theorem dL_changes_221 : decode cL_changes 221 = .ok (.ishr, 1) := by decide +kernel
theorem dL_changes_222 : decode cL_changes 222 = .ok (.bipush 11, 2) := by decide +kernel
theorem dL_changes_224 : decode cL_changes 224 = .ok (.invokestatic 154, 3) := by decide +kernel
theorem dL_changes_227 : decode cL_changes 227 = .ok (.invokestatic 165, 3) := by decide +kernel
theorem dL_changes_230 : decode cL_changes 230 = .ok (.sipush (-1001), 3) := by decide +kernel
theorem dL_changes_233 : decode cL_changes 233 = .ok (.if_icmp .eq 7, 3) := by decide +kernel
theorem dL_changes_236 : decode cL_changes 236 = .ok (.iconst 1, 1) := by decide +kernel
theorem dL_changes_237 : decode cL_changes 237 = .ok (.goto 4, 3) := by decide +kernel
theorem dL_changes_240 : decode cL_changes 240 = .ok (.iconst 0, 1) := by decide +kernel
theorem dL_changes_241 : decode cL_changes 241 = .ok (.ireturn, 1) := by decide +kernel
theorem dL_changes_242 : decode cL_changes 242 = .ok (.aload_n 0, 1) := by decide +kernel
theorem dL_changes_243 : decode cL_changes 243 = .ok (.iload_n 2, 1) := by decide +kernel
theorem dL_changes_244 : decode cL_changes 244 = .ok (.invokestatic 172, 3) := by decide +kernel
theorem dL_changes_247 : decode cL_changes 247 = .ok (.sipush (-1001), 3) := by decide +kernel
theorem dL_changes_250 : decode cL_changes 250 = .ok (.if_icmp .eq 7, 3) := by decide +kernel
theorem dL_changes_253 : decode cL_changes 253 = .ok (.iconst 1, 1) := by decide +kernel
theorem dL_changes_254 : decode cL_changes 254 = .ok (.goto 4, 3) := by decide +kernel
theorem dL_changes_257 : decode cL_changes 257 = .ok (.iconst 0, 1) := by decide +kernel
theorem dL_changes_258 : decode cL_changes 258 = .ok (.ireturn, 1) := by decide +kernel
theorem dL_changes_259 : decode cL_changes 259 = .ok (.aload_n 0, 1) := by decide +kernel
theorem dL_changes_260 : decode cL_changes 260 = .ok (.iload_n 2, 1) := by decide +kernel
theorem dL_changes_261 : decode cL_changes 261 = .ok (.invokestatic 234, 3) := by decide +kernel
theorem dL_changes_264 : decode cL_changes 264 = .ok (.sipush (-1001), 3) := by decide +kernel
theorem dL_changes_267 : decode cL_changes 267 = .ok (.if_icmp .eq 7, 3) := by decide +kernel
theorem dL_changes_270 : decode cL_changes 270 = .ok (.iconst 1, 1) := by decide +kernel
theorem dL_changes_271 : decode cL_changes 271 = .ok (.goto 4, 3) := by decide +kernel
theorem dL_changes_274 : decode cL_changes 274 = .ok (.iconst 0, 1) := by decide +kernel
theorem dL_changes_275 : decode cL_changes 275 = .ok (.ireturn, 1) := by decide +kernel
theorem dL_changes_276 : decode cL_changes 276 = .ok (.aload_n 0, 1) := by decide +kernel
theorem dL_changes_277 : decode cL_changes 277 = .ok (.iload_n 2, 1) := by decide +kernel
theorem dL_changes_278 : decode cL_changes 278 = .ok (.invokestatic 236, 3) := by decide +kernel
theorem dL_changes_281 : decode cL_changes 281 = .ok (.sipush (-1001), 3) := by decide +kernel
theorem dL_changes_284 : decode cL_changes 284 = .ok (.if_icmp .eq 7, 3) := by decide +kernel
theorem dL_changes_287 : decode cL_changes 287 = .ok (.iconst 1, 1) := by decide +kernel
theorem dL_changes_288 : decode cL_changes 288 = .ok (.goto 4, 3) := by decide +kernel
theorem dL_changes_291 : decode cL_changes 291 = .ok (.iconst 0, 1) := by decide +kernel
theorem dL_changes_292 : decode cL_changes 292 = .ok (.ireturn, 1) := by decide +kernel
theorem dL_changes_293 : decode cL_changes 293 = .ok (.aload_n 0, 1) := by decide +kernel
theorem dL_changes_294 : decode cL_changes 294 = .ok (.invokestatic 238, 3) := by decide +kernel
theorem dL_changes_297 : decode cL_changes 297 = .ok (.sipush (-1001), 3) := by decide +kernel
theorem dL_changes_300 : decode cL_changes 300 = .ok (.if_icmp .eq 7, 3) := by decide +kernel
theorem dL_changes_303 : decode cL_changes 303 = .ok (.iconst 1, 1) := by decide +kernel
theorem dL_changes_304 : decode cL_changes 304 = .ok (.goto 4, 3) := by decide +kernel
theorem dL_changes_307 : decode cL_changes 307 = .ok (.iconst 0, 1) := by decide +kernel
theorem dL_changes_308 : decode cL_changes 308 = .ok (.ireturn, 1) := by decide +kernel
theorem dL_changes_309 : decode cL_changes 309 = .ok (.aload_n 0, 1) := by decide +kernel
theorem dL_changes_310 : decode cL_changes 310 = .ok (.iload_n 1, 1) := by decide +kernel
theorem dL_changes_311 : decode cL_changes 311 = .ok (.bipush 6, 2) := by decide +kernel
theorem dL_changes_313 : decode cL_changes 313 = .ok (.ishr, 1) := by decide +kernel
theorem dL_changes_314 : decode cL_changes 314 = .ok (.iconst 1, 1) := by decide +kernel
theorem dL_changes_315 : decode cL_changes 315 = .ok (.iand, 1) := by decide +kernel
theorem dL_changes_316 : decode cL_changes 316 = .ok (.ifCond .ne 37, 3) := by decide +kernel
theorem dL_changes_319 : decode cL_changes 319 = .ok (.new 240, 3) := by decide +kernel
theorem dL_changes_322 : decode cL_changes 322 = .ok (.dup, 1) := by decide +kernel
theorem dL_changes_323 : decode cL_changes 323 = .ok (.invokespecial 242, 3) := by decide +kernel
theorem dL_changes_326 : decode cL_changes 326 = .ok (.ldc 243, 2) := by decide +kernel
theorem dL_changes_328 : decode cL_changes 328 = .ok (.invokevirtual 245, 3) := by decide +kernel
theorem dL_changes_331 : decode cL_changes 331 = .ok (.iload_n 1, 1) := by decide +kernel
theorem dL_changes_332 : decode cL_changes 332 = .ok (.iconst 4, 1) := by decide +kernel
theorem dL_changes_333 : decode cL_changes 333 = .ok (.ishr, 1) := by decide +kernel
theorem dL_changes_334 : decode cL_changes 334 = .ok (.bipush 45, 2) := by decide +kernel
theorem dL_changes_336 : decode cL_changes 336 = .ok (.invokestatic 154, 3) := by decide +kernel
theorem dL_changes_339 : decode cL_changes 339 = .ok (.invokevirtual 248, 3) := by decide +kernel
theorem dL_changes_342 : decode cL_changes 342 = .ok (.ldc 251, 2) := by decide +kernel
theorem dL_changes_344 : decode cL_changes 344 = .ok (.invokevirtual 245, 3) := by decide +kernel
theorem dL_changes_347 : decode cL_changes 347 = .ok (.invokevirtual 253, 3) := by decide +kernel
theorem dL_changes_350 : decode cL_changes 350 = .ok (.goto 36, 3) := by decide +kernel
theorem dL_changes_353 : decode cL_changes 353 = .ok (.new 240, 3) := by decide +kernel
theorem dL_changes_356 : decode cL_changes 356 = .ok (.dup, 1) := by decide +kernel
theorem dL_changes_357 : decode cL_changes 357 = .ok (.invokespecial 242, 3) := by decide +kernel
theorem dL_changes_360 : decode cL_changes 360 = .ok (.ldc_w 257, 3) := by decide +kernel
theorem dL_changes_363 : decode cL_changes 363 = .ok (.invokevirtual 245, 3) := by decide +kernel
theorem dL_changes_366 : decode cL_changes 366 = .ok (.iload_n 1, 1) := by decide +kernel
theorem dL_changes_367 : decode cL_changes 367 = .ok (.iconst 4, 1) := by decide +kernel
theorem dL_changes_368 : decode cL_changes 368 = .ok (.ishr, 1) := by decide +kernel
theorem dL_changes_369 : decode cL_changes 369 = .ok (.bipush 10, 2) := by decide +kernel
theorem dL_changes_371 : decode cL_changes 371 = .ok (.invokestatic 154, 3) := by decide +kernel
theorem dL_changes_374 : decode cL_changes 374 = .ok (.invokevirtual 248, 3) := by decide +kernel
theorem dL_changes_377 : decode cL_changes 377 = .ok (.ldc_w 259, 3) := by decide +kernel
theorem dL_changes_380 : decode cL_changes 380 = .ok (.invokevirtual 245, 3) := by decide +kernel
theorem dL_changes_383 : decode cL_changes 383 = .ok (.invokevirtual 253, 3) := by decide +kernel
theorem dL_changes_386 : decode cL_changes 386 = .ok (.invokestatic 261, 3) := by decide +kernel
theorem dL_changes_389 : decode cL_changes 389 = .ok (.ifCond .lt 7, 3) := by decide +kernel
theorem dL_changes_392 : decode cL_changes 392 = .ok (.iconst 1, 1) := by decide +kernel
theorem dL_changes_393 : decode cL_changes 393 = .ok (.goto 4, 3) := by decide +kernel
theorem dL_changes_396 : decode cL_changes 396 = .ok (.iconst 0, 1) := by decide +kernel
theorem dL_changes_397 : decode cL_changes 397 = .ok (.ireturn, 1) := by decide +kernel
theorem dL_changes_398 : decode cL_changes 398 = .ok (.aload_n 0, 1) := by decide +kernel
theorem dL_changes_399 : decode cL_changes 399 = .ok (.iload_n 1, 1) := by decide +kernel
theorem dL_changes_400 : decode cL_changes 400 = .ok (.iconst 4, 1) := by decide +kernel
theorem dL_changes_401 : decode cL_changes 401 = .ok (.ishr, 1) := by decide +kernel
theorem dL_changes_402 : decode cL_changes 402 = .ok (.bipush 84, 2) := by decide +kernel
theorem dL_changes_404 : decode cL_changes 404 = .ok (.invokestatic 154, 3) := by decide +kernel
theorem dL_changes_407 : decode cL_changes 407 = .ok (.bipush 42, 2) := by decide +kernel
theorem dL_changes_409 : decode cL_changes 409 = .ok (.isub, 1) := by decide +kernel
theorem dL_changes_410 : decode cL_changes 410 = .ok (.invokestatic 161, 3) := by decide +kernel
theorem dL_changes_413 : decode cL_changes 413 = .ok (.sipush (-1001), 3) := by decide +kernel
theorem dL_changes_416 : decode cL_changes 416 = .ok (.if_icmp .eq 7, 3) := by decide +kernel
theorem dL_changes_419 : decode cL_changes 419 = .ok (.iconst 1, 1) := by decide +kernel
theorem dL_changes_420 : decode cL_changes 420 = .ok (.goto 4, 3) := by decide +kernel
theorem dL_changes_423 : decode cL_changes 423 = .ok (.iconst 0, 1) := by decide +kernel
theorem dL_changes_424 : decode cL_changes 424 = .ok (.ireturn, 1) := by decide +kernel
set_option maxRecDepth 20000 in
theorem ggL_refused_L_asks : GoodIn wsL_refused wsL_asks := goodIn_ca (goodIn_ca (goodIn_ca (goodIn_ca (goodIn_ca (goodIn_ca (goodIn_r _ [4, 5, 6, 7, 3, 8, 9, 10, 11, 12, 13, 14, 15, 16, 17, 18, 19, 20, 21, 22, 23, 24, 25, 26, 27, 28, 29, 30, 31, 32, 33, 34, 35, 36, 37, 38, 39, 40, 41, 42, 43, 44, 45, 46, 47, 48, 49, 50, 51, 52, 53, 54, 55, 56, 57, 58, 59, 60, 61, 62, 63, 64, 65, 66, 67, 68, 69, 70, 71, 72, 73, 74, 75, 76, 77, 78, 79, 80, 81, 82, 83, 84, 85, 86, 87, 88, 89, 90, 91, 92, 93, 94, 95, 96, 97, 98, 99, 100, 101, 102, 103, 104, 105, 106, 107, 108, 109, 110, 111, 112, 113, 114, 115, 116, 117, 118, 119, 120, 121, 122, 123, 124, 125, 126, 127, 128, 129, 130, 131, 132, 133, 134, 135, 136, 137, 138, 139, 140, 141, 142, 143, 144, 145, 146, 147, 148, 149, 150, 151, 152, 153, 154, 155, 156, 157, 158, 159, 160, 161, 162, 163, 164, 165, 166, 167, 168, 169, 170, 171, 172, 173, 174, 175, 176, 177, 178, 179, 180, 181, 182, 183, 184, 185, 186, 187, 188, 189, 190, 191, 192, 193, 194, 195, 196, 197, 198, 199, 200, 201, 202, 203, 204, 205, 206, 207, 208, 209, 210, 211, 212, 213, 214, 215, 216, 217, 218, 219, 220, 221, 222, 223, 224, 225, 226, 227, 228, 229, 230, 231, 232, 233, 234, 235, 236, 237, 238, 239, 240, 241, 242, 243, 244, 245, 246, 247, 248, 249, 250, 251, 252, 253, 254, 255, 256, 257, 258, 259, 260, 261, 262, 263, 264, 265, 266, 267, 268, 269, 270, 271, 272, 273, 274, 275, 276, 277, 278, 279, 280, 281, 282, 283, 284, 285, 286, 287, 288, 289, 290, 291, 292, 293, 294, 295, 296, 297, 298, 299, 300, 301, 302, 303, 304, 305, 306, 307, 308, 309, 310, 311, 312, 313, 314, 315, 316, 317, 318, 319, 320, 321, 322, 323, 324, 325, 326, 327, 328, 329, 330, 752, 753, 754, 755, 756, 757, 758, 759, 760, 761, 762, 763, 764, 765, 766, 767, 768, 769, 770, 771, 772, 773, 774] rfl (by decide +kernel)) (goodIn_sub (fun _ h => List.mem_cons_of_mem _ (List.mem_append_left _ (List.mem_append_left _ (List.mem_append_left _ (List.mem_append_left _ (List.mem_append_left _ (List.mem_append_left _ (List.mem_append_right _ h)))))))) (by decide +kernel))) (goodIn_sub (fun _ h => List.mem_cons_of_mem _ (List.mem_append_left _ (List.mem_append_left _ (List.mem_append_left _ (List.mem_append_left _ (List.mem_append_left _ (List.mem_append_right _ h))))))) (by decide +kernel))) (goodIn_sub (fun _ h => List.mem_cons_of_mem _ (List.mem_append_left _ (List.mem_append_left _ (List.mem_append_left _ (List.mem_append_left _ (List.mem_append_right _ h)))))) (by decide +kernel))) (goodIn_sub (fun _ h => List.mem_cons_of_mem _ (List.mem_append_left _ (List.mem_append_left _ (List.mem_append_left _ (List.mem_append_right _ h))))) (by decide +kernel))) (goodIn_sub (fun _ h => List.mem_cons_of_mem _ (List.mem_append_left _ (List.mem_append_left _ (List.mem_append_right _ h)))) (by decide +kernel))) (goodIn_sub (fun _ h => List.mem_cons_of_mem _ (List.mem_append_left _ (List.mem_append_left _ (List.mem_append_left _ (List.mem_append_left _ (List.mem_append_left _ (List.mem_append_left _ (List.mem_append_left _ (List.mem_append_right _ h))))))))) (by decide +kernel))
set_option maxRecDepth 20000 in
theorem gL_refused_L_asks : GoodIn wsL_refused (va_wsS RL 265 yL_asks wsL_asks) := goodIn_app (goodIn_r _ [1, 2, 3] rfl (by decide +kernel)) ggL_refused_L_asks
set_option maxRecDepth 20000 in
theorem ggL_refused_L_account : GoodIn wsL_refused wsL_account := goodIn_ca (goodIn_ca (goodIn_r _ [83, 84, 85, 86, 87, 14, 88, 89, 90, 18, 91, 92, 19, 20, 21, 22, 23, 24, 25, 26, 27, 28, 29, 30, 31, 32, 53, 54, 55, 56, 57, 58, 59, 60, 93, 94, 95, 96, 97, 98, 99, 100, 101, 102, 103, 104, 752, 753, 754, 755, 756, 757, 758, 759, 760, 761, 762, 763, 764, 765, 766, 767, 768, 769, 770, 771, 772] rfl (by decide +kernel)) (goodIn_sub (fun _ h => List.mem_cons_of_mem _ (List.mem_append_left _ (List.mem_append_left _ (List.mem_append_left _ (List.mem_append_left _ (List.mem_append_right _ h)))))) (by decide +kernel))) (goodIn_sub (fun _ h => List.mem_cons_of_mem _ (List.mem_append_left _ (List.mem_append_left _ (List.mem_append_left _ (List.mem_append_left _ (List.mem_append_left _ (List.mem_append_right _ h))))))) (by decide +kernel))
set_option maxRecDepth 20000 in
theorem gL_refused_L_account : GoodIn wsL_refused (va_wsS RL 194 yL_account wsL_account) := goodIn_app (goodIn_r _ [81, 82, 3] rfl (by decide +kernel)) ggL_refused_L_account
set_option maxRecDepth 20000 in
theorem ggL_refused_L_weather : GoodIn wsL_refused wsL_weather := goodIn_ca (goodIn_ca (goodIn_r _ [107, 84, 108, 109, 110, 14, 111, 89, 90, 18, 19, 20, 21, 22, 23, 24, 752, 753, 754, 755, 756, 757, 758, 759, 760, 761, 762, 763] rfl (by decide +kernel)) (goodIn_sub (fun _ h => List.mem_cons_of_mem _ (List.mem_append_left _ (List.mem_append_left _ (List.mem_append_left _ (List.mem_append_left _ (List.mem_append_right _ h)))))) (by decide +kernel))) (goodIn_sub (fun _ h => List.mem_cons_of_mem _ (List.mem_append_left _ (List.mem_append_left _ (List.mem_append_left _ (List.mem_append_left _ (List.mem_append_left _ (List.mem_append_right _ h))))))) (by decide +kernel))
set_option maxRecDepth 20000 in
theorem gL_refused_L_weather : GoodIn wsL_refused (va_wsS RL 196 yL_weather wsL_weather) := goodIn_app (goodIn_r _ [105, 106, 3] rfl (by decide +kernel)) ggL_refused_L_weather
set_option maxRecDepth 20000 in
theorem ggL_refused_L_join : GoodIn wsL_refused wsL_join := goodIn_ca (goodIn_ca (goodIn_ca (goodIn_r _ [333, 334, 335, 336, 337, 14, 338, 339, 340, 341, 342, 343, 344, 91, 18, 345, 346, 347, 348, 96, 349, 350, 351, 352, 353, 354, 22, 355, 24, 356, 357, 358, 359, 360, 361, 362, 363, 364, 365, 366, 367, 368, 369, 370, 212, 213, 371, 372, 373, 374, 375, 20, 21, 23, 376, 209, 210, 211, 214, 215, 216, 217, 29, 30, 31, 32, 377, 378, 379, 380, 381, 382, 383, 384, 385, 386, 387, 388, 389, 390, 391, 392, 393, 394, 395, 396, 397, 398, 399, 400, 401, 402, 403, 127, 128, 129, 404, 405, 406, 407, 408, 58, 59, 60, 409, 410, 411, 412, 413, 414, 415, 416, 417, 418, 158, 159, 160, 419, 420, 421, 422, 423, 424, 425, 426, 427, 428, 429, 430, 431, 432, 433, 434, 435, 436, 437, 438, 439, 440, 441, 66, 67, 68, 442, 443, 444, 445, 446, 447, 328, 329, 448, 449, 450, 451, 452, 453, 454, 455, 456, 457, 458, 459, 460, 461, 462, 463, 464, 465, 466, 467, 468, 54, 55, 56, 57, 469, 185, 140, 186, 175, 187, 188, 189, 190, 191, 192, 155, 156, 157, 142, 161, 139, 141, 470, 311, 312, 313, 314, 315, 316, 317, 318, 319, 471, 472, 473, 474, 475, 476, 477, 478, 479, 480, 481, 482, 483, 484, 485, 486, 487, 488, 489, 490, 491, 492, 493, 494, 495, 496, 497, 498, 98, 499, 179, 180, 752, 753, 754, 755, 756, 757, 758, 759, 760, 761, 762, 764, 765, 766, 763, 775, 776] rfl (by decide +kernel)) (goodIn_sub (fun _ h => List.mem_cons_of_mem _ (List.mem_append_left _ (List.mem_append_right _ h))) (by decide +kernel))) (goodIn_sub (fun _ h => List.mem_cons_of_mem _ (List.mem_append_left _ (List.mem_append_left _ (List.mem_append_left _ (List.mem_append_left _ (List.mem_append_left _ (List.mem_append_right _ h))))))) (by decide +kernel))) (goodIn_sub (fun _ h => List.mem_cons_of_mem _ (List.mem_append_left _ (List.mem_append_left _ (List.mem_append_left _ (List.mem_append_left _ (List.mem_append_left _ (List.mem_append_left _ (List.mem_append_left _ (List.mem_append_right _ h))))))))) (by decide +kernel))
set_option maxRecDepth 20000 in
theorem gL_refused_L_join : GoodIn wsL_refused (va_wsS RL 159 yL_join wsL_join) := goodIn_app (goodIn_r _ [331, 332, 3] rfl (by decide +kernel)) ggL_refused_L_join
set_option maxRecDepth 20000 in
theorem ggL_refused_L_is : GoodIn wsL_refused wsL_is := goodIn_ca (goodIn_ca (goodIn_r _ [502, 503, 504, 3, 505, 506, 507, 508, 84, 146, 509, 510, 511, 14, 512, 89, 90, 151, 152, 484, 485, 486, 752, 753, 754, 755, 756, 757, 758, 759, 760, 761, 762] rfl (by decide +kernel)) (goodIn_sub (fun _ h => List.mem_cons_of_mem _ (List.mem_append_left _ (List.mem_append_left _ (List.mem_append_left _ (List.mem_append_left _ (List.mem_append_right _ h)))))) (by decide +kernel))) (goodIn_sub (fun _ h => List.mem_cons_of_mem _ (List.mem_append_left _ (List.mem_append_left _ (List.mem_append_right _ h)))) (by decide +kernel))
set_option maxRecDepth 20000 in
theorem gL_refused_L_is : GoodIn wsL_refused (va_wsS RL 168 yL_is wsL_is) := goodIn_app (goodIn_r _ [500, 501, 3] rfl (by decide +kernel)) ggL_refused_L_is
set_option maxRecDepth 20000 in
theorem ggL_refused_L_of : GoodIn wsL_refused wsL_of := goodIn_ca (goodIn_ca (goodIn_ca (goodIn_r _ [114, 115, 84, 116, 117, 118, 14, 119, 89, 90, 18, 120, 121, 122, 123, 124, 125, 126, 127, 128, 22, 129, 24, 130, 30, 31, 32, 752, 753, 754, 755, 756, 757, 758, 759, 760, 761, 762, 763] rfl (by decide +kernel)) (goodIn_sub (fun _ h => List.mem_cons_of_mem _ (List.mem_append_left _ (List.mem_append_left _ (List.mem_append_left _ (List.mem_append_left _ (List.mem_append_right _ h)))))) (by decide +kernel))) (goodIn_sub (fun _ h => List.mem_cons_of_mem _ (List.mem_append_left _ (List.mem_append_left _ (List.mem_append_left _ (List.mem_append_right _ h))))) (by decide +kernel))) (goodIn_sub (fun _ h => List.mem_cons_of_mem _ (List.mem_append_left _ (List.mem_append_left _ (List.mem_append_left _ (List.mem_append_left _ (List.mem_append_left _ (List.mem_append_right _ h))))))) (by decide +kernel))
set_option maxRecDepth 20000 in
theorem gL_refused_L_of : GoodIn wsL_refused (va_wsS RL 198 yL_of wsL_of) := goodIn_app (goodIn_r _ [112, 113, 3] rfl (by decide +kernel)) ggL_refused_L_of
set_option maxRecDepth 20000 in
theorem ggL_refused_L_leave : GoodIn wsL_refused wsL_leave := goodIn_ca (goodIn_ca (goodIn_ca (goodIn_r _ [515, 334, 516, 517, 518, 14, 519, 339, 340, 341, 342, 343, 344, 91, 18, 345, 346, 347, 348, 96, 349, 350, 351, 352, 353, 354, 22, 355, 24, 356, 357, 358, 359, 360, 361, 362, 363, 364, 365, 366, 367, 368, 369, 370, 212, 213, 371, 372, 373, 374, 375, 20, 21, 23, 376, 209, 210, 211, 214, 215, 216, 217, 29, 30, 31, 32, 377, 378, 379, 380, 381, 382, 383, 384, 385, 386, 387, 388, 389, 390, 391, 392, 393, 394, 395, 396, 397, 398, 399, 400, 401, 402, 403, 127, 128, 129, 404, 405, 406, 407, 408, 58, 59, 60, 409, 410, 411, 412, 413, 414, 415, 416, 417, 418, 158, 159, 160, 419, 420, 421, 422, 423, 424, 425, 426, 427, 428, 429, 430, 431, 432, 433, 434, 435, 436, 437, 438, 439, 440, 441, 66, 67, 68, 442, 443, 444, 445, 446, 447, 328, 329, 448, 449, 450, 451, 452, 453, 454, 455, 456, 457, 458, 459, 460, 461, 462, 463, 464, 465, 466, 467, 468, 54, 55, 56, 57, 469, 185, 140, 186, 175, 187, 188, 189, 190, 191, 192, 155, 156, 157, 142, 161, 139, 141, 470, 311, 312, 313, 314, 315, 316, 317, 318, 319, 471, 472, 473, 474, 475, 476, 477, 478, 479, 480, 481, 482, 483, 484, 485, 486, 487, 488, 489, 490, 491, 492, 493, 494, 495, 496, 497, 498, 98, 499, 179, 180, 752, 753, 754, 755, 756, 757, 758, 759, 760, 761, 762, 764, 765, 766, 763, 775, 776] rfl (by decide +kernel)) (goodIn_sub (fun _ h => List.mem_cons_of_mem _ (List.mem_append_left _ (List.mem_append_right _ h))) (by decide +kernel))) (goodIn_sub (fun _ h => List.mem_cons_of_mem _ (List.mem_append_left _ (List.mem_append_left _ (List.mem_append_left _ (List.mem_append_left _ (List.mem_append_left _ (List.mem_append_right _ h))))))) (by decide +kernel))) (goodIn_sub (fun _ h => List.mem_cons_of_mem _ (List.mem_append_left _ (List.mem_append_left _ (List.mem_append_left _ (List.mem_append_left _ (List.mem_append_left _ (List.mem_append_left _ (List.mem_append_left _ (List.mem_append_right _ h))))))))) (by decide +kernel))
set_option maxRecDepth 20000 in
theorem gL_refused_L_leave : GoodIn wsL_refused (va_wsS RL 228 yL_leave wsL_leave) := goodIn_app (goodIn_r _ [513, 514, 3] rfl (by decide +kernel)) ggL_refused_L_leave
set_option maxRecDepth 20000 in
theorem ggL_refused_L_move : GoodIn wsL_refused wsL_move := goodIn_ca (goodIn_ca (goodIn_ca (goodIn_r _ [522, 334, 523, 524, 525, 14, 526, 339, 340, 341, 342, 343, 344, 91, 18, 345, 346, 347, 348, 96, 349, 350, 351, 352, 353, 354, 22, 355, 24, 356, 357, 358, 359, 360, 361, 362, 363, 364, 365, 366, 367, 368, 369, 370, 212, 213, 371, 372, 373, 374, 375, 20, 21, 23, 376, 209, 210, 211, 214, 215, 216, 217, 29, 30, 31, 32, 377, 378, 379, 380, 381, 382, 383, 384, 385, 386, 387, 388, 389, 390, 391, 392, 393, 394, 395, 396, 397, 398, 399, 400, 401, 402, 403, 127, 128, 129, 404, 405, 406, 407, 408, 58, 59, 60, 409, 410, 411, 412, 413, 414, 415, 416, 417, 418, 158, 159, 160, 419, 420, 421, 422, 423, 424, 425, 426, 427, 428, 429, 430, 431, 432, 433, 434, 435, 436, 437, 438, 439, 440, 441, 66, 67, 68, 442, 443, 444, 445, 446, 447, 328, 329, 448, 449, 450, 451, 452, 453, 454, 455, 456, 457, 458, 459, 460, 461, 462, 463, 464, 465, 466, 467, 468, 54, 55, 56, 57, 469, 185, 140, 186, 175, 187, 188, 189, 190, 191, 192, 155, 156, 157, 142, 161, 139, 141, 470, 311, 312, 313, 314, 315, 316, 317, 318, 319, 471, 472, 473, 474, 475, 476, 477, 478, 479, 480, 481, 482, 483, 484, 485, 486, 487, 488, 489, 490, 491, 492, 493, 494, 495, 496, 497, 498, 98, 499, 179, 180, 752, 753, 754, 755, 756, 757, 758, 759, 760, 761, 762, 764, 765, 766, 763, 775, 776] rfl (by decide +kernel)) (goodIn_sub (fun _ h => List.mem_cons_of_mem _ (List.mem_append_left _ (List.mem_append_right _ h))) (by decide +kernel))) (goodIn_sub (fun _ h => List.mem_cons_of_mem _ (List.mem_append_left _ (List.mem_append_left _ (List.mem_append_left _ (List.mem_append_left _ (List.mem_append_left _ (List.mem_append_right _ h))))))) (by decide +kernel))) (goodIn_sub (fun _ h => List.mem_cons_of_mem _ (List.mem_append_left _ (List.mem_append_left _ (List.mem_append_left _ (List.mem_append_left _ (List.mem_append_left _ (List.mem_append_left _ (List.mem_append_left _ (List.mem_append_right _ h))))))))) (by decide +kernel))
set_option maxRecDepth 20000 in
theorem gL_refused_L_move : GoodIn wsL_refused (va_wsS RL 230 yL_move wsL_move) := goodIn_app (goodIn_r _ [520, 521, 3] rfl (by decide +kernel)) ggL_refused_L_move
set_option maxRecDepth 20000 in
theorem ggL_refused_L_exchange : GoodIn wsL_refused wsL_exchange := goodIn_ca (goodIn_ca (goodIn_ca (goodIn_r _ [529, 334, 530, 531, 532, 14, 533, 339, 340, 341, 342, 343, 344, 91, 18, 345, 346, 347, 348, 96, 349, 350, 351, 352, 353, 354, 22, 355, 24, 356, 357, 358, 359, 360, 361, 362, 363, 364, 365, 366, 367, 368, 369, 370, 212, 213, 371, 372, 373, 374, 375, 20, 21, 23, 376, 209, 210, 211, 214, 215, 216, 217, 29, 30, 31, 32, 377, 378, 379, 380, 381, 382, 383, 384, 385, 386, 387, 388, 389, 390, 391, 392, 393, 394, 395, 396, 397, 398, 399, 400, 401, 402, 403, 127, 128, 129, 404, 405, 406, 407, 408, 58, 59, 60, 409, 410, 411, 412, 413, 414, 415, 416, 417, 418, 158, 159, 160, 419, 420, 421, 422, 423, 424, 425, 426, 427, 428, 429, 430, 431, 432, 433, 434, 435, 436, 437, 438, 439, 440, 441, 66, 67, 68, 442, 443, 444, 445, 446, 447, 328, 329, 448, 449, 450, 451, 452, 453, 454, 455, 456, 457, 458, 459, 460, 461, 462, 463, 464, 465, 466, 467, 468, 54, 55, 56, 57, 469, 185, 140, 186, 175, 187, 188, 189, 190, 191, 192, 155, 156, 157, 142, 161, 139, 141, 470, 311, 312, 313, 314, 315, 316, 317, 318, 319, 471, 472, 473, 474, 475, 476, 477, 478, 479, 480, 481, 482, 483, 484, 485, 486, 487, 488, 489, 490, 491, 492, 493, 494, 495, 496, 497, 498, 98, 499, 179, 180, 752, 753, 754, 755, 756, 757, 758, 759, 760, 761, 762, 764, 765, 766, 763, 775, 776] rfl (by decide +kernel)) (goodIn_sub (fun _ h => List.mem_cons_of_mem _ (List.mem_append_left _ (List.mem_append_right _ h))) (by decide +kernel))) (goodIn_sub (fun _ h => List.mem_cons_of_mem _ (List.mem_append_left _ (List.mem_append_left _ (List.mem_append_left _ (List.mem_append_left _ (List.mem_append_left _ (List.mem_append_right _ h))))))) (by decide +kernel))) (goodIn_sub (fun _ h => List.mem_cons_of_mem _ (List.mem_append_left _ (List.mem_append_left _ (List.mem_append_left _ (List.mem_append_left _ (List.mem_append_left _ (List.mem_append_left _ (List.mem_append_left _ (List.mem_append_right _ h))))))))) (by decide +kernel))
set_option maxRecDepth 20000 in
theorem gL_refused_L_exchange : GoodIn wsL_refused (va_wsS RL 232 yL_exchange wsL_exchange) := goodIn_app (goodIn_r _ [527, 528, 3] rfl (by decide +kernel)) ggL_refused_L_exchange
set_option maxRecDepth 20000 in
theorem ggL_refused_L_wager : GoodIn wsL_refused wsL_wager := goodIn_ca (goodIn_ca (goodIn_ca (goodIn_r _ [536, 334, 537, 538, 539, 14, 540, 339, 340, 341, 342, 343, 344, 91, 18, 345, 346, 347, 348, 96, 349, 350, 351, 352, 353, 354, 22, 355, 24, 356, 357, 358, 359, 360, 361, 362, 363, 364, 365, 366, 367, 368, 369, 370, 212, 213, 371, 372, 373, 374, 375, 20, 21, 23, 376, 209, 210, 211, 214, 215, 216, 217, 29, 30, 31, 32, 377, 378, 379, 380, 381, 382, 383, 384, 385, 386, 387, 388, 389, 390, 391, 392, 393, 394, 395, 396, 397, 398, 399, 400, 401, 402, 403, 127, 128, 129, 404, 405, 406, 407, 408, 58, 59, 60, 409, 410, 411, 412, 413, 414, 415, 416, 417, 418, 158, 159, 160, 419, 420, 421, 422, 423, 424, 425, 426, 427, 428, 429, 430, 431, 432, 433, 434, 435, 436, 437, 438, 439, 440, 441, 66, 67, 68, 442, 443, 444, 445, 446, 447, 328, 329, 448, 449, 450, 451, 452, 453, 454, 455, 456, 457, 458, 459, 460, 461, 462, 463, 464, 465, 466, 467, 468, 54, 55, 56, 57, 469, 185, 140, 186, 175, 187, 188, 189, 190, 191, 192, 155, 156, 157, 142, 161, 139, 141, 470, 311, 312, 313, 314, 315, 316, 317, 318, 319, 471, 472, 473, 474, 475, 476, 477, 478, 479, 480, 481, 482, 483, 484, 485, 486, 487, 488, 489, 490, 491, 492, 493, 494, 495, 496, 497, 498, 98, 499, 179, 180, 752, 753, 754, 755, 756, 757, 758, 759, 760, 761, 762, 764, 765, 766, 763, 775, 776] rfl (by decide +kernel)) (goodIn_sub (fun _ h => List.mem_cons_of_mem _ (List.mem_append_left _ (List.mem_append_right _ h))) (by decide +kernel))) (goodIn_sub (fun _ h => List.mem_cons_of_mem _ (List.mem_append_left _ (List.mem_append_left _ (List.mem_append_left _ (List.mem_append_left _ (List.mem_append_left _ (List.mem_append_right _ h))))))) (by decide +kernel))) (goodIn_sub (fun _ h => List.mem_cons_of_mem _ (List.mem_append_left _ (List.mem_append_left _ (List.mem_append_left _ (List.mem_append_left _ (List.mem_append_left _ (List.mem_append_left _ (List.mem_append_left _ (List.mem_append_right _ h))))))))) (by decide +kernel))
set_option maxRecDepth 20000 in
theorem gL_refused_L_wager : GoodIn wsL_refused (va_wsS RL 165 yL_wager wsL_wager) := goodIn_app (goodIn_r _ [534, 535, 3] rfl (by decide +kernel)) ggL_refused_L_wager
set_option maxRecDepth 20000 in
theorem ggL_refused_L_tap : GoodIn wsL_refused wsL_tap := goodIn_ca (goodIn_ca (goodIn_ca (goodIn_r _ [543, 334, 544, 545, 546, 14, 547, 339, 340, 341, 342, 343, 344, 91, 18, 345, 346, 347, 348, 96, 349, 350, 351, 352, 353, 354, 22, 355, 24, 356, 357, 358, 359, 360, 361, 362, 363, 364, 365, 366, 367, 368, 369, 370, 212, 213, 371, 372, 373, 374, 375, 20, 21, 23, 376, 209, 210, 211, 214, 215, 216, 217, 29, 30, 31, 32, 377, 378, 379, 380, 381, 382, 383, 384, 385, 386, 387, 388, 389, 390, 391, 392, 393, 394, 395, 396, 397, 398, 399, 400, 401, 402, 403, 127, 128, 129, 404, 405, 406, 407, 408, 58, 59, 60, 409, 410, 411, 412, 413, 414, 415, 416, 417, 418, 158, 159, 160, 419, 420, 421, 422, 423, 424, 425, 426, 427, 428, 429, 430, 431, 432, 433, 434, 435, 436, 437, 438, 439, 440, 441, 66, 67, 68, 442, 443, 444, 445, 446, 447, 328, 329, 448, 449, 450, 451, 452, 453, 454, 455, 456, 457, 458, 459, 460, 461, 462, 463, 464, 465, 466, 467, 468, 54, 55, 56, 57, 469, 185, 140, 186, 175, 187, 188, 189, 190, 191, 192, 155, 156, 157, 142, 161, 139, 141, 470, 311, 312, 313, 314, 315, 316, 317, 318, 319, 471, 472, 473, 474, 475, 476, 477, 478, 479, 480, 481, 482, 483, 484, 485, 486, 487, 488, 489, 490, 491, 492, 493, 494, 495, 496, 497, 498, 98, 499, 179, 180, 752, 753, 754, 755, 756, 757, 758, 759, 760, 761, 762, 764, 765, 766, 763, 775, 776] rfl (by decide +kernel)) (goodIn_sub (fun _ h => List.mem_cons_of_mem _ (List.mem_append_left _ (List.mem_append_right _ h))) (by decide +kernel))) (goodIn_sub (fun _ h => List.mem_cons_of_mem _ (List.mem_append_left _ (List.mem_append_left _ (List.mem_append_left _ (List.mem_append_left _ (List.mem_append_left _ (List.mem_append_right _ h))))))) (by decide +kernel))) (goodIn_sub (fun _ h => List.mem_cons_of_mem _ (List.mem_append_left _ (List.mem_append_left _ (List.mem_append_left _ (List.mem_append_left _ (List.mem_append_left _ (List.mem_append_left _ (List.mem_append_left _ (List.mem_append_right _ h))))))))) (by decide +kernel))
set_option maxRecDepth 20000 in
theorem gL_refused_L_tap : GoodIn wsL_refused (va_wsS RL 172 yL_tap wsL_tap) := goodIn_app (goodIn_r _ [541, 542, 3] rfl (by decide +kernel)) ggL_refused_L_tap
set_option maxRecDepth 20000 in
theorem ggL_refused_L_day : GoodIn wsL_refused wsL_day := goodIn_ca (goodIn_ca (goodIn_ca (goodIn_r _ [550, 334, 551, 552, 553, 14, 554, 339, 340, 341, 342, 343, 344, 91, 18, 345, 346, 347, 348, 96, 349, 350, 351, 352, 353, 354, 22, 355, 24, 356, 357, 358, 359, 360, 361, 362, 363, 364, 365, 366, 367, 368, 369, 370, 212, 213, 371, 372, 373, 374, 375, 20, 21, 23, 376, 209, 210, 211, 214, 215, 216, 217, 29, 30, 31, 32, 377, 378, 379, 380, 381, 382, 383, 384, 385, 386, 387, 388, 389, 390, 391, 392, 393, 394, 395, 396, 397, 398, 399, 400, 401, 402, 403, 127, 128, 129, 404, 405, 406, 407, 408, 58, 59, 60, 409, 410, 411, 412, 413, 414, 415, 416, 417, 418, 158, 159, 160, 419, 420, 421, 422, 423, 424, 425, 426, 427, 428, 429, 430, 431, 432, 433, 434, 435, 436, 437, 438, 439, 440, 441, 66, 67, 68, 442, 443, 444, 445, 446, 447, 328, 329, 448, 449, 450, 451, 452, 453, 454, 455, 456, 457, 458, 459, 460, 461, 462, 463, 464, 465, 466, 467, 468, 54, 55, 56, 57, 469, 185, 140, 186, 175, 187, 188, 189, 190, 191, 192, 155, 156, 157, 142, 161, 139, 141, 470, 311, 312, 313, 314, 315, 316, 317, 318, 319, 471, 472, 473, 474, 475, 476, 477, 478, 479, 480, 481, 482, 483, 484, 485, 486, 487, 488, 489, 490, 491, 492, 493, 494, 495, 496, 497, 498, 98, 499, 179, 180, 752, 753, 754, 755, 756, 757, 758, 759, 760, 761, 762, 764, 765, 766, 763, 775, 776] rfl (by decide +kernel)) (goodIn_sub (fun _ h => List.mem_cons_of_mem _ (List.mem_append_left _ (List.mem_append_right _ h))) (by decide +kernel))) (goodIn_sub (fun _ h => List.mem_cons_of_mem _ (List.mem_append_left _ (List.mem_append_left _ (List.mem_append_left _ (List.mem_append_left _ (List.mem_append_left _ (List.mem_append_right _ h))))))) (by decide +kernel))) (goodIn_sub (fun _ h => List.mem_cons_of_mem _ (List.mem_append_left _ (List.mem_append_left _ (List.mem_append_left _ (List.mem_append_left _ (List.mem_append_left _ (List.mem_append_left _ (List.mem_append_left _ (List.mem_append_right _ h))))))))) (by decide +kernel))
set_option maxRecDepth 20000 in
theorem gL_refused_L_day : GoodIn wsL_refused (va_wsS RL 161 yL_day wsL_day) := goodIn_app (goodIn_r _ [548, 549, 3] rfl (by decide +kernel)) ggL_refused_L_day
set_option maxRecDepth 20000 in
theorem ggL_refused_L_bottle : GoodIn wsL_refused wsL_bottle := goodIn_ca (goodIn_ca (goodIn_ca (goodIn_r _ [557, 334, 558, 559, 560, 14, 561, 339, 340, 341, 342, 343, 344, 91, 18, 345, 346, 347, 348, 96, 349, 350, 351, 352, 353, 354, 22, 355, 24, 356, 357, 358, 359, 360, 361, 362, 363, 364, 365, 366, 367, 368, 369, 370, 212, 213, 371, 372, 373, 374, 375, 20, 21, 23, 376, 209, 210, 211, 214, 215, 216, 217, 29, 30, 31, 32, 377, 378, 379, 380, 381, 382, 383, 384, 385, 386, 387, 388, 389, 390, 391, 392, 393, 394, 395, 396, 397, 398, 399, 400, 401, 402, 403, 127, 128, 129, 404, 405, 406, 407, 408, 58, 59, 60, 409, 410, 411, 412, 413, 414, 415, 416, 417, 418, 158, 159, 160, 419, 420, 421, 422, 423, 424, 425, 426, 427, 428, 429, 430, 431, 432, 433, 434, 435, 436, 437, 438, 439, 440, 441, 66, 67, 68, 442, 443, 444, 445, 446, 447, 328, 329, 448, 449, 450, 451, 452, 453, 454, 455, 456, 457, 458, 459, 460, 461, 462, 463, 464, 465, 466, 467, 468, 54, 55, 56, 57, 469, 185, 140, 186, 175, 187, 188, 189, 190, 191, 192, 155, 156, 157, 142, 161, 139, 141, 470, 311, 312, 313, 314, 315, 316, 317, 318, 319, 471, 472, 473, 474, 475, 476, 477, 478, 479, 480, 481, 482, 483, 484, 485, 486, 487, 488, 489, 490, 491, 492, 493, 494, 495, 496, 497, 498, 98, 499, 179, 180, 752, 753, 754, 755, 756, 757, 758, 759, 760, 761, 762, 764, 765, 766, 763, 775, 776] rfl (by decide +kernel)) (goodIn_sub (fun _ h => List.mem_cons_of_mem _ (List.mem_append_left _ (List.mem_append_right _ h))) (by decide +kernel))) (goodIn_sub (fun _ h => List.mem_cons_of_mem _ (List.mem_append_left _ (List.mem_append_left _ (List.mem_append_left _ (List.mem_append_left _ (List.mem_append_left _ (List.mem_append_right _ h))))))) (by decide +kernel))) (goodIn_sub (fun _ h => List.mem_cons_of_mem _ (List.mem_append_left _ (List.mem_append_left _ (List.mem_append_left _ (List.mem_append_left _ (List.mem_append_left _ (List.mem_append_left _ (List.mem_append_left _ (List.mem_append_right _ h))))))))) (by decide +kernel))
set_option maxRecDepth 20000 in
theorem gL_refused_L_bottle : GoodIn wsL_refused (va_wsS RL 234 yL_bottle wsL_bottle) := goodIn_app (goodIn_r _ [555, 556, 3] rfl (by decide +kernel)) ggL_refused_L_bottle
set_option maxRecDepth 20000 in
theorem ggL_refused_L_letOut : GoodIn wsL_refused wsL_letOut := goodIn_ca (goodIn_ca (goodIn_ca (goodIn_r _ [564, 334, 565, 566, 567, 14, 568, 339, 340, 341, 342, 343, 344, 91, 18, 345, 346, 347, 348, 96, 349, 350, 351, 352, 353, 354, 22, 355, 24, 356, 357, 358, 359, 360, 361, 362, 363, 364, 365, 366, 367, 368, 369, 370, 212, 213, 371, 372, 373, 374, 375, 20, 21, 23, 376, 209, 210, 211, 214, 215, 216, 217, 29, 30, 31, 32, 377, 378, 379, 380, 381, 382, 383, 384, 385, 386, 387, 388, 389, 390, 391, 392, 393, 394, 395, 396, 397, 398, 399, 400, 401, 402, 403, 127, 128, 129, 404, 405, 406, 407, 408, 58, 59, 60, 409, 410, 411, 412, 413, 414, 415, 416, 417, 418, 158, 159, 160, 419, 420, 421, 422, 423, 424, 425, 426, 427, 428, 429, 430, 431, 432, 433, 434, 435, 436, 437, 438, 439, 440, 441, 66, 67, 68, 442, 443, 444, 445, 446, 447, 328, 329, 448, 449, 450, 451, 452, 453, 454, 455, 456, 457, 458, 459, 460, 461, 462, 463, 464, 465, 466, 467, 468, 54, 55, 56, 57, 469, 185, 140, 186, 175, 187, 188, 189, 190, 191, 192, 155, 156, 157, 142, 161, 139, 141, 470, 311, 312, 313, 314, 315, 316, 317, 318, 319, 471, 472, 473, 474, 475, 476, 477, 478, 479, 480, 481, 482, 483, 484, 485, 486, 487, 488, 489, 490, 491, 492, 493, 494, 495, 496, 497, 498, 98, 499, 179, 180, 752, 753, 754, 755, 756, 757, 758, 759, 760, 761, 762, 764, 765, 766, 763, 775, 776] rfl (by decide +kernel)) (goodIn_sub (fun _ h => List.mem_cons_of_mem _ (List.mem_append_left _ (List.mem_append_right _ h))) (by decide +kernel))) (goodIn_sub (fun _ h => List.mem_cons_of_mem _ (List.mem_append_left _ (List.mem_append_left _ (List.mem_append_left _ (List.mem_append_left _ (List.mem_append_left _ (List.mem_append_right _ h))))))) (by decide +kernel))) (goodIn_sub (fun _ h => List.mem_cons_of_mem _ (List.mem_append_left _ (List.mem_append_left _ (List.mem_append_left _ (List.mem_append_left _ (List.mem_append_left _ (List.mem_append_left _ (List.mem_append_left _ (List.mem_append_right _ h))))))))) (by decide +kernel))
set_option maxRecDepth 20000 in
theorem gL_refused_L_letOut : GoodIn wsL_refused (va_wsS RL 236 yL_letOut wsL_letOut) := goodIn_app (goodIn_r _ [562, 563, 3] rfl (by decide +kernel)) ggL_refused_L_letOut
set_option maxRecDepth 20000 in
theorem ggL_refused_L_read : GoodIn wsL_refused wsL_read := goodIn_ca (goodIn_ca (goodIn_ca (goodIn_r _ [571, 334, 572, 573, 574, 14, 575, 339, 340, 341, 342, 343, 344, 91, 18, 345, 346, 347, 348, 96, 349, 350, 351, 352, 353, 354, 22, 355, 24, 356, 357, 358, 359, 360, 361, 362, 363, 364, 365, 366, 367, 368, 369, 370, 212, 213, 371, 372, 373, 374, 375, 20, 21, 23, 376, 209, 210, 211, 214, 215, 216, 217, 29, 30, 31, 32, 377, 378, 379, 380, 381, 382, 383, 384, 385, 386, 387, 388, 389, 390, 391, 392, 393, 394, 395, 396, 397, 398, 399, 400, 401, 402, 403, 127, 128, 129, 404, 405, 406, 407, 408, 58, 59, 60, 409, 410, 411, 412, 413, 414, 415, 416, 417, 418, 158, 159, 160, 419, 420, 421, 422, 423, 424, 425, 426, 427, 428, 429, 430, 431, 432, 433, 434, 435, 436, 437, 438, 439, 440, 441, 66, 67, 68, 442, 443, 444, 445, 446, 447, 328, 329, 448, 449, 450, 451, 452, 453, 454, 455, 456, 457, 458, 459, 460, 461, 462, 463, 464, 465, 466, 467, 468, 54, 55, 56, 57, 469, 185, 140, 186, 175, 187, 188, 189, 190, 191, 192, 155, 156, 157, 142, 161, 139, 141, 470, 311, 312, 313, 314, 315, 316, 317, 318, 319, 471, 472, 473, 474, 475, 476, 477, 478, 479, 480, 481, 482, 483, 484, 485, 486, 487, 488, 489, 490, 491, 492, 493, 494, 495, 496, 497, 498, 98, 499, 179, 180, 752, 753, 754, 755, 756, 757, 758, 759, 760, 761, 762, 764, 765, 766, 763, 775, 776] rfl (by decide +kernel)) (goodIn_sub (fun _ h => List.mem_cons_of_mem _ (List.mem_append_left _ (List.mem_append_right _ h))) (by decide +kernel))) (goodIn_sub (fun _ h => List.mem_cons_of_mem _ (List.mem_append_left _ (List.mem_append_left _ (List.mem_append_left _ (List.mem_append_left _ (List.mem_append_left _ (List.mem_append_right _ h))))))) (by decide +kernel))) (goodIn_sub (fun _ h => List.mem_cons_of_mem _ (List.mem_append_left _ (List.mem_append_left _ (List.mem_append_left _ (List.mem_append_left _ (List.mem_append_left _ (List.mem_append_left _ (List.mem_append_left _ (List.mem_append_right _ h))))))))) (by decide +kernel))
set_option maxRecDepth 20000 in
theorem gL_refused_L_read : GoodIn wsL_refused (va_wsS RL 238 yL_read wsL_read) := goodIn_app (goodIn_r _ [569, 570, 3] rfl (by decide +kernel)) ggL_refused_L_read
set_option maxRecDepth 20000 in
theorem ggL_refused_L_needle : GoodIn wsL_refused wsL_needle := goodIn_ca (goodIn_ca (goodIn_r _ [133, 115, 134, 135, 136, 14, 137, 18, 120, 121, 122, 123, 124, 125, 126, 127, 128, 22, 129, 24, 19, 20, 21, 23, 138, 139, 140, 141, 142, 30, 31, 32, 752, 753, 754, 755, 756, 757, 758, 759, 760, 761, 762, 763] rfl (by decide +kernel)) (goodIn_sub (fun _ h => List.mem_cons_of_mem _ (List.mem_append_left _ (List.mem_append_left _ (List.mem_append_left _ (List.mem_append_right _ h))))) (by decide +kernel))) (goodIn_sub (fun _ h => List.mem_cons_of_mem _ (List.mem_append_left _ (List.mem_append_left _ (List.mem_append_left _ (List.mem_append_left _ (List.mem_append_left _ (List.mem_append_right _ h))))))) (by decide +kernel))
set_option maxRecDepth 20000 in
theorem gL_refused_L_needle : GoodIn wsL_refused (va_wsS RL 202 yL_needle wsL_needle) := goodIn_app (goodIn_r _ [131, 132, 3] rfl (by decide +kernel)) ggL_refused_L_needle
set_option maxRecDepth 20000 in
theorem ggL_refused_L_needleAgain : GoodIn wsL_refused wsL_needleAgain := goodIn_ca (goodIn_ca (goodIn_r _ [578, 115, 579, 580, 581, 14, 582, 18, 120, 121, 122, 123, 124, 125, 126, 127, 128, 22, 129, 24, 583, 584, 140, 585, 175, 20, 21, 23, 142, 30, 31, 32, 752, 753, 754, 755, 756, 757, 758, 759, 760, 761, 762, 763] rfl (by decide +kernel)) (goodIn_sub (fun _ h => List.mem_cons_of_mem _ (List.mem_append_left _ (List.mem_append_left _ (List.mem_append_left _ (List.mem_append_right _ h))))) (by decide +kernel))) (goodIn_sub (fun _ h => List.mem_cons_of_mem _ (List.mem_append_left _ (List.mem_append_left _ (List.mem_append_left _ (List.mem_append_left _ (List.mem_append_left _ (List.mem_append_right _ h))))))) (by decide +kernel))
set_option maxRecDepth 20000 in
theorem gL_refused_L_needleAgain : GoodIn wsL_refused (va_wsS RL 269 yL_needleAgain wsL_needleAgain) := goodIn_app (goodIn_r _ [576, 577, 3] rfl (by decide +kernel)) ggL_refused_L_needleAgain
set_option maxRecDepth 20000 in
theorem ggL_refused_L_off : GoodIn wsL_refused wsL_off := goodIn_ca (goodIn_ca (goodIn_ca (goodIn_r _ [145, 115, 146, 147, 148, 149, 14, 150, 151, 152, 18, 120, 121, 122, 123, 124, 125, 126, 127, 128, 22, 129, 24, 153, 58, 59, 60, 29, 30, 31, 32, 19, 20, 21, 23, 154, 155, 140, 156, 157, 158, 159, 160, 142, 161, 139, 141, 752, 753, 754, 755, 756, 757, 758, 759, 760, 761, 762, 763] rfl (by decide +kernel)) (goodIn_sub (fun _ h => List.mem_cons_of_mem _ (List.mem_append_left _ (List.mem_append_left _ (List.mem_append_right _ h)))) (by decide +kernel))) (goodIn_sub (fun _ h => List.mem_cons_of_mem _ (List.mem_append_left _ (List.mem_append_left _ (List.mem_append_left _ (List.mem_append_right _ h))))) (by decide +kernel))) (goodIn_sub (fun _ h => List.mem_cons_of_mem _ (List.mem_append_left _ (List.mem_append_left _ (List.mem_append_left _ (List.mem_append_left _ (List.mem_append_left _ (List.mem_append_right _ h))))))) (by decide +kernel))
set_option maxRecDepth 20000 in
theorem gL_refused_L_off : GoodIn wsL_refused (va_wsS RL 204 yL_off wsL_off) := goodIn_app (goodIn_r _ [143, 144, 3] rfl (by decide +kernel)) ggL_refused_L_off
set_option maxRecDepth 20000 in
theorem ggL_refused_L_owner : GoodIn wsL_refused wsL_owner := goodIn_ca (goodIn_ca (goodIn_ca (goodIn_r _ [588, 84, 146, 589, 590, 591, 14, 592, 89, 90, 151, 152, 18, 593, 212, 213, 594, 215, 216, 22, 217, 24, 29, 30, 31, 32, 752, 753, 754, 755, 756, 757, 758, 759, 760, 761, 762, 763] rfl (by decide +kernel)) (goodIn_sub (fun _ h => List.mem_cons_of_mem _ (List.mem_append_left _ (List.mem_append_left _ (List.mem_append_left _ (List.mem_append_left _ (List.mem_append_right _ h)))))) (by decide +kernel))) (goodIn_sub (fun _ h => List.mem_cons_of_mem _ (List.mem_append_left _ (List.mem_append_left _ (List.mem_append_right _ h)))) (by decide +kernel))) (goodIn_sub (fun _ h => List.mem_cons_of_mem _ (List.mem_append_left _ (List.mem_append_left _ (List.mem_append_left _ (List.mem_append_left _ (List.mem_append_left _ (List.mem_append_right _ h))))))) (by decide +kernel))
set_option maxRecDepth 20000 in
theorem gL_refused_L_owner : GoodIn wsL_refused (va_wsS RL 157 yL_owner wsL_owner) := goodIn_app (goodIn_r _ [586, 587, 3] rfl (by decide +kernel)) ggL_refused_L_owner
set_option maxRecDepth 20000 in
theorem ggL_refused_L_wouldWin : GoodIn wsL_refused wsL_wouldWin := goodIn_ca (goodIn_ca (goodIn_r _ [322, 84, 323, 324, 325, 14, 326, 89, 90, 18, 327, 328, 329, 330, 173, 140, 174, 175, 20, 21, 22, 23, 24, 176, 177, 178, 179, 159, 180, 181, 182, 183, 184, 185, 186, 187, 188, 189, 190, 58, 59, 60, 29, 30, 31, 32, 191, 66, 67, 68, 192, 155, 156, 157, 158, 160, 142, 161, 139, 141, 752, 753, 754, 755, 756, 757, 758, 759, 760, 761, 762, 763] rfl (by decide +kernel)) (goodIn_sub (fun _ h => List.mem_cons_of_mem _ (List.mem_append_left _ (List.mem_append_left _ (List.mem_append_left _ (List.mem_append_left _ (List.mem_append_right _ h)))))) (by decide +kernel))) (goodIn_sub (fun _ h => List.mem_cons_of_mem _ (List.mem_append_left _ (List.mem_append_left _ (List.mem_append_left _ (List.mem_append_left _ (List.mem_append_left _ (List.mem_append_right _ h))))))) (by decide +kernel))
set_option maxRecDepth 20000 in
theorem gL_refused_L_wouldWin : GoodIn wsL_refused (va_wsS RL 226 yL_wouldWin wsL_wouldWin) := goodIn_app (goodIn_r _ [320, 321, 3] rfl (by decide +kernel)) ggL_refused_L_wouldWin
set_option maxRecDepth 20000 in
theorem ggL_refused_L_changeFor : GoodIn wsL_refused wsL_changeFor := goodIn_ca (goodIn_ca (goodIn_ca (goodIn_r _ [164, 115, 146, 165, 166, 167, 14, 168, 151, 152, 18, 120, 121, 122, 123, 124, 125, 126, 127, 128, 22, 129, 24, 169, 170, 140, 171, 172, 173, 174, 175, 20, 21, 23, 176, 177, 178, 179, 159, 180, 181, 182, 183, 184, 185, 186, 187, 188, 189, 190, 58, 59, 60, 29, 30, 31, 32, 191, 66, 67, 68, 192, 155, 156, 157, 158, 160, 142, 161, 139, 141, 752, 753, 754, 755, 756, 757, 758, 759, 760, 761, 762, 763] rfl (by decide +kernel)) (goodIn_sub (fun _ h => List.mem_cons_of_mem _ (List.mem_append_left _ (List.mem_append_left _ (List.mem_append_right _ h)))) (by decide +kernel))) (goodIn_sub (fun _ h => List.mem_cons_of_mem _ (List.mem_append_left _ (List.mem_append_left _ (List.mem_append_left _ (List.mem_append_right _ h))))) (by decide +kernel))) (goodIn_sub (fun _ h => List.mem_cons_of_mem _ (List.mem_append_left _ (List.mem_append_left _ (List.mem_append_left _ (List.mem_append_left _ (List.mem_append_left _ (List.mem_append_right _ h))))))) (by decide +kernel))
set_option maxRecDepth 20000 in
theorem gL_refused_L_changeFor : GoodIn wsL_refused (va_wsS RL 206 yL_changeFor wsL_changeFor) := goodIn_app (goodIn_r _ [162, 163, 3] rfl (by decide +kernel)) ggL_refused_L_changeFor
set_option maxRecDepth 20000 in
theorem ggL_refused_L_bestGuess : GoodIn wsL_refused wsL_bestGuess := goodIn_ca (goodIn_ca (goodIn_r _ [195, 115, 196, 197, 198, 14, 199, 18, 120, 121, 122, 123, 124, 125, 126, 127, 128, 22, 129, 24, 19, 20, 21, 23, 138, 139, 140, 141, 142, 30, 31, 32, 200, 176, 177, 178, 179, 159, 180, 181, 182, 183, 752, 753, 754, 755, 756, 757, 758, 759, 760, 761, 762, 763] rfl (by decide +kernel)) (goodIn_sub (fun _ h => List.mem_cons_of_mem _ (List.mem_append_left _ (List.mem_append_left _ (List.mem_append_left _ (List.mem_append_right _ h))))) (by decide +kernel))) (goodIn_sub (fun _ h => List.mem_cons_of_mem _ (List.mem_append_left _ (List.mem_append_left _ (List.mem_append_left _ (List.mem_append_left _ (List.mem_append_left _ (List.mem_append_right _ h))))))) (by decide +kernel))
set_option maxRecDepth 20000 in
theorem gL_refused_L_bestGuess : GoodIn wsL_refused (va_wsS RL 163 yL_bestGuess wsL_bestGuess) := goodIn_app (goodIn_r _ [193, 194, 3] rfl (by decide +kernel)) ggL_refused_L_bestGuess
set_option maxRecDepth 20000 in
theorem ggL_refused_L_nearestFree : GoodIn wsL_refused wsL_nearestFree := goodIn_ca (goodIn_ca (goodIn_ca (goodIn_r _ [203, 115, 146, 204, 205, 206, 14, 207, 151, 152, 18, 120, 121, 122, 123, 124, 125, 126, 127, 128, 22, 129, 24, 130, 30, 31, 32, 208, 209, 210, 211, 212, 213, 214, 215, 216, 217, 29, 752, 753, 754, 755, 756, 757, 758, 759, 760, 761, 762, 763] rfl (by decide +kernel)) (goodIn_sub (fun _ h => List.mem_cons_of_mem _ (List.mem_append_left _ (List.mem_append_left _ (List.mem_append_right _ h)))) (by decide +kernel))) (goodIn_sub (fun _ h => List.mem_cons_of_mem _ (List.mem_append_left _ (List.mem_append_left _ (List.mem_append_left _ (List.mem_append_right _ h))))) (by decide +kernel))) (goodIn_sub (fun _ h => List.mem_cons_of_mem _ (List.mem_append_left _ (List.mem_append_left _ (List.mem_append_left _ (List.mem_append_left _ (List.mem_append_left _ (List.mem_append_right _ h))))))) (by decide +kernel))
set_option maxRecDepth 20000 in
theorem gL_refused_L_nearestFree : GoodIn wsL_refused (va_wsS RL 208 yL_nearestFree wsL_nearestFree) := goodIn_app (goodIn_r _ [201, 202, 3] rfl (by decide +kernel)) ggL_refused_L_nearestFree
set_option maxRecDepth 20000 in
theorem ggL_refused_L_ranked : GoodIn wsL_refused wsL_ranked := goodIn_ca (goodIn_ca (goodIn_ca (goodIn_r _ [220, 84, 146, 221, 222, 223, 14, 224, 89, 90, 151, 152, 18, 225, 226, 227, 228, 229, 20, 21, 22, 23, 24, 230, 231, 232, 233, 234, 235, 236, 30, 31, 32, 237, 139, 140, 141, 142, 752, 753, 754, 755, 756, 757, 758, 759, 760, 761, 762, 763] rfl (by decide +kernel)) (goodIn_sub (fun _ h => List.mem_cons_of_mem _ (List.mem_append_left _ (List.mem_append_left _ (List.mem_append_left _ (List.mem_append_left _ (List.mem_append_right _ h)))))) (by decide +kernel))) (goodIn_sub (fun _ h => List.mem_cons_of_mem _ (List.mem_append_left _ (List.mem_append_left _ (List.mem_append_right _ h)))) (by decide +kernel))) (goodIn_sub (fun _ h => List.mem_cons_of_mem _ (List.mem_append_left _ (List.mem_append_left _ (List.mem_append_left _ (List.mem_append_left _ (List.mem_append_left _ (List.mem_append_right _ h))))))) (by decide +kernel))
set_option maxRecDepth 20000 in
theorem gL_refused_L_ranked : GoodIn wsL_refused (va_wsS RL 210 yL_ranked wsL_ranked) := goodIn_app (goodIn_r _ [218, 219, 3] rfl (by decide +kernel)) ggL_refused_L_ranked
set_option maxRecDepth 20000 in
theorem ggL_refused_L_line : GoodIn wsL_refused wsL_line := goodIn_ca (goodIn_ca (goodIn_ca (goodIn_r _ [240, 115, 241, 242, 243, 14, 244, 245, 18, 120, 121, 122, 123, 124, 125, 126, 127, 128, 22, 129, 24, 246, 247, 248, 249, 250, 251, 252, 30, 31, 32, 253, 254, 255, 256, 257, 258, 259, 260, 261, 262, 263, 264, 265, 58, 59, 60, 29, 266, 66, 67, 68, 267, 268, 269, 270, 752, 753, 754, 755, 756, 757, 758, 759, 760, 761, 762, 763, 773, 774] rfl (by decide +kernel)) (goodIn_sub (fun _ h => List.mem_cons_of_mem _ (List.mem_append_left _ (List.mem_append_left _ (List.mem_append_left _ (List.mem_append_right _ h))))) (by decide +kernel))) (goodIn_sub (fun _ h => List.mem_cons_of_mem _ (List.mem_append_left _ (List.mem_append_left _ (List.mem_append_left _ (List.mem_append_left _ (List.mem_append_left _ (List.mem_append_right _ h))))))) (by decide +kernel))) (goodIn_sub (fun _ h => List.mem_cons_of_mem _ (List.mem_append_left _ (List.mem_append_left _ (List.mem_append_left _ (List.mem_append_left _ (List.mem_append_left _ (List.mem_append_left _ (List.mem_append_left _ (List.mem_append_right _ h))))))))) (by decide +kernel))
set_option maxRecDepth 20000 in
theorem gL_refused_L_line : GoodIn wsL_refused (va_wsS RL 212 yL_line wsL_line) := goodIn_app (goodIn_r _ [238, 239, 3] rfl (by decide +kernel)) ggL_refused_L_line
set_option maxRecDepth 20000 in
theorem ggL_refused_L_character : GoodIn wsL_refused wsL_character := goodIn_ca (goodIn_ca (goodIn_r _ [273, 115, 274, 275, 276, 14, 277, 124, 125, 245, 267, 268, 269, 249, 270, 251, 278, 279, 280, 281, 264, 752, 753, 754, 755, 756, 757, 758, 759, 760, 761, 762, 773, 774] rfl (by decide +kernel)) (goodIn_sub (fun _ h => List.mem_cons_of_mem _ (List.mem_append_left _ (List.mem_append_left _ (List.mem_append_left _ (List.mem_append_right _ h))))) (by decide +kernel))) (goodIn_sub (fun _ h => List.mem_cons_of_mem _ (List.mem_append_left _ (List.mem_append_left _ (List.mem_append_left _ (List.mem_append_left _ (List.mem_append_left _ (List.mem_append_right _ h))))))) (by decide +kernel))
set_option maxRecDepth 20000 in
theorem gL_refused_L_character : GoodIn wsL_refused (va_wsS RL 148 yL_character wsL_character) := goodIn_app (goodIn_r _ [271, 272, 3] rfl (by decide +kernel)) ggL_refused_L_character
set_option maxRecDepth 20000 in
theorem ggL_refused_L_reason : GoodIn wsL_refused wsL_reason := goodIn_ca (goodIn_ca (goodIn_r _ [508, 84, 146, 509, 510, 511, 14, 512, 89, 90, 151, 152, 484, 485, 486, 752, 753, 754, 755, 756, 757, 758, 759, 760, 761, 762] rfl (by decide +kernel)) (goodIn_sub (fun _ h => List.mem_cons_of_mem _ (List.mem_append_left _ (List.mem_append_left _ (List.mem_append_left _ (List.mem_append_left _ (List.mem_append_right _ h)))))) (by decide +kernel))) (goodIn_sub (fun _ h => List.mem_cons_of_mem _ (List.mem_append_left _ (List.mem_append_left _ (List.mem_append_right _ h)))) (by decide +kernel))
set_option maxRecDepth 20000 in
theorem gL_refused_L_reason : GoodIn wsL_refused (va_wsS RL 145 yL_reason wsL_reason) := goodIn_app (goodIn_r _ [506, 507, 3] rfl (by decide +kernel)) ggL_refused_L_reason
set_option maxRecDepth 20000 in
theorem ggL_refused_L_runs : GoodIn wsL_refused wsL_runs := goodIn_ca (goodIn_ca (goodIn_ca (goodIn_ca (goodIn_ca (goodIn_r _ [597, 598, 599, 600, 601, 602, 603, 604, 605, 606, 607, 608, 609, 610, 611, 612, 613, 614, 615, 616, 617, 618, 619, 620, 621, 622, 623, 624, 625, 626, 627, 628, 629, 630, 631, 632, 633, 634, 635, 636, 637, 638, 639, 640, 641, 642, 643, 644, 645, 646, 647, 648, 3, 649, 650, 651, 652, 653, 14, 654, 655, 656, 92, 657, 658, 659, 102, 660, 104, 661, 662, 663, 664, 665, 99, 100, 101, 103, 666, 667, 668, 84, 334, 669, 670, 671, 672, 89, 90, 343, 344, 673, 91, 18, 345, 674, 675, 676, 677, 678, 679, 680, 681, 682, 683, 684, 685, 686, 687, 688, 689, 690, 691, 692, 693, 694, 695, 696, 697, 698, 699, 700, 701, 702, 703, 704, 705, 706, 707, 708, 709, 710, 711, 712, 713, 714, 715, 716, 717, 718, 719, 720, 721, 722, 723, 724, 725, 726, 346, 347, 348, 96, 349, 350, 351, 352, 353, 354, 22, 355, 24, 356, 357, 358, 359, 727, 728, 729, 730, 731, 732, 733, 734, 735, 736, 737, 738, 739, 360, 361, 362, 363, 364, 365, 366, 367, 368, 369, 370, 212, 213, 371, 372, 373, 374, 375, 20, 21, 23, 376, 209, 210, 211, 214, 215, 216, 217, 29, 30, 31, 32, 377, 378, 379, 380, 381, 382, 383, 384, 385, 386, 387, 388, 389, 390, 391, 392, 393, 394, 395, 396, 397, 398, 399, 400, 401, 402, 403, 127, 128, 129, 404, 405, 406, 407, 408, 58, 59, 60, 409, 410, 411, 412, 413, 414, 415, 416, 417, 418, 158, 159, 160, 419, 420, 421, 422, 423, 424, 425, 426, 427, 428, 429, 430, 431, 432, 433, 434, 435, 436, 437, 438, 439, 440, 441, 66, 67, 68, 442, 443, 444, 445, 446, 447, 328, 329, 448, 449, 450, 451, 452, 453, 454, 455, 456, 457, 458, 459, 460, 461, 462, 463, 464, 465, 466, 467, 468, 54, 55, 56, 57, 469, 185, 140, 186, 175, 187, 188, 189, 190, 191, 192, 155, 156, 157, 142, 161, 139, 141, 470, 311, 312, 313, 314, 315, 316, 317, 318, 319, 471, 472, 473, 474, 475, 476, 477, 478, 479, 740, 741, 742, 743, 744, 745, 746, 747, 480, 481, 482, 483, 484, 485, 486, 487, 488, 489, 490, 491, 492, 493, 494, 495, 496, 497, 498, 98, 499, 179, 180, 777, 778, 779, 780, 752, 753, 754, 755, 756, 757, 758, 759, 760, 761, 762, 767, 768, 769, 770, 771, 772, 764, 765, 766, 763, 775, 776] rfl (by decide +kernel)) (goodIn_sub (fun _ h => List.mem_cons_of_mem _ (List.mem_append_right _ h)) (by decide +kernel))) (goodIn_sub (fun _ h => List.mem_cons_of_mem _ (List.mem_append_left _ (List.mem_append_left _ (List.mem_append_left _ (List.mem_append_left _ (List.mem_append_left _ (List.mem_append_right _ h))))))) (by decide +kernel))) (goodIn_sub (fun _ h => List.mem_cons_of_mem _ (List.mem_append_left _ (List.mem_append_left _ (List.mem_append_left _ (List.mem_append_left _ (List.mem_append_right _ h)))))) (by decide +kernel))) (goodIn_sub (fun _ h => List.mem_cons_of_mem _ (List.mem_append_left _ (List.mem_append_right _ h))) (by decide +kernel))) (goodIn_sub (fun _ h => List.mem_cons_of_mem _ (List.mem_append_left _ (List.mem_append_left _ (List.mem_append_left _ (List.mem_append_left _ (List.mem_append_left _ (List.mem_append_left _ (List.mem_append_left _ (List.mem_append_right _ h))))))))) (by decide +kernel))
set_option maxRecDepth 20000 in
theorem gL_refused_L_runs : GoodIn wsL_refused (va_wsS RL 261 yL_runs wsL_runs) := goodIn_app (goodIn_r _ [595, 596, 3] rfl (by decide +kernel)) ggL_refused_L_runs
set_option maxRecDepth 20000 in
theorem ggL_refused_X7_faultPosition : GoodIn wsL_refused wsX7_faultPosition := goodIn_r _ [751, 673, 752, 753, 754, 755, 756, 757, 758, 759, 760, 761, 762] rfl (by decide +kernel)
set_option maxRecDepth 20000 in
theorem gL_refused_X7_faultPosition : GoodIn wsL_refused (wsV RL 273 RX7 yX7_faultPosition wsX7_faultPosition) := goodIn_app (goodIn_r _ [748, 749, 750, 14] rfl (by decide +kernel)) ggL_refused_X7_faultPosition
set_option maxRecDepth 20000 in
theorem ggL_refused_L_isAt : GoodIn wsL_refused wsL_isAt := goodIn_ca (goodIn_ca (goodIn_r _ [505, 506, 507, 3, 508, 84, 146, 509, 510, 511, 14, 512, 89, 90, 151, 152, 484, 485, 486, 752, 753, 754, 755, 756, 757, 758, 759, 760, 761, 762] rfl (by decide +kernel)) (goodIn_sub (fun _ h => List.mem_cons_of_mem _ (List.mem_append_left _ (List.mem_append_left _ (List.mem_append_left _ (List.mem_append_left _ (List.mem_append_right _ h)))))) (by decide +kernel))) (goodIn_sub (fun _ h => List.mem_cons_of_mem _ (List.mem_append_left _ (List.mem_append_left _ (List.mem_append_right _ h)))) (by decide +kernel))
set_option maxRecDepth 20000 in
theorem gL_refused_L_isAt : GoodIn wsL_refused (va_wsS RL 141 yL_isAt wsL_isAt) := goodIn_app (goodIn_r _ [503, 504, 3] rfl (by decide +kernel)) ggL_refused_L_isAt
theorem dL_refused_0 : decode cL_refused 0 = .ok (.aload_n 0, 1) := by decide +kernel
theorem dL_refused_1 : decode cL_refused 1 = .ok (.invokestatic 265, 3) := by decide +kernel
theorem dL_refused_4 : decode cL_refused 4 = .ok (.lstore_n 1, 1) := by decide +kernel
theorem dL_refused_5 : decode cL_refused 5 = .ok (.aload_n 0, 1) := by decide +kernel
theorem dL_refused_6 : decode cL_refused 6 = .ok (.iconst 0, 1) := by decide +kernel
theorem dL_refused_7 : decode cL_refused 7 = .ok (.invokestatic 194, 3) := by decide +kernel
theorem dL_refused_10 : decode cL_refused 10 = .ok (.istore_n 3, 1) := by decide +kernel
theorem dL_refused_11 : decode cL_refused 11 = .ok (.aload_n 0, 1) := by decide +kernel
theorem dL_refused_12 : decode cL_refused 12 = .ok (.iconst 0, 1) := by decide +kernel
theorem dL_refused_13 : decode cL_refused 13 = .ok (.invokestatic 196, 3) := by decide +kernel
theorem dL_refused_16 : decode cL_refused 16 = .ok (.istore 4, 2) := by decide +kernel
theorem dL_refused_18 : decode cL_refused 18 = .ok (.aload_n 0, 1) := by decide +kernel
theorem dL_refused_19 : decode cL_refused 19 = .ok (.bipush 10, 2) := by decide +kernel
theorem dL_refused_21 : decode cL_refused 21 = .ok (.invokestatic 159, 3) := by decide +kernel
theorem dL_refused_24 : decode cL_refused 24 = .ok (.sipush (-1001), 3) := by decide +kernel
theorem dL_refused_27 : decode cL_refused 27 = .ok (.if_icmp .ne 392, 3) := by decide +kernel
theorem dL_refused_30 : decode cL_refused 30 = .ok (.aload_n 0, 1) := by decide +kernel
theorem dL_refused_31 : decode cL_refused 31 = .ok (.iconst 1, 1) := by decide +kernel
theorem dL_refused_32 : decode cL_refused 32 = .ok (.iconst 0, 1) := by decide +kernel
theorem dL_refused_33 : decode cL_refused 33 = .ok (.invokestatic 168, 3) := by decide +kernel
theorem dL_refused_36 : decode cL_refused 36 = .ok (.ifCond .eq 383, 3) := by decide +kernel
theorem dL_refused_39 : decode cL_refused 39 = .ok (.aload_n 0, 1) := by decide +kernel
theorem dL_refused_40 : decode cL_refused 40 = .ok (.iconst (-1), 1) := by decide +kernel
theorem dL_refused_41 : decode cL_refused 41 = .ok (.invokestatic 159, 3) := by decide +kernel
theorem dL_refused_44 : decode cL_refused 44 = .ok (.sipush (-1001), 3) := by decide +kernel
theorem dL_refused_47 : decode cL_refused 47 = .ok (.if_icmp .ne 372, 3) := by decide +kernel
theorem dL_refused_50 : decode cL_refused 50 = .ok (.iload_n 3, 1) := by decide +kernel
theorem dL_refused_51 : decode cL_refused 51 = .ok (.bipush 6, 2) := by decide +kernel
theorem dL_refused_53 : decode cL_refused 53 = .ok (.if_icmp .lt 29, 3) := by decide +kernel
theorem dL_refused_56 : decode cL_refused 56 = .ok (.aload_n 0, 1) := by decide +kernel
theorem dL_refused_57 : decode cL_refused 57 = .ok (.aload_n 0, 1) := by decide +kernel
theorem dL_refused_58 : decode cL_refused 58 = .ok (.iconst 0, 1) := by decide +kernel
theorem dL_refused_59 : decode cL_refused 59 = .ok (.iconst 1, 1) := by decide +kernel
theorem dL_refused_60 : decode cL_refused 60 = .ok (.invokestatic 198, 3) := by decide +kernel
theorem dL_refused_63 : decode cL_refused 63 = .ok (.invokestatic 159, 3) := by decide +kernel
theorem dL_refused_66 : decode cL_refused 66 = .ok (.sipush (-1001), 3) := by decide +kernel
theorem dL_refused_69 : decode cL_refused 69 = .ok (.if_icmp .ne 350, 3) := by decide +kernel
theorem dL_refused_72 : decode cL_refused 72 = .ok (.aload_n 0, 1) := by decide +kernel
theorem dL_refused_73 : decode cL_refused 73 = .ok (.iconst 2, 1) := by decide +kernel
theorem dL_refused_74 : decode cL_refused 74 = .ok (.bipush 6, 2) := by decide +kernel
theorem dL_refused_76 : decode cL_refused 76 = .ok (.invokestatic 168, 3) := by decide +kernel
theorem dL_refused_79 : decode cL_refused 79 = .ok (.ifCond .eq 340, 3) := by decide +kernel
theorem dL_refused_82 : decode cL_refused 82 = .ok (.aload_n 0, 1) := by decide +kernel
theorem dL_refused_83 : decode cL_refused 83 = .ok (.iload_n 3, 1) := by decide +kernel
theorem dL_refused_84 : decode cL_refused 84 = .ok (.invokestatic 228, 3) := by decide +kernel
theorem dL_refused_87 : decode cL_refused 87 = .ok (.sipush (-1001), 3) := by decide +kernel
theorem dL_refused_90 : decode cL_refused 90 = .ok (.if_icmp .ne 329, 3) := by decide +kernel
theorem dL_refused_93 : decode cL_refused 93 = .ok (.aload_n 0, 1) := by decide +kernel
theorem dL_refused_94 : decode cL_refused 94 = .ok (.iconst 4, 1) := by decide +kernel
theorem dL_refused_95 : decode cL_refused 95 = .ok (.iload_n 3, 1) := by decide +kernel
theorem dL_refused_96 : decode cL_refused 96 = .ok (.invokestatic 168, 3) := by decide +kernel
theorem dL_refused_99 : decode cL_refused 99 = .ok (.ifCond .eq 320, 3) := by decide +kernel
theorem dL_refused_102 : decode cL_refused 102 = .ok (.aload_n 0, 1) := by decide +kernel
theorem dL_refused_103 : decode cL_refused 103 = .ok (.iconst (-1), 1) := by decide +kernel
theorem dL_refused_104 : decode cL_refused 104 = .ok (.invokestatic 228, 3) := by decide +kernel
theorem dL_refused_107 : decode cL_refused 107 = .ok (.sipush (-1001), 3) := by decide +kernel
theorem dL_refused_110 : decode cL_refused 110 = .ok (.if_icmp .ne 309, 3) := by decide +kernel
theorem dL_refused_113 : decode cL_refused 113 = .ok (.aload_n 0, 1) := by decide +kernel
theorem dL_refused_114 : decode cL_refused 114 = .ok (.iload_n 3, 1) := by decide +kernel
theorem dL_refused_115 : decode cL_refused 115 = .ok (.bipush 99, 2) := by decide +kernel
theorem dL_refused_117 : decode cL_refused 117 = .ok (.invokestatic 230, 3) := by decide +kernel
theorem dL_refused_120 : decode cL_refused 120 = .ok (.sipush (-1001), 3) := by decide +kernel
theorem dL_refused_123 : decode cL_refused 123 = .ok (.if_icmp .ne 296, 3) := by decide +kernel
theorem dL_refused_126 : decode cL_refused 126 = .ok (.aload_n 0, 1) := by decide +kernel
theorem dL_refused_127 : decode cL_refused 127 = .ok (.iconst 4, 1) := by decide +kernel
theorem dL_refused_128 : decode cL_refused 128 = .ok (.iload_n 3, 1) := by decide +kernel
theorem dL_refused_129 : decode cL_refused 129 = .ok (.invokestatic 168, 3) := by decide +kernel
theorem dL_refused_132 : decode cL_refused 132 = .ok (.ifCond .eq 287, 3) := by decide +kernel
theorem dL_refused_135 : decode cL_refused 135 = .ok (.aload_n 0, 1) := by decide +kernel
theorem dL_refused_136 : decode cL_refused 136 = .ok (.iconst 0, 1) := by decide +kernel
theorem dL_refused_137 : decode cL_refused 137 = .ok (.bipush 10, 2) := by decide +kernel
theorem dL_refused_139 : decode cL_refused 139 = .ok (.invokestatic 230, 3) := by decide +kernel
theorem dL_refused_142 : decode cL_refused 142 = .ok (.sipush (-1001), 3) := by decide +kernel
theorem dL_refused_145 : decode cL_refused 145 = .ok (.if_icmp .ne 274, 3) := by decide +kernel
theorem dL_refused_148 : decode cL_refused 148 = .ok (.aload_n 0, 1) := by decide +kernel
theorem dL_refused_149 : decode cL_refused 149 = .ok (.iconst 1, 1) := by decide +kernel
theorem dL_refused_150 : decode cL_refused 150 = .ok (.iconst 0, 1) := by decide +kernel
theorem dL_refused_151 : decode cL_refused 151 = .ok (.invokestatic 168, 3) := by decide +kernel
theorem dL_refused_154 : decode cL_refused 154 = .ok (.ifCond .eq 265, 3) := by decide +kernel
theorem dL_refused_157 : decode cL_refused 157 = .ok (.aload_n 0, 1) := by decide +kernel
theorem dL_refused_158 : decode cL_refused 158 = .ok (.iload_n 3, 1) := by decide +kernel
theorem dL_refused_159 : decode cL_refused 159 = .ok (.iconst 0, 1) := by decide +kernel
theorem dL_refused_160 : decode cL_refused 160 = .ok (.invokestatic 232, 3) := by decide +kernel
theorem dL_refused_163 : decode cL_refused 163 = .ok (.sipush (-1001), 3) := by decide +kernel
theorem dL_refused_166 : decode cL_refused 166 = .ok (.if_icmp .ne 253, 3) := by decide +kernel
theorem dL_refused_169 : decode cL_refused 169 = .ok (.aload_n 0, 1) := by decide +kernel
theorem dL_refused_170 : decode cL_refused 170 = .ok (.iconst 4, 1) := by decide +kernel
theorem dL_refused_171 : decode cL_refused 171 = .ok (.iload_n 3, 1) := by decide +kernel
theorem dL_refused_172 : decode cL_refused 172 = .ok (.invokestatic 168, 3) := by decide +kernel
theorem dL_refused_175 : decode cL_refused 175 = .ok (.ifCond .eq 244, 3) := by decide +kernel
theorem dL_refused_178 : decode cL_refused 178 = .ok (.aload_n 0, 1) := by decide +kernel
theorem dL_refused_179 : decode cL_refused 179 = .ok (.iconst 0, 1) := by decide +kernel
theorem dL_refused_180 : decode cL_refused 180 = .ok (.iconst (-1), 1) := by decide +kernel
theorem dL_refused_181 : decode cL_refused 181 = .ok (.invokestatic 232, 3) := by decide +kernel
theorem dL_refused_184 : decode cL_refused 184 = .ok (.sipush (-1001), 3) := by decide +kernel
theorem dL_refused_187 : decode cL_refused 187 = .ok (.if_icmp .ne 232, 3) := by decide +kernel
theorem dL_refused_190 : decode cL_refused 190 = .ok (.aload_n 0, 1) := by decide +kernel
theorem dL_refused_191 : decode cL_refused 191 = .ok (.iconst 4, 1) := by decide +kernel
theorem dL_refused_192 : decode cL_refused 192 = .ok (.iload_n 3, 1) := by decide +kernel
theorem dL_refused_193 : decode cL_refused 193 = .ok (.invokestatic 168, 3) := by decide +kernel
theorem dL_refused_196 : decode cL_refused 196 = .ok (.ifCond .eq 223, 3) := by decide +kernel
theorem dL_refused_199 : decode cL_refused 199 = .ok (.aload_n 0, 1) := by decide +kernel
theorem dL_refused_200 : decode cL_refused 200 = .ok (.iconst 1, 1) := by decide +kernel
theorem dL_refused_201 : decode cL_refused 201 = .ok (.iconst 1, 1) := by decide +kernel
theorem dL_refused_202 : decode cL_refused 202 = .ok (.invokestatic 232, 3) := by decide +kernel
theorem dL_refused_205 : decode cL_refused 205 = .ok (.sipush (-1001), 3) := by decide +kernel
theorem dL_refused_208 : decode cL_refused 208 = .ok (.if_icmp .ne 211, 3) := by decide +kernel
theorem dL_refused_211 : decode cL_refused 211 = .ok (.aload_n 0, 1) := by decide +kernel
theorem dL_refused_212 : decode cL_refused 212 = .ok (.bipush 6, 2) := by decide +kernel
theorem dL_refused_214 : decode cL_refused 214 = .ok (.iconst 1, 1) := by decide +kernel
theorem dL_refused_215 : decode cL_refused 215 = .ok (.invokestatic 168, 3) := by decide +kernel
theorem dL_refused_218 : decode cL_refused 218 = .ok (.ifCond .eq 201, 3) := by decide +kernel
theorem dL_refused_221 : decode cL_refused 221 = .ok (.aload_n 0, 1) := by decide +kernel
theorem dL_refused_222 : decode cL_refused 222 = .ok (.iload_n 3, 1) := by decide +kernel
theorem dL_refused_223 : decode cL_refused 223 = .ok (.iconst 0, 1) := by decide +kernel
theorem dL_refused_224 : decode cL_refused 224 = .ok (.iconst 0, 1) := by decide +kernel
theorem dL_refused_225 : decode cL_refused 225 = .ok (.invokestatic 165, 3) := by decide +kernel
theorem dL_refused_228 : decode cL_refused 228 = .ok (.sipush (-1001), 3) := by decide +kernel
theorem dL_refused_231 : decode cL_refused 231 = .ok (.if_icmp .ne 188, 3) := by decide +kernel
theorem dL_refused_234 : decode cL_refused 234 = .ok (.aload_n 0, 1) := by decide +kernel
theorem dL_refused_235 : decode cL_refused 235 = .ok (.iconst 4, 1) := by decide +kernel
theorem dL_refused_236 : decode cL_refused 236 = .ok (.iload_n 3, 1) := by decide +kernel
theorem dL_refused_237 : decode cL_refused 237 = .ok (.invokestatic 168, 3) := by decide +kernel
theorem dL_refused_240 : decode cL_refused 240 = .ok (.ifCond .eq 179, 3) := by decide +kernel
theorem dL_refused_243 : decode cL_refused 243 = .ok (.aload_n 0, 1) := by decide +kernel
theorem dL_refused_244 : decode cL_refused 244 = .ok (.iconst 0, 1) := by decide +kernel
theorem dL_refused_245 : decode cL_refused 245 = .ok (.sipush 699, 3) := by decide +kernel
theorem dL_refused_248 : decode cL_refused 248 = .ok (.iconst 1, 1) := by decide +kernel
theorem dL_refused_249 : decode cL_refused 249 = .ok (.invokestatic 165, 3) := by decide +kernel
theorem dL_refused_252 : decode cL_refused 252 = .ok (.sipush (-1001), 3) := by decide +kernel
theorem dL_refused_255 : decode cL_refused 255 = .ok (.if_icmp .ne 164, 3) := by decide +kernel
theorem dL_refused_258 : decode cL_refused 258 = .ok (.aload_n 0, 1) := by decide +kernel
theorem dL_refused_259 : decode cL_refused 259 = .ok (.iconst 1, 1) := by decide +kernel
theorem dL_refused_260 : decode cL_refused 260 = .ok (.iconst 0, 1) := by decide +kernel
theorem dL_refused_261 : decode cL_refused 261 = .ok (.invokestatic 168, 3) := by decide +kernel
theorem dL_refused_264 : decode cL_refused 264 = .ok (.ifCond .eq 155, 3) := by decide +kernel
theorem dL_refused_267 : decode cL_refused 267 = .ok (.aload_n 0, 1) := by decide +kernel
theorem dL_refused_268 : decode cL_refused 268 = .ok (.iconst 0, 1) := by decide +kernel
theorem dL_refused_269 : decode cL_refused 269 = .ok (.sipush 1101, 3) := by decide +kernel
theorem dL_refused_272 : decode cL_refused 272 = .ok (.iconst 1, 1) := by decide +kernel
theorem dL_refused_273 : decode cL_refused 273 = .ok (.invokestatic 165, 3) := by decide +kernel
theorem dL_refused_276 : decode cL_refused 276 = .ok (.sipush (-1001), 3) := by decide +kernel
theorem dL_refused_279 : decode cL_refused 279 = .ok (.if_icmp .ne 140, 3) := by decide +kernel
theorem dL_refused_282 : decode cL_refused 282 = .ok (.aload_n 0, 1) := by decide +kernel
theorem dL_refused_283 : decode cL_refused 283 = .ok (.iconst 0, 1) := by decide +kernel
theorem dL_refused_284 : decode cL_refused 284 = .ok (.sipush 900, 3) := by decide +kernel
theorem dL_refused_287 : decode cL_refused 287 = .ok (.iconst 0, 1) := by decide +kernel
theorem dL_refused_288 : decode cL_refused 288 = .ok (.invokestatic 165, 3) := by decide +kernel
theorem dL_refused_291 : decode cL_refused 291 = .ok (.sipush (-1001), 3) := by decide +kernel
theorem dL_refused_294 : decode cL_refused 294 = .ok (.if_icmp .ne 125, 3) := by decide +kernel
theorem dL_refused_297 : decode cL_refused 297 = .ok (.aload_n 0, 1) := by decide +kernel
theorem dL_refused_298 : decode cL_refused 298 = .ok (.iconst 0, 1) := by decide +kernel
theorem dL_refused_299 : decode cL_refused 299 = .ok (.sipush 900, 3) := by decide +kernel
theorem dL_refused_302 : decode cL_refused 302 = .ok (.bipush 10, 2) := by decide +kernel
theorem dL_refused_304 : decode cL_refused 304 = .ok (.invokestatic 165, 3) := by decide +kernel
theorem dL_refused_307 : decode cL_refused 307 = .ok (.sipush (-1001), 3) := by decide +kernel
theorem dL_refused_310 : decode cL_refused 310 = .ok (.if_icmp .ne 109, 3) := by decide +kernel
theorem dL_refused_313 : decode cL_refused 313 = .ok (.aload_n 0, 1) := by decide +kernel
theorem dL_refused_314 : decode cL_refused 314 = .ok (.iconst 1, 1) := by decide +kernel
theorem dL_refused_315 : decode cL_refused 315 = .ok (.iconst 0, 1) := by decide +kernel
theorem dL_refused_316 : decode cL_refused 316 = .ok (.invokestatic 168, 3) := by decide +kernel
theorem dL_refused_319 : decode cL_refused 319 = .ok (.ifCond .eq 100, 3) := by decide +kernel
theorem dL_refused_322 : decode cL_refused 322 = .ok (.aload_n 0, 1) := by decide +kernel
theorem dL_refused_323 : decode cL_refused 323 = .ok (.iload_n 3, 1) := by decide +kernel
theorem dL_refused_324 : decode cL_refused 324 = .ok (.invokestatic 172, 3) := by decide +kernel
theorem dL_refused_327 : decode cL_refused 327 = .ok (.sipush (-1001), 3) := by decide +kernel
theorem dL_refused_330 : decode cL_refused 330 = .ok (.if_icmp .ne 89, 3) := by decide +kernel
theorem dL_refused_333 : decode cL_refused 333 = .ok (.aload_n 0, 1) := by decide +kernel
theorem dL_refused_334 : decode cL_refused 334 = .ok (.iconst 4, 1) := by decide +kernel
theorem dL_refused_335 : decode cL_refused 335 = .ok (.iload_n 3, 1) := by decide +kernel
theorem dL_refused_336 : decode cL_refused 336 = .ok (.invokestatic 168, 3) := by decide +kernel
theorem dL_refused_339 : decode cL_refused 339 = .ok (.ifCond .eq 80, 3) := by decide +kernel
theorem dL_refused_342 : decode cL_refused 342 = .ok (.aload_n 0, 1) := by decide +kernel
theorem dL_refused_343 : decode cL_refused 343 = .ok (.bipush 41, 2) := by decide +kernel
theorem dL_refused_345 : decode cL_refused 345 = .ok (.invokestatic 161, 3) := by decide +kernel
theorem dL_refused_348 : decode cL_refused 348 = .ok (.sipush (-1001), 3) := by decide +kernel
theorem dL_refused_351 : decode cL_refused 351 = .ok (.if_icmp .ne 68, 3) := by decide +kernel
theorem dL_refused_354 : decode cL_refused 354 = .ok (.aload_n 0, 1) := by decide +kernel
theorem dL_refused_355 : decode cL_refused 355 = .ok (.iconst 1, 1) := by decide +kernel
theorem dL_refused_356 : decode cL_refused 356 = .ok (.iconst 0, 1) := by decide +kernel
theorem dL_refused_357 : decode cL_refused 357 = .ok (.invokestatic 168, 3) := by decide +kernel
theorem dL_refused_360 : decode cL_refused 360 = .ok (.ifCond .eq 59, 3) := by decide +kernel
theorem dL_refused_363 : decode cL_refused 363 = .ok (.aload_n 0, 1) := by decide +kernel
theorem dL_refused_364 : decode cL_refused 364 = .ok (.bipush (-41), 2) := by decide +kernel
theorem dL_refused_366 : decode cL_refused 366 = .ok (.invokestatic 161, 3) := by decide +kernel
theorem dL_refused_369 : decode cL_refused 369 = .ok (.sipush (-1001), 3) := by decide +kernel
theorem dL_refused_372 : decode cL_refused 372 = .ok (.if_icmp .ne 47, 3) := by decide +kernel
theorem dL_refused_375 : decode cL_refused 375 = .ok (.aload_n 0, 1) := by decide +kernel
theorem dL_refused_376 : decode cL_refused 376 = .ok (.iload_n 3, 1) := by decide +kernel
theorem dL_refused_377 : decode cL_refused 377 = .ok (.invokestatic 234, 3) := by decide +kernel
theorem dL_refused_380 : decode cL_refused 380 = .ok (.sipush (-1001), 3) := by decide +kernel
theorem dL_refused_383 : decode cL_refused 383 = .ok (.if_icmp .ne 36, 3) := by decide +kernel
theorem dL_refused_386 : decode cL_refused 386 = .ok (.aload_n 0, 1) := by decide +kernel
theorem dL_refused_387 : decode cL_refused 387 = .ok (.iconst 4, 1) := by decide +kernel
theorem dL_refused_388 : decode cL_refused 388 = .ok (.iload_n 3, 1) := by decide +kernel
theorem dL_refused_389 : decode cL_refused 389 = .ok (.invokestatic 168, 3) := by decide +kernel
theorem dL_refused_392 : decode cL_refused 392 = .ok (.ifCond .eq 27, 3) := by decide +kernel
theorem dL_refused_395 : decode cL_refused 395 = .ok (.aload_n 0, 1) := by decide +kernel
theorem dL_refused_396 : decode cL_refused 396 = .ok (.iload_n 3, 1) := by decide +kernel
theorem dL_refused_397 : decode cL_refused 397 = .ok (.invokestatic 236, 3) := by decide +kernel
theorem dL_refused_400 : decode cL_refused 400 = .ok (.sipush (-1001), 3) := by decide +kernel
theorem dL_refused_403 : decode cL_refused 403 = .ok (.if_icmp .ne 16, 3) := by decide +kernel
theorem dL_refused_406 : decode cL_refused 406 = .ok (.aload_n 0, 1) := by decide +kernel
theorem dL_refused_407 : decode cL_refused 407 = .ok (.iconst 4, 1) := by decide +kernel
theorem dL_refused_408 : decode cL_refused 408 = .ok (.iload_n 3, 1) := by decide +kernel
theorem dL_refused_409 : decode cL_refused 409 = .ok (.invokestatic 168, 3) := by decide +kernel
theorem dL_refused_412 : decode cL_refused 412 = .ok (.ifCond .eq 7, 3) := by decide +kernel
theorem dL_refused_415 : decode cL_refused 415 = .ok (.iconst 1, 1) := by decide +kernel
theorem dL_refused_416 : decode cL_refused 416 = .ok (.goto 4, 3) := by decide +kernel
theorem dL_refused_419 : decode cL_refused 419 = .ok (.iconst 0, 1) := by decide +kernel
theorem dL_refused_420 : decode cL_refused 420 = .ok (.istore 5, 2) := by decide +kernel
theorem dL_refused_422 : decode cL_refused 422 = .ok (.iconst 0, 1) := by decide +kernel
theorem dL_refused_423 : decode cL_refused 423 = .ok (.istore 6, 2) := by decide +kernel
theorem dL_refused_425 : decode cL_refused 425 = .ok (.iload 6, 2) := by decide +kernel
theorem dL_refused_427 : decode cL_refused 427 = .ok (.iload_n 3, 1) := by decide +kernel
theorem dL_refused_428 : decode cL_refused 428 = .ok (.if_icmp .ge 345, 3) := by decide +kernel
theorem dL_refused_431 : decode cL_refused 431 = .ok (.aload_n 0, 1) := by decide +kernel
theorem dL_refused_432 : decode cL_refused 432 = .ok (.iload 6, 2) := by decide +kernel
theorem dL_refused_434 : decode cL_refused 434 = .ok (.iconst 3, 1) := by decide +kernel
theorem dL_refused_435 : decode cL_refused 435 = .ok (.invokestatic 198, 3) := by decide +kernel
theorem dL_refused_438 : decode cL_refused 438 = .ok (.istore 7, 2) := by decide +kernel
theorem dL_refused_440 : decode cL_refused 440 = .ok (.aload_n 0, 1) := by decide +kernel
theorem dL_refused_441 : decode cL_refused 441 = .ok (.iload 6, 2) := by decide +kernel
theorem dL_refused_443 : decode cL_refused 443 = .ok (.iconst 1, 1) := by decide +kernel
theorem dL_refused_444 : decode cL_refused 444 = .ok (.invokestatic 198, 3) := by decide +kernel
theorem dL_refused_447 : decode cL_refused 447 = .ok (.istore 8, 2) := by decide +kernel
theorem dL_refused_449 : decode cL_refused 449 = .ok (.iload 5, 2) := by decide +kernel
theorem dL_refused_451 : decode cL_refused 451 = .ok (.ifCond .eq 63, 3) := by decide +kernel
theorem dL_refused_454 : decode cL_refused 454 = .ok (.aload_n 0, 1) := by decide +kernel
theorem dL_refused_455 : decode cL_refused 455 = .ok (.iload 6, 2) := by decide +kernel
theorem dL_refused_457 : decode cL_refused 457 = .ok (.iconst 1, 1) := by decide +kernel
theorem dL_refused_458 : decode cL_refused 458 = .ok (.iadd, 1) := by decide +kernel
theorem dL_refused_459 : decode cL_refused 459 = .ok (.iload_n 3, 1) := by decide +kernel
theorem dL_refused_460 : decode cL_refused 460 = .ok (.irem, 1) := by decide +kernel
theorem dL_refused_461 : decode cL_refused 461 = .ok (.iload 8, 2) := by decide +kernel
theorem dL_refused_463 : decode cL_refused 463 = .ok (.invokestatic 230, 3) := by decide +kernel
theorem dL_refused_466 : decode cL_refused 466 = .ok (.sipush (-1001), 3) := by decide +kernel
theorem dL_refused_469 : decode cL_refused 469 = .ok (.if_icmp .ne 45, 3) := by decide +kernel
theorem dL_refused_472 : decode cL_refused 472 = .ok (.aload_n 0, 1) := by decide +kernel
theorem dL_refused_473 : decode cL_refused 473 = .ok (.iconst 3, 1) := by decide +kernel
theorem dL_refused_474 : decode cL_refused 474 = .ok (.iload 6, 2) := by decide +kernel
theorem dL_refused_476 : decode cL_refused 476 = .ok (.invokestatic 168, 3) := by decide +kernel
theorem dL_refused_479 : decode cL_refused 479 = .ok (.ifCond .eq 35, 3) := by decide +kernel
theorem dL_refused_482 : decode cL_refused 482 = .ok (.iload_n 3, 1) := by decide +kernel
theorem dL_refused_483 : decode cL_refused 483 = .ok (.bipush 6, 2) := by decide +kernel
theorem dL_refused_485 : decode cL_refused 485 = .ok (.if_icmp .eq 25, 3) := by decide +kernel
theorem dL_refused_488 : decode cL_refused 488 = .ok (.aload_n 0, 1) := by decide +kernel
theorem dL_refused_489 : decode cL_refused 489 = .ok (.iload 8, 2) := by decide +kernel
theorem dL_refused_491 : decode cL_refused 491 = .ok (.invokestatic 159, 3) := by decide +kernel
theorem dL_refused_494 : decode cL_refused 494 = .ok (.sipush (-1001), 3) := by decide +kernel
theorem dL_refused_497 : decode cL_refused 497 = .ok (.if_icmp .ne 17, 3) := by decide +kernel
theorem dL_refused_500 : decode cL_refused 500 = .ok (.aload_n 0, 1) := by decide +kernel
theorem dL_refused_501 : decode cL_refused 501 = .ok (.iconst 3, 1) := by decide +kernel
theorem dL_refused_502 : decode cL_refused 502 = .ok (.iload 6, 2) := by decide +kernel
theorem dL_refused_504 : decode cL_refused 504 = .ok (.invokestatic 168, 3) := by decide +kernel
theorem dL_refused_507 : decode cL_refused 507 = .ok (.ifCond .eq 7, 3) := by decide +kernel
theorem dL_refused_510 : decode cL_refused 510 = .ok (.iconst 1, 1) := by decide +kernel
theorem dL_refused_511 : decode cL_refused 511 = .ok (.goto 4, 3) := by decide +kernel
theorem dL_refused_514 : decode cL_refused 514 = .ok (.iconst 0, 1) := by decide +kernel
theorem dL_refused_515 : decode cL_refused 515 = .ok (.istore 5, 2) := by decide +kernel
theorem dL_refused_517 : decode cL_refused 517 = .ok (.iload 7, 2) := by decide +kernel
theorem dL_refused_519 : decode cL_refused 519 = .ok (.ifCond .le 78, 3) := by decide +kernel
theorem dL_refused_522 : decode cL_refused 522 = .ok (.iload 5, 2) := by decide +kernel
theorem dL_refused_524 : decode cL_refused 524 = .ok (.ifCond .eq 67, 3) := by decide +kernel
theorem dL_refused_527 : decode cL_refused 527 = .ok (.aload_n 0, 1) := by decide +kernel
theorem dL_refused_528 : decode cL_refused 528 = .ok (.iload 6, 2) := by decide +kernel
theorem dL_refused_530 : decode cL_refused 530 = .ok (.sipush 900, 3) := by decide +kernel
theorem dL_refused_533 : decode cL_refused 533 = .ok (.iconst 1, 1) := by decide +kernel
theorem dL_refused_534 : decode cL_refused 534 = .ok (.invokestatic 165, 3) := by decide +kernel
theorem dL_refused_537 : decode cL_refused 537 = .ok (.sipush (-1001), 3) := by decide +kernel
theorem dL_refused_540 : decode cL_refused 540 = .ok (.if_icmp .ne 51, 3) := by decide +kernel
theorem dL_refused_543 : decode cL_refused 543 = .ok (.aload_n 0, 1) := by decide +kernel
theorem dL_refused_544 : decode cL_refused 544 = .ok (.bipush 7, 2) := by decide +kernel
theorem dL_refused_546 : decode cL_refused 546 = .ok (.aload_n 0, 1) := by decide +kernel
theorem dL_refused_547 : decode cL_refused 547 = .ok (.iload 6, 2) := by decide +kernel
theorem dL_refused_549 : decode cL_refused 549 = .ok (.iconst 2, 1) := by decide +kernel
theorem dL_refused_550 : decode cL_refused 550 = .ok (.invokestatic 198, 3) := by decide +kernel
theorem dL_refused_553 : decode cL_refused 553 = .ok (.invokestatic 168, 3) := by decide +kernel
theorem dL_refused_556 : decode cL_refused 556 = .ok (.ifCond .eq 35, 3) := by decide +kernel
theorem dL_refused_559 : decode cL_refused 559 = .ok (.aload_n 0, 1) := by decide +kernel
theorem dL_refused_560 : decode cL_refused 560 = .ok (.iload 6, 2) := by decide +kernel
theorem dL_refused_562 : decode cL_refused 562 = .ok (.invokestatic 228, 3) := by decide +kernel
theorem dL_refused_565 : decode cL_refused 565 = .ok (.sipush (-1001), 3) := by decide +kernel
theorem dL_refused_568 : decode cL_refused 568 = .ok (.if_icmp .ne 23, 3) := by decide +kernel
theorem dL_refused_571 : decode cL_refused 571 = .ok (.aload_n 0, 1) := by decide +kernel
theorem dL_refused_572 : decode cL_refused 572 = .ok (.bipush 7, 2) := by decide +kernel
theorem dL_refused_574 : decode cL_refused 574 = .ok (.aload_n 0, 1) := by decide +kernel
theorem dL_refused_575 : decode cL_refused 575 = .ok (.iload 6, 2) := by decide +kernel
theorem dL_refused_577 : decode cL_refused 577 = .ok (.iconst 2, 1) := by decide +kernel
theorem dL_refused_578 : decode cL_refused 578 = .ok (.invokestatic 198, 3) := by decide +kernel
theorem dL_refused_581 : decode cL_refused 581 = .ok (.invokestatic 168, 3) := by decide +kernel
theorem dL_refused_584 : decode cL_refused 584 = .ok (.ifCond .eq 7, 3) := by decide +kernel
theorem dL_refused_587 : decode cL_refused 587 = .ok (.iconst 1, 1) := by decide +kernel
theorem dL_refused_588 : decode cL_refused 588 = .ok (.goto 4, 3) := by decide +kernel
theorem dL_refused_591 : decode cL_refused 591 = .ok (.iconst 0, 1) := by decide +kernel
theorem dL_refused_592 : decode cL_refused 592 = .ok (.istore 5, 2) := by decide +kernel
theorem dL_refused_594 : decode cL_refused 594 = .ok (.goto 37, 3) := by decide +kernel
theorem dL_refused_597 : decode cL_refused 597 = .ok (.iload 5, 2) := by decide +kernel
theorem dL_refused_599 : decode cL_refused 599 = .ok (.ifCond .eq 29, 3) := by decide +kernel
theorem dL_refused_602 : decode cL_refused 602 = .ok (.aload_n 0, 1) := by decide +kernel
theorem dL_refused_603 : decode cL_refused 603 = .ok (.iload 6, 2) := by decide +kernel
theorem dL_refused_605 : decode cL_refused 605 = .ok (.invokestatic 172, 3) := by decide +kernel
theorem dL_refused_608 : decode cL_refused 608 = .ok (.sipush (-1001), 3) := by decide +kernel
theorem dL_refused_611 : decode cL_refused 611 = .ok (.if_icmp .ne 17, 3) := by decide +kernel
theorem dL_refused_614 : decode cL_refused 614 = .ok (.aload_n 0, 1) := by decide +kernel
theorem dL_refused_615 : decode cL_refused 615 = .ok (.bipush 8, 2) := by decide +kernel
theorem dL_refused_617 : decode cL_refused 617 = .ok (.iconst 0, 1) := by decide +kernel
theorem dL_refused_618 : decode cL_refused 618 = .ok (.invokestatic 168, 3) := by decide +kernel
theorem dL_refused_621 : decode cL_refused 621 = .ok (.ifCond .eq 7, 3) := by decide +kernel
theorem dL_refused_624 : decode cL_refused 624 = .ok (.iconst 1, 1) := by decide +kernel
theorem dL_refused_625 : decode cL_refused 625 = .ok (.goto 4, 3) := by decide +kernel
theorem dL_refused_628 : decode cL_refused 628 = .ok (.iconst 0, 1) := by decide +kernel
theorem dL_refused_629 : decode cL_refused 629 = .ok (.istore 5, 2) := by decide +kernel
theorem dL_refused_631 : decode cL_refused 631 = .ok (.aload_n 0, 1) := by decide +kernel
theorem dL_refused_632 : decode cL_refused 632 = .ok (.iload 6, 2) := by decide +kernel
theorem dL_refused_634 : decode cL_refused 634 = .ok (.iconst 4, 1) := by decide +kernel
theorem dL_refused_635 : decode cL_refused 635 = .ok (.invokestatic 198, 3) := by decide +kernel
theorem dL_refused_638 : decode cL_refused 638 = .ok (.iconst 1, 1) := by decide +kernel
theorem dL_refused_639 : decode cL_refused 639 = .ok (.if_icmp .ne 38, 3) := by decide +kernel
theorem dL_refused_642 : decode cL_refused 642 = .ok (.iload 5, 2) := by decide +kernel
theorem dL_refused_644 : decode cL_refused 644 = .ok (.ifCond .eq 30, 3) := by decide +kernel
theorem dL_refused_647 : decode cL_refused 647 = .ok (.aload_n 0, 1) := by decide +kernel
theorem dL_refused_648 : decode cL_refused 648 = .ok (.iload 6, 2) := by decide +kernel
theorem dL_refused_650 : decode cL_refused 650 = .ok (.invokestatic 172, 3) := by decide +kernel
theorem dL_refused_653 : decode cL_refused 653 = .ok (.sipush (-1001), 3) := by decide +kernel
theorem dL_refused_656 : decode cL_refused 656 = .ok (.if_icmp .ne 18, 3) := by decide +kernel
theorem dL_refused_659 : decode cL_refused 659 = .ok (.aload_n 0, 1) := by decide +kernel
theorem dL_refused_660 : decode cL_refused 660 = .ok (.bipush 9, 2) := by decide +kernel
theorem dL_refused_662 : decode cL_refused 662 = .ok (.iload 7, 2) := by decide +kernel
theorem dL_refused_664 : decode cL_refused 664 = .ok (.invokestatic 168, 3) := by decide +kernel
theorem dL_refused_667 : decode cL_refused 667 = .ok (.ifCond .eq 7, 3) := by decide +kernel
theorem dL_refused_670 : decode cL_refused 670 = .ok (.iconst 1, 1) := by decide +kernel
theorem dL_refused_671 : decode cL_refused 671 = .ok (.goto 4, 3) := by decide +kernel
theorem dL_refused_674 : decode cL_refused 674 = .ok (.iconst 0, 1) := by decide +kernel
theorem dL_refused_675 : decode cL_refused 675 = .ok (.istore 5, 2) := by decide +kernel
theorem dL_refused_677 : decode cL_refused 677 = .ok (.aload_n 0, 1) := by decide +kernel
theorem dL_refused_678 : decode cL_refused 678 = .ok (.iload 6, 2) := by decide +kernel
theorem dL_refused_680 : decode cL_refused 680 = .ok (.iconst 5, 1) := by decide +kernel
theorem dL_refused_681 : decode cL_refused 681 = .ok (.invokestatic 198, 3) := by decide +kernel
theorem dL_refused_684 : decode cL_refused 684 = .ok (.ifCond .ne 37, 3) := by decide +kernel
theorem dL_refused_687 : decode cL_refused 687 = .ok (.iload 5, 2) := by decide +kernel
theorem dL_refused_689 : decode cL_refused 689 = .ok (.ifCond .eq 29, 3) := by decide +kernel
theorem dL_refused_692 : decode cL_refused 692 = .ok (.aload_n 0, 1) := by decide +kernel
theorem dL_refused_693 : decode cL_refused 693 = .ok (.iload 6, 2) := by decide +kernel
theorem dL_refused_695 : decode cL_refused 695 = .ok (.invokestatic 236, 3) := by decide +kernel
theorem dL_refused_698 : decode cL_refused 698 = .ok (.sipush (-1001), 3) := by decide +kernel
theorem dL_refused_701 : decode cL_refused 701 = .ok (.if_icmp .ne 17, 3) := by decide +kernel
theorem dL_refused_704 : decode cL_refused 704 = .ok (.aload_n 0, 1) := by decide +kernel
theorem dL_refused_705 : decode cL_refused 705 = .ok (.bipush 12, 2) := by decide +kernel
theorem dL_refused_707 : decode cL_refused 707 = .ok (.iconst 0, 1) := by decide +kernel
theorem dL_refused_708 : decode cL_refused 708 = .ok (.invokestatic 168, 3) := by decide +kernel
theorem dL_refused_711 : decode cL_refused 711 = .ok (.ifCond .eq 7, 3) := by decide +kernel
theorem dL_refused_714 : decode cL_refused 714 = .ok (.iconst 1, 1) := by decide +kernel
theorem dL_refused_715 : decode cL_refused 715 = .ok (.goto 4, 3) := by decide +kernel
theorem dL_refused_718 : decode cL_refused 718 = .ok (.iconst 0, 1) := by decide +kernel
theorem dL_refused_719 : decode cL_refused 719 = .ok (.istore 5, 2) := by decide +kernel
theorem dL_refused_721 : decode cL_refused 721 = .ok (.aload_n 0, 1) := by decide +kernel
theorem dL_refused_722 : decode cL_refused 722 = .ok (.iconst 2, 1) := by decide +kernel
theorem dL_refused_723 : decode cL_refused 723 = .ok (.invokestatic 196, 3) := by decide +kernel
theorem dL_refused_726 : decode cL_refused 726 = .ok (.ifCond .ne 41, 3) := by decide +kernel
theorem dL_refused_729 : decode cL_refused 729 = .ok (.iload 5, 2) := by decide +kernel
theorem dL_refused_731 : decode cL_refused 731 = .ok (.ifCond .eq 33, 3) := by decide +kernel
theorem dL_refused_734 : decode cL_refused 734 = .ok (.aload_n 0, 1) := by decide +kernel
theorem dL_refused_735 : decode cL_refused 735 = .ok (.iload 6, 2) := by decide +kernel
theorem dL_refused_737 : decode cL_refused 737 = .ok (.invokestatic 234, 3) := by decide +kernel
theorem dL_refused_740 : decode cL_refused 740 = .ok (.sipush (-1001), 3) := by decide +kernel
theorem dL_refused_743 : decode cL_refused 743 = .ok (.if_icmp .ne 21, 3) := by decide +kernel
theorem dL_refused_746 : decode cL_refused 746 = .ok (.aload_n 0, 1) := by decide +kernel
theorem dL_refused_747 : decode cL_refused 747 = .ok (.bipush 10, 2) := by decide +kernel
theorem dL_refused_749 : decode cL_refused 749 = .ok (.aload_n 0, 1) := by decide +kernel
theorem dL_refused_750 : decode cL_refused 750 = .ok (.iconst 1, 1) := by decide +kernel
theorem dL_refused_751 : decode cL_refused 751 = .ok (.invokestatic 196, 3) := by decide +kernel
theorem dL_refused_754 : decode cL_refused 754 = .ok (.invokestatic 168, 3) := by decide +kernel
theorem dL_refused_757 : decode cL_refused 757 = .ok (.ifCond .eq 7, 3) := by decide +kernel
theorem dL_refused_760 : decode cL_refused 760 = .ok (.iconst 1, 1) := by decide +kernel
theorem dL_refused_761 : decode cL_refused 761 = .ok (.goto 4, 3) := by decide +kernel
theorem dL_refused_764 : decode cL_refused 764 = .ok (.iconst 0, 1) := by decide +kernel
theorem dL_refused_765 : decode cL_refused 765 = .ok (.istore 5, 2) := by decide +kernel
theorem dL_refused_767 : decode cL_refused 767 = .ok (.iinc 6 1, 3) := by decide +kernel
theorem dL_refused_770 : decode cL_refused 770 = .ok (.goto (-345), 3) := by decide +kernel
theorem dL_refused_773 : decode cL_refused 773 = .ok (.aload_n 0, 1) := by decide +kernel
theorem dL_refused_774 : decode cL_refused 774 = .ok (.iconst 3, 1) := by decide +kernel
theorem dL_refused_775 : decode cL_refused 775 = .ok (.invokestatic 194, 3) := by decide +kernel
theorem dL_refused_778 : decode cL_refused 778 = .ok (.ifCond .ne 39, 3) := by decide +kernel
theorem dL_refused_781 : decode cL_refused 781 = .ok (.iload 5, 2) := by decide +kernel
theorem dL_refused_783 : decode cL_refused 783 = .ok (.ifCond .eq 31, 3) := by decide +kernel
theorem dL_refused_786 : decode cL_refused 786 = .ok (.aload_n 0, 1) := by decide +kernel
theorem dL_refused_787 : decode cL_refused 787 = .ok (.invokestatic 238, 3) := by decide +kernel
theorem dL_refused_790 : decode cL_refused 790 = .ok (.sipush (-1001), 3) := by decide +kernel
theorem dL_refused_793 : decode cL_refused 793 = .ok (.if_icmp .ne 21, 3) := by decide +kernel
theorem dL_refused_796 : decode cL_refused 796 = .ok (.aload_n 0, 1) := by decide +kernel
theorem dL_refused_797 : decode cL_refused 797 = .ok (.bipush 14, 2) := by decide +kernel
theorem dL_refused_799 : decode cL_refused 799 = .ok (.aload_n 0, 1) := by decide +kernel
theorem dL_refused_800 : decode cL_refused 800 = .ok (.iconst 2, 1) := by decide +kernel
theorem dL_refused_801 : decode cL_refused 801 = .ok (.invokestatic 194, 3) := by decide +kernel
theorem dL_refused_804 : decode cL_refused 804 = .ok (.invokestatic 168, 3) := by decide +kernel
theorem dL_refused_807 : decode cL_refused 807 = .ok (.ifCond .eq 7, 3) := by decide +kernel
theorem dL_refused_810 : decode cL_refused 810 = .ok (.iconst 1, 1) := by decide +kernel
theorem dL_refused_811 : decode cL_refused 811 = .ok (.goto 4, 3) := by decide +kernel
theorem dL_refused_814 : decode cL_refused 814 = .ok (.iconst 0, 1) := by decide +kernel
theorem dL_refused_815 : decode cL_refused 815 = .ok (.istore 5, 2) := by decide +kernel
theorem dL_refused_817 : decode cL_refused 817 = .ok (.iload 4, 2) := by decide +kernel
theorem dL_refused_819 : decode cL_refused 819 = .ok (.sipush 940, 3) := by decide +kernel
theorem dL_refused_822 : decode cL_refused 822 = .ok (.if_icmp .ge 41, 3) := by decide +kernel
theorem dL_refused_825 : decode cL_refused 825 = .ok (.iload 5, 2) := by decide +kernel
theorem dL_refused_827 : decode cL_refused 827 = .ok (.ifCond .eq 33, 3) := by decide +kernel
theorem dL_refused_830 : decode cL_refused 830 = .ok (.aload_n 0, 1) := by decide +kernel
theorem dL_refused_831 : decode cL_refused 831 = .ok (.bipush (-40), 2) := by decide +kernel
theorem dL_refused_833 : decode cL_refused 833 = .ok (.invokestatic 161, 3) := by decide +kernel
theorem dL_refused_836 : decode cL_refused 836 = .ok (.sipush (-1001), 3) := by decide +kernel
theorem dL_refused_839 : decode cL_refused 839 = .ok (.if_icmp .ne 21, 3) := by decide +kernel
theorem dL_refused_842 : decode cL_refused 842 = .ok (.aload_n 0, 1) := by decide +kernel
theorem dL_refused_843 : decode cL_refused 843 = .ok (.bipush 13, 2) := by decide +kernel
theorem dL_refused_845 : decode cL_refused 845 = .ok (.iload 4, 2) := by decide +kernel
theorem dL_refused_847 : decode cL_refused 847 = .ok (.bipush 40, 2) := by decide +kernel
theorem dL_refused_849 : decode cL_refused 849 = .ok (.isub, 1) := by decide +kernel
theorem dL_refused_850 : decode cL_refused 850 = .ok (.invokestatic 168, 3) := by decide +kernel
theorem dL_refused_853 : decode cL_refused 853 = .ok (.ifCond .eq 7, 3) := by decide +kernel
theorem dL_refused_856 : decode cL_refused 856 = .ok (.iconst 1, 1) := by decide +kernel
theorem dL_refused_857 : decode cL_refused 857 = .ok (.goto 4, 3) := by decide +kernel
theorem dL_refused_860 : decode cL_refused 860 = .ok (.iconst 0, 1) := by decide +kernel
theorem dL_refused_861 : decode cL_refused 861 = .ok (.istore 5, 2) := by decide +kernel
theorem dL_refused_863 : decode cL_refused 863 = .ok (.iload 4, 2) := by decide +kernel
theorem dL_refused_865 : decode cL_refused 865 = .ok (.sipush 1060, 3) := by decide +kernel
theorem dL_refused_868 : decode cL_refused 868 = .ok (.if_icmp .le 41, 3) := by decide +kernel
theorem dL_refused_871 : decode cL_refused 871 = .ok (.iload 5, 2) := by decide +kernel
theorem dL_refused_873 : decode cL_refused 873 = .ok (.ifCond .eq 33, 3) := by decide +kernel
theorem dL_refused_876 : decode cL_refused 876 = .ok (.aload_n 0, 1) := by decide +kernel
theorem dL_refused_877 : decode cL_refused 877 = .ok (.bipush 40, 2) := by decide +kernel
theorem dL_refused_879 : decode cL_refused 879 = .ok (.invokestatic 161, 3) := by decide +kernel
theorem dL_refused_882 : decode cL_refused 882 = .ok (.sipush (-1001), 3) := by decide +kernel
theorem dL_refused_885 : decode cL_refused 885 = .ok (.if_icmp .ne 21, 3) := by decide +kernel
theorem dL_refused_888 : decode cL_refused 888 = .ok (.aload_n 0, 1) := by decide +kernel
theorem dL_refused_889 : decode cL_refused 889 = .ok (.bipush 13, 2) := by decide +kernel
theorem dL_refused_891 : decode cL_refused 891 = .ok (.iload 4, 2) := by decide +kernel
theorem dL_refused_893 : decode cL_refused 893 = .ok (.bipush 40, 2) := by decide +kernel
theorem dL_refused_895 : decode cL_refused 895 = .ok (.iadd, 1) := by decide +kernel
theorem dL_refused_896 : decode cL_refused 896 = .ok (.invokestatic 168, 3) := by decide +kernel
theorem dL_refused_899 : decode cL_refused 899 = .ok (.ifCond .eq 7, 3) := by decide +kernel
theorem dL_refused_902 : decode cL_refused 902 = .ok (.iconst 1, 1) := by decide +kernel
theorem dL_refused_903 : decode cL_refused 903 = .ok (.goto 4, 3) := by decide +kernel
theorem dL_refused_906 : decode cL_refused 906 = .ok (.iconst 0, 1) := by decide +kernel
theorem dL_refused_907 : decode cL_refused 907 = .ok (.istore 5, 2) := by decide +kernel
theorem dL_refused_909 : decode cL_refused 909 = .ok (.iload 5, 2) := by decide +kernel
theorem dL_refused_911 : decode cL_refused 911 = .ok (.ifCond .eq 319, 3) := by decide +kernel
theorem dL_refused_914 : decode cL_refused 914 = .ok (.aload_n 0, 1) := by decide +kernel
theorem dL_refused_915 : decode cL_refused 915 = .ok (.iconst 1, 1) := by decide +kernel
theorem dL_refused_916 : decode cL_refused 916 = .ok (.iconst 1, 1) := by decide +kernel
theorem dL_refused_917 : decode cL_refused 917 = .ok (.invokestatic 232, 3) := by decide +kernel
theorem dL_refused_920 : decode cL_refused 920 = .ok (.sipush (-1001), 3) := by decide +kernel
theorem dL_refused_923 : decode cL_refused 923 = .ok (.if_icmp .ne 307, 3) := by decide +kernel
theorem dL_refused_926 : decode cL_refused 926 = .ok (.aload_n 0, 1) := by decide +kernel
theorem dL_refused_927 : decode cL_refused 927 = .ok (.iload_n 3, 1) := by decide +kernel
theorem dL_refused_928 : decode cL_refused 928 = .ok (.bipush 9, 2) := by decide +kernel
theorem dL_refused_930 : decode cL_refused 930 = .ok (.invokestatic 198, 3) := by decide +kernel
theorem dL_refused_933 : decode cL_refused 933 = .ok (.sipush (-1001), 3) := by decide +kernel
theorem dL_refused_936 : decode cL_refused 936 = .ok (.if_icmp .ne 294, 3) := by decide +kernel
theorem dL_refused_939 : decode cL_refused 939 = .ok (.aload_n 0, 1) := by decide +kernel
theorem dL_refused_940 : decode cL_refused 940 = .ok (.iconst (-1), 1) := by decide +kernel
theorem dL_refused_941 : decode cL_refused 941 = .ok (.iconst 0, 1) := by decide +kernel
theorem dL_refused_942 : decode cL_refused 942 = .ok (.invokestatic 198, 3) := by decide +kernel
theorem dL_refused_945 : decode cL_refused 945 = .ok (.sipush (-1001), 3) := by decide +kernel
theorem dL_refused_948 : decode cL_refused 948 = .ok (.if_icmp .ne 282, 3) := by decide +kernel
theorem dL_refused_951 : decode cL_refused 951 = .ok (.aload_n 0, 1) := by decide +kernel
theorem dL_refused_952 : decode cL_refused 952 = .ok (.iconst 0, 1) := by decide +kernel
theorem dL_refused_953 : decode cL_refused 953 = .ok (.bipush 7, 2) := by decide +kernel
theorem dL_refused_955 : decode cL_refused 955 = .ok (.invokestatic 198, 3) := by decide +kernel
theorem dL_refused_958 : decode cL_refused 958 = .ok (.sipush (-1002), 3) := by decide +kernel
theorem dL_refused_961 : decode cL_refused 961 = .ok (.if_icmp .ne 269, 3) := by decide +kernel
theorem dL_refused_964 : decode cL_refused 964 = .ok (.aload_n 0, 1) := by decide +kernel
theorem dL_refused_965 : decode cL_refused 965 = .ok (.iconst 0, 1) := by decide +kernel
theorem dL_refused_966 : decode cL_refused 966 = .ok (.iconst (-1), 1) := by decide +kernel
theorem dL_refused_967 : decode cL_refused 967 = .ok (.invokestatic 198, 3) := by decide +kernel
theorem dL_refused_970 : decode cL_refused 970 = .ok (.sipush (-1002), 3) := by decide +kernel
theorem dL_refused_973 : decode cL_refused 973 = .ok (.if_icmp .ne 257, 3) := by decide +kernel
theorem dL_refused_976 : decode cL_refused 976 = .ok (.aload_n 0, 1) := by decide +kernel
theorem dL_refused_977 : decode cL_refused 977 = .ok (.iload_n 3, 1) := by decide +kernel
theorem dL_refused_978 : decode cL_refused 978 = .ok (.invokestatic 202, 3) := by decide +kernel
theorem dL_refused_981 : decode cL_refused 981 = .ok (.sipush (-1001), 3) := by decide +kernel
theorem dL_refused_984 : decode cL_refused 984 = .ok (.if_icmp .ne 246, 3) := by decide +kernel
theorem dL_refused_987 : decode cL_refused 987 = .ok (.aload_n 0, 1) := by decide +kernel
theorem dL_refused_988 : decode cL_refused 988 = .ok (.iconst (-1), 1) := by decide +kernel
theorem dL_refused_989 : decode cL_refused 989 = .ok (.invokestatic 269, 3) := by decide +kernel
theorem dL_refused_992 : decode cL_refused 992 = .ok (.sipush (-1001), 3) := by decide +kernel
theorem dL_refused_995 : decode cL_refused 995 = .ok (.if_icmp .ne 235, 3) := by decide +kernel
theorem dL_refused_998 : decode cL_refused 998 = .ok (.aload_n 0, 1) := by decide +kernel
theorem dL_refused_999 : decode cL_refused 999 = .ok (.iload_n 3, 1) := by decide +kernel
theorem dL_refused_1000 : decode cL_refused 1000 = .ok (.invokestatic 204, 3) := by decide +kernel
theorem dL_refused_1003 : decode cL_refused 1003 = .ok (.sipush (-1001), 3) := by decide +kernel
theorem dL_refused_1006 : decode cL_refused 1006 = .ok (.if_icmp .ne 224, 3) := by decide +kernel
theorem dL_refused_1009 : decode cL_refused 1009 = .ok (.aload_n 0, 1) := by decide +kernel
theorem dL_refused_1010 : decode cL_refused 1010 = .ok (.bipush 10, 2) := by decide +kernel
theorem dL_refused_1012 : decode cL_refused 1012 = .ok (.invokestatic 157, 3) := by decide +kernel
theorem dL_refused_1015 : decode cL_refused 1015 = .ok (.sipush (-1001), 3) := by decide +kernel
theorem dL_refused_1018 : decode cL_refused 1018 = .ok (.if_icmp .ne 212, 3) := by decide +kernel
theorem dL_refused_1021 : decode cL_refused 1021 = .ok (.aload_n 0, 1) := by decide +kernel
theorem dL_refused_1022 : decode cL_refused 1022 = .ok (.iconst (-1), 1) := by decide +kernel
theorem dL_refused_1023 : decode cL_refused 1023 = .ok (.invokestatic 157, 3) := by decide +kernel
theorem dL_refused_1026 : decode cL_refused 1026 = .ok (.sipush (-1001), 3) := by decide +kernel
theorem dL_refused_1029 : decode cL_refused 1029 = .ok (.if_icmp .ne 201, 3) := by decide +kernel
theorem dL_refused_1032 : decode cL_refused 1032 = .ok (.aload_n 0, 1) := by decide +kernel
theorem dL_refused_1033 : decode cL_refused 1033 = .ok (.bipush 41, 2) := by decide +kernel
theorem dL_refused_1035 : decode cL_refused 1035 = .ok (.invokestatic 226, 3) := by decide +kernel
theorem dL_refused_1038 : decode cL_refused 1038 = .ok (.sipush (-1001), 3) := by decide +kernel
theorem dL_refused_1041 : decode cL_refused 1041 = .ok (.if_icmp .ne 189, 3) := by decide +kernel
theorem dL_refused_1044 : decode cL_refused 1044 = .ok (.aload_n 0, 1) := by decide +kernel
theorem dL_refused_1045 : decode cL_refused 1045 = .ok (.bipush (-41), 2) := by decide +kernel
theorem dL_refused_1047 : decode cL_refused 1047 = .ok (.invokestatic 226, 3) := by decide +kernel
theorem dL_refused_1050 : decode cL_refused 1050 = .ok (.sipush (-1001), 3) := by decide +kernel
theorem dL_refused_1053 : decode cL_refused 1053 = .ok (.if_icmp .ne 177, 3) := by decide +kernel
theorem dL_refused_1056 : decode cL_refused 1056 = .ok (.aload_n 0, 1) := by decide +kernel
theorem dL_refused_1057 : decode cL_refused 1057 = .ok (.iload_n 3, 1) := by decide +kernel
theorem dL_refused_1058 : decode cL_refused 1058 = .ok (.invokestatic 206, 3) := by decide +kernel
theorem dL_refused_1061 : decode cL_refused 1061 = .ok (.sipush (-1001), 3) := by decide +kernel
theorem dL_refused_1064 : decode cL_refused 1064 = .ok (.if_icmp .ne 166, 3) := by decide +kernel
theorem dL_refused_1067 : decode cL_refused 1067 = .ok (.aload_n 0, 1) := by decide +kernel
theorem dL_refused_1068 : decode cL_refused 1068 = .ok (.iload_n 3, 1) := by decide +kernel
theorem dL_refused_1069 : decode cL_refused 1069 = .ok (.invokestatic 163, 3) := by decide +kernel
theorem dL_refused_1072 : decode cL_refused 1072 = .ok (.sipush (-1001), 3) := by decide +kernel
theorem dL_refused_1075 : decode cL_refused 1075 = .ok (.if_icmp .ne 155, 3) := by decide +kernel
theorem dL_refused_1078 : decode cL_refused 1078 = .ok (.aload_n 0, 1) := by decide +kernel
theorem dL_refused_1079 : decode cL_refused 1079 = .ok (.iload_n 3, 1) := by decide +kernel
theorem dL_refused_1080 : decode cL_refused 1080 = .ok (.invokestatic 208, 3) := by decide +kernel
theorem dL_refused_1083 : decode cL_refused 1083 = .ok (.sipush (-1001), 3) := by decide +kernel
theorem dL_refused_1086 : decode cL_refused 1086 = .ok (.if_icmp .ne 144, 3) := by decide +kernel
theorem dL_refused_1089 : decode cL_refused 1089 = .ok (.aload_n 0, 1) := by decide +kernel
theorem dL_refused_1090 : decode cL_refused 1090 = .ok (.iconst 4, 1) := by decide +kernel
theorem dL_refused_1091 : decode cL_refused 1091 = .ok (.iconst 0, 1) := by decide +kernel
theorem dL_refused_1092 : decode cL_refused 1092 = .ok (.invokestatic 210, 3) := by decide +kernel
theorem dL_refused_1095 : decode cL_refused 1095 = .ok (.sipush (-1001), 3) := by decide +kernel
theorem dL_refused_1098 : decode cL_refused 1098 = .ok (.if_icmp .ne 132, 3) := by decide +kernel
theorem dL_refused_1101 : decode cL_refused 1101 = .ok (.aload_n 0, 1) := by decide +kernel
theorem dL_refused_1102 : decode cL_refused 1102 = .ok (.iconst (-1), 1) := by decide +kernel
theorem dL_refused_1103 : decode cL_refused 1103 = .ok (.iconst 0, 1) := by decide +kernel
theorem dL_refused_1104 : decode cL_refused 1104 = .ok (.invokestatic 210, 3) := by decide +kernel
theorem dL_refused_1107 : decode cL_refused 1107 = .ok (.sipush (-1001), 3) := by decide +kernel
theorem dL_refused_1110 : decode cL_refused 1110 = .ok (.if_icmp .ne 120, 3) := by decide +kernel
theorem dL_refused_1113 : decode cL_refused 1113 = .ok (.aload_n 0, 1) := by decide +kernel
theorem dL_refused_1114 : decode cL_refused 1114 = .ok (.iconst 0, 1) := by decide +kernel
theorem dL_refused_1115 : decode cL_refused 1115 = .ok (.iload_n 3, 1) := by decide +kernel
theorem dL_refused_1116 : decode cL_refused 1116 = .ok (.invokestatic 210, 3) := by decide +kernel
theorem dL_refused_1119 : decode cL_refused 1119 = .ok (.sipush (-1002), 3) := by decide +kernel
theorem dL_refused_1122 : decode cL_refused 1122 = .ok (.if_icmp .ne 108, 3) := by decide +kernel
theorem dL_refused_1125 : decode cL_refused 1125 = .ok (.aload_n 0, 1) := by decide +kernel
theorem dL_refused_1126 : decode cL_refused 1126 = .ok (.bipush 6, 2) := by decide +kernel
theorem dL_refused_1128 : decode cL_refused 1128 = .ok (.invokestatic 196, 3) := by decide +kernel
theorem dL_refused_1131 : decode cL_refused 1131 = .ok (.sipush (-1001), 3) := by decide +kernel
theorem dL_refused_1134 : decode cL_refused 1134 = .ok (.if_icmp .ne 96, 3) := by decide +kernel
theorem dL_refused_1137 : decode cL_refused 1137 = .ok (.aload_n 0, 1) := by decide +kernel
theorem dL_refused_1138 : decode cL_refused 1138 = .ok (.iconst (-1), 1) := by decide +kernel
theorem dL_refused_1139 : decode cL_refused 1139 = .ok (.invokestatic 196, 3) := by decide +kernel
theorem dL_refused_1142 : decode cL_refused 1142 = .ok (.sipush (-1001), 3) := by decide +kernel
theorem dL_refused_1145 : decode cL_refused 1145 = .ok (.if_icmp .ne 85, 3) := by decide +kernel
theorem dL_refused_1148 : decode cL_refused 1148 = .ok (.aload_n 0, 1) := by decide +kernel
theorem dL_refused_1149 : decode cL_refused 1149 = .ok (.iload_n 3, 1) := by decide +kernel
theorem dL_refused_1150 : decode cL_refused 1150 = .ok (.invokestatic 212, 3) := by decide +kernel
theorem dL_refused_1153 : decode cL_refused 1153 = .ok (.sipush (-1001), 3) := by decide +kernel
theorem dL_refused_1156 : decode cL_refused 1156 = .ok (.if_icmp .ne 74, 3) := by decide +kernel
theorem dL_refused_1159 : decode cL_refused 1159 = .ok (.aload_n 0, 1) := by decide +kernel
theorem dL_refused_1160 : decode cL_refused 1160 = .ok (.iconst (-1), 1) := by decide +kernel
theorem dL_refused_1161 : decode cL_refused 1161 = .ok (.invokestatic 148, 3) := by decide +kernel
theorem dL_refused_1164 : decode cL_refused 1164 = .ok (.sipush (-1001), 3) := by decide +kernel
theorem dL_refused_1167 : decode cL_refused 1167 = .ok (.if_icmp .ne 63, 3) := by decide +kernel
theorem dL_refused_1170 : decode cL_refused 1170 = .ok (.aload_n 0, 1) := by decide +kernel
theorem dL_refused_1171 : decode cL_refused 1171 = .ok (.bipush 60, 2) := by decide +kernel
theorem dL_refused_1173 : decode cL_refused 1173 = .ok (.invokestatic 148, 3) := by decide +kernel
theorem dL_refused_1176 : decode cL_refused 1176 = .ok (.sipush (-1001), 3) := by decide +kernel
theorem dL_refused_1179 : decode cL_refused 1179 = .ok (.if_icmp .ne 51, 3) := by decide +kernel
theorem dL_refused_1182 : decode cL_refused 1182 = .ok (.aload_n 0, 1) := by decide +kernel
theorem dL_refused_1183 : decode cL_refused 1183 = .ok (.bipush 11, 2) := by decide +kernel
theorem dL_refused_1185 : decode cL_refused 1185 = .ok (.invokestatic 194, 3) := by decide +kernel
theorem dL_refused_1188 : decode cL_refused 1188 = .ok (.sipush (-1001), 3) := by decide +kernel
theorem dL_refused_1191 : decode cL_refused 1191 = .ok (.if_icmp .ne 39, 3) := by decide +kernel
theorem dL_refused_1194 : decode cL_refused 1194 = .ok (.aload_n 0, 1) := by decide +kernel
theorem dL_refused_1195 : decode cL_refused 1195 = .ok (.iconst (-1), 1) := by decide +kernel
theorem dL_refused_1196 : decode cL_refused 1196 = .ok (.invokestatic 194, 3) := by decide +kernel
theorem dL_refused_1199 : decode cL_refused 1199 = .ok (.sipush (-1001), 3) := by decide +kernel
theorem dL_refused_1202 : decode cL_refused 1202 = .ok (.if_icmp .ne 28, 3) := by decide +kernel
theorem dL_refused_1205 : decode cL_refused 1205 = .ok (.aload_n 0, 1) := by decide +kernel
theorem dL_refused_1206 : decode cL_refused 1206 = .ok (.iconst 3, 1) := by decide +kernel
theorem dL_refused_1207 : decode cL_refused 1207 = .ok (.invokestatic 145, 3) := by decide +kernel
theorem dL_refused_1210 : decode cL_refused 1210 = .ok (.sipush (-1001), 3) := by decide +kernel
theorem dL_refused_1213 : decode cL_refused 1213 = .ok (.if_icmp .ne 17, 3) := by decide +kernel
theorem dL_refused_1216 : decode cL_refused 1216 = .ok (.aload_n 0, 1) := by decide +kernel
theorem dL_refused_1217 : decode cL_refused 1217 = .ok (.bipush 6, 2) := by decide +kernel
theorem dL_refused_1219 : decode cL_refused 1219 = .ok (.iconst 1, 1) := by decide +kernel
theorem dL_refused_1220 : decode cL_refused 1220 = .ok (.invokestatic 168, 3) := by decide +kernel
theorem dL_refused_1223 : decode cL_refused 1223 = .ok (.ifCond .eq 7, 3) := by decide +kernel
theorem dL_refused_1226 : decode cL_refused 1226 = .ok (.iconst 1, 1) := by decide +kernel
theorem dL_refused_1227 : decode cL_refused 1227 = .ok (.goto 4, 3) := by decide +kernel
theorem dL_refused_1230 : decode cL_refused 1230 = .ok (.iconst 0, 1) := by decide +kernel
theorem dL_refused_1231 : decode cL_refused 1231 = .ok (.istore 5, 2) := by decide +kernel
theorem dL_refused_1233 : decode cL_refused 1233 = .ok (.iload 5, 2) := by decide +kernel
theorem dL_refused_1235 : decode cL_refused 1235 = .ok (.ifCond .eq 91, 3) := by decide +kernel
theorem dL_refused_1238 : decode cL_refused 1238 = .ok (.aload_n 0, 1) := by decide +kernel
theorem dL_refused_1239 : decode cL_refused 1239 = .ok (.ldc_w 271, 3) := by decide +kernel
theorem dL_refused_1242 : decode cL_refused 1242 = .ok (.invokestatic 261, 3) := by decide +kernel
theorem dL_refused_1245 : decode cL_refused 1245 = .ok (.sipush (-1001), 3) := by decide +kernel
theorem dL_refused_1248 : decode cL_refused 1248 = .ok (.if_icmp .ne 78, 3) := by decide +kernel
theorem dL_refused_1251 : decode cL_refused 1251 = .ok (.aload_n 0, 1) := by decide +kernel
theorem dL_refused_1252 : decode cL_refused 1252 = .ok (.invokevirtual 273, 3) := by decide +kernel
theorem dL_refused_1255 : decode cL_refused 1255 = .ok (.ifCond .ne 71, 3) := by decide +kernel
theorem dL_refused_1258 : decode cL_refused 1258 = .ok (.aload_n 0, 1) := by decide +kernel
theorem dL_refused_1259 : decode cL_refused 1259 = .ok (.ldc_w 276, 3) := by decide +kernel
theorem dL_refused_1262 : decode cL_refused 1262 = .ok (.invokestatic 261, 3) := by decide +kernel
theorem dL_refused_1265 : decode cL_refused 1265 = .ok (.sipush (-1002), 3) := by decide +kernel
theorem dL_refused_1268 : decode cL_refused 1268 = .ok (.if_icmp .ne 58, 3) := by decide +kernel
theorem dL_refused_1271 : decode cL_refused 1271 = .ok (.aload_n 0, 1) := by decide +kernel
theorem dL_refused_1272 : decode cL_refused 1272 = .ok (.iconst 2, 1) := by decide +kernel
theorem dL_refused_1273 : decode cL_refused 1273 = .ok (.iconst 4, 1) := by decide +kernel
theorem dL_refused_1274 : decode cL_refused 1274 = .ok (.iload_n 3, 1) := by decide +kernel
theorem dL_refused_1275 : decode cL_refused 1275 = .ok (.invokestatic 141, 3) := by decide +kernel
theorem dL_refused_1278 : decode cL_refused 1278 = .ok (.ifCond .eq 48, 3) := by decide +kernel
theorem dL_refused_1281 : decode cL_refused 1281 = .ok (.aload_n 0, 1) := by decide +kernel
theorem dL_refused_1282 : decode cL_refused 1282 = .ok (.ldc_w 278, 3) := by decide +kernel
theorem dL_refused_1285 : decode cL_refused 1285 = .ok (.invokestatic 261, 3) := by decide +kernel
theorem dL_refused_1288 : decode cL_refused 1288 = .ok (.sipush (-1002), 3) := by decide +kernel
theorem dL_refused_1291 : decode cL_refused 1291 = .ok (.if_icmp .ne 35, 3) := by decide +kernel
theorem dL_refused_1294 : decode cL_refused 1294 = .ok (.aload_n 0, 1) := by decide +kernel
theorem dL_refused_1295 : decode cL_refused 1295 = .ok (.iconst 1, 1) := by decide +kernel
theorem dL_refused_1296 : decode cL_refused 1296 = .ok (.bipush 6, 2) := by decide +kernel
theorem dL_refused_1298 : decode cL_refused 1298 = .ok (.iconst 1, 1) := by decide +kernel
theorem dL_refused_1299 : decode cL_refused 1299 = .ok (.invokestatic 141, 3) := by decide +kernel
theorem dL_refused_1302 : decode cL_refused 1302 = .ok (.ifCond .eq 24, 3) := by decide +kernel
theorem dL_refused_1305 : decode cL_refused 1305 = .ok (.aload_n 0, 1) := by decide +kernel
theorem dL_refused_1306 : decode cL_refused 1306 = .ok (.invokevirtual 273, 3) := by decide +kernel
theorem dL_refused_1309 : decode cL_refused 1309 = .ok (.iconst (-1), 1) := by decide +kernel
theorem dL_refused_1310 : decode cL_refused 1310 = .ok (.if_icmp .ne 16, 3) := by decide +kernel
theorem dL_refused_1313 : decode cL_refused 1313 = .ok (.aload_n 0, 1) := by decide +kernel
theorem dL_refused_1314 : decode cL_refused 1314 = .ok (.invokestatic 265, 3) := by decide +kernel
theorem dL_refused_1317 : decode cL_refused 1317 = .ok (.lload_n 1, 1) := by decide +kernel
theorem dL_refused_1318 : decode cL_refused 1318 = .ok (.lcmp, 1) := by decide +kernel
theorem dL_refused_1319 : decode cL_refused 1319 = .ok (.ifCond .ne 7, 3) := by decide +kernel
theorem dL_refused_1322 : decode cL_refused 1322 = .ok (.iconst 1, 1) := by decide +kernel
theorem dL_refused_1323 : decode cL_refused 1323 = .ok (.goto 4, 3) := by decide +kernel
theorem dL_refused_1326 : decode cL_refused 1326 = .ok (.iconst 0, 1) := by decide +kernel
theorem dL_refused_1327 : decode cL_refused 1327 = .ok (.ireturn, 1) := by decide +kernel
