theorem dX0_init_0 : decode cX0_init 0 = .ok (.aload_n 0, 1) := by decide +kernel
theorem dX0_init_1 : decode cX0_init 1 = .ok (.invokespecial 5, 3) := by decide +kernel
theorem dX0_init_4 : decode cX0_init 4 = .ok (.aload_n 0, 1) := by decide +kernel
theorem dX0_init_5 : decode cX0_init 5 = .ok (.bipush 55, 2) := by decide +kernel
theorem dX0_init_7 : decode cX0_init 7 = .ok (.newarray .int, 2) := by decide +kernel
theorem dX0_init_9 : decode cX0_init 9 = .ok (.putfield 11, 3) := by decide +kernel
theorem dX0_init_12 : decode cX0_init 12 = .ok (.aload_n 0, 1) := by decide +kernel
theorem dX0_init_13 : decode cX0_init 13 = .ok (.getfield 11, 3) := by decide +kernel
theorem dX0_init_16 : decode cX0_init 16 = .ok (.iconst 1, 1) := by decide +kernel
theorem dX0_init_17 : decode cX0_init 17 = .ok (.sipush 1000, 3) := by decide +kernel
theorem dX0_init_20 : decode cX0_init 20 = .ok (.iastore, 1) := by decide +kernel
theorem dX0_init_21 : decode cX0_init 21 = .ok (.return_, 1) := by decide +kernel
theorem dX0_get_0 : decode cX0_get 0 = .ok (.iload_n 1, 1) := by decide +kernel
theorem dX0_get_1 : decode cX0_get 1 = .ok (.ifCond .lt 18, 3) := by decide +kernel
theorem dX0_get_4 : decode cX0_get 4 = .ok (.iload_n 1, 1) := by decide +kernel
theorem dX0_get_5 : decode cX0_get 5 = .ok (.bipush 13, 2) := by decide +kernel
theorem dX0_get_7 : decode cX0_get 7 = .ok (.if_icmp .ge 12, 3) := by decide +kernel
theorem dX0_get_10 : decode cX0_get 10 = .ok (.aload_n 0, 1) := by decide +kernel
theorem dX0_get_11 : decode cX0_get 11 = .ok (.getfield 11, 3) := by decide +kernel
theorem dX0_get_14 : decode cX0_get 14 = .ok (.iload_n 1, 1) := by decide +kernel
theorem dX0_get_15 : decode cX0_get 15 = .ok (.iaload, 1) := by decide +kernel
theorem dX0_get_16 : decode cX0_get 16 = .ok (.goto 4, 3) := by decide +kernel
theorem dX0_get_19 : decode cX0_get 19 = .ok (.iconst 0, 1) := by decide +kernel
theorem dX0_get_20 : decode cX0_get 20 = .ok (.ireturn, 1) := by decide +kernel
theorem dX0_set_0 : decode cX0_set 0 = .ok (.iload_n 1, 1) := by decide +kernel
theorem dX0_set_1 : decode cX0_set 1 = .ok (.ifCond .lt 16, 3) := by decide +kernel
theorem dX0_set_4 : decode cX0_set 4 = .ok (.iload_n 1, 1) := by decide +kernel
theorem dX0_set_5 : decode cX0_set 5 = .ok (.bipush 13, 2) := by decide +kernel
theorem dX0_set_7 : decode cX0_set 7 = .ok (.if_icmp .ge 10, 3) := by decide +kernel
theorem dX0_set_10 : decode cX0_set 10 = .ok (.aload_n 0, 1) := by decide +kernel
theorem dX0_set_11 : decode cX0_set 11 = .ok (.getfield 11, 3) := by decide +kernel
theorem dX0_set_14 : decode cX0_set 14 = .ok (.iload_n 1, 1) := by decide +kernel
theorem dX0_set_15 : decode cX0_set 15 = .ok (.iload_n 2, 1) := by decide +kernel
theorem dX0_set_16 : decode cX0_set 16 = .ok (.iastore, 1) := by decide +kernel
theorem dX0_set_17 : decode cX0_set 17 = .ok (.return_, 1) := by decide +kernel
set_option maxRecDepth 20000 in
theorem ggX0_add_X0_get : GoodIn wsX0_add wsX0_get := goodIn_ca (goodIn_r _ [5, 6, 11] rfl (by decide +kernel)) (goodIn_sub (fun _ h => List.mem_cons_of_mem _ (List.mem_append_right _ h)) (by decide +kernel))
set_option maxRecDepth 20000 in
theorem gX0_add_X0_get : GoodIn wsX0_add (wsV RX0 15 RX0 yX0_get wsX0_get) := goodIn_app (goodIn_r _ [1, 2, 3, 4] rfl (by decide +kernel)) ggX0_add_X0_get
set_option maxRecDepth 20000 in
theorem ggX0_add_X0_set : GoodIn wsX0_add wsX0_set := goodIn_ca (goodIn_r _ [10, 6, 11] rfl (by decide +kernel)) (goodIn_sub (fun _ h => List.mem_cons_of_mem _ (List.mem_append_right _ h)) (by decide +kernel))
set_option maxRecDepth 20000 in
theorem gX0_add_X0_set : GoodIn wsX0_add (wsV RX0 19 RX0 yX0_set wsX0_set) := goodIn_app (goodIn_r _ [7, 8, 9, 4] rfl (by decide +kernel)) ggX0_add_X0_set
theorem dX0_add_0 : decode cX0_add 0 = .ok (.aload_n 0, 1) := by decide +kernel
theorem dX0_add_1 : decode cX0_add 1 = .ok (.iload_n 1, 1) := by decide +kernel
theorem dX0_add_2 : decode cX0_add 2 = .ok (.aload_n 0, 1) := by decide +kernel
theorem dX0_add_3 : decode cX0_add 3 = .ok (.iload_n 1, 1) := by decide +kernel
theorem dX0_add_4 : decode cX0_add 4 = .ok (.invokevirtual 15, 3) := by decide +kernel
theorem dX0_add_7 : decode cX0_add 7 = .ok (.iload_n 2, 1) := by decide +kernel
theorem dX0_add_8 : decode cX0_add 8 = .ok (.iadd, 1) := by decide +kernel
theorem dX0_add_9 : decode cX0_add 9 = .ok (.invokevirtual 19, 3) := by decide +kernel
theorem dX0_add_12 : decode cX0_add 12 = .ok (.return_, 1) := by decide +kernel
theorem dX0_of_0 : decode cX0_of 0 = .ok (.iload_n 1, 1) := by decide +kernel
theorem dX0_of_1 : decode cX0_of 1 = .ok (.ifCond .lt 23, 3) := by decide +kernel
theorem dX0_of_4 : decode cX0_of 4 = .ok (.iload_n 1, 1) := by decide +kernel
theorem dX0_of_5 : decode cX0_of 5 = .ok (.bipush 6, 2) := by decide +kernel
theorem dX0_of_7 : decode cX0_of 7 = .ok (.if_icmp .ge 17, 3) := by decide +kernel
theorem dX0_of_10 : decode cX0_of 10 = .ok (.iload_n 2, 1) := by decide +kernel
theorem dX0_of_11 : decode cX0_of 11 = .ok (.ifCond .lt 13, 3) := by decide +kernel
theorem dX0_of_14 : decode cX0_of 14 = .ok (.iload_n 2, 1) := by decide +kernel
theorem dX0_of_15 : decode cX0_of 15 = .ok (.bipush 7, 2) := by decide +kernel
theorem dX0_of_17 : decode cX0_of 17 = .ok (.if_icmp .ge 7, 3) := by decide +kernel
theorem dX0_of_20 : decode cX0_of 20 = .ok (.iconst 1, 1) := by decide +kernel
theorem dX0_of_21 : decode cX0_of 21 = .ok (.goto 4, 3) := by decide +kernel
theorem dX0_of_24 : decode cX0_of 24 = .ok (.iconst 0, 1) := by decide +kernel
theorem dX0_of_25 : decode cX0_of 25 = .ok (.istore_n 3, 1) := by decide +kernel
theorem dX0_of_26 : decode cX0_of 26 = .ok (.iload_n 3, 1) := by decide +kernel
theorem dX0_of_27 : decode cX0_of 27 = .ok (.ifCond .eq 20, 3) := by decide +kernel
theorem dX0_of_30 : decode cX0_of 30 = .ok (.aload_n 0, 1) := by decide +kernel
theorem dX0_of_31 : decode cX0_of 31 = .ok (.getfield 11, 3) := by decide +kernel
theorem dX0_of_34 : decode cX0_of 34 = .ok (.bipush 13, 2) := by decide +kernel
theorem dX0_of_36 : decode cX0_of 36 = .ok (.iload_n 1, 1) := by decide +kernel
theorem dX0_of_37 : decode cX0_of 37 = .ok (.bipush 7, 2) := by decide +kernel
theorem dX0_of_39 : decode cX0_of 39 = .ok (.imul, 1) := by decide +kernel
theorem dX0_of_40 : decode cX0_of 40 = .ok (.iadd, 1) := by decide +kernel
theorem dX0_of_41 : decode cX0_of 41 = .ok (.iload_n 2, 1) := by decide +kernel
theorem dX0_of_42 : decode cX0_of 42 = .ok (.iadd, 1) := by decide +kernel
theorem dX0_of_43 : decode cX0_of 43 = .ok (.iaload, 1) := by decide +kernel
theorem dX0_of_44 : decode cX0_of 44 = .ok (.goto 4, 3) := by decide +kernel
theorem dX0_of_47 : decode cX0_of 47 = .ok (.iconst 0, 1) := by decide +kernel
theorem dX0_of_48 : decode cX0_of 48 = .ok (.ireturn, 1) := by decide +kernel
theorem dX0_setOf_0 : decode cX0_setOf 0 = .ok (.iload_n 1, 1) := by decide +kernel
theorem dX0_setOf_1 : decode cX0_setOf 1 = .ok (.ifCond .lt 34, 3) := by decide +kernel
theorem dX0_setOf_4 : decode cX0_setOf 4 = .ok (.iload_n 1, 1) := by decide +kernel
theorem dX0_setOf_5 : decode cX0_setOf 5 = .ok (.bipush 6, 2) := by decide +kernel
theorem dX0_setOf_7 : decode cX0_setOf 7 = .ok (.if_icmp .ge 28, 3) := by decide +kernel
theorem dX0_setOf_10 : decode cX0_setOf 10 = .ok (.iload_n 2, 1) := by decide +kernel
theorem dX0_setOf_11 : decode cX0_setOf 11 = .ok (.ifCond .lt 24, 3) := by decide +kernel
theorem dX0_setOf_14 : decode cX0_setOf 14 = .ok (.iload_n 2, 1) := by decide +kernel
theorem dX0_setOf_15 : decode cX0_setOf 15 = .ok (.bipush 7, 2) := by decide +kernel
theorem dX0_setOf_17 : decode cX0_setOf 17 = .ok (.if_icmp .ge 18, 3) := by decide +kernel
theorem dX0_setOf_20 : decode cX0_setOf 20 = .ok (.aload_n 0, 1) := by decide +kernel
theorem dX0_setOf_21 : decode cX0_setOf 21 = .ok (.getfield 11, 3) := by decide +kernel
theorem dX0_setOf_24 : decode cX0_setOf 24 = .ok (.bipush 13, 2) := by decide +kernel
theorem dX0_setOf_26 : decode cX0_setOf 26 = .ok (.iload_n 1, 1) := by decide +kernel
theorem dX0_setOf_27 : decode cX0_setOf 27 = .ok (.bipush 7, 2) := by decide +kernel
theorem dX0_setOf_29 : decode cX0_setOf 29 = .ok (.imul, 1) := by decide +kernel
theorem dX0_setOf_30 : decode cX0_setOf 30 = .ok (.iadd, 1) := by decide +kernel
theorem dX0_setOf_31 : decode cX0_setOf 31 = .ok (.iload_n 2, 1) := by decide +kernel
theorem dX0_setOf_32 : decode cX0_setOf 32 = .ok (.iadd, 1) := by decide +kernel
theorem dX0_setOf_33 : decode cX0_setOf 33 = .ok (.iload_n 3, 1) := by decide +kernel
theorem dX0_setOf_34 : decode cX0_setOf 34 = .ok (.iastore, 1) := by decide +kernel
theorem dX0_setOf_35 : decode cX0_setOf 35 = .ok (.return_, 1) := by decide +kernel
set_option maxRecDepth 20000 in
theorem ggX0_addOf_X0_of : GoodIn wsX0_addOf wsX0_of := goodIn_ca (goodIn_r _ [5, 6, 11] rfl (by decide +kernel)) (goodIn_sub (fun _ h => List.mem_cons_of_mem _ (List.mem_append_right _ h)) (by decide +kernel))
set_option maxRecDepth 20000 in
theorem gX0_addOf_X0_of : GoodIn wsX0_addOf (wsV RX0 23 RX0 yX0_of wsX0_of) := goodIn_app (goodIn_r _ [1, 2, 3, 4] rfl (by decide +kernel)) ggX0_addOf_X0_of
set_option maxRecDepth 20000 in
theorem ggX0_addOf_X0_setOf : GoodIn wsX0_addOf wsX0_setOf := goodIn_ca (goodIn_r _ [10, 6, 11] rfl (by decide +kernel)) (goodIn_sub (fun _ h => List.mem_cons_of_mem _ (List.mem_append_right _ h)) (by decide +kernel))
set_option maxRecDepth 20000 in
theorem gX0_addOf_X0_setOf : GoodIn wsX0_addOf (wsV RX0 27 RX0 yX0_setOf wsX0_setOf) := goodIn_app (goodIn_r _ [7, 8, 9, 4] rfl (by decide +kernel)) ggX0_addOf_X0_setOf
theorem dX0_addOf_0 : decode cX0_addOf 0 = .ok (.aload_n 0, 1) := by decide +kernel
theorem dX0_addOf_1 : decode cX0_addOf 1 = .ok (.iload_n 1, 1) := by decide +kernel
theorem dX0_addOf_2 : decode cX0_addOf 2 = .ok (.iload_n 2, 1) := by decide +kernel
theorem dX0_addOf_3 : decode cX0_addOf 3 = .ok (.aload_n 0, 1) := by decide +kernel
theorem dX0_addOf_4 : decode cX0_addOf 4 = .ok (.iload_n 1, 1) := by decide +kernel
theorem dX0_addOf_5 : decode cX0_addOf 5 = .ok (.iload_n 2, 1) := by decide +kernel
theorem dX0_addOf_6 : decode cX0_addOf 6 = .ok (.invokevirtual 23, 3) := by decide +kernel
theorem dX0_addOf_9 : decode cX0_addOf 9 = .ok (.iload_n 3, 1) := by decide +kernel
theorem dX0_addOf_10 : decode cX0_addOf 10 = .ok (.iadd, 1) := by decide +kernel
theorem dX0_addOf_11 : decode cX0_addOf 11 = .ok (.invokevirtual 27, 3) := by decide +kernel
theorem dX0_addOf_14 : decode cX0_addOf 14 = .ok (.return_, 1) := by decide +kernel
theorem dX0_copyTo_0 : decode cX0_copyTo 0 = .ok (.iload_n 2, 1) := by decide +kernel
theorem dX0_copyTo_1 : decode cX0_copyTo 1 = .ok (.ifCond .lt 24, 3) := by decide +kernel
theorem dX0_copyTo_4 : decode cX0_copyTo 4 = .ok (.iload_n 2, 1) := by decide +kernel
theorem dX0_copyTo_5 : decode cX0_copyTo 5 = .ok (.aload_n 1, 1) := by decide +kernel
theorem dX0_copyTo_6 : decode cX0_copyTo 6 = .ok (.arraylength, 1) := by decide +kernel
theorem dX0_copyTo_7 : decode cX0_copyTo 7 = .ok (.bipush 55, 2) := by decide +kernel
theorem dX0_copyTo_9 : decode cX0_copyTo 9 = .ok (.isub, 1) := by decide +kernel
theorem dX0_copyTo_10 : decode cX0_copyTo 10 = .ok (.if_icmp .gt 15, 3) := by decide +kernel
theorem dX0_copyTo_13 : decode cX0_copyTo 13 = .ok (.aload_n 0, 1) := by decide +kernel
theorem dX0_copyTo_14 : decode cX0_copyTo 14 = .ok (.getfield 11, 3) := by decide +kernel
theorem dX0_copyTo_17 : decode cX0_copyTo 17 = .ok (.iconst 0, 1) := by decide +kernel
theorem dX0_copyTo_18 : decode cX0_copyTo 18 = .ok (.aload_n 1, 1) := by decide +kernel
theorem dX0_copyTo_19 : decode cX0_copyTo 19 = .ok (.iload_n 2, 1) := by decide +kernel
theorem dX0_copyTo_20 : decode cX0_copyTo 20 = .ok (.bipush 55, 2) := by decide +kernel
theorem dX0_copyTo_22 : decode cX0_copyTo 22 = .ok (.invokestatic 31, 3) := by decide +kernel
theorem dX0_copyTo_25 : decode cX0_copyTo 25 = .ok (.return_, 1) := by decide +kernel
theorem dX0_copyFrom_0 : decode cX0_copyFrom 0 = .ok (.iload_n 2, 1) := by decide +kernel
theorem dX0_copyFrom_1 : decode cX0_copyFrom 1 = .ok (.ifCond .lt 24, 3) := by decide +kernel
theorem dX0_copyFrom_4 : decode cX0_copyFrom 4 = .ok (.iload_n 2, 1) := by decide +kernel
theorem dX0_copyFrom_5 : decode cX0_copyFrom 5 = .ok (.aload_n 1, 1) := by decide +kernel
theorem dX0_copyFrom_6 : decode cX0_copyFrom 6 = .ok (.arraylength, 1) := by decide +kernel
theorem dX0_copyFrom_7 : decode cX0_copyFrom 7 = .ok (.bipush 55, 2) := by decide +kernel
theorem dX0_copyFrom_9 : decode cX0_copyFrom 9 = .ok (.isub, 1) := by decide +kernel
theorem dX0_copyFrom_10 : decode cX0_copyFrom 10 = .ok (.if_icmp .gt 15, 3) := by decide +kernel
theorem dX0_copyFrom_13 : decode cX0_copyFrom 13 = .ok (.aload_n 1, 1) := by decide +kernel
theorem dX0_copyFrom_14 : decode cX0_copyFrom 14 = .ok (.iload_n 2, 1) := by decide +kernel
theorem dX0_copyFrom_15 : decode cX0_copyFrom 15 = .ok (.aload_n 0, 1) := by decide +kernel
theorem dX0_copyFrom_16 : decode cX0_copyFrom 16 = .ok (.getfield 11, 3) := by decide +kernel
theorem dX0_copyFrom_19 : decode cX0_copyFrom 19 = .ok (.iconst 0, 1) := by decide +kernel
theorem dX0_copyFrom_20 : decode cX0_copyFrom 20 = .ok (.bipush 55, 2) := by decide +kernel
theorem dX0_copyFrom_22 : decode cX0_copyFrom 22 = .ok (.invokestatic 31, 3) := by decide +kernel
theorem dX0_copyFrom_25 : decode cX0_copyFrom 25 = .ok (.return_, 1) := by decide +kernel
theorem dX0_isMember_0 : decode cX0_isMember 0 = .ok (.iload_n 1, 1) := by decide +kernel
theorem dX0_isMember_1 : decode cX0_isMember 1 = .ok (.ifCond .lt 17, 3) := by decide +kernel
theorem dX0_isMember_4 : decode cX0_isMember 4 = .ok (.iload_n 1, 1) := by decide +kernel
theorem dX0_isMember_5 : decode cX0_isMember 5 = .ok (.aload_n 0, 1) := by decide +kernel
theorem dX0_isMember_6 : decode cX0_isMember 6 = .ok (.getfield 11, 3) := by decide +kernel
theorem dX0_isMember_9 : decode cX0_isMember 9 = .ok (.iconst 0, 1) := by decide +kernel
theorem dX0_isMember_10 : decode cX0_isMember 10 = .ok (.iaload, 1) := by decide +kernel
theorem dX0_isMember_11 : decode cX0_isMember 11 = .ok (.if_icmp .ge 7, 3) := by decide +kernel
theorem dX0_isMember_14 : decode cX0_isMember 14 = .ok (.iconst 1, 1) := by decide +kernel
theorem dX0_isMember_15 : decode cX0_isMember 15 = .ok (.goto 4, 3) := by decide +kernel
theorem dX0_isMember_18 : decode cX0_isMember 18 = .ok (.iconst 0, 1) := by decide +kernel
theorem dX0_isMember_19 : decode cX0_isMember 19 = .ok (.ireturn, 1) := by decide +kernel
set_option maxRecDepth 20000 in
theorem ggX0_hasWagered_X0_of : GoodIn wsX0_hasWagered wsX0_of := goodIn_ca (goodIn_r _ [5, 6, 7] rfl (by decide +kernel)) (goodIn_sub (fun _ h => List.mem_cons_of_mem _ (List.mem_append_right _ h)) (by decide +kernel))
set_option maxRecDepth 20000 in
theorem gX0_hasWagered_X0_of : GoodIn wsX0_hasWagered (wsV RX0 23 RX0 yX0_of wsX0_of) := goodIn_app (goodIn_r _ [1, 2, 3, 4] rfl (by decide +kernel)) ggX0_hasWagered_X0_of
theorem dX0_hasWagered_0 : decode cX0_hasWagered 0 = .ok (.aload_n 0, 1) := by decide +kernel
theorem dX0_hasWagered_1 : decode cX0_hasWagered 1 = .ok (.iload_n 1, 1) := by decide +kernel
theorem dX0_hasWagered_2 : decode cX0_hasWagered 2 = .ok (.iconst 2, 1) := by decide +kernel
theorem dX0_hasWagered_3 : decode cX0_hasWagered 3 = .ok (.invokevirtual 23, 3) := by decide +kernel
theorem dX0_hasWagered_6 : decode cX0_hasWagered 6 = .ok (.iconst (-1), 1) := by decide +kernel
theorem dX0_hasWagered_7 : decode cX0_hasWagered 7 = .ok (.if_icmp .eq 7, 3) := by decide +kernel
theorem dX0_hasWagered_10 : decode cX0_hasWagered 10 = .ok (.iconst 1, 1) := by decide +kernel
theorem dX0_hasWagered_11 : decode cX0_hasWagered 11 = .ok (.goto 4, 3) := by decide +kernel
theorem dX0_hasWagered_14 : decode cX0_hasWagered 14 = .ok (.iconst 0, 1) := by decide +kernel
theorem dX0_hasWagered_15 : decode cX0_hasWagered 15 = .ok (.ireturn, 1) := by decide +kernel
set_option maxRecDepth 20000 in
theorem ggX0_hasTapped_X0_of : GoodIn wsX0_hasTapped wsX0_of := goodIn_ca (goodIn_r _ [5, 6, 7] rfl (by decide +kernel)) (goodIn_sub (fun _ h => List.mem_cons_of_mem _ (List.mem_append_right _ h)) (by decide +kernel))
set_option maxRecDepth 20000 in
theorem gX0_hasTapped_X0_of : GoodIn wsX0_hasTapped (wsV RX0 23 RX0 yX0_of wsX0_of) := goodIn_app (goodIn_r _ [1, 2, 3, 4] rfl (by decide +kernel)) ggX0_hasTapped_X0_of
theorem dX0_hasTapped_0 : decode cX0_hasTapped 0 = .ok (.aload_n 0, 1) := by decide +kernel
theorem dX0_hasTapped_1 : decode cX0_hasTapped 1 = .ok (.iload_n 1, 1) := by decide +kernel
theorem dX0_hasTapped_2 : decode cX0_hasTapped 2 = .ok (.iconst 4, 1) := by decide +kernel
theorem dX0_hasTapped_3 : decode cX0_hasTapped 3 = .ok (.invokevirtual 23, 3) := by decide +kernel
theorem dX0_hasTapped_6 : decode cX0_hasTapped 6 = .ok (.iconst 1, 1) := by decide +kernel
theorem dX0_hasTapped_7 : decode cX0_hasTapped 7 = .ok (.if_icmp .ne 7, 3) := by decide +kernel
theorem dX0_hasTapped_10 : decode cX0_hasTapped 10 = .ok (.iconst 1, 1) := by decide +kernel
theorem dX0_hasTapped_11 : decode cX0_hasTapped 11 = .ok (.goto 4, 3) := by decide +kernel
theorem dX0_hasTapped_14 : decode cX0_hasTapped 14 = .ok (.iconst 0, 1) := by decide +kernel
theorem dX0_hasTapped_15 : decode cX0_hasTapped 15 = .ok (.ireturn, 1) := by decide +kernel
set_option maxRecDepth 20000 in
theorem ggX0_ownerOf_X0_of : GoodIn wsX0_ownerOf wsX0_of := goodIn_ca (goodIn_r _ [6, 1, 7] rfl (by decide +kernel)) (goodIn_sub (fun _ h => List.mem_cons_of_mem _ (List.mem_append_right _ h)) (by decide +kernel))
set_option maxRecDepth 20000 in
theorem gX0_ownerOf_X0_of : GoodIn wsX0_ownerOf (wsV RX0 23 RX0 yX0_of wsX0_of) := goodIn_app (goodIn_r _ [2, 3, 4, 5] rfl (by decide +kernel)) ggX0_ownerOf_X0_of
theorem dX0_ownerOf_0 : decode cX0_ownerOf 0 = .ok (.iconst 0, 1) := by decide +kernel
theorem dX0_ownerOf_1 : decode cX0_ownerOf 1 = .ok (.istore_n 2, 1) := by decide +kernel
theorem dX0_ownerOf_2 : decode cX0_ownerOf 2 = .ok (.iload_n 2, 1) := by decide +kernel
theorem dX0_ownerOf_3 : decode cX0_ownerOf 3 = .ok (.aload_n 0, 1) := by decide +kernel
theorem dX0_ownerOf_4 : decode cX0_ownerOf 4 = .ok (.getfield 11, 3) := by decide +kernel
theorem dX0_ownerOf_7 : decode cX0_ownerOf 7 = .ok (.iconst 0, 1) := by decide +kernel
theorem dX0_ownerOf_8 : decode cX0_ownerOf 8 = .ok (.iaload, 1) := by decide +kernel
theorem dX0_ownerOf_9 : decode cX0_ownerOf 9 = .ok (.if_icmp .ge 21, 3) := by decide +kernel
theorem dX0_ownerOf_12 : decode cX0_ownerOf 12 = .ok (.aload_n 0, 1) := by decide +kernel
theorem dX0_ownerOf_13 : decode cX0_ownerOf 13 = .ok (.iload_n 2, 1) := by decide +kernel
theorem dX0_ownerOf_14 : decode cX0_ownerOf 14 = .ok (.iconst 1, 1) := by decide +kernel
theorem dX0_ownerOf_15 : decode cX0_ownerOf 15 = .ok (.invokevirtual 23, 3) := by decide +kernel
theorem dX0_ownerOf_18 : decode cX0_ownerOf 18 = .ok (.iload_n 1, 1) := by decide +kernel
theorem dX0_ownerOf_19 : decode cX0_ownerOf 19 = .ok (.if_icmp .ne 5, 3) := by decide +kernel
theorem dX0_ownerOf_22 : decode cX0_ownerOf 22 = .ok (.iload_n 2, 1) := by decide +kernel
theorem dX0_ownerOf_23 : decode cX0_ownerOf 23 = .ok (.ireturn, 1) := by decide +kernel
theorem dX0_ownerOf_24 : decode cX0_ownerOf 24 = .ok (.iinc 2 1, 3) := by decide +kernel
theorem dX0_ownerOf_27 : decode cX0_ownerOf 27 = .ok (.goto (-25), 3) := by decide +kernel
theorem dX0_ownerOf_30 : decode cX0_ownerOf 30 = .ok (.iconst (-1), 1) := by decide +kernel
theorem dX0_ownerOf_31 : decode cX0_ownerOf 31 = .ok (.ireturn, 1) := by decide +kernel
set_option maxRecDepth 20000 in
theorem ggX0_isFree_X7_isHeight : GoodIn wsX0_isFree wsX7_isHeight := goodIn_r _ [3] rfl (by decide +kernel)
set_option maxRecDepth 20000 in
theorem gX0_isFree_X7_isHeight_n37 : GoodIn wsX0_isFree (wsX7_isHeight) := ggX0_isFree_X7_isHeight
set_option maxRecDepth 20000 in
theorem ggX0_isFree_X0_ownerOf : GoodIn wsX0_isFree wsX0_ownerOf := goodIn_ca (goodIn_r _ [8, 9, 10, 11, 12, 7, 13, 14] rfl (by decide +kernel)) (goodIn_sub (fun _ h => List.mem_cons_of_mem _ (List.mem_append_right _ h)) (by decide +kernel))
set_option maxRecDepth 20000 in
theorem gX0_isFree_X0_ownerOf : GoodIn wsX0_isFree (wsV RX0 41 RX0 yX0_ownerOf wsX0_ownerOf) := goodIn_app (goodIn_r _ [4, 5, 6, 7] rfl (by decide +kernel)) ggX0_isFree_X0_ownerOf
theorem dX0_isFree_0 : decode cX0_isFree 0 = .ok (.iload_n 1, 1) := by decide +kernel
theorem dX0_isFree_1 : decode cX0_isFree 1 = .ok (.invokestatic 37, 3) := by decide +kernel
theorem dX0_isFree_4 : decode cX0_isFree 4 = .ok (.ifCond .eq 16, 3) := by decide +kernel
theorem dX0_isFree_7 : decode cX0_isFree 7 = .ok (.aload_n 0, 1) := by decide +kernel
theorem dX0_isFree_8 : decode cX0_isFree 8 = .ok (.iload_n 1, 1) := by decide +kernel
theorem dX0_isFree_9 : decode cX0_isFree 9 = .ok (.invokevirtual 41, 3) := by decide +kernel
theorem dX0_isFree_12 : decode cX0_isFree 12 = .ok (.iconst (-1), 1) := by decide +kernel
theorem dX0_isFree_13 : decode cX0_isFree 13 = .ok (.if_icmp .ne 7, 3) := by decide +kernel
theorem dX0_isFree_16 : decode cX0_isFree 16 = .ok (.iconst 1, 1) := by decide +kernel
theorem dX0_isFree_17 : decode cX0_isFree 17 = .ok (.goto 4, 3) := by decide +kernel
theorem dX0_isFree_20 : decode cX0_isFree 20 = .ok (.iconst 0, 1) := by decide +kernel
theorem dX0_isFree_21 : decode cX0_isFree 21 = .ok (.ireturn, 1) := by decide +kernel
set_option maxRecDepth 20000 in
theorem ggX0_coinsOfAll_X0_of : GoodIn wsX0_coinsOfAll wsX0_of := goodIn_ca (goodIn_r _ [6, 1, 7] rfl (by decide +kernel)) (goodIn_sub (fun _ h => List.mem_cons_of_mem _ (List.mem_append_right _ h)) (by decide +kernel))
set_option maxRecDepth 20000 in
theorem gX0_coinsOfAll_X0_of : GoodIn wsX0_coinsOfAll (wsV RX0 23 RX0 yX0_of wsX0_of) := goodIn_app (goodIn_r _ [2, 3, 4, 5] rfl (by decide +kernel)) ggX0_coinsOfAll_X0_of
theorem dX0_coinsOfAll_0 : decode cX0_coinsOfAll 0 = .ok (.iconst 0, 1) := by decide +kernel
theorem dX0_coinsOfAll_1 : decode cX0_coinsOfAll 1 = .ok (.istore_n 1, 1) := by decide +kernel
theorem dX0_coinsOfAll_2 : decode cX0_coinsOfAll 2 = .ok (.iconst 0, 1) := by decide +kernel
theorem dX0_coinsOfAll_3 : decode cX0_coinsOfAll 3 = .ok (.istore_n 2, 1) := by decide +kernel
theorem dX0_coinsOfAll_4 : decode cX0_coinsOfAll 4 = .ok (.iload_n 2, 1) := by decide +kernel
theorem dX0_coinsOfAll_5 : decode cX0_coinsOfAll 5 = .ok (.aload_n 0, 1) := by decide +kernel
theorem dX0_coinsOfAll_6 : decode cX0_coinsOfAll 6 = .ok (.getfield 11, 3) := by decide +kernel
theorem dX0_coinsOfAll_9 : decode cX0_coinsOfAll 9 = .ok (.iconst 0, 1) := by decide +kernel
theorem dX0_coinsOfAll_10 : decode cX0_coinsOfAll 10 = .ok (.iaload, 1) := by decide +kernel
theorem dX0_coinsOfAll_11 : decode cX0_coinsOfAll 11 = .ok (.if_icmp .ge 18, 3) := by decide +kernel
theorem dX0_coinsOfAll_14 : decode cX0_coinsOfAll 14 = .ok (.iload_n 1, 1) := by decide +kernel
theorem dX0_coinsOfAll_15 : decode cX0_coinsOfAll 15 = .ok (.aload_n 0, 1) := by decide +kernel
theorem dX0_coinsOfAll_16 : decode cX0_coinsOfAll 16 = .ok (.iload_n 2, 1) := by decide +kernel
theorem dX0_coinsOfAll_17 : decode cX0_coinsOfAll 17 = .ok (.iconst 0, 1) := by decide +kernel
theorem dX0_coinsOfAll_18 : decode cX0_coinsOfAll 18 = .ok (.invokevirtual 23, 3) := by decide +kernel
theorem dX0_coinsOfAll_21 : decode cX0_coinsOfAll 21 = .ok (.iadd, 1) := by decide +kernel
theorem dX0_coinsOfAll_22 : decode cX0_coinsOfAll 22 = .ok (.istore_n 1, 1) := by decide +kernel
theorem dX0_coinsOfAll_23 : decode cX0_coinsOfAll 23 = .ok (.iinc 2 1, 3) := by decide +kernel
theorem dX0_coinsOfAll_26 : decode cX0_coinsOfAll 26 = .ok (.goto (-22), 3) := by decide +kernel
theorem dX0_coinsOfAll_29 : decode cX0_coinsOfAll 29 = .ok (.iload_n 1, 1) := by decide +kernel
theorem dX0_coinsOfAll_30 : decode cX0_coinsOfAll 30 = .ok (.ireturn, 1) := by decide +kernel
set_option maxRecDepth 20000 in
theorem ggX0_wageredNumber_X0_hasWagered : GoodIn wsX0_wageredNumber wsX0_hasWagered := goodIn_ca (goodIn_r _ [6, 7, 8, 9, 5, 10, 1, 11] rfl (by decide +kernel)) (goodIn_sub (fun _ h => List.mem_cons_of_mem _ (List.mem_append_right _ h)) (by decide +kernel))
set_option maxRecDepth 20000 in
theorem gX0_wageredNumber_X0_hasWagered : GoodIn wsX0_wageredNumber (wsV RX0 44 RX0 yX0_hasWagered wsX0_hasWagered) := goodIn_app (goodIn_r _ [2, 3, 4, 5] rfl (by decide +kernel)) ggX0_wageredNumber_X0_hasWagered
theorem dX0_wageredNumber_0 : decode cX0_wageredNumber 0 = .ok (.iconst 0, 1) := by decide +kernel
theorem dX0_wageredNumber_1 : decode cX0_wageredNumber 1 = .ok (.istore_n 1, 1) := by decide +kernel
theorem dX0_wageredNumber_2 : decode cX0_wageredNumber 2 = .ok (.iconst 0, 1) := by decide +kernel
theorem dX0_wageredNumber_3 : decode cX0_wageredNumber 3 = .ok (.istore_n 2, 1) := by decide +kernel
theorem dX0_wageredNumber_4 : decode cX0_wageredNumber 4 = .ok (.iload_n 2, 1) := by decide +kernel
theorem dX0_wageredNumber_5 : decode cX0_wageredNumber 5 = .ok (.aload_n 0, 1) := by decide +kernel
theorem dX0_wageredNumber_6 : decode cX0_wageredNumber 6 = .ok (.getfield 11, 3) := by decide +kernel
theorem dX0_wageredNumber_9 : decode cX0_wageredNumber 9 = .ok (.iconst 0, 1) := by decide +kernel
theorem dX0_wageredNumber_10 : decode cX0_wageredNumber 10 = .ok (.iaload, 1) := by decide +kernel
theorem dX0_wageredNumber_11 : decode cX0_wageredNumber 11 = .ok (.if_icmp .ge 25, 3) := by decide +kernel
theorem dX0_wageredNumber_14 : decode cX0_wageredNumber 14 = .ok (.iload_n 1, 1) := by decide +kernel
theorem dX0_wageredNumber_15 : decode cX0_wageredNumber 15 = .ok (.aload_n 0, 1) := by decide +kernel
theorem dX0_wageredNumber_16 : decode cX0_wageredNumber 16 = .ok (.iload_n 2, 1) := by decide +kernel
theorem dX0_wageredNumber_17 : decode cX0_wageredNumber 17 = .ok (.invokevirtual 44, 3) := by decide +kernel
theorem dX0_wageredNumber_20 : decode cX0_wageredNumber 20 = .ok (.ifCond .eq 7, 3) := by decide +kernel
theorem dX0_wageredNumber_23 : decode cX0_wageredNumber 23 = .ok (.iconst 1, 1) := by decide +kernel
theorem dX0_wageredNumber_24 : decode cX0_wageredNumber 24 = .ok (.goto 4, 3) := by decide +kernel
theorem dX0_wageredNumber_27 : decode cX0_wageredNumber 27 = .ok (.iconst 0, 1) := by decide +kernel
theorem dX0_wageredNumber_28 : decode cX0_wageredNumber 28 = .ok (.iadd, 1) := by decide +kernel
theorem dX0_wageredNumber_29 : decode cX0_wageredNumber 29 = .ok (.istore_n 1, 1) := by decide +kernel
theorem dX0_wageredNumber_30 : decode cX0_wageredNumber 30 = .ok (.iinc 2 1, 3) := by decide +kernel
theorem dX0_wageredNumber_33 : decode cX0_wageredNumber 33 = .ok (.goto (-29), 3) := by decide +kernel
theorem dX0_wageredNumber_36 : decode cX0_wageredNumber 36 = .ok (.iload_n 1, 1) := by decide +kernel
theorem dX0_wageredNumber_37 : decode cX0_wageredNumber 37 = .ok (.ireturn, 1) := by decide +kernel
set_option maxRecDepth 20000 in
theorem ggX0_tappedNumber_X0_hasTapped : GoodIn wsX0_tappedNumber wsX0_hasTapped := goodIn_ca (goodIn_r _ [6, 7, 8, 9, 5, 10, 1, 11] rfl (by decide +kernel)) (goodIn_sub (fun _ h => List.mem_cons_of_mem _ (List.mem_append_right _ h)) (by decide +kernel))
set_option maxRecDepth 20000 in
theorem gX0_tappedNumber_X0_hasTapped : GoodIn wsX0_tappedNumber (wsV RX0 47 RX0 yX0_hasTapped wsX0_hasTapped) := goodIn_app (goodIn_r _ [2, 3, 4, 5] rfl (by decide +kernel)) ggX0_tappedNumber_X0_hasTapped
theorem dX0_tappedNumber_0 : decode cX0_tappedNumber 0 = .ok (.iconst 0, 1) := by decide +kernel
theorem dX0_tappedNumber_1 : decode cX0_tappedNumber 1 = .ok (.istore_n 1, 1) := by decide +kernel
theorem dX0_tappedNumber_2 : decode cX0_tappedNumber 2 = .ok (.iconst 0, 1) := by decide +kernel
theorem dX0_tappedNumber_3 : decode cX0_tappedNumber 3 = .ok (.istore_n 2, 1) := by decide +kernel
theorem dX0_tappedNumber_4 : decode cX0_tappedNumber 4 = .ok (.iload_n 2, 1) := by decide +kernel
theorem dX0_tappedNumber_5 : decode cX0_tappedNumber 5 = .ok (.aload_n 0, 1) := by decide +kernel
theorem dX0_tappedNumber_6 : decode cX0_tappedNumber 6 = .ok (.getfield 11, 3) := by decide +kernel
theorem dX0_tappedNumber_9 : decode cX0_tappedNumber 9 = .ok (.iconst 0, 1) := by decide +kernel
theorem dX0_tappedNumber_10 : decode cX0_tappedNumber 10 = .ok (.iaload, 1) := by decide +kernel
theorem dX0_tappedNumber_11 : decode cX0_tappedNumber 11 = .ok (.if_icmp .ge 25, 3) := by decide +kernel
theorem dX0_tappedNumber_14 : decode cX0_tappedNumber 14 = .ok (.iload_n 1, 1) := by decide +kernel
theorem dX0_tappedNumber_15 : decode cX0_tappedNumber 15 = .ok (.aload_n 0, 1) := by decide +kernel
theorem dX0_tappedNumber_16 : decode cX0_tappedNumber 16 = .ok (.iload_n 2, 1) := by decide +kernel
theorem dX0_tappedNumber_17 : decode cX0_tappedNumber 17 = .ok (.invokevirtual 47, 3) := by decide +kernel
theorem dX0_tappedNumber_20 : decode cX0_tappedNumber 20 = .ok (.ifCond .eq 7, 3) := by decide +kernel
theorem dX0_tappedNumber_23 : decode cX0_tappedNumber 23 = .ok (.iconst 1, 1) := by decide +kernel
theorem dX0_tappedNumber_24 : decode cX0_tappedNumber 24 = .ok (.goto 4, 3) := by decide +kernel
theorem dX0_tappedNumber_27 : decode cX0_tappedNumber 27 = .ok (.iconst 0, 1) := by decide +kernel
theorem dX0_tappedNumber_28 : decode cX0_tappedNumber 28 = .ok (.iadd, 1) := by decide +kernel
theorem dX0_tappedNumber_29 : decode cX0_tappedNumber 29 = .ok (.istore_n 1, 1) := by decide +kernel
theorem dX0_tappedNumber_30 : decode cX0_tappedNumber 30 = .ok (.iinc 2 1, 3) := by decide +kernel
theorem dX0_tappedNumber_33 : decode cX0_tappedNumber 33 = .ok (.goto (-29), 3) := by decide +kernel
theorem dX0_tappedNumber_36 : decode cX0_tappedNumber 36 = .ok (.iload_n 1, 1) := by decide +kernel
theorem dX0_tappedNumber_37 : decode cX0_tappedNumber 37 = .ok (.ireturn, 1) := by decide +kernel
set_option maxRecDepth 20000 in
theorem ggX0_enroll_X0_setOf : GoodIn wsX0_enroll wsX0_setOf := goodIn_ca (goodIn_r _ [6, 1, 23] rfl (by decide +kernel)) (goodIn_sub (fun _ h => List.mem_cons_of_mem _ (List.mem_append_right _ h)) (by decide +kernel))
set_option maxRecDepth 20000 in
theorem gX0_enroll_X0_setOf : GoodIn wsX0_enroll (wsV RX0 27 RX0 yX0_setOf wsX0_setOf) := goodIn_app (goodIn_r _ [2, 3, 4, 5] rfl (by decide +kernel)) ggX0_enroll_X0_setOf
set_option maxRecDepth 20000 in
theorem ggX0_enroll_X0_clearWager : GoodIn wsX0_enroll wsX0_clearWager := goodIn_ca (goodIn_r _ [10, 2, 3, 4, 5, 6, 1, 23] rfl (by decide +kernel)) (goodIn_sub (fun _ h => List.mem_cons_of_mem _ (List.mem_append_right _ h)) (by decide +kernel))
set_option maxRecDepth 20000 in
theorem gX0_enroll_X0_clearWager : GoodIn wsX0_enroll (wsV RX0 50 RX0 yX0_clearWager wsX0_clearWager) := goodIn_app (goodIn_r _ [7, 8, 9, 5] rfl (by decide +kernel)) ggX0_enroll_X0_clearWager
set_option maxRecDepth 20000 in
theorem ggX0_enroll_X0_add : GoodIn wsX0_enroll wsX0_add := goodIn_ca (goodIn_r _ [14, 15, 16, 17, 5, 18, 1, 19, 20, 21, 22, 23] rfl (by decide +kernel)) (goodIn_sub (fun _ h => List.mem_cons_of_mem _ (List.mem_append_right _ h)) (by decide +kernel))
set_option maxRecDepth 20000 in
theorem gX0_enroll_X0_add : GoodIn wsX0_enroll (wsV RX0 54 RX0 yX0_add wsX0_add) := goodIn_app (goodIn_r _ [11, 12, 13, 5] rfl (by decide +kernel)) ggX0_enroll_X0_add
theorem dX0_enroll_0 : decode cX0_enroll 0 = .ok (.aload_n 0, 1) := by decide +kernel
theorem dX0_enroll_1 : decode cX0_enroll 1 = .ok (.getfield 11, 3) := by decide +kernel
theorem dX0_enroll_4 : decode cX0_enroll 4 = .ok (.iconst 0, 1) := by decide +kernel
theorem dX0_enroll_5 : decode cX0_enroll 5 = .ok (.iaload, 1) := by decide +kernel
theorem dX0_enroll_6 : decode cX0_enroll 6 = .ok (.istore_n 2, 1) := by decide +kernel
theorem dX0_enroll_7 : decode cX0_enroll 7 = .ok (.aload_n 0, 1) := by decide +kernel
theorem dX0_enroll_8 : decode cX0_enroll 8 = .ok (.iload_n 2, 1) := by decide +kernel
theorem dX0_enroll_9 : decode cX0_enroll 9 = .ok (.iconst 0, 1) := by decide +kernel
theorem dX0_enroll_10 : decode cX0_enroll 10 = .ok (.bipush 50, 2) := by decide +kernel
theorem dX0_enroll_12 : decode cX0_enroll 12 = .ok (.invokevirtual 27, 3) := by decide +kernel
theorem dX0_enroll_15 : decode cX0_enroll 15 = .ok (.aload_n 0, 1) := by decide +kernel
theorem dX0_enroll_16 : decode cX0_enroll 16 = .ok (.iload_n 2, 1) := by decide +kernel
theorem dX0_enroll_17 : decode cX0_enroll 17 = .ok (.iconst 1, 1) := by decide +kernel
theorem dX0_enroll_18 : decode cX0_enroll 18 = .ok (.iload_n 1, 1) := by decide +kernel
theorem dX0_enroll_19 : decode cX0_enroll 19 = .ok (.invokevirtual 27, 3) := by decide +kernel
theorem dX0_enroll_22 : decode cX0_enroll 22 = .ok (.aload_n 0, 1) := by decide +kernel
theorem dX0_enroll_23 : decode cX0_enroll 23 = .ok (.iload_n 2, 1) := by decide +kernel
theorem dX0_enroll_24 : decode cX0_enroll 24 = .ok (.iconst 5, 1) := by decide +kernel
theorem dX0_enroll_25 : decode cX0_enroll 25 = .ok (.iconst 0, 1) := by decide +kernel
theorem dX0_enroll_26 : decode cX0_enroll 26 = .ok (.invokevirtual 27, 3) := by decide +kernel
theorem dX0_enroll_29 : decode cX0_enroll 29 = .ok (.aload_n 0, 1) := by decide +kernel
theorem dX0_enroll_30 : decode cX0_enroll 30 = .ok (.iload_n 2, 1) := by decide +kernel
theorem dX0_enroll_31 : decode cX0_enroll 31 = .ok (.bipush 6, 2) := by decide +kernel
theorem dX0_enroll_33 : decode cX0_enroll 33 = .ok (.iconst 0, 1) := by decide +kernel
theorem dX0_enroll_34 : decode cX0_enroll 34 = .ok (.invokevirtual 27, 3) := by decide +kernel
theorem dX0_enroll_37 : decode cX0_enroll 37 = .ok (.aload_n 0, 1) := by decide +kernel
theorem dX0_enroll_38 : decode cX0_enroll 38 = .ok (.iload_n 2, 1) := by decide +kernel
theorem dX0_enroll_39 : decode cX0_enroll 39 = .ok (.invokevirtual 50, 3) := by decide +kernel
theorem dX0_enroll_42 : decode cX0_enroll 42 = .ok (.aload_n 0, 1) := by decide +kernel
theorem dX0_enroll_43 : decode cX0_enroll 43 = .ok (.bipush 11, 2) := by decide +kernel
theorem dX0_enroll_45 : decode cX0_enroll 45 = .ok (.bipush 50, 2) := by decide +kernel
theorem dX0_enroll_47 : decode cX0_enroll 47 = .ok (.invokevirtual 54, 3) := by decide +kernel
theorem dX0_enroll_50 : decode cX0_enroll 50 = .ok (.aload_n 0, 1) := by decide +kernel
theorem dX0_enroll_51 : decode cX0_enroll 51 = .ok (.iconst 0, 1) := by decide +kernel
theorem dX0_enroll_52 : decode cX0_enroll 52 = .ok (.iconst 1, 1) := by decide +kernel
theorem dX0_enroll_53 : decode cX0_enroll 53 = .ok (.invokevirtual 54, 3) := by decide +kernel
theorem dX0_enroll_56 : decode cX0_enroll 56 = .ok (.iload_n 2, 1) := by decide +kernel
theorem dX0_enroll_57 : decode cX0_enroll 57 = .ok (.ireturn, 1) := by decide +kernel
set_option maxRecDepth 20000 in
theorem ggX0_dismiss_X0_of : GoodIn wsX0_dismiss wsX0_of := goodIn_ca (goodIn_r _ [6, 1, 23] rfl (by decide +kernel)) (goodIn_sub (fun _ h => List.mem_cons_of_mem _ (List.mem_append_right _ h)) (by decide +kernel))
set_option maxRecDepth 20000 in
theorem gX0_dismiss_X0_of : GoodIn wsX0_dismiss (wsV RX0 23 RX0 yX0_of wsX0_of) := goodIn_app (goodIn_r _ [2, 3, 4, 5] rfl (by decide +kernel)) ggX0_dismiss_X0_of
set_option maxRecDepth 20000 in
theorem ggX0_dismiss_X0_add : GoodIn wsX0_dismiss wsX0_add := goodIn_ca (goodIn_r _ [10, 11, 12, 13, 5, 14, 1, 15, 16, 17, 18, 23] rfl (by decide +kernel)) (goodIn_sub (fun _ h => List.mem_cons_of_mem _ (List.mem_append_right _ h)) (by decide +kernel))
set_option maxRecDepth 20000 in
theorem gX0_dismiss_X0_add : GoodIn wsX0_dismiss (wsV RX0 54 RX0 yX0_add wsX0_add) := goodIn_app (goodIn_r _ [7, 8, 9, 5] rfl (by decide +kernel)) ggX0_dismiss_X0_add
set_option maxRecDepth 20000 in
theorem ggX0_dismiss_X0_setOf : GoodIn wsX0_dismiss wsX0_setOf := goodIn_ca (goodIn_r _ [22, 1, 23] rfl (by decide +kernel)) (goodIn_sub (fun _ h => List.mem_cons_of_mem _ (List.mem_append_right _ h)) (by decide +kernel))
set_option maxRecDepth 20000 in
theorem gX0_dismiss_X0_setOf : GoodIn wsX0_dismiss (wsV RX0 27 RX0 yX0_setOf wsX0_setOf) := goodIn_app (goodIn_r _ [19, 20, 21, 5] rfl (by decide +kernel)) ggX0_dismiss_X0_setOf
theorem dX0_dismiss_0 : decode cX0_dismiss 0 = .ok (.aload_n 0, 1) := by decide +kernel
theorem dX0_dismiss_1 : decode cX0_dismiss 1 = .ok (.iload_n 1, 1) := by decide +kernel
theorem dX0_dismiss_2 : decode cX0_dismiss 2 = .ok (.iconst 0, 1) := by decide +kernel
theorem dX0_dismiss_3 : decode cX0_dismiss 3 = .ok (.invokevirtual 23, 3) := by decide +kernel
theorem dX0_dismiss_6 : decode cX0_dismiss 6 = .ok (.istore_n 2, 1) := by decide +kernel
theorem dX0_dismiss_7 : decode cX0_dismiss 7 = .ok (.aload_n 0, 1) := by decide +kernel
theorem dX0_dismiss_8 : decode cX0_dismiss 8 = .ok (.bipush 12, 2) := by decide +kernel
theorem dX0_dismiss_10 : decode cX0_dismiss 10 = .ok (.iload_n 2, 1) := by decide +kernel
theorem dX0_dismiss_11 : decode cX0_dismiss 11 = .ok (.invokevirtual 54, 3) := by decide +kernel
theorem dX0_dismiss_14 : decode cX0_dismiss 14 = .ok (.aload_n 0, 1) := by decide +kernel
theorem dX0_dismiss_15 : decode cX0_dismiss 15 = .ok (.iconst 0, 1) := by decide +kernel
theorem dX0_dismiss_16 : decode cX0_dismiss 16 = .ok (.iconst (-1), 1) := by decide +kernel
theorem dX0_dismiss_17 : decode cX0_dismiss 17 = .ok (.invokevirtual 54, 3) := by decide +kernel
theorem dX0_dismiss_20 : decode cX0_dismiss 20 = .ok (.iload_n 1, 1) := by decide +kernel
theorem dX0_dismiss_21 : decode cX0_dismiss 21 = .ok (.istore_n 3, 1) := by decide +kernel
theorem dX0_dismiss_22 : decode cX0_dismiss 22 = .ok (.iload_n 3, 1) := by decide +kernel
theorem dX0_dismiss_23 : decode cX0_dismiss 23 = .ok (.aload_n 0, 1) := by decide +kernel
theorem dX0_dismiss_24 : decode cX0_dismiss 24 = .ok (.getfield 11, 3) := by decide +kernel
theorem dX0_dismiss_27 : decode cX0_dismiss 27 = .ok (.iconst 0, 1) := by decide +kernel
theorem dX0_dismiss_28 : decode cX0_dismiss 28 = .ok (.iaload, 1) := by decide +kernel
theorem dX0_dismiss_29 : decode cX0_dismiss 29 = .ok (.if_icmp .ge 41, 3) := by decide +kernel
theorem dX0_dismiss_32 : decode cX0_dismiss 32 = .ok (.iconst 0, 1) := by decide +kernel
theorem dX0_dismiss_33 : decode cX0_dismiss 33 = .ok (.istore 4, 2) := by decide +kernel
theorem dX0_dismiss_35 : decode cX0_dismiss 35 = .ok (.iload 4, 2) := by decide +kernel
theorem dX0_dismiss_37 : decode cX0_dismiss 37 = .ok (.bipush 7, 2) := by decide +kernel
theorem dX0_dismiss_39 : decode cX0_dismiss 39 = .ok (.if_icmp .ge 25, 3) := by decide +kernel
theorem dX0_dismiss_42 : decode cX0_dismiss 42 = .ok (.aload_n 0, 1) := by decide +kernel
theorem dX0_dismiss_43 : decode cX0_dismiss 43 = .ok (.iload_n 3, 1) := by decide +kernel
theorem dX0_dismiss_44 : decode cX0_dismiss 44 = .ok (.iload 4, 2) := by decide +kernel
theorem dX0_dismiss_46 : decode cX0_dismiss 46 = .ok (.aload_n 0, 1) := by decide +kernel
theorem dX0_dismiss_47 : decode cX0_dismiss 47 = .ok (.iload_n 3, 1) := by decide +kernel
theorem dX0_dismiss_48 : decode cX0_dismiss 48 = .ok (.iconst 1, 1) := by decide +kernel
theorem dX0_dismiss_49 : decode cX0_dismiss 49 = .ok (.iadd, 1) := by decide +kernel
theorem dX0_dismiss_50 : decode cX0_dismiss 50 = .ok (.iload 4, 2) := by decide +kernel
theorem dX0_dismiss_52 : decode cX0_dismiss 52 = .ok (.invokevirtual 23, 3) := by decide +kernel
theorem dX0_dismiss_55 : decode cX0_dismiss 55 = .ok (.invokevirtual 27, 3) := by decide +kernel
theorem dX0_dismiss_58 : decode cX0_dismiss 58 = .ok (.iinc 4 1, 3) := by decide +kernel
theorem dX0_dismiss_61 : decode cX0_dismiss 61 = .ok (.goto (-26), 3) := by decide +kernel
theorem dX0_dismiss_64 : decode cX0_dismiss 64 = .ok (.iinc 3 1, 3) := by decide +kernel
theorem dX0_dismiss_67 : decode cX0_dismiss 67 = .ok (.goto (-45), 3) := by decide +kernel
theorem dX0_dismiss_70 : decode cX0_dismiss 70 = .ok (.iload_n 2, 1) := by decide +kernel
theorem dX0_dismiss_71 : decode cX0_dismiss 71 = .ok (.ireturn, 1) := by decide +kernel
set_option maxRecDepth 20000 in
theorem ggX0_clearWager_X0_setOf : GoodIn wsX0_clearWager wsX0_setOf := goodIn_ca (goodIn_r _ [5, 6, 7] rfl (by decide +kernel)) (goodIn_sub (fun _ h => List.mem_cons_of_mem _ (List.mem_append_right _ h)) (by decide +kernel))
set_option maxRecDepth 20000 in
theorem gX0_clearWager_X0_setOf : GoodIn wsX0_clearWager (wsV RX0 27 RX0 yX0_setOf wsX0_setOf) := goodIn_app (goodIn_r _ [1, 2, 3, 4] rfl (by decide +kernel)) ggX0_clearWager_X0_setOf
theorem dX0_clearWager_0 : decode cX0_clearWager 0 = .ok (.aload_n 0, 1) := by decide +kernel
theorem dX0_clearWager_1 : decode cX0_clearWager 1 = .ok (.iload_n 1, 1) := by decide +kernel
theorem dX0_clearWager_2 : decode cX0_clearWager 2 = .ok (.iconst 2, 1) := by decide +kernel
theorem dX0_clearWager_3 : decode cX0_clearWager 3 = .ok (.iconst (-1), 1) := by decide +kernel
theorem dX0_clearWager_4 : decode cX0_clearWager 4 = .ok (.invokevirtual 27, 3) := by decide +kernel
theorem dX0_clearWager_7 : decode cX0_clearWager 7 = .ok (.aload_n 0, 1) := by decide +kernel
theorem dX0_clearWager_8 : decode cX0_clearWager 8 = .ok (.iload_n 1, 1) := by decide +kernel
theorem dX0_clearWager_9 : decode cX0_clearWager 9 = .ok (.iconst 3, 1) := by decide +kernel
theorem dX0_clearWager_10 : decode cX0_clearWager 10 = .ok (.iconst 0, 1) := by decide +kernel
theorem dX0_clearWager_11 : decode cX0_clearWager 11 = .ok (.invokevirtual 27, 3) := by decide +kernel
theorem dX0_clearWager_14 : decode cX0_clearWager 14 = .ok (.aload_n 0, 1) := by decide +kernel
theorem dX0_clearWager_15 : decode cX0_clearWager 15 = .ok (.iload_n 1, 1) := by decide +kernel
theorem dX0_clearWager_16 : decode cX0_clearWager 16 = .ok (.iconst 4, 1) := by decide +kernel
theorem dX0_clearWager_17 : decode cX0_clearWager 17 = .ok (.iconst 0, 1) := by decide +kernel
theorem dX0_clearWager_18 : decode cX0_clearWager 18 = .ok (.invokevirtual 27, 3) := by decide +kernel
theorem dX0_clearWager_21 : decode cX0_clearWager 21 = .ok (.return_, 1) := by decide +kernel
set_option maxRecDepth 20000 in
theorem ggX0_payIntoPot_X0_addOf : GoodIn wsX0_payIntoPot wsX0_addOf := goodIn_ca (goodIn_r _ [5, 6, 7, 8, 4, 9, 10, 11, 12, 13, 14, 27] rfl (by decide +kernel)) (goodIn_sub (fun _ h => List.mem_cons_of_mem _ (List.mem_append_right _ h)) (by decide +kernel))
set_option maxRecDepth 20000 in
theorem gX0_payIntoPot_X0_addOf : GoodIn wsX0_payIntoPot (wsV RX0 57 RX0 yX0_addOf wsX0_addOf) := goodIn_app (goodIn_r _ [1, 2, 3, 4] rfl (by decide +kernel)) ggX0_payIntoPot_X0_addOf
set_option maxRecDepth 20000 in
theorem ggX0_payIntoPot_X0_add : GoodIn wsX0_payIntoPot wsX0_add := goodIn_ca (goodIn_r _ [18, 19, 20, 21, 4, 22, 10, 23, 24, 25, 26, 27] rfl (by decide +kernel)) (goodIn_sub (fun _ h => List.mem_cons_of_mem _ (List.mem_append_right _ h)) (by decide +kernel))
set_option maxRecDepth 20000 in
theorem gX0_payIntoPot_X0_add : GoodIn wsX0_payIntoPot (wsV RX0 54 RX0 yX0_add wsX0_add) := goodIn_app (goodIn_r _ [15, 16, 17, 4] rfl (by decide +kernel)) ggX0_payIntoPot_X0_add
theorem dX0_payIntoPot_0 : decode cX0_payIntoPot 0 = .ok (.aload_n 0, 1) := by decide +kernel
theorem dX0_payIntoPot_1 : decode cX0_payIntoPot 1 = .ok (.iload_n 1, 1) := by decide +kernel
theorem dX0_payIntoPot_2 : decode cX0_payIntoPot 2 = .ok (.iconst 0, 1) := by decide +kernel
theorem dX0_payIntoPot_3 : decode cX0_payIntoPot 3 = .ok (.iload_n 2, 1) := by decide +kernel
theorem dX0_payIntoPot_4 : decode cX0_payIntoPot 4 = .ok (.ineg, 1) := by decide +kernel
theorem dX0_payIntoPot_5 : decode cX0_payIntoPot 5 = .ok (.invokevirtual 57, 3) := by decide +kernel
theorem dX0_payIntoPot_8 : decode cX0_payIntoPot 8 = .ok (.aload_n 0, 1) := by decide +kernel
theorem dX0_payIntoPot_9 : decode cX0_payIntoPot 9 = .ok (.bipush 7, 2) := by decide +kernel
theorem dX0_payIntoPot_11 : decode cX0_payIntoPot 11 = .ok (.iload_n 2, 1) := by decide +kernel
theorem dX0_payIntoPot_12 : decode cX0_payIntoPot 12 = .ok (.invokevirtual 54, 3) := by decide +kernel
theorem dX0_payIntoPot_15 : decode cX0_payIntoPot 15 = .ok (.return_, 1) := by decide +kernel
set_option maxRecDepth 20000 in
theorem ggX0_changePressure_X0_add : GoodIn wsX0_changePressure wsX0_add := goodIn_ca (goodIn_r _ [5, 6, 7, 8, 4, 9, 10, 11, 12, 13, 14, 15] rfl (by decide +kernel)) (goodIn_sub (fun _ h => List.mem_cons_of_mem _ (List.mem_append_right _ h)) (by decide +kernel))
set_option maxRecDepth 20000 in
theorem gX0_changePressure_X0_add : GoodIn wsX0_changePressure (wsV RX0 54 RX0 yX0_add wsX0_add) := goodIn_app (goodIn_r _ [1, 2, 3, 4] rfl (by decide +kernel)) ggX0_changePressure_X0_add
set_option maxRecDepth 20000 in
theorem ggX0_changePressure_X0_set : GoodIn wsX0_changePressure wsX0_set := goodIn_ca (goodIn_r _ [14, 10, 15] rfl (by decide +kernel)) (goodIn_sub (fun _ h => List.mem_cons_of_mem _ (List.mem_append_right _ h)) (by decide +kernel))
set_option maxRecDepth 20000 in
theorem gX0_changePressure_X0_set : GoodIn wsX0_changePressure (wsV RX0 19 RX0 yX0_set wsX0_set) := goodIn_app (goodIn_r _ [11, 12, 13, 4] rfl (by decide +kernel)) ggX0_changePressure_X0_set
theorem dX0_changePressure_0 : decode cX0_changePressure 0 = .ok (.aload_n 0, 1) := by decide +kernel
theorem dX0_changePressure_1 : decode cX0_changePressure 1 = .ok (.iconst 1, 1) := by decide +kernel
theorem dX0_changePressure_2 : decode cX0_changePressure 2 = .ok (.iload_n 1, 1) := by decide +kernel
theorem dX0_changePressure_3 : decode cX0_changePressure 3 = .ok (.invokevirtual 54, 3) := by decide +kernel
theorem dX0_changePressure_6 : decode cX0_changePressure 6 = .ok (.aload_n 0, 1) := by decide +kernel
theorem dX0_changePressure_7 : decode cX0_changePressure 7 = .ok (.iconst 2, 1) := by decide +kernel
theorem dX0_changePressure_8 : decode cX0_changePressure 8 = .ok (.iload_n 1, 1) := by decide +kernel
theorem dX0_changePressure_9 : decode cX0_changePressure 9 = .ok (.invokevirtual 19, 3) := by decide +kernel
theorem dX0_changePressure_12 : decode cX0_changePressure 12 = .ok (.aload_n 0, 1) := by decide +kernel
theorem dX0_changePressure_13 : decode cX0_changePressure 13 = .ok (.iconst 3, 1) := by decide +kernel
theorem dX0_changePressure_14 : decode cX0_changePressure 14 = .ok (.iconst 0, 1) := by decide +kernel
theorem dX0_changePressure_15 : decode cX0_changePressure 15 = .ok (.invokevirtual 19, 3) := by decide +kernel
theorem dX0_changePressure_18 : decode cX0_changePressure 18 = .ok (.return_, 1) := by decide +kernel
theorem dX1_init_0 : decode cX1_init 0 = .ok (.aload_n 0, 1) := by decide +kernel
theorem dX1_init_1 : decode cX1_init 1 = .ok (.invokespecial 5, 3) := by decide +kernel
theorem dX1_init_4 : decode cX1_init 4 = .ok (.aload_n 0, 1) := by decide +kernel
theorem dX1_init_5 : decode cX1_init 5 = .ok (.bipush 60, 2) := by decide +kernel
theorem dX1_init_7 : decode cX1_init 7 = .ok (.newarray .char, 2) := by decide +kernel
theorem dX1_init_9 : decode cX1_init 9 = .ok (.putfield 11, 3) := by decide +kernel
theorem dX1_init_12 : decode cX1_init 12 = .ok (.aload_n 0, 1) := by decide +kernel
theorem dX1_init_13 : decode cX1_init 13 = .ok (.sipush 240, 3) := by decide +kernel
theorem dX1_init_16 : decode cX1_init 16 = .ok (.newarray .int, 2) := by decide +kernel
theorem dX1_init_18 : decode cX1_init 18 = .ok (.putfield 15, 3) := by decide +kernel
theorem dX1_init_21 : decode cX1_init 21 = .ok (.aload_n 0, 1) := by decide +kernel
theorem dX1_init_22 : decode cX1_init 22 = .ok (.iconst 0, 1) := by decide +kernel
theorem dX1_init_23 : decode cX1_init 23 = .ok (.putfield 19, 3) := by decide +kernel
theorem dX1_init_26 : decode cX1_init 26 = .ok (.aload_n 0, 1) := by decide +kernel
theorem dX1_init_27 : decode cX1_init 27 = .ok (.iconst 0, 1) := by decide +kernel
theorem dX1_init_28 : decode cX1_init 28 = .ok (.putfield 23, 3) := by decide +kernel
theorem dX1_init_31 : decode cX1_init 31 = .ok (.aload_n 0, 1) := by decide +kernel
theorem dX1_init_32 : decode cX1_init 32 = .ok (.iconst 0, 1) := by decide +kernel
theorem dX1_init_33 : decode cX1_init 33 = .ok (.putfield 26, 3) := by decide +kernel
theorem dX1_init_36 : decode cX1_init 36 = .ok (.aload_n 0, 1) := by decide +kernel
theorem dX1_init_37 : decode cX1_init 37 = .ok (.iconst (-1), 1) := by decide +kernel
theorem dX1_init_38 : decode cX1_init 38 = .ok (.putfield 29, 3) := by decide +kernel
theorem dX1_init_41 : decode cX1_init 41 = .ok (.return_, 1) := by decide +kernel
theorem dX1_length_0 : decode cX1_length 0 = .ok (.aload_n 0, 1) := by decide +kernel
theorem dX1_length_1 : decode cX1_length 1 = .ok (.getfield 19, 3) := by decide +kernel
theorem dX1_length_4 : decode cX1_length 4 = .ok (.ireturn, 1) := by decide +kernel
theorem dX1_isFull_0 : decode cX1_isFull 0 = .ok (.aload_n 0, 1) := by decide +kernel
theorem dX1_isFull_1 : decode cX1_isFull 1 = .ok (.getfield 19, 3) := by decide +kernel
theorem dX1_isFull_4 : decode cX1_isFull 4 = .ok (.bipush 60, 2) := by decide +kernel
theorem dX1_isFull_6 : decode cX1_isFull 6 = .ok (.if_icmp .lt 7, 3) := by decide +kernel
theorem dX1_isFull_9 : decode cX1_isFull 9 = .ok (.iconst 1, 1) := by decide +kernel
theorem dX1_isFull_10 : decode cX1_isFull 10 = .ok (.goto 4, 3) := by decide +kernel
theorem dX1_isFull_13 : decode cX1_isFull 13 = .ok (.iconst 0, 1) := by decide +kernel
theorem dX1_isFull_14 : decode cX1_isFull 14 = .ok (.ireturn, 1) := by decide +kernel
theorem dX1_add_0 : decode cX1_add 0 = .ok (.aload_n 0, 1) := by decide +kernel
theorem dX1_add_1 : decode cX1_add 1 = .ok (.getfield 19, 3) := by decide +kernel
theorem dX1_add_4 : decode cX1_add 4 = .ok (.ifCond .lt 32, 3) := by decide +kernel
theorem dX1_add_7 : decode cX1_add 7 = .ok (.aload_n 0, 1) := by decide +kernel
theorem dX1_add_8 : decode cX1_add 8 = .ok (.getfield 19, 3) := by decide +kernel
theorem dX1_add_11 : decode cX1_add 11 = .ok (.bipush 60, 2) := by decide +kernel
theorem dX1_add_13 : decode cX1_add 13 = .ok (.if_icmp .ge 23, 3) := by decide +kernel
theorem dX1_add_16 : decode cX1_add 16 = .ok (.aload_n 0, 1) := by decide +kernel
theorem dX1_add_17 : decode cX1_add 17 = .ok (.getfield 11, 3) := by decide +kernel
theorem dX1_add_20 : decode cX1_add 20 = .ok (.aload_n 0, 1) := by decide +kernel
theorem dX1_add_21 : decode cX1_add 21 = .ok (.getfield 19, 3) := by decide +kernel
theorem dX1_add_24 : decode cX1_add 24 = .ok (.iload_n 1, 1) := by decide +kernel
theorem dX1_add_25 : decode cX1_add 25 = .ok (.castore, 1) := by decide +kernel
theorem dX1_add_26 : decode cX1_add 26 = .ok (.aload_n 0, 1) := by decide +kernel
theorem dX1_add_27 : decode cX1_add 27 = .ok (.dup, 1) := by decide +kernel
theorem dX1_add_28 : decode cX1_add 28 = .ok (.getfield 19, 3) := by decide +kernel
theorem dX1_add_31 : decode cX1_add 31 = .ok (.iconst 1, 1) := by decide +kernel
theorem dX1_add_32 : decode cX1_add 32 = .ok (.iadd, 1) := by decide +kernel
theorem dX1_add_33 : decode cX1_add 33 = .ok (.putfield 19, 3) := by decide +kernel
theorem dX1_add_36 : decode cX1_add 36 = .ok (.return_, 1) := by decide +kernel
theorem dX1_empty_0 : decode cX1_empty 0 = .ok (.aload_n 0, 1) := by decide +kernel
theorem dX1_empty_1 : decode cX1_empty 1 = .ok (.iconst 0, 1) := by decide +kernel
theorem dX1_empty_2 : decode cX1_empty 2 = .ok (.putfield 19, 3) := by decide +kernel
theorem dX1_empty_5 : decode cX1_empty 5 = .ok (.return_, 1) := by decide +kernel
theorem dX1_size_0 : decode cX1_size 0 = .ok (.aload_n 0, 1) := by decide +kernel
theorem dX1_size_1 : decode cX1_size 1 = .ok (.getfield 23, 3) := by decide +kernel
theorem dX1_size_4 : decode cX1_size 4 = .ok (.ireturn, 1) := by decide +kernel
set_option maxRecDepth 20000 in
theorem ggX1_kind_X1_number : GoodIn wsX1_kind wsX1_number := goodIn_ca (goodIn_r _ [5, 6, 7, 8, 4, 9, 10, 11, 12, 13, 14, 15] rfl (by decide +kernel)) (goodIn_sub (fun _ h => List.mem_cons_of_mem _ (List.mem_append_right _ h)) (by decide +kernel))
set_option maxRecDepth 20000 in
theorem gX1_kind_X1_number : GoodIn wsX1_kind (wsV RX1 32 RX1 yX1_number wsX1_number) := goodIn_app (goodIn_r _ [1, 2, 3, 4] rfl (by decide +kernel)) ggX1_kind_X1_number
theorem dX1_kind_0 : decode cX1_kind 0 = .ok (.aload_n 0, 1) := by decide +kernel
theorem dX1_kind_1 : decode cX1_kind 1 = .ok (.iload_n 1, 1) := by decide +kernel
theorem dX1_kind_2 : decode cX1_kind 2 = .ok (.iconst 0, 1) := by decide +kernel
theorem dX1_kind_3 : decode cX1_kind 3 = .ok (.invokevirtual 32, 3) := by decide +kernel
theorem dX1_kind_6 : decode cX1_kind 6 = .ok (.ireturn, 1) := by decide +kernel
set_option maxRecDepth 20000 in
theorem ggX1_number_X1_isPart : GoodIn wsX1_number wsX1_isPart := goodIn_r _ [5] rfl (by decide +kernel)
set_option maxRecDepth 20000 in
theorem gX1_number_X1_isPart : GoodIn wsX1_number (va_wsS RX1 36 yX1_isPart wsX1_isPart) := goodIn_app (goodIn_r _ [2, 3, 4] rfl (by decide +kernel)) ggX1_number_X1_isPart
theorem dX1_number_0 : decode cX1_number 0 = .ok (.iload_n 1, 1) := by decide +kernel
theorem dX1_number_1 : decode cX1_number 1 = .ok (.iload_n 2, 1) := by decide +kernel
theorem dX1_number_2 : decode cX1_number 2 = .ok (.invokestatic 36, 3) := by decide +kernel
theorem dX1_number_5 : decode cX1_number 5 = .ok (.ifCond .eq 16, 3) := by decide +kernel
theorem dX1_number_8 : decode cX1_number 8 = .ok (.aload_n 0, 1) := by decide +kernel
theorem dX1_number_9 : decode cX1_number 9 = .ok (.getfield 15, 3) := by decide +kernel
theorem dX1_number_12 : decode cX1_number 12 = .ok (.iload_n 1, 1) := by decide +kernel
theorem dX1_number_13 : decode cX1_number 13 = .ok (.iconst 4, 1) := by decide +kernel
theorem dX1_number_14 : decode cX1_number 14 = .ok (.imul, 1) := by decide +kernel
theorem dX1_number_15 : decode cX1_number 15 = .ok (.iload_n 2, 1) := by decide +kernel
theorem dX1_number_16 : decode cX1_number 16 = .ok (.iadd, 1) := by decide +kernel
theorem dX1_number_17 : decode cX1_number 17 = .ok (.iaload, 1) := by decide +kernel
theorem dX1_number_18 : decode cX1_number 18 = .ok (.goto 4, 3) := by decide +kernel
theorem dX1_number_21 : decode cX1_number 21 = .ok (.iconst 0, 1) := by decide +kernel
theorem dX1_number_22 : decode cX1_number 22 = .ok (.ireturn, 1) := by decide +kernel
set_option maxRecDepth 20000 in
theorem ggX1_setNumber_X1_isPart : GoodIn wsX1_setNumber wsX1_isPart := goodIn_r _ [5] rfl (by decide +kernel)
set_option maxRecDepth 20000 in
theorem gX1_setNumber_X1_isPart : GoodIn wsX1_setNumber (va_wsS RX1 36 yX1_isPart wsX1_isPart) := goodIn_app (goodIn_r _ [2, 3, 4] rfl (by decide +kernel)) ggX1_setNumber_X1_isPart
theorem dX1_setNumber_0 : decode cX1_setNumber 0 = .ok (.iload_n 1, 1) := by decide +kernel
theorem dX1_setNumber_1 : decode cX1_setNumber 1 = .ok (.iload_n 2, 1) := by decide +kernel
theorem dX1_setNumber_2 : decode cX1_setNumber 2 = .ok (.invokestatic 36, 3) := by decide +kernel
theorem dX1_setNumber_5 : decode cX1_setNumber 5 = .ok (.ifCond .eq 14, 3) := by decide +kernel
theorem dX1_setNumber_8 : decode cX1_setNumber 8 = .ok (.aload_n 0, 1) := by decide +kernel
theorem dX1_setNumber_9 : decode cX1_setNumber 9 = .ok (.getfield 15, 3) := by decide +kernel
theorem dX1_setNumber_12 : decode cX1_setNumber 12 = .ok (.iload_n 1, 1) := by decide +kernel
theorem dX1_setNumber_13 : decode cX1_setNumber 13 = .ok (.iconst 4, 1) := by decide +kernel
theorem dX1_setNumber_14 : decode cX1_setNumber 14 = .ok (.imul, 1) := by decide +kernel
theorem dX1_setNumber_15 : decode cX1_setNumber 15 = .ok (.iload_n 2, 1) := by decide +kernel
theorem dX1_setNumber_16 : decode cX1_setNumber 16 = .ok (.iadd, 1) := by decide +kernel
theorem dX1_setNumber_17 : decode cX1_setNumber 17 = .ok (.iload_n 3, 1) := by decide +kernel
theorem dX1_setNumber_18 : decode cX1_setNumber 18 = .ok (.iastore, 1) := by decide +kernel
theorem dX1_setNumber_19 : decode cX1_setNumber 19 = .ok (.return_, 1) := by decide +kernel
theorem dX1_isPart_0 : decode cX1_isPart 0 = .ok (.iload_n 0, 1) := by decide +kernel
theorem dX1_isPart_1 : decode cX1_isPart 1 = .ok (.ifCond .lt 22, 3) := by decide +kernel
theorem dX1_isPart_4 : decode cX1_isPart 4 = .ok (.iload_n 0, 1) := by decide +kernel
theorem dX1_isPart_5 : decode cX1_isPart 5 = .ok (.bipush 60, 2) := by decide +kernel
theorem dX1_isPart_7 : decode cX1_isPart 7 = .ok (.if_icmp .ge 16, 3) := by decide +kernel
theorem dX1_isPart_10 : decode cX1_isPart 10 = .ok (.iload_n 1, 1) := by decide +kernel
theorem dX1_isPart_11 : decode cX1_isPart 11 = .ok (.ifCond .lt 12, 3) := by decide +kernel
theorem dX1_isPart_14 : decode cX1_isPart 14 = .ok (.iload_n 1, 1) := by decide +kernel
theorem dX1_isPart_15 : decode cX1_isPart 15 = .ok (.iconst 4, 1) := by decide +kernel
theorem dX1_isPart_16 : decode cX1_isPart 16 = .ok (.if_icmp .ge 7, 3) := by decide +kernel
theorem dX1_isPart_19 : decode cX1_isPart 19 = .ok (.iconst 1, 1) := by decide +kernel
theorem dX1_isPart_20 : decode cX1_isPart 20 = .ok (.goto 4, 3) := by decide +kernel
theorem dX1_isPart_23 : decode cX1_isPart 23 = .ok (.iconst 0, 1) := by decide +kernel
theorem dX1_isPart_24 : decode cX1_isPart 24 = .ok (.ireturn, 1) := by decide +kernel
set_option maxRecDepth 20000 in
theorem ggX1_scan_X1_scanCommand : GoodIn wsX1_scan wsX1_scanCommand := goodIn_ca (goodIn_r _ [9, 1, 10, 11, 12, 8, 13, 4, 14, 15, 16, 17, 18, 19, 20, 21, 2, 22, 23, 24, 25, 26, 27, 28, 29, 30, 31, 32, 33, 34, 35, 36, 37, 38, 39, 40, 41, 42, 43, 44, 45, 46, 47, 48, 49, 50, 51, 52, 53, 54] rfl (by decide +kernel)) (goodIn_sub (fun _ h => List.mem_cons_of_mem _ (List.mem_append_right _ h)) (by decide +kernel))
set_option maxRecDepth 20000 in
theorem gX1_scan_X1_scanCommand : GoodIn wsX1_scan (wsV RX1 40 RX1 yX1_scanCommand wsX1_scanCommand) := goodIn_app (goodIn_r _ [5, 6, 7, 8] rfl (by decide +kernel)) ggX1_scan_X1_scanCommand
set_option maxRecDepth 20000 in
theorem ggX1_scan_X1_scanSign : GoodIn wsX1_scan wsX1_scanSign := goodIn_ca (goodIn_r _ [37, 1, 10, 11, 12, 8, 13, 4, 14, 18, 19, 20, 21, 2, 49, 50, 51, 52, 53, 54] rfl (by decide +kernel)) (goodIn_sub (fun _ h => List.mem_cons_of_mem _ (List.mem_append_right _ h)) (by decide +kernel))
set_option maxRecDepth 20000 in
theorem gX1_scan_X1_scanSign : GoodIn wsX1_scan (wsV RX1 44 RX1 yX1_scanSign wsX1_scanSign) := goodIn_app (goodIn_r _ [34, 35, 36, 8] rfl (by decide +kernel)) ggX1_scan_X1_scanSign
theorem dX1_scan_0 : decode cX1_scan 0 = .ok (.aload_n 0, 1) := by decide +kernel
theorem dX1_scan_1 : decode cX1_scan 1 = .ok (.iconst 0, 1) := by decide +kernel
theorem dX1_scan_2 : decode cX1_scan 2 = .ok (.putfield 26, 3) := by decide +kernel
theorem dX1_scan_5 : decode cX1_scan 5 = .ok (.aload_n 0, 1) := by decide +kernel
theorem dX1_scan_6 : decode cX1_scan 6 = .ok (.iconst (-1), 1) := by decide +kernel
theorem dX1_scan_7 : decode cX1_scan 7 = .ok (.putfield 29, 3) := by decide +kernel
theorem dX1_scan_10 : decode cX1_scan 10 = .ok (.aload_n 0, 1) := by decide +kernel
theorem dX1_scan_11 : decode cX1_scan 11 = .ok (.iconst 0, 1) := by decide +kernel
theorem dX1_scan_12 : decode cX1_scan 12 = .ok (.putfield 23, 3) := by decide +kernel
theorem dX1_scan_15 : decode cX1_scan 15 = .ok (.iconst 0, 1) := by decide +kernel
theorem dX1_scan_16 : decode cX1_scan 16 = .ok (.istore_n 1, 1) := by decide +kernel
theorem dX1_scan_17 : decode cX1_scan 17 = .ok (.iload_n 1, 1) := by decide +kernel
theorem dX1_scan_18 : decode cX1_scan 18 = .ok (.bipush 60, 2) := by decide +kernel
theorem dX1_scan_20 : decode cX1_scan 20 = .ok (.if_icmp .ge 49, 3) := by decide +kernel
theorem dX1_scan_23 : decode cX1_scan 23 = .ok (.aload_n 0, 1) := by decide +kernel
theorem dX1_scan_24 : decode cX1_scan 24 = .ok (.iload_n 1, 1) := by decide +kernel
theorem dX1_scan_25 : decode cX1_scan 25 = .ok (.invokevirtual 40, 3) := by decide +kernel
theorem dX1_scan_28 : decode cX1_scan 28 = .ok (.aload_n 0, 1) := by decide +kernel
theorem dX1_scan_29 : decode cX1_scan 29 = .ok (.iload_n 1, 1) := by decide +kernel
theorem dX1_scan_30 : decode cX1_scan 30 = .ok (.iconst 1, 1) := by decide +kernel
theorem dX1_scan_31 : decode cX1_scan 31 = .ok (.iadd, 1) := by decide +kernel
theorem dX1_scan_32 : decode cX1_scan 32 = .ok (.putfield 23, 3) := by decide +kernel
theorem dX1_scan_35 : decode cX1_scan 35 = .ok (.aload_n 0, 1) := by decide +kernel
theorem dX1_scan_36 : decode cX1_scan 36 = .ok (.getfield 29, 3) := by decide +kernel
theorem dX1_scan_39 : decode cX1_scan 39 = .ok (.iconst (-1), 1) := by decide +kernel
theorem dX1_scan_40 : decode cX1_scan 40 = .ok (.if_icmp .ne 29, 3) := by decide +kernel
theorem dX1_scan_43 : decode cX1_scan 43 = .ok (.aload_n 0, 1) := by decide +kernel
theorem dX1_scan_44 : decode cX1_scan 44 = .ok (.getfield 26, 3) := by decide +kernel
theorem dX1_scan_47 : decode cX1_scan 47 = .ok (.aload_n 0, 1) := by decide +kernel
theorem dX1_scan_48 : decode cX1_scan 48 = .ok (.getfield 19, 3) := by decide +kernel
theorem dX1_scan_51 : decode cX1_scan 51 = .ok (.if_icmp .lt 6, 3) := by decide +kernel
theorem dX1_scan_54 : decode cX1_scan 54 = .ok (.goto 15, 3) := by decide +kernel
theorem dX1_scan_57 : decode cX1_scan 57 = .ok (.aload_n 0, 1) := by decide +kernel
theorem dX1_scan_58 : decode cX1_scan 58 = .ok (.bipush 59, 2) := by decide +kernel
theorem dX1_scan_60 : decode cX1_scan 60 = .ok (.invokevirtual 44, 3) := by decide +kernel
theorem dX1_scan_63 : decode cX1_scan 63 = .ok (.iinc 1 1, 3) := by decide +kernel
theorem dX1_scan_66 : decode cX1_scan 66 = .ok (.goto (-49), 3) := by decide +kernel
theorem dX1_scan_69 : decode cX1_scan 69 = .ok (.aload_n 0, 1) := by decide +kernel
theorem dX1_scan_70 : decode cX1_scan 70 = .ok (.getfield 29, 3) := by decide +kernel
theorem dX1_scan_73 : decode cX1_scan 73 = .ok (.ireturn, 1) := by decide +kernel
set_option maxRecDepth 20000 in
theorem ggX1_scanCommand_X1_here : GoodIn wsX1_scanCommand wsX1_here := goodIn_ca (goodIn_r _ [6, 1, 7, 8, 44, 45, 46, 47, 48, 49] rfl (by decide +kernel)) (goodIn_sub (fun _ h => List.mem_cons_of_mem _ (List.mem_append_right _ h)) (by decide +kernel))
set_option maxRecDepth 20000 in
theorem gX1_scanCommand_X1_here : GoodIn wsX1_scanCommand (wsV RX1 48 RX1 yX1_here wsX1_here) := goodIn_app (goodIn_r _ [2, 3, 4, 5] rfl (by decide +kernel)) ggX1_scanCommand_X1_here
set_option maxRecDepth 20000 in
theorem ggX1_scanCommand_X1_isKind : GoodIn wsX1_scanCommand wsX1_isKind := goodIn_r _ [11] rfl (by decide +kernel)
set_option maxRecDepth 20000 in
theorem gX1_scanCommand_X1_isKind : GoodIn wsX1_scanCommand (va_wsS RX1 52 yX1_isKind wsX1_isKind) := goodIn_app (goodIn_r _ [9, 10, 5] rfl (by decide +kernel)) ggX1_scanCommand_X1_isKind
set_option maxRecDepth 20000 in
theorem ggX1_scanCommand_X1_markFault : GoodIn wsX1_scanCommand wsX1_markFault := goodIn_r _ [15, 16, 1, 44, 45, 46, 47, 48, 49] rfl (by decide +kernel)
set_option maxRecDepth 20000 in
theorem gX1_scanCommand_X1_markFault : GoodIn wsX1_scanCommand (wsV RX1 56 RX1 yX1_markFault wsX1_markFault) := goodIn_app (goodIn_r _ [12, 13, 14, 5] rfl (by decide +kernel)) ggX1_scanCommand_X1_markFault
set_option maxRecDepth 20000 in
theorem ggX1_scanCommand_X1_setNumber : GoodIn wsX1_scanCommand wsX1_setNumber := goodIn_ca (goodIn_r _ [20, 21, 22, 23, 5, 24, 44, 45, 46, 47, 48, 49] rfl (by decide +kernel)) (goodIn_sub (fun _ h => List.mem_cons_of_mem _ (List.mem_append_right _ h)) (by decide +kernel))
set_option maxRecDepth 20000 in
theorem gX1_scanCommand_X1_setNumber : GoodIn wsX1_scanCommand (wsV RX1 59 RX1 yX1_setNumber wsX1_setNumber) := goodIn_app (goodIn_r _ [17, 18, 19, 5] rfl (by decide +kernel)) ggX1_scanCommand_X1_setNumber
set_option maxRecDepth 20000 in
theorem ggX1_scanCommand_X1_scanChange : GoodIn wsX1_scanCommand wsX1_scanChange := goodIn_ca (goodIn_r _ [28, 2, 3, 4, 5, 6, 1, 7, 8, 29, 30, 31, 32, 12, 13, 14, 15, 16, 33, 34, 35, 36, 37, 38, 39, 44, 45, 46, 47, 48, 49] rfl (by decide +kernel)) (goodIn_sub (fun _ h => List.mem_cons_of_mem _ (List.mem_append_right _ h)) (by decide +kernel))
set_option maxRecDepth 20000 in
theorem gX1_scanCommand_X1_scanChange : GoodIn wsX1_scanCommand (wsV RX1 63 RX1 yX1_scanChange wsX1_scanChange) := goodIn_app (goodIn_r _ [25, 26, 27, 5] rfl (by decide +kernel)) ggX1_scanCommand_X1_scanChange
set_option maxRecDepth 20000 in
theorem ggX1_scanCommand_X1_scanDigits : GoodIn wsX1_scanCommand wsX1_scanDigits := goodIn_ca (goodIn_r _ [36, 1, 2, 3, 4, 5, 6, 7, 8, 37, 38, 39, 12, 13, 14, 15, 16, 44, 45, 46, 47, 48, 49] rfl (by decide +kernel)) (goodIn_sub (fun _ h => List.mem_cons_of_mem _ (List.mem_append_right _ h)) (by decide +kernel))
set_option maxRecDepth 20000 in
theorem gX1_scanCommand_X1_scanDigits : GoodIn wsX1_scanCommand (wsV RX1 67 RX1 yX1_scanDigits wsX1_scanDigits) := goodIn_app (goodIn_r _ [33, 34, 35, 5] rfl (by decide +kernel)) ggX1_scanCommand_X1_scanDigits
set_option maxRecDepth 20000 in
theorem ggX1_scanCommand_X1_scanBehindFirst : GoodIn wsX1_scanCommand wsX1_scanBehindFirst := goodIn_ca (goodIn_r _ [43, 29, 30, 31, 5, 32, 1, 2, 3, 4, 6, 7, 8, 12, 13, 14, 15, 16, 33, 34, 35, 36, 37, 38, 39, 17, 18, 19, 20, 21, 22, 23, 24, 44, 45, 46, 47, 48, 49] rfl (by decide +kernel)) (goodIn_sub (fun _ h => List.mem_cons_of_mem _ (List.mem_append_right _ h)) (by decide +kernel))
set_option maxRecDepth 20000 in
theorem gX1_scanCommand_X1_scanBehindFirst : GoodIn wsX1_scanCommand (wsV RX1 70 RX1 yX1_scanBehindFirst wsX1_scanBehindFirst) := goodIn_app (goodIn_r _ [40, 41, 42, 5] rfl (by decide +kernel)) ggX1_scanCommand_X1_scanBehindFirst
theorem dX1_scanCommand_0 : decode cX1_scanCommand 0 = .ok (.aload_n 0, 1) := by decide +kernel
theorem dX1_scanCommand_1 : decode cX1_scanCommand 1 = .ok (.invokevirtual 48, 3) := by decide +kernel
theorem dX1_scanCommand_4 : decode cX1_scanCommand 4 = .ok (.istore_n 2, 1) := by decide +kernel
theorem dX1_scanCommand_5 : decode cX1_scanCommand 5 = .ok (.iload_n 2, 1) := by decide +kernel
theorem dX1_scanCommand_6 : decode cX1_scanCommand 6 = .ok (.invokestatic 52, 3) := by decide +kernel
theorem dX1_scanCommand_9 : decode cX1_scanCommand 9 = .ok (.ifCond .ne 8, 3) := by decide +kernel
theorem dX1_scanCommand_12 : decode cX1_scanCommand 12 = .ok (.aload_n 0, 1) := by decide +kernel
theorem dX1_scanCommand_13 : decode cX1_scanCommand 13 = .ok (.invokevirtual 56, 3) := by decide +kernel
theorem dX1_scanCommand_16 : decode cX1_scanCommand 16 = .ok (.return_, 1) := by decide +kernel
theorem dX1_scanCommand_17 : decode cX1_scanCommand 17 = .ok (.aload_n 0, 1) := by decide +kernel
theorem dX1_scanCommand_18 : decode cX1_scanCommand 18 = .ok (.dup, 1) := by decide +kernel
theorem dX1_scanCommand_19 : decode cX1_scanCommand 19 = .ok (.getfield 26, 3) := by decide +kernel
theorem dX1_scanCommand_22 : decode cX1_scanCommand 22 = .ok (.iconst 1, 1) := by decide +kernel
theorem dX1_scanCommand_23 : decode cX1_scanCommand 23 = .ok (.iadd, 1) := by decide +kernel
theorem dX1_scanCommand_24 : decode cX1_scanCommand 24 = .ok (.putfield 26, 3) := by decide +kernel
theorem dX1_scanCommand_27 : decode cX1_scanCommand 27 = .ok (.aload_n 0, 1) := by decide +kernel
theorem dX1_scanCommand_28 : decode cX1_scanCommand 28 = .ok (.iload_n 1, 1) := by decide +kernel
theorem dX1_scanCommand_29 : decode cX1_scanCommand 29 = .ok (.iconst 0, 1) := by decide +kernel
theorem dX1_scanCommand_30 : decode cX1_scanCommand 30 = .ok (.iload_n 2, 1) := by decide +kernel
theorem dX1_scanCommand_31 : decode cX1_scanCommand 31 = .ok (.invokevirtual 59, 3) := by decide +kernel
theorem dX1_scanCommand_34 : decode cX1_scanCommand 34 = .ok (.iload_n 2, 1) := by decide +kernel
theorem dX1_scanCommand_35 : decode cX1_scanCommand 35 = .ok (.lookupswitch 41 #[(100, 28), (114, 25)], 25) := by decide +kernel
theorem dX1_scanCommand_60 : decode cX1_scanCommand 60 = .ok (.goto 34, 3) := by decide +kernel
theorem dX1_scanCommand_63 : decode cX1_scanCommand 63 = .ok (.aload_n 0, 1) := by decide +kernel
theorem dX1_scanCommand_64 : decode cX1_scanCommand 64 = .ok (.iload_n 1, 1) := by decide +kernel
theorem dX1_scanCommand_65 : decode cX1_scanCommand 65 = .ok (.iconst 1, 1) := by decide +kernel
theorem dX1_scanCommand_66 : decode cX1_scanCommand 66 = .ok (.aload_n 0, 1) := by decide +kernel
theorem dX1_scanCommand_67 : decode cX1_scanCommand 67 = .ok (.invokevirtual 63, 3) := by decide +kernel
theorem dX1_scanCommand_70 : decode cX1_scanCommand 70 = .ok (.invokevirtual 59, 3) := by decide +kernel
theorem dX1_scanCommand_73 : decode cX1_scanCommand 73 = .ok (.goto 21, 3) := by decide +kernel
theorem dX1_scanCommand_76 : decode cX1_scanCommand 76 = .ok (.aload_n 0, 1) := by decide +kernel
theorem dX1_scanCommand_77 : decode cX1_scanCommand 77 = .ok (.iload_n 1, 1) := by decide +kernel
theorem dX1_scanCommand_78 : decode cX1_scanCommand 78 = .ok (.iconst 1, 1) := by decide +kernel
theorem dX1_scanCommand_79 : decode cX1_scanCommand 79 = .ok (.aload_n 0, 1) := by decide +kernel
theorem dX1_scanCommand_80 : decode cX1_scanCommand 80 = .ok (.iconst 1, 1) := by decide +kernel
theorem dX1_scanCommand_81 : decode cX1_scanCommand 81 = .ok (.iconst 1, 1) := by decide +kernel
theorem dX1_scanCommand_82 : decode cX1_scanCommand 82 = .ok (.invokevirtual 67, 3) := by decide +kernel
theorem dX1_scanCommand_85 : decode cX1_scanCommand 85 = .ok (.invokevirtual 59, 3) := by decide +kernel
theorem dX1_scanCommand_88 : decode cX1_scanCommand 88 = .ok (.aload_n 0, 1) := by decide +kernel
theorem dX1_scanCommand_89 : decode cX1_scanCommand 89 = .ok (.iload_n 1, 1) := by decide +kernel
theorem dX1_scanCommand_90 : decode cX1_scanCommand 90 = .ok (.iload_n 2, 1) := by decide +kernel
theorem dX1_scanCommand_91 : decode cX1_scanCommand 91 = .ok (.invokevirtual 70, 3) := by decide +kernel
theorem dX1_scanCommand_94 : decode cX1_scanCommand 94 = .ok (.return_, 1) := by decide +kernel
set_option maxRecDepth 20000 in
theorem ggX1_scanBehindFirst_X1_scanSign : GoodIn wsX1_scanBehindFirst wsX1_scanSign := goodIn_ca (goodIn_r _ [5, 6, 7, 8, 9, 4, 10, 11, 12, 13, 14, 15, 16, 17, 33, 34, 35, 36, 37, 38] rfl (by decide +kernel)) (goodIn_sub (fun _ h => List.mem_cons_of_mem _ (List.mem_append_right _ h)) (by decide +kernel))
set_option maxRecDepth 20000 in
theorem gX1_scanBehindFirst_X1_scanSign : GoodIn wsX1_scanBehindFirst (wsV RX1 44 RX1 yX1_scanSign wsX1_scanSign) := goodIn_app (goodIn_r _ [1, 2, 3, 4] rfl (by decide +kernel)) ggX1_scanBehindFirst_X1_scanSign
set_option maxRecDepth 20000 in
theorem ggX1_scanBehindFirst_X1_scanDigits : GoodIn wsX1_scanBehindFirst wsX1_scanDigits := goodIn_ca (goodIn_r _ [21, 6, 7, 8, 9, 4, 10, 11, 12, 22, 23, 24, 13, 14, 15, 16, 17, 33, 34, 35, 36, 37, 38] rfl (by decide +kernel)) (goodIn_sub (fun _ h => List.mem_cons_of_mem _ (List.mem_append_right _ h)) (by decide +kernel))
set_option maxRecDepth 20000 in
theorem gX1_scanBehindFirst_X1_scanDigits : GoodIn wsX1_scanBehindFirst (wsV RX1 67 RX1 yX1_scanDigits wsX1_scanDigits) := goodIn_app (goodIn_r _ [18, 19, 20, 4] rfl (by decide +kernel)) ggX1_scanBehindFirst_X1_scanDigits
set_option maxRecDepth 20000 in
theorem ggX1_scanBehindFirst_X1_setNumber : GoodIn wsX1_scanBehindFirst wsX1_setNumber := goodIn_ca (goodIn_r _ [28, 29, 30, 31, 4, 32, 33, 34, 35, 36, 37, 38] rfl (by decide +kernel)) (goodIn_sub (fun _ h => List.mem_cons_of_mem _ (List.mem_append_right _ h)) (by decide +kernel))
set_option maxRecDepth 20000 in
theorem gX1_scanBehindFirst_X1_setNumber : GoodIn wsX1_scanBehindFirst (wsV RX1 59 RX1 yX1_setNumber wsX1_setNumber) := goodIn_app (goodIn_r _ [25, 26, 27, 4] rfl (by decide +kernel)) ggX1_scanBehindFirst_X1_setNumber
theorem dX1_scanBehindFirst_0 : decode cX1_scanBehindFirst 0 = .ok (.iload_n 2, 1) := by decide +kernel
theorem dX1_scanBehindFirst_1 : decode cX1_scanBehindFirst 1 = .ok (.lookupswitch 116 #[(109, 35), (115, 56), (119, 77)], 35) := by decide +kernel
theorem dX1_scanBehindFirst_36 : decode cX1_scanBehindFirst 36 = .ok (.aload_n 0, 1) := by decide +kernel
theorem dX1_scanBehindFirst_37 : decode cX1_scanBehindFirst 37 = .ok (.bipush 62, 2) := by decide +kernel
theorem dX1_scanBehindFirst_39 : decode cX1_scanBehindFirst 39 = .ok (.invokevirtual 44, 3) := by decide +kernel
theorem dX1_scanBehindFirst_42 : decode cX1_scanBehindFirst 42 = .ok (.aload_n 0, 1) := by decide +kernel
theorem dX1_scanBehindFirst_43 : decode cX1_scanBehindFirst 43 = .ok (.iload_n 1, 1) := by decide +kernel
theorem dX1_scanBehindFirst_44 : decode cX1_scanBehindFirst 44 = .ok (.iconst 2, 1) := by decide +kernel
theorem dX1_scanBehindFirst_45 : decode cX1_scanBehindFirst 45 = .ok (.aload_n 0, 1) := by decide +kernel
theorem dX1_scanBehindFirst_46 : decode cX1_scanBehindFirst 46 = .ok (.iconst 1, 1) := by decide +kernel
theorem dX1_scanBehindFirst_47 : decode cX1_scanBehindFirst 47 = .ok (.iconst 1, 1) := by decide +kernel
theorem dX1_scanBehindFirst_48 : decode cX1_scanBehindFirst 48 = .ok (.invokevirtual 67, 3) := by decide +kernel
theorem dX1_scanBehindFirst_51 : decode cX1_scanBehindFirst 51 = .ok (.invokevirtual 59, 3) := by decide +kernel
theorem dX1_scanBehindFirst_54 : decode cX1_scanBehindFirst 54 = .ok (.goto 63, 3) := by decide +kernel
theorem dX1_scanBehindFirst_57 : decode cX1_scanBehindFirst 57 = .ok (.aload_n 0, 1) := by decide +kernel
theorem dX1_scanBehindFirst_58 : decode cX1_scanBehindFirst 58 = .ok (.bipush 38, 2) := by decide +kernel
theorem dX1_scanBehindFirst_60 : decode cX1_scanBehindFirst 60 = .ok (.invokevirtual 44, 3) := by decide +kernel
theorem dX1_scanBehindFirst_63 : decode cX1_scanBehindFirst 63 = .ok (.aload_n 0, 1) := by decide +kernel
theorem dX1_scanBehindFirst_64 : decode cX1_scanBehindFirst 64 = .ok (.iload_n 1, 1) := by decide +kernel
theorem dX1_scanBehindFirst_65 : decode cX1_scanBehindFirst 65 = .ok (.iconst 2, 1) := by decide +kernel
theorem dX1_scanBehindFirst_66 : decode cX1_scanBehindFirst 66 = .ok (.aload_n 0, 1) := by decide +kernel
theorem dX1_scanBehindFirst_67 : decode cX1_scanBehindFirst 67 = .ok (.iconst 1, 1) := by decide +kernel
theorem dX1_scanBehindFirst_68 : decode cX1_scanBehindFirst 68 = .ok (.iconst 1, 1) := by decide +kernel
theorem dX1_scanBehindFirst_69 : decode cX1_scanBehindFirst 69 = .ok (.invokevirtual 67, 3) := by decide +kernel
theorem dX1_scanBehindFirst_72 : decode cX1_scanBehindFirst 72 = .ok (.invokevirtual 59, 3) := by decide +kernel
theorem dX1_scanBehindFirst_75 : decode cX1_scanBehindFirst 75 = .ok (.goto 42, 3) := by decide +kernel
theorem dX1_scanBehindFirst_78 : decode cX1_scanBehindFirst 78 = .ok (.aload_n 0, 1) := by decide +kernel
theorem dX1_scanBehindFirst_79 : decode cX1_scanBehindFirst 79 = .ok (.bipush 61, 2) := by decide +kernel
theorem dX1_scanBehindFirst_81 : decode cX1_scanBehindFirst 81 = .ok (.invokevirtual 44, 3) := by decide +kernel
theorem dX1_scanBehindFirst_84 : decode cX1_scanBehindFirst 84 = .ok (.aload_n 0, 1) := by decide +kernel
theorem dX1_scanBehindFirst_85 : decode cX1_scanBehindFirst 85 = .ok (.iload_n 1, 1) := by decide +kernel
theorem dX1_scanBehindFirst_86 : decode cX1_scanBehindFirst 86 = .ok (.iconst 2, 1) := by decide +kernel
theorem dX1_scanBehindFirst_87 : decode cX1_scanBehindFirst 87 = .ok (.aload_n 0, 1) := by decide +kernel
theorem dX1_scanBehindFirst_88 : decode cX1_scanBehindFirst 88 = .ok (.iconst 3, 1) := by decide +kernel
theorem dX1_scanBehindFirst_89 : decode cX1_scanBehindFirst 89 = .ok (.iconst 4, 1) := by decide +kernel
theorem dX1_scanBehindFirst_90 : decode cX1_scanBehindFirst 90 = .ok (.invokevirtual 67, 3) := by decide +kernel
theorem dX1_scanBehindFirst_93 : decode cX1_scanBehindFirst 93 = .ok (.invokevirtual 59, 3) := by decide +kernel
theorem dX1_scanBehindFirst_96 : decode cX1_scanBehindFirst 96 = .ok (.aload_n 0, 1) := by decide +kernel
theorem dX1_scanBehindFirst_97 : decode cX1_scanBehindFirst 97 = .ok (.bipush 47, 2) := by decide +kernel
theorem dX1_scanBehindFirst_99 : decode cX1_scanBehindFirst 99 = .ok (.invokevirtual 44, 3) := by decide +kernel
theorem dX1_scanBehindFirst_102 : decode cX1_scanBehindFirst 102 = .ok (.aload_n 0, 1) := by decide +kernel
theorem dX1_scanBehindFirst_103 : decode cX1_scanBehindFirst 103 = .ok (.iload_n 1, 1) := by decide +kernel
theorem dX1_scanBehindFirst_104 : decode cX1_scanBehindFirst 104 = .ok (.iconst 3, 1) := by decide +kernel
theorem dX1_scanBehindFirst_105 : decode cX1_scanBehindFirst 105 = .ok (.aload_n 0, 1) := by decide +kernel
theorem dX1_scanBehindFirst_106 : decode cX1_scanBehindFirst 106 = .ok (.iconst 1, 1) := by decide +kernel
theorem dX1_scanBehindFirst_107 : decode cX1_scanBehindFirst 107 = .ok (.iconst 1, 1) := by decide +kernel
theorem dX1_scanBehindFirst_108 : decode cX1_scanBehindFirst 108 = .ok (.invokevirtual 67, 3) := by decide +kernel
theorem dX1_scanBehindFirst_111 : decode cX1_scanBehindFirst 111 = .ok (.invokevirtual 59, 3) := by decide +kernel
theorem dX1_scanBehindFirst_114 : decode cX1_scanBehindFirst 114 = .ok (.goto 3, 3) := by decide +kernel
theorem dX1_scanBehindFirst_117 : decode cX1_scanBehindFirst 117 = .ok (.return_, 1) := by decide +kernel
theorem dX1_isKind_0 : decode cX1_isKind 0 = .ok (.iload_n 0, 1) := by decide +kernel
theorem dX1_isKind_1 : decode cX1_isKind 1 = .ok (.tableswitch 109 98 120 #[107, 109, 107, 109, 109, 109, 109, 109, 107, 109, 109, 107, 109, 107, 109, 109, 107, 107, 107, 109, 109, 107, 107], 107) := by decide +kernel
theorem dX1_isKind_108 : decode cX1_isKind 108 = .ok (.iconst 1, 1) := by decide +kernel
theorem dX1_isKind_109 : decode cX1_isKind 109 = .ok (.ireturn, 1) := by decide +kernel
theorem dX1_isKind_110 : decode cX1_isKind 110 = .ok (.iconst 0, 1) := by decide +kernel
theorem dX1_isKind_111 : decode cX1_isKind 111 = .ok (.ireturn, 1) := by decide +kernel
set_option maxRecDepth 20000 in
theorem ggX1_scanChange_X1_here : GoodIn wsX1_scanChange wsX1_here := goodIn_ca (goodIn_r _ [5, 6, 7, 8, 25, 26, 27, 28, 29, 30] rfl (by decide +kernel)) (goodIn_sub (fun _ h => List.mem_cons_of_mem _ (List.mem_append_right _ h)) (by decide +kernel))
set_option maxRecDepth 20000 in
theorem gX1_scanChange_X1_here : GoodIn wsX1_scanChange (wsV RX1 48 RX1 yX1_here wsX1_here) := goodIn_app (goodIn_r _ [1, 2, 3, 4] rfl (by decide +kernel)) ggX1_scanChange_X1_here
set_option maxRecDepth 20000 in
theorem ggX1_scanChange_X1_scanSign : GoodIn wsX1_scanChange wsX1_scanSign := goodIn_ca (goodIn_r _ [12, 6, 1, 2, 3, 4, 5, 7, 8, 13, 14, 15, 16, 17, 25, 26, 27, 28, 29, 30] rfl (by decide +kernel)) (goodIn_sub (fun _ h => List.mem_cons_of_mem _ (List.mem_append_right _ h)) (by decide +kernel))
set_option maxRecDepth 20000 in
theorem gX1_scanChange_X1_scanSign : GoodIn wsX1_scanChange (wsV RX1 44 RX1 yX1_scanSign wsX1_scanSign) := goodIn_app (goodIn_r _ [9, 10, 11, 4] rfl (by decide +kernel)) ggX1_scanChange_X1_scanSign
set_option maxRecDepth 20000 in
theorem ggX1_scanChange_X1_scanDigits : GoodIn wsX1_scanChange wsX1_scanDigits := goodIn_ca (goodIn_r _ [21, 6, 1, 2, 3, 4, 5, 7, 8, 22, 23, 24, 13, 14, 15, 16, 17, 25, 26, 27, 28, 29, 30] rfl (by decide +kernel)) (goodIn_sub (fun _ h => List.mem_cons_of_mem _ (List.mem_append_right _ h)) (by decide +kernel))
set_option maxRecDepth 20000 in
theorem gX1_scanChange_X1_scanDigits : GoodIn wsX1_scanChange (wsV RX1 67 RX1 yX1_scanDigits wsX1_scanDigits) := goodIn_app (goodIn_r _ [18, 19, 20, 4] rfl (by decide +kernel)) ggX1_scanChange_X1_scanDigits
theorem dX1_scanChange_0 : decode cX1_scanChange 0 = .ok (.aload_n 0, 1) := by decide +kernel
theorem dX1_scanChange_1 : decode cX1_scanChange 1 = .ok (.invokevirtual 48, 3) := by decide +kernel
theorem dX1_scanChange_4 : decode cX1_scanChange 4 = .ok (.bipush 45, 2) := by decide +kernel
theorem dX1_scanChange_6 : decode cX1_scanChange 6 = .ok (.if_icmp .ne 7, 3) := by decide +kernel
theorem dX1_scanChange_9 : decode cX1_scanChange 9 = .ok (.iconst 1, 1) := by decide +kernel
theorem dX1_scanChange_10 : decode cX1_scanChange 10 = .ok (.goto 4, 3) := by decide +kernel
theorem dX1_scanChange_13 : decode cX1_scanChange 13 = .ok (.iconst 0, 1) := by decide +kernel
theorem dX1_scanChange_14 : decode cX1_scanChange 14 = .ok (.istore_n 1, 1) := by decide +kernel
theorem dX1_scanChange_15 : decode cX1_scanChange 15 = .ok (.aload_n 0, 1) := by decide +kernel
theorem dX1_scanChange_16 : decode cX1_scanChange 16 = .ok (.iload_n 1, 1) := by decide +kernel
theorem dX1_scanChange_17 : decode cX1_scanChange 17 = .ok (.ifCond .eq 8, 3) := by decide +kernel
theorem dX1_scanChange_20 : decode cX1_scanChange 20 = .ok (.bipush 45, 2) := by decide +kernel
theorem dX1_scanChange_22 : decode cX1_scanChange 22 = .ok (.goto 5, 3) := by decide +kernel
theorem dX1_scanChange_25 : decode cX1_scanChange 25 = .ok (.bipush 43, 2) := by decide +kernel
theorem dX1_scanChange_27 : decode cX1_scanChange 27 = .ok (.invokevirtual 44, 3) := by decide +kernel
theorem dX1_scanChange_30 : decode cX1_scanChange 30 = .ok (.aload_n 0, 1) := by decide +kernel
theorem dX1_scanChange_31 : decode cX1_scanChange 31 = .ok (.iconst 1, 1) := by decide +kernel
theorem dX1_scanChange_32 : decode cX1_scanChange 32 = .ok (.iconst 2, 1) := by decide +kernel
theorem dX1_scanChange_33 : decode cX1_scanChange 33 = .ok (.invokevirtual 67, 3) := by decide +kernel
theorem dX1_scanChange_36 : decode cX1_scanChange 36 = .ok (.istore_n 2, 1) := by decide +kernel
theorem dX1_scanChange_37 : decode cX1_scanChange 37 = .ok (.iload_n 1, 1) := by decide +kernel
theorem dX1_scanChange_38 : decode cX1_scanChange 38 = .ok (.ifCond .eq 8, 3) := by decide +kernel
theorem dX1_scanChange_41 : decode cX1_scanChange 41 = .ok (.iload_n 2, 1) := by decide +kernel
theorem dX1_scanChange_42 : decode cX1_scanChange 42 = .ok (.ineg, 1) := by decide +kernel
theorem dX1_scanChange_43 : decode cX1_scanChange 43 = .ok (.goto 4, 3) := by decide +kernel
theorem dX1_scanChange_46 : decode cX1_scanChange 46 = .ok (.iload_n 2, 1) := by decide +kernel
theorem dX1_scanChange_47 : decode cX1_scanChange 47 = .ok (.ireturn, 1) := by decide +kernel
set_option maxRecDepth 20000 in
theorem ggX1_scanDigits_X1_here : GoodIn wsX1_scanDigits wsX1_here := goodIn_ca (goodIn_r _ [6, 1, 7, 8, 17, 18, 19, 20, 21, 22] rfl (by decide +kernel)) (goodIn_sub (fun _ h => List.mem_cons_of_mem _ (List.mem_append_right _ h)) (by decide +kernel))
set_option maxRecDepth 20000 in
theorem gX1_scanDigits_X1_here : GoodIn wsX1_scanDigits (wsV RX1 48 RX1 yX1_here wsX1_here) := goodIn_app (goodIn_r _ [2, 3, 4, 5] rfl (by decide +kernel)) ggX1_scanDigits_X1_here
set_option maxRecDepth 20000 in
theorem ggX1_scanDigits_X1_isDigit : GoodIn wsX1_scanDigits wsX1_isDigit := goodIn_r _ [11] rfl (by decide +kernel)
set_option maxRecDepth 20000 in
theorem gX1_scanDigits_X1_isDigit : GoodIn wsX1_scanDigits (va_wsS RX1 74 yX1_isDigit wsX1_isDigit) := goodIn_app (goodIn_r _ [9, 10, 5] rfl (by decide +kernel)) ggX1_scanDigits_X1_isDigit
set_option maxRecDepth 20000 in
theorem ggX1_scanDigits_X1_markFault : GoodIn wsX1_scanDigits wsX1_markFault := goodIn_r _ [15, 16, 1, 17, 18, 19, 20, 21, 22] rfl (by decide +kernel)
set_option maxRecDepth 20000 in
theorem gX1_scanDigits_X1_markFault : GoodIn wsX1_scanDigits (wsV RX1 56 RX1 yX1_markFault wsX1_markFault) := goodIn_app (goodIn_r _ [12, 13, 14, 5] rfl (by decide +kernel)) ggX1_scanDigits_X1_markFault
theorem dX1_scanDigits_0 : decode cX1_scanDigits 0 = .ok (.iconst 0, 1) := by decide +kernel
theorem dX1_scanDigits_1 : decode cX1_scanDigits 1 = .ok (.istore_n 3, 1) := by decide +kernel
theorem dX1_scanDigits_2 : decode cX1_scanDigits 2 = .ok (.iconst 0, 1) := by decide +kernel
theorem dX1_scanDigits_3 : decode cX1_scanDigits 3 = .ok (.istore 4, 2) := by decide +kernel
theorem dX1_scanDigits_5 : decode cX1_scanDigits 5 = .ok (.iload 4, 2) := by decide +kernel
theorem dX1_scanDigits_7 : decode cX1_scanDigits 7 = .ok (.iload_n 2, 1) := by decide +kernel
theorem dX1_scanDigits_8 : decode cX1_scanDigits 8 = .ok (.if_icmp .ge 42, 3) := by decide +kernel
theorem dX1_scanDigits_11 : decode cX1_scanDigits 11 = .ok (.aload_n 0, 1) := by decide +kernel
theorem dX1_scanDigits_12 : decode cX1_scanDigits 12 = .ok (.invokevirtual 48, 3) := by decide +kernel
theorem dX1_scanDigits_15 : decode cX1_scanDigits 15 = .ok (.invokestatic 74, 3) := by decide +kernel
theorem dX1_scanDigits_18 : decode cX1_scanDigits 18 = .ok (.ifCond .eq 32, 3) := by decide +kernel
theorem dX1_scanDigits_21 : decode cX1_scanDigits 21 = .ok (.iload_n 3, 1) := by decide +kernel
theorem dX1_scanDigits_22 : decode cX1_scanDigits 22 = .ok (.bipush 10, 2) := by decide +kernel
theorem dX1_scanDigits_24 : decode cX1_scanDigits 24 = .ok (.imul, 1) := by decide +kernel
theorem dX1_scanDigits_25 : decode cX1_scanDigits 25 = .ok (.aload_n 0, 1) := by decide +kernel
theorem dX1_scanDigits_26 : decode cX1_scanDigits 26 = .ok (.invokevirtual 48, 3) := by decide +kernel
theorem dX1_scanDigits_29 : decode cX1_scanDigits 29 = .ok (.bipush 48, 2) := by decide +kernel
theorem dX1_scanDigits_31 : decode cX1_scanDigits 31 = .ok (.isub, 1) := by decide +kernel
theorem dX1_scanDigits_32 : decode cX1_scanDigits 32 = .ok (.iadd, 1) := by decide +kernel
theorem dX1_scanDigits_33 : decode cX1_scanDigits 33 = .ok (.istore_n 3, 1) := by decide +kernel
theorem dX1_scanDigits_34 : decode cX1_scanDigits 34 = .ok (.iinc 4 1, 3) := by decide +kernel
theorem dX1_scanDigits_37 : decode cX1_scanDigits 37 = .ok (.aload_n 0, 1) := by decide +kernel
theorem dX1_scanDigits_38 : decode cX1_scanDigits 38 = .ok (.dup, 1) := by decide +kernel
theorem dX1_scanDigits_39 : decode cX1_scanDigits 39 = .ok (.getfield 26, 3) := by decide +kernel
theorem dX1_scanDigits_42 : decode cX1_scanDigits 42 = .ok (.iconst 1, 1) := by decide +kernel
theorem dX1_scanDigits_43 : decode cX1_scanDigits 43 = .ok (.iadd, 1) := by decide +kernel
theorem dX1_scanDigits_44 : decode cX1_scanDigits 44 = .ok (.putfield 26, 3) := by decide +kernel
theorem dX1_scanDigits_47 : decode cX1_scanDigits 47 = .ok (.goto (-42), 3) := by decide +kernel
theorem dX1_scanDigits_50 : decode cX1_scanDigits 50 = .ok (.iload 4, 2) := by decide +kernel
theorem dX1_scanDigits_52 : decode cX1_scanDigits 52 = .ok (.iload_n 1, 1) := by decide +kernel
theorem dX1_scanDigits_53 : decode cX1_scanDigits 53 = .ok (.if_icmp .ge 7, 3) := by decide +kernel
theorem dX1_scanDigits_56 : decode cX1_scanDigits 56 = .ok (.aload_n 0, 1) := by decide +kernel
theorem dX1_scanDigits_57 : decode cX1_scanDigits 57 = .ok (.invokevirtual 56, 3) := by decide +kernel
theorem dX1_scanDigits_60 : decode cX1_scanDigits 60 = .ok (.iload_n 3, 1) := by decide +kernel
theorem dX1_scanDigits_61 : decode cX1_scanDigits 61 = .ok (.ireturn, 1) := by decide +kernel
set_option maxRecDepth 20000 in
theorem ggX1_scanSign_X1_here : GoodIn wsX1_scanSign wsX1_here := goodIn_ca (goodIn_r _ [6, 1, 7, 8, 14, 15, 16, 17, 18, 19] rfl (by decide +kernel)) (goodIn_sub (fun _ h => List.mem_cons_of_mem _ (List.mem_append_right _ h)) (by decide +kernel))
set_option maxRecDepth 20000 in
theorem gX1_scanSign_X1_here : GoodIn wsX1_scanSign (wsV RX1 48 RX1 yX1_here wsX1_here) := goodIn_app (goodIn_r _ [2, 3, 4, 5] rfl (by decide +kernel)) ggX1_scanSign_X1_here
set_option maxRecDepth 20000 in
theorem ggX1_scanSign_X1_markFault : GoodIn wsX1_scanSign wsX1_markFault := goodIn_r _ [12, 13, 1, 14, 15, 16, 17, 18, 19] rfl (by decide +kernel)
set_option maxRecDepth 20000 in
theorem gX1_scanSign_X1_markFault : GoodIn wsX1_scanSign (wsV RX1 56 RX1 yX1_markFault wsX1_markFault) := goodIn_app (goodIn_r _ [9, 10, 11, 5] rfl (by decide +kernel)) ggX1_scanSign_X1_markFault
theorem dX1_scanSign_0 : decode cX1_scanSign 0 = .ok (.aload_n 0, 1) := by decide +kernel
theorem dX1_scanSign_1 : decode cX1_scanSign 1 = .ok (.invokevirtual 48, 3) := by decide +kernel
theorem dX1_scanSign_4 : decode cX1_scanSign 4 = .ok (.iload_n 1, 1) := by decide +kernel
theorem dX1_scanSign_5 : decode cX1_scanSign 5 = .ok (.if_icmp .ne 16, 3) := by decide +kernel
theorem dX1_scanSign_8 : decode cX1_scanSign 8 = .ok (.aload_n 0, 1) := by decide +kernel
theorem dX1_scanSign_9 : decode cX1_scanSign 9 = .ok (.dup, 1) := by decide +kernel
theorem dX1_scanSign_10 : decode cX1_scanSign 10 = .ok (.getfield 26, 3) := by decide +kernel
theorem dX1_scanSign_13 : decode cX1_scanSign 13 = .ok (.iconst 1, 1) := by decide +kernel
theorem dX1_scanSign_14 : decode cX1_scanSign 14 = .ok (.iadd, 1) := by decide +kernel
theorem dX1_scanSign_15 : decode cX1_scanSign 15 = .ok (.putfield 26, 3) := by decide +kernel
theorem dX1_scanSign_18 : decode cX1_scanSign 18 = .ok (.goto 7, 3) := by decide +kernel
theorem dX1_scanSign_21 : decode cX1_scanSign 21 = .ok (.aload_n 0, 1) := by decide +kernel
theorem dX1_scanSign_22 : decode cX1_scanSign 22 = .ok (.invokevirtual 56, 3) := by decide +kernel
theorem dX1_scanSign_25 : decode cX1_scanSign 25 = .ok (.return_, 1) := by decide +kernel
theorem dX1_markFault_0 : decode cX1_markFault 0 = .ok (.aload_n 0, 1) := by decide +kernel
theorem dX1_markFault_1 : decode cX1_markFault 1 = .ok (.getfield 29, 3) := by decide +kernel
theorem dX1_markFault_4 : decode cX1_markFault 4 = .ok (.iconst (-1), 1) := by decide +kernel
theorem dX1_markFault_5 : decode cX1_markFault 5 = .ok (.if_icmp .ne 11, 3) := by decide +kernel
theorem dX1_markFault_8 : decode cX1_markFault 8 = .ok (.aload_n 0, 1) := by decide +kernel
theorem dX1_markFault_9 : decode cX1_markFault 9 = .ok (.aload_n 0, 1) := by decide +kernel
theorem dX1_markFault_10 : decode cX1_markFault 10 = .ok (.getfield 26, 3) := by decide +kernel
theorem dX1_markFault_13 : decode cX1_markFault 13 = .ok (.putfield 29, 3) := by decide +kernel
theorem dX1_markFault_16 : decode cX1_markFault 16 = .ok (.return_, 1) := by decide +kernel
theorem dX1_here_0 : decode cX1_here 0 = .ok (.aload_n 0, 1) := by decide +kernel
theorem dX1_here_1 : decode cX1_here 1 = .ok (.getfield 26, 3) := by decide +kernel
theorem dX1_here_4 : decode cX1_here 4 = .ok (.ifCond .lt 27, 3) := by decide +kernel
theorem dX1_here_7 : decode cX1_here 7 = .ok (.aload_n 0, 1) := by decide +kernel
theorem dX1_here_8 : decode cX1_here 8 = .ok (.getfield 26, 3) := by decide +kernel
theorem dX1_here_11 : decode cX1_here 11 = .ok (.aload_n 0, 1) := by decide +kernel
theorem dX1_here_12 : decode cX1_here 12 = .ok (.getfield 19, 3) := by decide +kernel
theorem dX1_here_15 : decode cX1_here 15 = .ok (.if_icmp .ge 16, 3) := by decide +kernel
theorem dX1_here_18 : decode cX1_here 18 = .ok (.aload_n 0, 1) := by decide +kernel
theorem dX1_here_19 : decode cX1_here 19 = .ok (.getfield 26, 3) := by decide +kernel
theorem dX1_here_22 : decode cX1_here 22 = .ok (.bipush 60, 2) := by decide +kernel
theorem dX1_here_24 : decode cX1_here 24 = .ok (.if_icmp .ge 7, 3) := by decide +kernel
theorem dX1_here_27 : decode cX1_here 27 = .ok (.iconst 1, 1) := by decide +kernel
theorem dX1_here_28 : decode cX1_here 28 = .ok (.goto 4, 3) := by decide +kernel
theorem dX1_here_31 : decode cX1_here 31 = .ok (.iconst 0, 1) := by decide +kernel
theorem dX1_here_32 : decode cX1_here 32 = .ok (.istore_n 1, 1) := by decide +kernel
theorem dX1_here_33 : decode cX1_here 33 = .ok (.iload_n 1, 1) := by decide +kernel
theorem dX1_here_34 : decode cX1_here 34 = .ok (.ifCond .eq 15, 3) := by decide +kernel
theorem dX1_here_37 : decode cX1_here 37 = .ok (.aload_n 0, 1) := by decide +kernel
theorem dX1_here_38 : decode cX1_here 38 = .ok (.getfield 11, 3) := by decide +kernel
theorem dX1_here_41 : decode cX1_here 41 = .ok (.aload_n 0, 1) := by decide +kernel
theorem dX1_here_42 : decode cX1_here 42 = .ok (.getfield 26, 3) := by decide +kernel
theorem dX1_here_45 : decode cX1_here 45 = .ok (.caload, 1) := by decide +kernel
theorem dX1_here_46 : decode cX1_here 46 = .ok (.goto 4, 3) := by decide +kernel
theorem dX1_here_49 : decode cX1_here 49 = .ok (.iconst 0, 1) := by decide +kernel
theorem dX1_here_50 : decode cX1_here 50 = .ok (.ireturn, 1) := by decide +kernel
theorem dX1_isDigit_0 : decode cX1_isDigit 0 = .ok (.iload_n 0, 1) := by decide +kernel
theorem dX1_isDigit_1 : decode cX1_isDigit 1 = .ok (.bipush 48, 2) := by decide +kernel
theorem dX1_isDigit_3 : decode cX1_isDigit 3 = .ok (.if_icmp .lt 13, 3) := by decide +kernel
theorem dX1_isDigit_6 : decode cX1_isDigit 6 = .ok (.iload_n 0, 1) := by decide +kernel
theorem dX1_isDigit_7 : decode cX1_isDigit 7 = .ok (.bipush 57, 2) := by decide +kernel
theorem dX1_isDigit_9 : decode cX1_isDigit 9 = .ok (.if_icmp .gt 7, 3) := by decide +kernel
theorem dX1_isDigit_12 : decode cX1_isDigit 12 = .ok (.iconst 1, 1) := by decide +kernel
theorem dX1_isDigit_13 : decode cX1_isDigit 13 = .ok (.goto 4, 3) := by decide +kernel
theorem dX1_isDigit_16 : decode cX1_isDigit 16 = .ok (.iconst 0, 1) := by decide +kernel
theorem dX1_isDigit_17 : decode cX1_isDigit 17 = .ok (.ireturn, 1) := by decide +kernel
theorem dX2_init_0 : decode cX2_init 0 = .ok (.aload_n 0, 1) := by decide +kernel
theorem dX2_init_1 : decode cX2_init 1 = .ok (.invokespecial 3, 3) := by decide +kernel
theorem dX2_init_4 : decode cX2_init 4 = .ok (.aload_n 0, 1) := by decide +kernel
theorem dX2_init_5 : decode cX2_init 5 = .ok (.sipush 495, 3) := by decide +kernel
theorem dX2_init_8 : decode cX2_init 8 = .ok (.newarray .int, 2) := by decide +kernel
theorem dX2_init_10 : decode cX2_init 10 = .ok (.putfield 11, 3) := by decide +kernel
theorem dX2_init_13 : decode cX2_init 13 = .ok (.aload_n 0, 1) := by decide +kernel
theorem dX2_init_14 : decode cX2_init 14 = .ok (.iconst 0, 1) := by decide +kernel
theorem dX2_init_15 : decode cX2_init 15 = .ok (.putfield 15, 3) := by decide +kernel
theorem dX2_init_18 : decode cX2_init 18 = .ok (.aload_n 0, 1) := by decide +kernel
theorem dX2_init_19 : decode cX2_init 19 = .ok (.iconst 0, 1) := by decide +kernel
theorem dX2_init_20 : decode cX2_init 20 = .ok (.putfield 19, 3) := by decide +kernel
theorem dX2_init_23 : decode cX2_init 23 = .ok (.return_, 1) := by decide +kernel
theorem dX2_size_0 : decode cX2_size 0 = .ok (.aload_n 0, 1) := by decide +kernel
theorem dX2_size_1 : decode cX2_size 1 = .ok (.getfield 19, 3) := by decide +kernel
theorem dX2_size_4 : decode cX2_size 4 = .ok (.ireturn, 1) := by decide +kernel
set_option maxRecDepth 20000 in
theorem ggX2_prepare_X0_copyTo : GoodIn wsX2_prepare wsX0_copyTo := goodIn_r _ [7, 8, 9, 10, 11, 12, 16] rfl (by decide +kernel)
set_option maxRecDepth 20000 in
theorem gX2_prepare_X0_copyTo : GoodIn wsX2_prepare (wsV RX2 22 RX0 yX0_copyTo wsX0_copyTo) := goodIn_app (goodIn_r _ [3, 4, 5, 6] rfl (by decide +kernel)) ggX2_prepare_X0_copyTo
theorem dX2_prepare_0 : decode cX2_prepare 0 = .ok (.aload_n 1, 1) := by decide +kernel
theorem dX2_prepare_1 : decode cX2_prepare 1 = .ok (.aload_n 0, 1) := by decide +kernel
theorem dX2_prepare_2 : decode cX2_prepare 2 = .ok (.getfield 11, 3) := by decide +kernel
theorem dX2_prepare_5 : decode cX2_prepare 5 = .ok (.aload_n 0, 1) := by decide +kernel
theorem dX2_prepare_6 : decode cX2_prepare 6 = .ok (.getfield 15, 3) := by decide +kernel
theorem dX2_prepare_9 : decode cX2_prepare 9 = .ok (.bipush 55, 2) := by decide +kernel
theorem dX2_prepare_11 : decode cX2_prepare 11 = .ok (.imul, 1) := by decide +kernel
theorem dX2_prepare_12 : decode cX2_prepare 12 = .ok (.invokevirtual 22, 3) := by decide +kernel
theorem dX2_prepare_15 : decode cX2_prepare 15 = .ok (.return_, 1) := by decide +kernel
set_option maxRecDepth 20000 in
theorem ggX2_returnToPrepared_X0_copyFrom : GoodIn wsX2_returnToPrepared wsX0_copyFrom := goodIn_r _ [7, 8, 9, 10, 11, 12, 16] rfl (by decide +kernel)
set_option maxRecDepth 20000 in
theorem gX2_returnToPrepared_X0_copyFrom : GoodIn wsX2_returnToPrepared (wsV RX2 26 RX0 yX0_copyFrom wsX0_copyFrom) := goodIn_app (goodIn_r _ [3, 4, 5, 6] rfl (by decide +kernel)) ggX2_returnToPrepared_X0_copyFrom
theorem dX2_returnToPrepared_0 : decode cX2_returnToPrepared 0 = .ok (.aload_n 1, 1) := by decide +kernel
theorem dX2_returnToPrepared_1 : decode cX2_returnToPrepared 1 = .ok (.aload_n 0, 1) := by decide +kernel
theorem dX2_returnToPrepared_2 : decode cX2_returnToPrepared 2 = .ok (.getfield 11, 3) := by decide +kernel
theorem dX2_returnToPrepared_5 : decode cX2_returnToPrepared 5 = .ok (.aload_n 0, 1) := by decide +kernel
theorem dX2_returnToPrepared_6 : decode cX2_returnToPrepared 6 = .ok (.getfield 15, 3) := by decide +kernel
theorem dX2_returnToPrepared_9 : decode cX2_returnToPrepared 9 = .ok (.bipush 55, 2) := by decide +kernel
theorem dX2_returnToPrepared_11 : decode cX2_returnToPrepared 11 = .ok (.imul, 1) := by decide +kernel
theorem dX2_returnToPrepared_12 : decode cX2_returnToPrepared 12 = .ok (.invokevirtual 26, 3) := by decide +kernel
theorem dX2_returnToPrepared_15 : decode cX2_returnToPrepared 15 = .ok (.return_, 1) := by decide +kernel
theorem dX2_accept_0 : decode cX2_accept 0 = .ok (.aload_n 0, 1) := by decide +kernel
theorem dX2_accept_1 : decode cX2_accept 1 = .ok (.aload_n 0, 1) := by decide +kernel
theorem dX2_accept_2 : decode cX2_accept 2 = .ok (.getfield 15, 3) := by decide +kernel
theorem dX2_accept_5 : decode cX2_accept 5 = .ok (.iconst 1, 1) := by decide +kernel
theorem dX2_accept_6 : decode cX2_accept 6 = .ok (.iadd, 1) := by decide +kernel
theorem dX2_accept_7 : decode cX2_accept 7 = .ok (.bipush 9, 2) := by decide +kernel
theorem dX2_accept_9 : decode cX2_accept 9 = .ok (.if_icmp .ge 12, 3) := by decide +kernel
theorem dX2_accept_12 : decode cX2_accept 12 = .ok (.aload_n 0, 1) := by decide +kernel
theorem dX2_accept_13 : decode cX2_accept 13 = .ok (.getfield 15, 3) := by decide +kernel
theorem dX2_accept_16 : decode cX2_accept 16 = .ok (.iconst 1, 1) := by decide +kernel
theorem dX2_accept_17 : decode cX2_accept 17 = .ok (.iadd, 1) := by decide +kernel
theorem dX2_accept_18 : decode cX2_accept 18 = .ok (.goto 4, 3) := by decide +kernel
theorem dX2_accept_21 : decode cX2_accept 21 = .ok (.iconst 0, 1) := by decide +kernel
theorem dX2_accept_22 : decode cX2_accept 22 = .ok (.putfield 15, 3) := by decide +kernel
theorem dX2_accept_25 : decode cX2_accept 25 = .ok (.aload_n 0, 1) := by decide +kernel
theorem dX2_accept_26 : decode cX2_accept 26 = .ok (.aload_n 0, 1) := by decide +kernel
theorem dX2_accept_27 : decode cX2_accept 27 = .ok (.getfield 19, 3) := by decide +kernel
theorem dX2_accept_30 : decode cX2_accept 30 = .ok (.iconst 1, 1) := by decide +kernel
theorem dX2_accept_31 : decode cX2_accept 31 = .ok (.iadd, 1) := by decide +kernel
theorem dX2_accept_32 : decode cX2_accept 32 = .ok (.bipush 8, 2) := by decide +kernel
theorem dX2_accept_34 : decode cX2_accept 34 = .ok (.invokestatic 29, 3) := by decide +kernel
theorem dX2_accept_37 : decode cX2_accept 37 = .ok (.putfield 19, 3) := by decide +kernel
theorem dX2_accept_40 : decode cX2_accept 40 = .ok (.return_, 1) := by decide +kernel
set_option maxRecDepth 20000 in
theorem ggX2_stepBack_X2_returnToPrepared : GoodIn wsX2_stepBack wsX2_returnToPrepared := goodIn_r _ [11, 12, 1, 13, 14, 15, 16, 17, 18, 19, 20, 21, 22, 23, 24, 25, 26] rfl (by decide +kernel)
set_option maxRecDepth 20000 in
theorem gX2_stepBack_X2_returnToPrepared : GoodIn wsX2_stepBack (wsV RX2 38 RX2 yX2_returnToPrepared wsX2_returnToPrepared) := goodIn_app (goodIn_r _ [7, 8, 9, 10] rfl (by decide +kernel)) ggX2_stepBack_X2_returnToPrepared
theorem dX2_stepBack_0 : decode cX2_stepBack 0 = .ok (.aload_n 0, 1) := by decide +kernel
theorem dX2_stepBack_1 : decode cX2_stepBack 1 = .ok (.aload_n 0, 1) := by decide +kernel
theorem dX2_stepBack_2 : decode cX2_stepBack 2 = .ok (.getfield 15, 3) := by decide +kernel
theorem dX2_stepBack_5 : decode cX2_stepBack 5 = .ok (.ifCond .le 12, 3) := by decide +kernel
theorem dX2_stepBack_8 : decode cX2_stepBack 8 = .ok (.aload_n 0, 1) := by decide +kernel
theorem dX2_stepBack_9 : decode cX2_stepBack 9 = .ok (.getfield 15, 3) := by decide +kernel
theorem dX2_stepBack_12 : decode cX2_stepBack 12 = .ok (.iconst 1, 1) := by decide +kernel
theorem dX2_stepBack_13 : decode cX2_stepBack 13 = .ok (.isub, 1) := by decide +kernel
theorem dX2_stepBack_14 : decode cX2_stepBack 14 = .ok (.goto 5, 3) := by decide +kernel
theorem dX2_stepBack_17 : decode cX2_stepBack 17 = .ok (.bipush 8, 2) := by decide +kernel
theorem dX2_stepBack_19 : decode cX2_stepBack 19 = .ok (.putfield 15, 3) := by decide +kernel
theorem dX2_stepBack_22 : decode cX2_stepBack 22 = .ok (.aload_n 0, 1) := by decide +kernel
theorem dX2_stepBack_23 : decode cX2_stepBack 23 = .ok (.aload_n 0, 1) := by decide +kernel
theorem dX2_stepBack_24 : decode cX2_stepBack 24 = .ok (.getfield 19, 3) := by decide +kernel
theorem dX2_stepBack_27 : decode cX2_stepBack 27 = .ok (.iconst 1, 1) := by decide +kernel
theorem dX2_stepBack_28 : decode cX2_stepBack 28 = .ok (.isub, 1) := by decide +kernel
theorem dX2_stepBack_29 : decode cX2_stepBack 29 = .ok (.iconst 0, 1) := by decide +kernel
theorem dX2_stepBack_30 : decode cX2_stepBack 30 = .ok (.invokestatic 35, 3) := by decide +kernel
theorem dX2_stepBack_33 : decode cX2_stepBack 33 = .ok (.putfield 19, 3) := by decide +kernel
theorem dX2_stepBack_36 : decode cX2_stepBack 36 = .ok (.aload_n 0, 1) := by decide +kernel
theorem dX2_stepBack_37 : decode cX2_stepBack 37 = .ok (.aload_n 1, 1) := by decide +kernel
theorem dX2_stepBack_38 : decode cX2_stepBack 38 = .ok (.invokevirtual 38, 3) := by decide +kernel
theorem dX2_stepBack_41 : decode cX2_stepBack 41 = .ok (.return_, 1) := by decide +kernel
theorem dX2_forget_0 : decode cX2_forget 0 = .ok (.aload_n 0, 1) := by decide +kernel
theorem dX2_forget_1 : decode cX2_forget 1 = .ok (.iconst 0, 1) := by decide +kernel
theorem dX2_forget_2 : decode cX2_forget 2 = .ok (.putfield 19, 3) := by decide +kernel
theorem dX2_forget_5 : decode cX2_forget 5 = .ok (.return_, 1) := by decide +kernel
set_option maxRecDepth 20000 in
theorem ggX3_shown_X0_of : GoodIn wsX3_shown wsX0_of := goodIn_ca (goodIn_r _ [5, 6, 7] rfl (by decide +kernel)) (goodIn_sub (fun _ h => List.mem_cons_of_mem _ (List.mem_append_right _ h)) (by decide +kernel))
set_option maxRecDepth 20000 in
theorem gX3_shown_X0_of : GoodIn wsX3_shown (wsV RX3 11 RX0 yX0_of wsX0_of) := goodIn_app (goodIn_r _ [1, 2, 3, 4] rfl (by decide +kernel)) ggX3_shown_X0_of
theorem dX3_shown_0 : decode cX3_shown 0 = .ok (.iload_n 2, 1) := by decide +kernel
theorem dX3_shown_1 : decode cX3_shown 1 = .ok (.bipush 12, 2) := by decide +kernel
theorem dX3_shown_3 : decode cX3_shown 3 = .ok (.aload_n 0, 1) := by decide +kernel
theorem dX3_shown_4 : decode cX3_shown 4 = .ok (.iload_n 1, 1) := by decide +kernel
theorem dX3_shown_5 : decode cX3_shown 5 = .ok (.iconst 1, 1) := by decide +kernel
theorem dX3_shown_6 : decode cX3_shown 6 = .ok (.invokevirtual 11, 3) := by decide +kernel
theorem dX3_shown_9 : decode cX3_shown 9 = .ok (.imul, 1) := by decide +kernel
theorem dX3_shown_10 : decode cX3_shown 10 = .ok (.isub, 1) := by decide +kernel
theorem dX3_shown_11 : decode cX3_shown 11 = .ok (.ireturn, 1) := by decide +kernel
set_option maxRecDepth 20000 in
theorem ggX3_shownStepByStep_X0_get : GoodIn wsX3_shownStepByStep wsX0_get := goodIn_ca (goodIn_r _ [5, 6, 11] rfl (by decide +kernel)) (goodIn_sub (fun _ h => List.mem_cons_of_mem _ (List.mem_append_right _ h)) (by decide +kernel))
set_option maxRecDepth 20000 in
theorem gX3_shownStepByStep_X0_get : GoodIn wsX3_shownStepByStep (wsV RX3 15 RX0 yX0_get wsX0_get) := goodIn_app (goodIn_r _ [1, 2, 3, 4] rfl (by decide +kernel)) ggX3_shownStepByStep_X0_get
set_option maxRecDepth 20000 in
theorem ggX3_shownStepByStep_X0_of : GoodIn wsX3_shownStepByStep wsX0_of := goodIn_ca (goodIn_r _ [10, 6, 11] rfl (by decide +kernel)) (goodIn_sub (fun _ h => List.mem_cons_of_mem _ (List.mem_append_right _ h)) (by decide +kernel))
set_option maxRecDepth 20000 in
theorem gX3_shownStepByStep_X0_of : GoodIn wsX3_shownStepByStep (wsV RX3 11 RX0 yX0_of wsX0_of) := goodIn_app (goodIn_r _ [7, 8, 9, 4] rfl (by decide +kernel)) ggX3_shownStepByStep_X0_of
theorem dX3_shownStepByStep_0 : decode cX3_shownStepByStep 0 = .ok (.aload_n 0, 1) := by decide +kernel
theorem dX3_shownStepByStep_1 : decode cX3_shownStepByStep 1 = .ok (.iconst 1, 1) := by decide +kernel
theorem dX3_shownStepByStep_2 : decode cX3_shownStepByStep 2 = .ok (.invokevirtual 15, 3) := by decide +kernel
theorem dX3_shownStepByStep_5 : decode cX3_shownStepByStep 5 = .ok (.istore_n 2, 1) := by decide +kernel
theorem dX3_shownStepByStep_6 : decode cX3_shownStepByStep 6 = .ok (.iconst 0, 1) := by decide +kernel
theorem dX3_shownStepByStep_7 : decode cX3_shownStepByStep 7 = .ok (.istore_n 3, 1) := by decide +kernel
theorem dX3_shownStepByStep_8 : decode cX3_shownStepByStep 8 = .ok (.iload_n 3, 1) := by decide +kernel
theorem dX3_shownStepByStep_9 : decode cX3_shownStepByStep 9 = .ok (.aload_n 0, 1) := by decide +kernel
theorem dX3_shownStepByStep_10 : decode cX3_shownStepByStep 10 = .ok (.iload_n 1, 1) := by decide +kernel
theorem dX3_shownStepByStep_11 : decode cX3_shownStepByStep 11 = .ok (.iconst 1, 1) := by decide +kernel
theorem dX3_shownStepByStep_12 : decode cX3_shownStepByStep 12 = .ok (.invokevirtual 11, 3) := by decide +kernel
theorem dX3_shownStepByStep_15 : decode cX3_shownStepByStep 15 = .ok (.if_icmp .ge 12, 3) := by decide +kernel
theorem dX3_shownStepByStep_18 : decode cX3_shownStepByStep 18 = .ok (.iinc 2 (-12), 3) := by decide +kernel
theorem dX3_shownStepByStep_21 : decode cX3_shownStepByStep 21 = .ok (.iinc 3 1, 3) := by decide +kernel
theorem dX3_shownStepByStep_24 : decode cX3_shownStepByStep 24 = .ok (.goto (-16), 3) := by decide +kernel
theorem dX3_shownStepByStep_27 : decode cX3_shownStepByStep 27 = .ok (.iload_n 2, 1) := by decide +kernel
theorem dX3_shownStepByStep_28 : decode cX3_shownStepByStep 28 = .ok (.ireturn, 1) := by decide +kernel
set_option maxRecDepth 20000 in
theorem ggX3_distance_X0_of : GoodIn wsX3_distance wsX0_of := goodIn_ca (goodIn_r _ [9, 10, 15] rfl (by decide +kernel)) (goodIn_sub (fun _ h => List.mem_cons_of_mem _ (List.mem_append_right _ h)) (by decide +kernel))
set_option maxRecDepth 20000 in
theorem gX3_distance_X0_of : GoodIn wsX3_distance (wsV RX3 11 RX0 yX0_of wsX0_of) := goodIn_app (goodIn_r _ [5, 6, 7, 8] rfl (by decide +kernel)) ggX3_distance_X0_of
set_option maxRecDepth 20000 in
theorem ggX3_distance_X3_shown : GoodIn wsX3_distance wsX3_shown := goodIn_ca (goodIn_r _ [14, 5, 6, 7, 8, 9, 10, 15] rfl (by decide +kernel)) (goodIn_sub (fun _ h => List.mem_cons_of_mem _ (List.mem_append_right _ h)) (by decide +kernel))
set_option maxRecDepth 20000 in
theorem gX3_distance_X3_shown : GoodIn wsX3_distance (va_wsS RX3 19 yX3_shown wsX3_shown) := goodIn_app (goodIn_r _ [11, 12, 13] rfl (by decide +kernel)) ggX3_distance_X3_shown
theorem dX3_distance_0 : decode cX3_distance 0 = .ok (.aload_n 0, 1) := by decide +kernel
theorem dX3_distance_1 : decode cX3_distance 1 = .ok (.iload_n 1, 1) := by decide +kernel
theorem dX3_distance_2 : decode cX3_distance 2 = .ok (.iconst 2, 1) := by decide +kernel
theorem dX3_distance_3 : decode cX3_distance 3 = .ok (.invokevirtual 11, 3) := by decide +kernel
theorem dX3_distance_6 : decode cX3_distance 6 = .ok (.aload_n 0, 1) := by decide +kernel
theorem dX3_distance_7 : decode cX3_distance 7 = .ok (.iload_n 1, 1) := by decide +kernel
theorem dX3_distance_8 : decode cX3_distance 8 = .ok (.iload_n 2, 1) := by decide +kernel
theorem dX3_distance_9 : decode cX3_distance 9 = .ok (.invokestatic 19, 3) := by decide +kernel
theorem dX3_distance_12 : decode cX3_distance 12 = .ok (.isub, 1) := by decide +kernel
theorem dX3_distance_13 : decode cX3_distance 13 = .ok (.invokestatic 25, 3) := by decide +kernel
theorem dX3_distance_16 : decode cX3_distance 16 = .ok (.ireturn, 1) := by decide +kernel
set_option maxRecDepth 20000 in
theorem ggX3_canWin_X0_hasWagered : GoodIn wsX3_canWin wsX0_hasWagered := goodIn_ca (goodIn_r _ [5, 6, 7, 8, 4, 9, 10, 15] rfl (by decide +kernel)) (goodIn_sub (fun _ h => List.mem_cons_of_mem _ (List.mem_append_right _ h)) (by decide +kernel))
set_option maxRecDepth 20000 in
theorem gX3_canWin_X0_hasWagered : GoodIn wsX3_canWin (wsV RX3 30 RX0 yX0_hasWagered wsX0_hasWagered) := goodIn_app (goodIn_r _ [1, 2, 3, 4] rfl (by decide +kernel)) ggX3_canWin_X0_hasWagered
set_option maxRecDepth 20000 in
theorem ggX3_canWin_X0_hasTapped : GoodIn wsX3_canWin wsX0_hasTapped := goodIn_ca (goodIn_r _ [14, 6, 7, 8, 4, 9, 10, 15] rfl (by decide +kernel)) (goodIn_sub (fun _ h => List.mem_cons_of_mem _ (List.mem_append_right _ h)) (by decide +kernel))
set_option maxRecDepth 20000 in
theorem gX3_canWin_X0_hasTapped : GoodIn wsX3_canWin (wsV RX3 34 RX0 yX0_hasTapped wsX0_hasTapped) := goodIn_app (goodIn_r _ [11, 12, 13, 4] rfl (by decide +kernel)) ggX3_canWin_X0_hasTapped
theorem dX3_canWin_0 : decode cX3_canWin 0 = .ok (.aload_n 0, 1) := by decide +kernel
theorem dX3_canWin_1 : decode cX3_canWin 1 = .ok (.iload_n 1, 1) := by decide +kernel
theorem dX3_canWin_2 : decode cX3_canWin 2 = .ok (.invokevirtual 30, 3) := by decide +kernel
theorem dX3_canWin_5 : decode cX3_canWin 5 = .ok (.ifCond .eq 15, 3) := by decide +kernel
theorem dX3_canWin_8 : decode cX3_canWin 8 = .ok (.aload_n 0, 1) := by decide +kernel
theorem dX3_canWin_9 : decode cX3_canWin 9 = .ok (.iload_n 1, 1) := by decide +kernel
theorem dX3_canWin_10 : decode cX3_canWin 10 = .ok (.invokevirtual 34, 3) := by decide +kernel
theorem dX3_canWin_13 : decode cX3_canWin 13 = .ok (.ifCond .ne 7, 3) := by decide +kernel
theorem dX3_canWin_16 : decode cX3_canWin 16 = .ok (.iconst 1, 1) := by decide +kernel
theorem dX3_canWin_17 : decode cX3_canWin 17 = .ok (.goto 4, 3) := by decide +kernel
theorem dX3_canWin_20 : decode cX3_canWin 20 = .ok (.iconst 0, 1) := by decide +kernel
theorem dX3_canWin_21 : decode cX3_canWin 21 = .ok (.ireturn, 1) := by decide +kernel
set_option maxRecDepth 20000 in
theorem ggX3_nearest_X0_get : GoodIn wsX3_nearest wsX0_get := goodIn_ca (goodIn_r _ [5, 6, 34] rfl (by decide +kernel)) (goodIn_sub (fun _ h => List.mem_cons_of_mem _ (List.mem_append_right _ h)) (by decide +kernel))
set_option maxRecDepth 20000 in
theorem gX3_nearest_X0_get : GoodIn wsX3_nearest (wsV RX3 15 RX0 yX0_get wsX0_get) := goodIn_app (goodIn_r _ [1, 2, 3, 4] rfl (by decide +kernel)) ggX3_nearest_X0_get
set_option maxRecDepth 20000 in
theorem ggX3_nearest_X3_canWin : GoodIn wsX3_nearest wsX3_canWin := goodIn_ca (goodIn_r _ [10, 11, 12, 13, 4, 14, 15, 16, 17, 18, 6, 19, 20, 21, 22, 34] rfl (by decide +kernel)) (goodIn_sub (fun _ h => List.mem_cons_of_mem _ (List.mem_append_right _ h)) (by decide +kernel))
set_option maxRecDepth 20000 in
theorem gX3_nearest_X3_canWin : GoodIn wsX3_nearest (va_wsS RX3 37 yX3_canWin wsX3_canWin) := goodIn_app (goodIn_r _ [7, 8, 9] rfl (by decide +kernel)) ggX3_nearest_X3_canWin
set_option maxRecDepth 20000 in
theorem ggX3_nearest_X3_distance : GoodIn wsX3_nearest wsX3_distance := goodIn_ca (goodIn_r _ [25, 26, 27, 28, 29, 30, 16, 17, 4, 18, 6, 31, 32, 9, 33, 34] rfl (by decide +kernel)) (goodIn_sub (fun _ h => List.mem_cons_of_mem _ (List.mem_append_right _ h)) (by decide +kernel))
set_option maxRecDepth 20000 in
theorem gX3_nearest_X3_distance : GoodIn wsX3_nearest (va_wsS RX3 41 yX3_distance wsX3_distance) := goodIn_app (goodIn_r _ [23, 24, 9] rfl (by decide +kernel)) ggX3_nearest_X3_distance
theorem dX3_nearest_0 : decode cX3_nearest 0 = .ok (.iconst 0, 1) := by decide +kernel
theorem dX3_nearest_1 : decode cX3_nearest 1 = .ok (.istore_n 2, 1) := by decide +kernel
theorem dX3_nearest_2 : decode cX3_nearest 2 = .ok (.iconst 0, 1) := by decide +kernel
theorem dX3_nearest_3 : decode cX3_nearest 3 = .ok (.istore_n 3, 1) := by decide +kernel
theorem dX3_nearest_4 : decode cX3_nearest 4 = .ok (.iconst 0, 1) := by decide +kernel
theorem dX3_nearest_5 : decode cX3_nearest 5 = .ok (.istore 4, 2) := by decide +kernel
theorem dX3_nearest_7 : decode cX3_nearest 7 = .ok (.iload 4, 2) := by decide +kernel
theorem dX3_nearest_9 : decode cX3_nearest 9 = .ok (.aload_n 0, 1) := by decide +kernel
theorem dX3_nearest_10 : decode cX3_nearest 10 = .ok (.iconst 0, 1) := by decide +kernel
theorem dX3_nearest_11 : decode cX3_nearest 11 = .ok (.invokevirtual 15, 3) := by decide +kernel
theorem dX3_nearest_14 : decode cX3_nearest 14 = .ok (.if_icmp .ge 64, 3) := by decide +kernel
theorem dX3_nearest_17 : decode cX3_nearest 17 = .ok (.aload_n 0, 1) := by decide +kernel
theorem dX3_nearest_18 : decode cX3_nearest 18 = .ok (.iload 4, 2) := by decide +kernel
theorem dX3_nearest_20 : decode cX3_nearest 20 = .ok (.invokestatic 37, 3) := by decide +kernel
theorem dX3_nearest_23 : decode cX3_nearest 23 = .ok (.ifCond .ne 6, 3) := by decide +kernel
theorem dX3_nearest_26 : decode cX3_nearest 26 = .ok (.goto 46, 3) := by decide +kernel
theorem dX3_nearest_29 : decode cX3_nearest 29 = .ok (.aload_n 0, 1) := by decide +kernel
theorem dX3_nearest_30 : decode cX3_nearest 30 = .ok (.iload 4, 2) := by decide +kernel
theorem dX3_nearest_32 : decode cX3_nearest 32 = .ok (.iload_n 1, 1) := by decide +kernel
theorem dX3_nearest_33 : decode cX3_nearest 33 = .ok (.invokestatic 41, 3) := by decide +kernel
theorem dX3_nearest_36 : decode cX3_nearest 36 = .ok (.istore 5, 2) := by decide +kernel
theorem dX3_nearest_38 : decode cX3_nearest 38 = .ok (.iload_n 2, 1) := by decide +kernel
theorem dX3_nearest_39 : decode cX3_nearest 39 = .ok (.ifCond .eq 9, 3) := by decide +kernel
theorem dX3_nearest_42 : decode cX3_nearest 42 = .ok (.iload 5, 2) := by decide +kernel
theorem dX3_nearest_44 : decode cX3_nearest 44 = .ok (.iload_n 3, 1) := by decide +kernel
theorem dX3_nearest_45 : decode cX3_nearest 45 = .ok (.if_icmp .ge 14, 3) := by decide +kernel
theorem dX3_nearest_48 : decode cX3_nearest 48 = .ok (.iload 5, 2) := by decide +kernel
theorem dX3_nearest_50 : decode cX3_nearest 50 = .ok (.istore_n 3, 1) := by decide +kernel
theorem dX3_nearest_51 : decode cX3_nearest 51 = .ok (.iconst 1, 1) := by decide +kernel
theorem dX3_nearest_52 : decode cX3_nearest 52 = .ok (.iload 4, 2) := by decide +kernel
theorem dX3_nearest_54 : decode cX3_nearest 54 = .ok (.ishl, 1) := by decide +kernel
theorem dX3_nearest_55 : decode cX3_nearest 55 = .ok (.istore_n 2, 1) := by decide +kernel
theorem dX3_nearest_56 : decode cX3_nearest 56 = .ok (.goto 16, 3) := by decide +kernel
theorem dX3_nearest_59 : decode cX3_nearest 59 = .ok (.iload 5, 2) := by decide +kernel
theorem dX3_nearest_61 : decode cX3_nearest 61 = .ok (.iload_n 3, 1) := by decide +kernel
theorem dX3_nearest_62 : decode cX3_nearest 62 = .ok (.if_icmp .ne 10, 3) := by decide +kernel
theorem dX3_nearest_65 : decode cX3_nearest 65 = .ok (.iload_n 2, 1) := by decide +kernel
theorem dX3_nearest_66 : decode cX3_nearest 66 = .ok (.iconst 1, 1) := by decide +kernel
theorem dX3_nearest_67 : decode cX3_nearest 67 = .ok (.iload 4, 2) := by decide +kernel
theorem dX3_nearest_69 : decode cX3_nearest 69 = .ok (.ishl, 1) := by decide +kernel
theorem dX3_nearest_70 : decode cX3_nearest 70 = .ok (.ior, 1) := by decide +kernel
theorem dX3_nearest_71 : decode cX3_nearest 71 = .ok (.istore_n 2, 1) := by decide +kernel
theorem dX3_nearest_72 : decode cX3_nearest 72 = .ok (.iinc 4 1, 3) := by decide +kernel
theorem dX3_nearest_75 : decode cX3_nearest 75 = .ok (.goto (-68), 3) := by decide +kernel
theorem dX3_nearest_78 : decode cX3_nearest 78 = .ok (.iload_n 2, 1) := by decide +kernel
theorem dX3_nearest_79 : decode cX3_nearest 79 = .ok (.ireturn, 1) := by decide +kernel
set_option maxRecDepth 20000 in
theorem ggX3_nearestByDistances_X3_soFarOff : GoodIn wsX3_nearestByDistances wsX3_soFarOff := goodIn_ca (goodIn_r _ [4, 5, 6, 7, 8, 9, 10, 11, 12, 3, 13, 14, 15, 16, 17, 18, 19, 20, 21, 22, 23, 24, 25, 26, 27, 28, 29, 30, 31, 32, 33, 34, 35, 36, 37] rfl (by decide +kernel)) (goodIn_sub (fun _ h => List.mem_cons_of_mem _ (List.mem_append_right _ h)) (by decide +kernel))
set_option maxRecDepth 20000 in
theorem gX3_nearestByDistances_X3_soFarOff : GoodIn wsX3_nearestByDistances (va_wsS RX3 44 yX3_soFarOff wsX3_soFarOff) := goodIn_app (goodIn_r _ [1, 2, 3] rfl (by decide +kernel)) ggX3_nearestByDistances_X3_soFarOff
theorem dX3_nearestByDistances_0 : decode cX3_nearestByDistances 0 = .ok (.iconst 0, 1) := by decide +kernel
theorem dX3_nearestByDistances_1 : decode cX3_nearestByDistances 1 = .ok (.istore_n 1, 1) := by decide +kernel
theorem dX3_nearestByDistances_2 : decode cX3_nearestByDistances 2 = .ok (.iload_n 1, 1) := by decide +kernel
theorem dX3_nearestByDistances_3 : decode cX3_nearestByDistances 3 = .ok (.sipush 400, 3) := by decide +kernel
theorem dX3_nearestByDistances_6 : decode cX3_nearestByDistances 6 = .ok (.if_icmp .gt 21, 3) := by decide +kernel
theorem dX3_nearestByDistances_9 : decode cX3_nearestByDistances 9 = .ok (.aload_n 0, 1) := by decide +kernel
theorem dX3_nearestByDistances_10 : decode cX3_nearestByDistances 10 = .ok (.iload_n 1, 1) := by decide +kernel
theorem dX3_nearestByDistances_11 : decode cX3_nearestByDistances 11 = .ok (.invokestatic 44, 3) := by decide +kernel
theorem dX3_nearestByDistances_14 : decode cX3_nearestByDistances 14 = .ok (.istore_n 2, 1) := by decide +kernel
theorem dX3_nearestByDistances_15 : decode cX3_nearestByDistances 15 = .ok (.iload_n 2, 1) := by decide +kernel
theorem dX3_nearestByDistances_16 : decode cX3_nearestByDistances 16 = .ok (.ifCond .eq 5, 3) := by decide +kernel
theorem dX3_nearestByDistances_19 : decode cX3_nearestByDistances 19 = .ok (.iload_n 2, 1) := by decide +kernel
theorem dX3_nearestByDistances_20 : decode cX3_nearestByDistances 20 = .ok (.ireturn, 1) := by decide +kernel
theorem dX3_nearestByDistances_21 : decode cX3_nearestByDistances 21 = .ok (.iinc 1 1, 3) := by decide +kernel
theorem dX3_nearestByDistances_24 : decode cX3_nearestByDistances 24 = .ok (.goto (-22), 3) := by decide +kernel
theorem dX3_nearestByDistances_27 : decode cX3_nearestByDistances 27 = .ok (.iconst 0, 1) := by decide +kernel
theorem dX3_nearestByDistances_28 : decode cX3_nearestByDistances 28 = .ok (.ireturn, 1) := by decide +kernel
set_option maxRecDepth 20000 in
theorem ggX3_soFarOff_X0_get : GoodIn wsX3_soFarOff wsX0_get := goodIn_ca (goodIn_r _ [5, 6, 34] rfl (by decide +kernel)) (goodIn_sub (fun _ h => List.mem_cons_of_mem _ (List.mem_append_right _ h)) (by decide +kernel))
set_option maxRecDepth 20000 in
theorem gX3_soFarOff_X0_get : GoodIn wsX3_soFarOff (wsV RX3 15 RX0 yX0_get wsX0_get) := goodIn_app (goodIn_r _ [1, 2, 3, 4] rfl (by decide +kernel)) ggX3_soFarOff_X0_get
set_option maxRecDepth 20000 in
theorem ggX3_soFarOff_X3_canWin : GoodIn wsX3_soFarOff wsX3_canWin := goodIn_ca (goodIn_r _ [10, 11, 12, 13, 4, 14, 15, 16, 17, 18, 6, 19, 20, 21, 22, 34] rfl (by decide +kernel)) (goodIn_sub (fun _ h => List.mem_cons_of_mem _ (List.mem_append_right _ h)) (by decide +kernel))
set_option maxRecDepth 20000 in
theorem gX3_soFarOff_X3_canWin : GoodIn wsX3_soFarOff (va_wsS RX3 37 yX3_canWin wsX3_canWin) := goodIn_app (goodIn_r _ [7, 8, 9] rfl (by decide +kernel)) ggX3_soFarOff_X3_canWin
set_option maxRecDepth 20000 in
theorem ggX3_soFarOff_X3_distance : GoodIn wsX3_soFarOff wsX3_distance := goodIn_ca (goodIn_r _ [25, 26, 27, 28, 29, 30, 16, 17, 4, 18, 6, 31, 32, 9, 33, 34] rfl (by decide +kernel)) (goodIn_sub (fun _ h => List.mem_cons_of_mem _ (List.mem_append_right _ h)) (by decide +kernel))
set_option maxRecDepth 20000 in
theorem gX3_soFarOff_X3_distance : GoodIn wsX3_soFarOff (va_wsS RX3 41 yX3_distance wsX3_distance) := goodIn_app (goodIn_r _ [23, 24, 9] rfl (by decide +kernel)) ggX3_soFarOff_X3_distance
theorem dX3_soFarOff_0 : decode cX3_soFarOff 0 = .ok (.aload_n 0, 1) := by decide +kernel
theorem dX3_soFarOff_1 : decode cX3_soFarOff 1 = .ok (.iconst 1, 1) := by decide +kernel
theorem dX3_soFarOff_2 : decode cX3_soFarOff 2 = .ok (.invokevirtual 15, 3) := by decide +kernel
theorem dX3_soFarOff_5 : decode cX3_soFarOff 5 = .ok (.istore_n 2, 1) := by decide +kernel
theorem dX3_soFarOff_6 : decode cX3_soFarOff 6 = .ok (.iconst 0, 1) := by decide +kernel
theorem dX3_soFarOff_7 : decode cX3_soFarOff 7 = .ok (.istore_n 3, 1) := by decide +kernel
theorem dX3_soFarOff_8 : decode cX3_soFarOff 8 = .ok (.iconst 0, 1) := by decide +kernel
theorem dX3_soFarOff_9 : decode cX3_soFarOff 9 = .ok (.istore 4, 2) := by decide +kernel
theorem dX3_soFarOff_11 : decode cX3_soFarOff 11 = .ok (.iload 4, 2) := by decide +kernel
theorem dX3_soFarOff_13 : decode cX3_soFarOff 13 = .ok (.aload_n 0, 1) := by decide +kernel
theorem dX3_soFarOff_14 : decode cX3_soFarOff 14 = .ok (.iconst 0, 1) := by decide +kernel
theorem dX3_soFarOff_15 : decode cX3_soFarOff 15 = .ok (.invokevirtual 15, 3) := by decide +kernel
theorem dX3_soFarOff_18 : decode cX3_soFarOff 18 = .ok (.if_icmp .ge 36, 3) := by decide +kernel
theorem dX3_soFarOff_21 : decode cX3_soFarOff 21 = .ok (.aload_n 0, 1) := by decide +kernel
theorem dX3_soFarOff_22 : decode cX3_soFarOff 22 = .ok (.iload 4, 2) := by decide +kernel
theorem dX3_soFarOff_24 : decode cX3_soFarOff 24 = .ok (.invokestatic 37, 3) := by decide +kernel
theorem dX3_soFarOff_27 : decode cX3_soFarOff 27 = .ok (.ifCond .eq 21, 3) := by decide +kernel
theorem dX3_soFarOff_30 : decode cX3_soFarOff 30 = .ok (.aload_n 0, 1) := by decide +kernel
theorem dX3_soFarOff_31 : decode cX3_soFarOff 31 = .ok (.iload 4, 2) := by decide +kernel
theorem dX3_soFarOff_33 : decode cX3_soFarOff 33 = .ok (.iload_n 2, 1) := by decide +kernel
theorem dX3_soFarOff_34 : decode cX3_soFarOff 34 = .ok (.invokestatic 41, 3) := by decide +kernel
theorem dX3_soFarOff_37 : decode cX3_soFarOff 37 = .ok (.iload_n 1, 1) := by decide +kernel
theorem dX3_soFarOff_38 : decode cX3_soFarOff 38 = .ok (.if_icmp .ne 10, 3) := by decide +kernel
theorem dX3_soFarOff_41 : decode cX3_soFarOff 41 = .ok (.iload_n 3, 1) := by decide +kernel
theorem dX3_soFarOff_42 : decode cX3_soFarOff 42 = .ok (.iconst 1, 1) := by decide +kernel
theorem dX3_soFarOff_43 : decode cX3_soFarOff 43 = .ok (.iload 4, 2) := by decide +kernel
theorem dX3_soFarOff_45 : decode cX3_soFarOff 45 = .ok (.ishl, 1) := by decide +kernel
theorem dX3_soFarOff_46 : decode cX3_soFarOff 46 = .ok (.ior, 1) := by decide +kernel
theorem dX3_soFarOff_47 : decode cX3_soFarOff 47 = .ok (.istore_n 3, 1) := by decide +kernel
theorem dX3_soFarOff_48 : decode cX3_soFarOff 48 = .ok (.iinc 4 1, 3) := by decide +kernel
theorem dX3_soFarOff_51 : decode cX3_soFarOff 51 = .ok (.goto (-40), 3) := by decide +kernel
theorem dX3_soFarOff_54 : decode cX3_soFarOff 54 = .ok (.iload_n 3, 1) := by decide +kernel
theorem dX3_soFarOff_55 : decode cX3_soFarOff 55 = .ok (.ireturn, 1) := by decide +kernel
set_option maxRecDepth 20000 in
theorem ggX3_nearestBehind_X0_get : GoodIn wsX3_nearestBehind wsX0_get := goodIn_ca (goodIn_r _ [5, 6, 46] rfl (by decide +kernel)) (goodIn_sub (fun _ h => List.mem_cons_of_mem _ (List.mem_append_right _ h)) (by decide +kernel))
set_option maxRecDepth 20000 in
theorem gX3_nearestBehind_X0_get : GoodIn wsX3_nearestBehind (wsV RX3 15 RX0 yX0_get wsX0_get) := goodIn_app (goodIn_r _ [1, 2, 3, 4] rfl (by decide +kernel)) ggX3_nearestBehind_X0_get
set_option maxRecDepth 20000 in
theorem ggX3_nearestBehind_X7_held : GoodIn wsX3_nearestBehind wsX7_held := goodIn_r _ [9, 10, 11, 12, 13, 14, 15, 16] rfl (by decide +kernel)
set_option maxRecDepth 20000 in
theorem gX3_nearestBehind_X7_held_n48 : GoodIn wsX3_nearestBehind (wsX7_held) := ggX3_nearestBehind_X7_held
set_option maxRecDepth 20000 in
theorem ggX3_nearestBehind_X3_nearest : GoodIn wsX3_nearestBehind wsX3_nearest := goodIn_ca (goodIn_r _ [20, 1, 2, 3, 4, 5, 6, 21, 22, 19, 23, 24, 25, 26, 27, 28, 29, 30, 31, 32, 33, 34, 35, 36, 37, 38, 39, 40, 12, 41, 42, 43, 44, 45, 46] rfl (by decide +kernel)) (goodIn_sub (fun _ h => List.mem_cons_of_mem _ (List.mem_append_right _ h)) (by decide +kernel))
set_option maxRecDepth 20000 in
theorem gX3_nearestBehind_X3_nearest : GoodIn wsX3_nearestBehind (va_wsS RX3 52 yX3_nearest wsX3_nearest) := goodIn_app (goodIn_r _ [17, 18, 19] rfl (by decide +kernel)) ggX3_nearestBehind_X3_nearest
theorem dX3_nearestBehind_0 : decode cX3_nearestBehind 0 = .ok (.aload_n 0, 1) := by decide +kernel
theorem dX3_nearestBehind_1 : decode cX3_nearestBehind 1 = .ok (.iconst 1, 1) := by decide +kernel
theorem dX3_nearestBehind_2 : decode cX3_nearestBehind 2 = .ok (.invokevirtual 15, 3) := by decide +kernel
theorem dX3_nearestBehind_5 : decode cX3_nearestBehind 5 = .ok (.iload_n 1, 1) := by decide +kernel
theorem dX3_nearestBehind_6 : decode cX3_nearestBehind 6 = .ok (.iadd, 1) := by decide +kernel
theorem dX3_nearestBehind_7 : decode cX3_nearestBehind 7 = .ok (.istore_n 2, 1) := by decide +kernel
theorem dX3_nearestBehind_8 : decode cX3_nearestBehind 8 = .ok (.aload_n 0, 1) := by decide +kernel
theorem dX3_nearestBehind_9 : decode cX3_nearestBehind 9 = .ok (.iload_n 2, 1) := by decide +kernel
theorem dX3_nearestBehind_10 : decode cX3_nearestBehind 10 = .ok (.sipush 900, 3) := by decide +kernel
theorem dX3_nearestBehind_13 : decode cX3_nearestBehind 13 = .ok (.sipush 1100, 3) := by decide +kernel
theorem dX3_nearestBehind_16 : decode cX3_nearestBehind 16 = .ok (.invokestatic 48, 3) := by decide +kernel
theorem dX3_nearestBehind_19 : decode cX3_nearestBehind 19 = .ok (.invokestatic 52, 3) := by decide +kernel
theorem dX3_nearestBehind_22 : decode cX3_nearestBehind 22 = .ok (.ireturn, 1) := by decide +kernel
set_option maxRecDepth 20000 in
theorem ggX3_winsAloneBehind_X3_nearestBehind : GoodIn wsX3_winsAloneBehind wsX3_nearestBehind := goodIn_ca (goodIn_r _ [4, 5, 6, 7, 8, 9, 10, 11, 12, 13, 14, 15, 16, 17, 18, 19, 20, 21, 22, 3, 23, 24, 25, 26, 27, 28, 29, 30, 31, 32, 33, 34, 35, 36, 37, 38, 39, 40, 41, 42, 43, 44, 45, 46, 47, 48, 49] rfl (by decide +kernel)) (goodIn_sub (fun _ h => List.mem_cons_of_mem _ (List.mem_append_right _ h)) (by decide +kernel))
set_option maxRecDepth 20000 in
theorem gX3_winsAloneBehind_X3_nearestBehind : GoodIn wsX3_winsAloneBehind (va_wsS RX3 55 yX3_nearestBehind wsX3_nearestBehind) := goodIn_app (goodIn_r _ [1, 2, 3] rfl (by decide +kernel)) ggX3_winsAloneBehind_X3_nearestBehind
theorem dX3_winsAloneBehind_0 : decode cX3_winsAloneBehind 0 = .ok (.aload_n 0, 1) := by decide +kernel
theorem dX3_winsAloneBehind_1 : decode cX3_winsAloneBehind 1 = .ok (.iload_n 2, 1) := by decide +kernel
theorem dX3_winsAloneBehind_2 : decode cX3_winsAloneBehind 2 = .ok (.invokestatic 55, 3) := by decide +kernel
theorem dX3_winsAloneBehind_5 : decode cX3_winsAloneBehind 5 = .ok (.iconst 1, 1) := by decide +kernel
theorem dX3_winsAloneBehind_6 : decode cX3_winsAloneBehind 6 = .ok (.iload_n 1, 1) := by decide +kernel
theorem dX3_winsAloneBehind_7 : decode cX3_winsAloneBehind 7 = .ok (.ishl, 1) := by decide +kernel
theorem dX3_winsAloneBehind_8 : decode cX3_winsAloneBehind 8 = .ok (.if_icmp .ne 7, 3) := by decide +kernel
theorem dX3_winsAloneBehind_11 : decode cX3_winsAloneBehind 11 = .ok (.iconst 1, 1) := by decide +kernel
theorem dX3_winsAloneBehind_12 : decode cX3_winsAloneBehind 12 = .ok (.goto 4, 3) := by decide +kernel
theorem dX3_winsAloneBehind_15 : decode cX3_winsAloneBehind 15 = .ok (.iconst 0, 1) := by decide +kernel
theorem dX3_winsAloneBehind_16 : decode cX3_winsAloneBehind 16 = .ok (.ireturn, 1) := by decide +kernel
set_option maxRecDepth 20000 in
theorem ggX3_shareOf_J6_bitCount_0f7a4 : GoodIn wsX3_shareOf wsJ6_bitCount_0f7a4 := goodIn_r _ [4, 5, 6, 7] rfl (by decide +kernel)
set_option maxRecDepth 20000 in
theorem gX3_shareOf_J6_bitCount_0f7a4 : GoodIn wsX3_shareOf (va_wsS RX3 58 yJ6_bitCount_0f7a4 wsJ6_bitCount_0f7a4) := goodIn_app (goodIn_r _ [1, 2, 3] rfl (by decide +kernel)) ggX3_shareOf_J6_bitCount_0f7a4
set_option maxRecDepth 20000 in
theorem ggX3_shareOf_X0_get : GoodIn wsX3_shareOf wsX0_get := goodIn_ca (goodIn_r _ [12, 13, 14] rfl (by decide +kernel)) (goodIn_sub (fun _ h => List.mem_cons_of_mem _ (List.mem_append_right _ h)) (by decide +kernel))
set_option maxRecDepth 20000 in
theorem gX3_shareOf_X0_get : GoodIn wsX3_shareOf (wsV RX3 15 RX0 yX0_get wsX0_get) := goodIn_app (goodIn_r _ [8, 9, 10, 11] rfl (by decide +kernel)) ggX3_shareOf_X0_get
theorem dX3_shareOf_0 : decode cX3_shareOf 0 = .ok (.iload_n 1, 1) := by decide +kernel
theorem dX3_shareOf_1 : decode cX3_shareOf 1 = .ok (.invokestatic 58, 3) := by decide +kernel
theorem dX3_shareOf_4 : decode cX3_shareOf 4 = .ok (.istore_n 2, 1) := by decide +kernel
theorem dX3_shareOf_5 : decode cX3_shareOf 5 = .ok (.iload_n 2, 1) := by decide +kernel
theorem dX3_shareOf_6 : decode cX3_shareOf 6 = .ok (.ifCond .ne 7, 3) := by decide +kernel
theorem dX3_shareOf_9 : decode cX3_shareOf 9 = .ok (.iconst 0, 1) := by decide +kernel
theorem dX3_shareOf_10 : decode cX3_shareOf 10 = .ok (.goto 11, 3) := by decide +kernel
theorem dX3_shareOf_13 : decode cX3_shareOf 13 = .ok (.aload_n 0, 1) := by decide +kernel
theorem dX3_shareOf_14 : decode cX3_shareOf 14 = .ok (.bipush 7, 2) := by decide +kernel
theorem dX3_shareOf_16 : decode cX3_shareOf 16 = .ok (.invokevirtual 15, 3) := by decide +kernel
theorem dX3_shareOf_19 : decode cX3_shareOf 19 = .ok (.iload_n 2, 1) := by decide +kernel
theorem dX3_shareOf_20 : decode cX3_shareOf 20 = .ok (.idiv, 1) := by decide +kernel
theorem dX3_shareOf_21 : decode cX3_shareOf 21 = .ok (.ireturn, 1) := by decide +kernel
theorem dX4_init_0 : decode cX4_init 0 = .ok (.aload_n 0, 1) := by decide +kernel
theorem dX4_init_1 : decode cX4_init 1 = .ok (.invokespecial 3, 3) := by decide +kernel
theorem dX4_init_4 : decode cX4_init 4 = .ok (.aload_n 0, 1) := by decide +kernel
theorem dX4_init_5 : decode cX4_init 5 = .ok (.bipush 32, 2) := by decide +kernel
theorem dX4_init_7 : decode cX4_init 7 = .ok (.newarray .char, 2) := by decide +kernel
theorem dX4_init_9 : decode cX4_init 9 = .ok (.putfield 11, 3) := by decide +kernel
theorem dX4_init_12 : decode cX4_init 12 = .ok (.aload_n 0, 1) := by decide +kernel
theorem dX4_init_13 : decode cX4_init 13 = .ok (.iconst 0, 1) := by decide +kernel
theorem dX4_init_14 : decode cX4_init 14 = .ok (.putfield 15, 3) := by decide +kernel
theorem dX4_init_17 : decode cX4_init 17 = .ok (.return_, 1) := by decide +kernel
theorem dX4_length_0 : decode cX4_length 0 = .ok (.aload_n 0, 1) := by decide +kernel
theorem dX4_length_1 : decode cX4_length 1 = .ok (.getfield 15, 3) := by decide +kernel
theorem dX4_length_4 : decode cX4_length 4 = .ok (.ireturn, 1) := by decide +kernel
theorem dX4_at_0 : decode cX4_at 0 = .ok (.iload_n 1, 1) := by decide +kernel
theorem dX4_at_1 : decode cX4_at 1 = .ok (.ifCond .lt 18, 3) := by decide +kernel
theorem dX4_at_4 : decode cX4_at 4 = .ok (.iload_n 1, 1) := by decide +kernel
theorem dX4_at_5 : decode cX4_at 5 = .ok (.bipush 32, 2) := by decide +kernel
theorem dX4_at_7 : decode cX4_at 7 = .ok (.if_icmp .ge 12, 3) := by decide +kernel
theorem dX4_at_10 : decode cX4_at 10 = .ok (.aload_n 0, 1) := by decide +kernel
theorem dX4_at_11 : decode cX4_at 11 = .ok (.getfield 11, 3) := by decide +kernel
theorem dX4_at_14 : decode cX4_at 14 = .ok (.iload_n 1, 1) := by decide +kernel
theorem dX4_at_15 : decode cX4_at 15 = .ok (.caload, 1) := by decide +kernel
theorem dX4_at_16 : decode cX4_at 16 = .ok (.goto 4, 3) := by decide +kernel
theorem dX4_at_19 : decode cX4_at 19 = .ok (.iconst 0, 1) := by decide +kernel
theorem dX4_at_20 : decode cX4_at 20 = .ok (.ireturn, 1) := by decide +kernel
set_option maxRecDepth 20000 in
theorem ggX4_writeMember_X0_of : GoodIn wsX4_writeMember wsX0_of := goodIn_ca (goodIn_r _ [6, 7, 32] rfl (by decide +kernel)) (goodIn_sub (fun _ h => List.mem_cons_of_mem _ (List.mem_append_left _ (List.mem_append_right _ h))) (by decide +kernel))
set_option maxRecDepth 20000 in
theorem gX4_writeMember_X0_of : GoodIn wsX4_writeMember (wsV RX4 21 RX0 yX0_of wsX0_of) := goodIn_app (goodIn_r _ [2, 3, 4, 5] rfl (by decide +kernel)) ggX4_writeMember_X0_of
set_option maxRecDepth 20000 in
theorem ggX4_writeMember_X4_addNumber : GoodIn wsX4_writeMember wsX4_addNumber := goodIn_ca (goodIn_ca (goodIn_r _ [12, 13, 14, 11, 15, 16, 17, 18, 19, 1, 20, 30, 31] rfl (by decide +kernel)) (goodIn_sub (fun _ h => List.mem_cons_of_mem _ (List.mem_append_right _ h)) (by decide +kernel))) (goodIn_sub (fun _ h => List.mem_cons_of_mem _ (List.mem_append_left _ (List.mem_append_right _ h))) (by decide +kernel))
set_option maxRecDepth 20000 in
theorem gX4_writeMember_X4_addNumber : GoodIn wsX4_writeMember (wsV RX4 25 RX4 yX4_addNumber wsX4_addNumber) := goodIn_app (goodIn_r _ [8, 9, 10, 11] rfl (by decide +kernel)) ggX4_writeMember_X4_addNumber
set_option maxRecDepth 20000 in
theorem ggX4_writeMember_X4_add : GoodIn wsX4_writeMember wsX4_add := goodIn_ca (goodIn_r _ [19, 1, 20, 30, 31] rfl (by decide +kernel)) (goodIn_sub (fun _ h => List.mem_cons_of_mem _ (List.mem_append_left _ (List.mem_append_right _ h))) (by decide +kernel))
set_option maxRecDepth 20000 in
theorem gX4_writeMember_X4_add : GoodIn wsX4_writeMember (wsV RX4 29 RX4 yX4_add wsX4_add) := goodIn_app (goodIn_r _ [16, 17, 18, 11] rfl (by decide +kernel)) ggX4_writeMember_X4_add
set_option maxRecDepth 20000 in
theorem ggX4_writeMember_X0_hasWagered : GoodIn wsX4_writeMember wsX0_hasWagered := goodIn_ca (goodIn_r _ [24, 25, 3, 4, 5, 6, 7, 32] rfl (by decide +kernel)) (goodIn_sub (fun _ h => List.mem_cons_of_mem _ (List.mem_append_left _ (List.mem_append_right _ h))) (by decide +kernel))
set_option maxRecDepth 20000 in
theorem gX4_writeMember_X0_hasWagered : GoodIn wsX4_writeMember (wsV RX4 33 RX0 yX0_hasWagered wsX0_hasWagered) := goodIn_app (goodIn_r _ [21, 22, 23, 5] rfl (by decide +kernel)) ggX4_writeMember_X0_hasWagered
set_option maxRecDepth 20000 in
theorem ggX4_writeMember_X0_hasTapped : GoodIn wsX4_writeMember wsX0_hasTapped := goodIn_ca (goodIn_r _ [29, 25, 3, 4, 5, 6, 7, 32] rfl (by decide +kernel)) (goodIn_sub (fun _ h => List.mem_cons_of_mem _ (List.mem_append_left _ (List.mem_append_right _ h))) (by decide +kernel))
set_option maxRecDepth 20000 in
theorem gX4_writeMember_X0_hasTapped : GoodIn wsX4_writeMember (wsV RX4 37 RX0 yX0_hasTapped wsX0_hasTapped) := goodIn_app (goodIn_r _ [26, 27, 28, 5] rfl (by decide +kernel)) ggX4_writeMember_X0_hasTapped
theorem dX4_writeMember_0 : decode cX4_writeMember 0 = .ok (.aload_n 0, 1) := by decide +kernel
theorem dX4_writeMember_1 : decode cX4_writeMember 1 = .ok (.iconst 0, 1) := by decide +kernel
theorem dX4_writeMember_2 : decode cX4_writeMember 2 = .ok (.putfield 15, 3) := by decide +kernel
theorem dX4_writeMember_5 : decode cX4_writeMember 5 = .ok (.aload_n 0, 1) := by decide +kernel
theorem dX4_writeMember_6 : decode cX4_writeMember 6 = .ok (.aload_n 1, 1) := by decide +kernel
theorem dX4_writeMember_7 : decode cX4_writeMember 7 = .ok (.iload_n 2, 1) := by decide +kernel
theorem dX4_writeMember_8 : decode cX4_writeMember 8 = .ok (.iconst 0, 1) := by decide +kernel
theorem dX4_writeMember_9 : decode cX4_writeMember 9 = .ok (.invokevirtual 21, 3) := by decide +kernel
theorem dX4_writeMember_12 : decode cX4_writeMember 12 = .ok (.invokevirtual 25, 3) := by decide +kernel
theorem dX4_writeMember_15 : decode cX4_writeMember 15 = .ok (.aload_n 0, 1) := by decide +kernel
theorem dX4_writeMember_16 : decode cX4_writeMember 16 = .ok (.bipush 64, 2) := by decide +kernel
theorem dX4_writeMember_18 : decode cX4_writeMember 18 = .ok (.invokevirtual 29, 3) := by decide +kernel
theorem dX4_writeMember_21 : decode cX4_writeMember 21 = .ok (.aload_n 0, 1) := by decide +kernel
theorem dX4_writeMember_22 : decode cX4_writeMember 22 = .ok (.aload_n 1, 1) := by decide +kernel
theorem dX4_writeMember_23 : decode cX4_writeMember 23 = .ok (.iload_n 2, 1) := by decide +kernel
theorem dX4_writeMember_24 : decode cX4_writeMember 24 = .ok (.iconst 1, 1) := by decide +kernel
theorem dX4_writeMember_25 : decode cX4_writeMember 25 = .ok (.invokevirtual 21, 3) := by decide +kernel
theorem dX4_writeMember_28 : decode cX4_writeMember 28 = .ok (.invokevirtual 25, 3) := by decide +kernel
theorem dX4_writeMember_31 : decode cX4_writeMember 31 = .ok (.aload_n 1, 1) := by decide +kernel
theorem dX4_writeMember_32 : decode cX4_writeMember 32 = .ok (.iload_n 2, 1) := by decide +kernel
theorem dX4_writeMember_33 : decode cX4_writeMember 33 = .ok (.invokevirtual 33, 3) := by decide +kernel
theorem dX4_writeMember_36 : decode cX4_writeMember 36 = .ok (.ifCond .eq 35, 3) := by decide +kernel
theorem dX4_writeMember_39 : decode cX4_writeMember 39 = .ok (.aload_n 0, 1) := by decide +kernel
theorem dX4_writeMember_40 : decode cX4_writeMember 40 = .ok (.bipush 61, 2) := by decide +kernel
theorem dX4_writeMember_42 : decode cX4_writeMember 42 = .ok (.invokevirtual 29, 3) := by decide +kernel
theorem dX4_writeMember_45 : decode cX4_writeMember 45 = .ok (.aload_n 0, 1) := by decide +kernel
theorem dX4_writeMember_46 : decode cX4_writeMember 46 = .ok (.aload_n 1, 1) := by decide +kernel
theorem dX4_writeMember_47 : decode cX4_writeMember 47 = .ok (.iload_n 2, 1) := by decide +kernel
theorem dX4_writeMember_48 : decode cX4_writeMember 48 = .ok (.iconst 2, 1) := by decide +kernel
theorem dX4_writeMember_49 : decode cX4_writeMember 49 = .ok (.invokevirtual 21, 3) := by decide +kernel
theorem dX4_writeMember_52 : decode cX4_writeMember 52 = .ok (.invokevirtual 25, 3) := by decide +kernel
theorem dX4_writeMember_55 : decode cX4_writeMember 55 = .ok (.aload_n 0, 1) := by decide +kernel
theorem dX4_writeMember_56 : decode cX4_writeMember 56 = .ok (.bipush 47, 2) := by decide +kernel
theorem dX4_writeMember_58 : decode cX4_writeMember 58 = .ok (.invokevirtual 29, 3) := by decide +kernel
theorem dX4_writeMember_61 : decode cX4_writeMember 61 = .ok (.aload_n 0, 1) := by decide +kernel
theorem dX4_writeMember_62 : decode cX4_writeMember 62 = .ok (.aload_n 1, 1) := by decide +kernel
theorem dX4_writeMember_63 : decode cX4_writeMember 63 = .ok (.iload_n 2, 1) := by decide +kernel
theorem dX4_writeMember_64 : decode cX4_writeMember 64 = .ok (.iconst 3, 1) := by decide +kernel
theorem dX4_writeMember_65 : decode cX4_writeMember 65 = .ok (.invokevirtual 21, 3) := by decide +kernel
theorem dX4_writeMember_68 : decode cX4_writeMember 68 = .ok (.invokevirtual 25, 3) := by decide +kernel
theorem dX4_writeMember_71 : decode cX4_writeMember 71 = .ok (.aload_n 1, 1) := by decide +kernel
theorem dX4_writeMember_72 : decode cX4_writeMember 72 = .ok (.iload_n 2, 1) := by decide +kernel
theorem dX4_writeMember_73 : decode cX4_writeMember 73 = .ok (.invokevirtual 37, 3) := by decide +kernel
theorem dX4_writeMember_76 : decode cX4_writeMember 76 = .ok (.ifCond .eq 9, 3) := by decide +kernel
theorem dX4_writeMember_79 : decode cX4_writeMember 79 = .ok (.aload_n 0, 1) := by decide +kernel
theorem dX4_writeMember_80 : decode cX4_writeMember 80 = .ok (.bipush 33, 2) := by decide +kernel
theorem dX4_writeMember_82 : decode cX4_writeMember 82 = .ok (.invokevirtual 29, 3) := by decide +kernel
theorem dX4_writeMember_85 : decode cX4_writeMember 85 = .ok (.return_, 1) := by decide +kernel
set_option maxRecDepth 20000 in
theorem ggX4_writeHeights_X0_ownerOf : GoodIn wsX4_writeHeights wsX0_ownerOf := goodIn_ca (goodIn_r _ [6, 7, 8, 9, 10, 5, 11, 23] rfl (by decide +kernel)) (goodIn_sub (fun _ h => List.mem_cons_of_mem _ (List.mem_append_right _ h)) (by decide +kernel))
set_option maxRecDepth 20000 in
theorem gX4_writeHeights_X0_ownerOf : GoodIn wsX4_writeHeights (wsV RX4 40 RX0 yX0_ownerOf wsX0_ownerOf) := goodIn_app (goodIn_r _ [2, 3, 4, 5] rfl (by decide +kernel)) ggX4_writeHeights_X0_ownerOf
set_option maxRecDepth 20000 in
theorem ggX4_writeHeights_X4_digit : GoodIn wsX4_writeHeights wsX4_digit := goodIn_r _ [15] rfl (by decide +kernel)
set_option maxRecDepth 20000 in
theorem gX4_writeHeights_X4_digit : GoodIn wsX4_writeHeights (va_wsS RX4 44 yX4_digit wsX4_digit) := goodIn_app (goodIn_r _ [12, 13, 14] rfl (by decide +kernel)) ggX4_writeHeights_X4_digit
set_option maxRecDepth 20000 in
theorem ggX4_writeHeights_X4_add : GoodIn wsX4_writeHeights wsX4_add := goodIn_ca (goodIn_r _ [19, 1, 20, 21, 22] rfl (by decide +kernel)) (goodIn_sub (fun _ h => List.mem_cons_of_mem _ (List.mem_append_right _ h)) (by decide +kernel))
set_option maxRecDepth 20000 in
theorem gX4_writeHeights_X4_add : GoodIn wsX4_writeHeights (wsV RX4 29 RX4 yX4_add wsX4_add) := goodIn_app (goodIn_r _ [16, 17, 18, 14] rfl (by decide +kernel)) ggX4_writeHeights_X4_add
theorem dX4_writeHeights_0 : decode cX4_writeHeights 0 = .ok (.aload_n 0, 1) := by decide +kernel
theorem dX4_writeHeights_1 : decode cX4_writeHeights 1 = .ok (.iconst 0, 1) := by decide +kernel
theorem dX4_writeHeights_2 : decode cX4_writeHeights 2 = .ok (.putfield 15, 3) := by decide +kernel
theorem dX4_writeHeights_5 : decode cX4_writeHeights 5 = .ok (.iconst 0, 1) := by decide +kernel
theorem dX4_writeHeights_6 : decode cX4_writeHeights 6 = .ok (.istore_n 2, 1) := by decide +kernel
theorem dX4_writeHeights_7 : decode cX4_writeHeights 7 = .ok (.iload_n 2, 1) := by decide +kernel
theorem dX4_writeHeights_8 : decode cX4_writeHeights 8 = .ok (.bipush 9, 2) := by decide +kernel
theorem dX4_writeHeights_10 : decode cX4_writeHeights 10 = .ok (.if_icmp .gt 33, 3) := by decide +kernel
theorem dX4_writeHeights_13 : decode cX4_writeHeights 13 = .ok (.aload_n 1, 1) := by decide +kernel
theorem dX4_writeHeights_14 : decode cX4_writeHeights 14 = .ok (.iload_n 2, 1) := by decide +kernel
theorem dX4_writeHeights_15 : decode cX4_writeHeights 15 = .ok (.invokevirtual 40, 3) := by decide +kernel
theorem dX4_writeHeights_18 : decode cX4_writeHeights 18 = .ok (.istore_n 3, 1) := by decide +kernel
theorem dX4_writeHeights_19 : decode cX4_writeHeights 19 = .ok (.aload_n 0, 1) := by decide +kernel
theorem dX4_writeHeights_20 : decode cX4_writeHeights 20 = .ok (.iload_n 3, 1) := by decide +kernel
theorem dX4_writeHeights_21 : decode cX4_writeHeights 21 = .ok (.iconst (-1), 1) := by decide +kernel
theorem dX4_writeHeights_22 : decode cX4_writeHeights 22 = .ok (.if_icmp .ne 8, 3) := by decide +kernel
theorem dX4_writeHeights_25 : decode cX4_writeHeights 25 = .ok (.bipush 46, 2) := by decide +kernel
theorem dX4_writeHeights_27 : decode cX4_writeHeights 27 = .ok (.goto 7, 3) := by decide +kernel
theorem dX4_writeHeights_30 : decode cX4_writeHeights 30 = .ok (.iload_n 3, 1) := by decide +kernel
theorem dX4_writeHeights_31 : decode cX4_writeHeights 31 = .ok (.invokestatic 44, 3) := by decide +kernel
theorem dX4_writeHeights_34 : decode cX4_writeHeights 34 = .ok (.invokevirtual 29, 3) := by decide +kernel
theorem dX4_writeHeights_37 : decode cX4_writeHeights 37 = .ok (.iinc 2 1, 3) := by decide +kernel
theorem dX4_writeHeights_40 : decode cX4_writeHeights 40 = .ok (.goto (-33), 3) := by decide +kernel
theorem dX4_writeHeights_43 : decode cX4_writeHeights 43 = .ok (.return_, 1) := by decide +kernel
set_option maxRecDepth 20000 in
theorem ggX4_addNumber_X4_digit : GoodIn wsX4_addNumber wsX4_digit := goodIn_r _ [4] rfl (by decide +kernel)
set_option maxRecDepth 20000 in
theorem gX4_addNumber_X4_digit : GoodIn wsX4_addNumber (va_wsS RX4 44 yX4_digit wsX4_digit) := goodIn_app (goodIn_r _ [1, 2, 3] rfl (by decide +kernel)) ggX4_addNumber_X4_digit
set_option maxRecDepth 20000 in
theorem ggX4_addNumber_X4_add : GoodIn wsX4_addNumber wsX4_add := goodIn_ca (goodIn_r _ [8, 9, 10, 11, 12] rfl (by decide +kernel)) (goodIn_sub (fun _ h => List.mem_cons_of_mem _ (List.mem_append_right _ h)) (by decide +kernel))
set_option maxRecDepth 20000 in
theorem gX4_addNumber_X4_add : GoodIn wsX4_addNumber (wsV RX4 29 RX4 yX4_add wsX4_add) := goodIn_app (goodIn_r _ [5, 6, 7, 3] rfl (by decide +kernel)) ggX4_addNumber_X4_add
theorem dX4_addNumber_0 : decode cX4_addNumber 0 = .ok (.iconst 1, 1) := by decide +kernel
theorem dX4_addNumber_1 : decode cX4_addNumber 1 = .ok (.istore_n 2, 1) := by decide +kernel
theorem dX4_addNumber_2 : decode cX4_addNumber 2 = .ok (.iconst 1, 1) := by decide +kernel
theorem dX4_addNumber_3 : decode cX4_addNumber 3 = .ok (.istore_n 3, 1) := by decide +kernel
theorem dX4_addNumber_4 : decode cX4_addNumber 4 = .ok (.iload_n 3, 1) := by decide +kernel
theorem dX4_addNumber_5 : decode cX4_addNumber 5 = .ok (.bipush 10, 2) := by decide +kernel
theorem dX4_addNumber_7 : decode cX4_addNumber 7 = .ok (.if_icmp .ge 22, 3) := by decide +kernel
theorem dX4_addNumber_10 : decode cX4_addNumber 10 = .ok (.iload_n 2, 1) := by decide +kernel
theorem dX4_addNumber_11 : decode cX4_addNumber 11 = .ok (.iload_n 1, 1) := by decide +kernel
theorem dX4_addNumber_12 : decode cX4_addNumber 12 = .ok (.bipush 10, 2) := by decide +kernel
theorem dX4_addNumber_14 : decode cX4_addNumber 14 = .ok (.idiv, 1) := by decide +kernel
theorem dX4_addNumber_15 : decode cX4_addNumber 15 = .ok (.if_icmp .gt 14, 3) := by decide +kernel
theorem dX4_addNumber_18 : decode cX4_addNumber 18 = .ok (.iload_n 2, 1) := by decide +kernel
theorem dX4_addNumber_19 : decode cX4_addNumber 19 = .ok (.bipush 10, 2) := by decide +kernel
theorem dX4_addNumber_21 : decode cX4_addNumber 21 = .ok (.imul, 1) := by decide +kernel
theorem dX4_addNumber_22 : decode cX4_addNumber 22 = .ok (.istore_n 2, 1) := by decide +kernel
theorem dX4_addNumber_23 : decode cX4_addNumber 23 = .ok (.iinc 3 1, 3) := by decide +kernel
theorem dX4_addNumber_26 : decode cX4_addNumber 26 = .ok (.goto (-22), 3) := by decide +kernel
theorem dX4_addNumber_29 : decode cX4_addNumber 29 = .ok (.iload_n 2, 1) := by decide +kernel
theorem dX4_addNumber_30 : decode cX4_addNumber 30 = .ok (.ifCond .le 24, 3) := by decide +kernel
theorem dX4_addNumber_33 : decode cX4_addNumber 33 = .ok (.aload_n 0, 1) := by decide +kernel
theorem dX4_addNumber_34 : decode cX4_addNumber 34 = .ok (.iload_n 1, 1) := by decide +kernel
theorem dX4_addNumber_35 : decode cX4_addNumber 35 = .ok (.iload_n 2, 1) := by decide +kernel
theorem dX4_addNumber_36 : decode cX4_addNumber 36 = .ok (.idiv, 1) := by decide +kernel
theorem dX4_addNumber_37 : decode cX4_addNumber 37 = .ok (.bipush 10, 2) := by decide +kernel
theorem dX4_addNumber_39 : decode cX4_addNumber 39 = .ok (.irem, 1) := by decide +kernel
theorem dX4_addNumber_40 : decode cX4_addNumber 40 = .ok (.invokestatic 44, 3) := by decide +kernel
theorem dX4_addNumber_43 : decode cX4_addNumber 43 = .ok (.invokevirtual 29, 3) := by decide +kernel
theorem dX4_addNumber_46 : decode cX4_addNumber 46 = .ok (.iload_n 2, 1) := by decide +kernel
theorem dX4_addNumber_47 : decode cX4_addNumber 47 = .ok (.bipush 10, 2) := by decide +kernel
theorem dX4_addNumber_49 : decode cX4_addNumber 49 = .ok (.idiv, 1) := by decide +kernel
theorem dX4_addNumber_50 : decode cX4_addNumber 50 = .ok (.istore_n 2, 1) := by decide +kernel
theorem dX4_addNumber_51 : decode cX4_addNumber 51 = .ok (.goto (-22), 3) := by decide +kernel
theorem dX4_addNumber_54 : decode cX4_addNumber 54 = .ok (.return_, 1) := by decide +kernel
theorem dX4_digit_0 : decode cX4_digit 0 = .ok (.bipush 48, 2) := by decide +kernel
theorem dX4_digit_2 : decode cX4_digit 2 = .ok (.iload_n 0, 1) := by decide +kernel
theorem dX4_digit_3 : decode cX4_digit 3 = .ok (.iadd, 1) := by decide +kernel
theorem dX4_digit_4 : decode cX4_digit 4 = .ok (.i2c, 1) := by decide +kernel
theorem dX4_digit_5 : decode cX4_digit 5 = .ok (.ireturn, 1) := by decide +kernel
theorem dX4_add_0 : decode cX4_add 0 = .ok (.aload_n 0, 1) := by decide +kernel
theorem dX4_add_1 : decode cX4_add 1 = .ok (.getfield 15, 3) := by decide +kernel
theorem dX4_add_4 : decode cX4_add 4 = .ok (.ifCond .lt 32, 3) := by decide +kernel
theorem dX4_add_7 : decode cX4_add 7 = .ok (.aload_n 0, 1) := by decide +kernel
theorem dX4_add_8 : decode cX4_add 8 = .ok (.getfield 15, 3) := by decide +kernel
theorem dX4_add_11 : decode cX4_add 11 = .ok (.bipush 32, 2) := by decide +kernel
theorem dX4_add_13 : decode cX4_add 13 = .ok (.if_icmp .ge 23, 3) := by decide +kernel
theorem dX4_add_16 : decode cX4_add 16 = .ok (.aload_n 0, 1) := by decide +kernel
theorem dX4_add_17 : decode cX4_add 17 = .ok (.getfield 11, 3) := by decide +kernel
theorem dX4_add_20 : decode cX4_add 20 = .ok (.aload_n 0, 1) := by decide +kernel
theorem dX4_add_21 : decode cX4_add 21 = .ok (.getfield 15, 3) := by decide +kernel
theorem dX4_add_24 : decode cX4_add 24 = .ok (.iload_n 1, 1) := by decide +kernel
theorem dX4_add_25 : decode cX4_add 25 = .ok (.castore, 1) := by decide +kernel
theorem dX4_add_26 : decode cX4_add 26 = .ok (.aload_n 0, 1) := by decide +kernel
theorem dX4_add_27 : decode cX4_add 27 = .ok (.dup, 1) := by decide +kernel
theorem dX4_add_28 : decode cX4_add 28 = .ok (.getfield 15, 3) := by decide +kernel
theorem dX4_add_31 : decode cX4_add 31 = .ok (.iconst 1, 1) := by decide +kernel
theorem dX4_add_32 : decode cX4_add 32 = .ok (.iadd, 1) := by decide +kernel
theorem dX4_add_33 : decode cX4_add 33 = .ok (.putfield 15, 3) := by decide +kernel
theorem dX4_add_36 : decode cX4_add 36 = .ok (.return_, 1) := by decide +kernel
set_option maxRecDepth 20000 in
theorem ggX5_atPlace_X0_get : GoodIn wsX5_atPlace wsX0_get := goodIn_ca (goodIn_r _ [5, 6, 23] rfl (by decide +kernel)) (goodIn_sub (fun _ h => List.mem_cons_of_mem _ (List.mem_append_right _ h)) (by decide +kernel))
set_option maxRecDepth 20000 in
theorem gX5_atPlace_X0_get : GoodIn wsX5_atPlace (wsV RX5 11 RX0 yX0_get wsX0_get) := goodIn_app (goodIn_r _ [1, 2, 3, 4] rfl (by decide +kernel)) ggX5_atPlace_X0_get
set_option maxRecDepth 20000 in
theorem ggX5_atPlace_X5_placeOf : GoodIn wsX5_atPlace wsX5_placeOf := goodIn_ca (goodIn_r _ [10, 11, 12, 9, 13, 14, 15, 16, 4, 17, 6, 1, 2, 3, 5, 18, 19, 20, 21, 22, 23] rfl (by decide +kernel)) (goodIn_sub (fun _ h => List.mem_cons_of_mem _ (List.mem_append_right _ h)) (by decide +kernel))
set_option maxRecDepth 20000 in
theorem gX5_atPlace_X5_placeOf : GoodIn wsX5_atPlace (va_wsS RX5 15 yX5_placeOf wsX5_placeOf) := goodIn_app (goodIn_r _ [7, 8, 9] rfl (by decide +kernel)) ggX5_atPlace_X5_placeOf
theorem dX5_atPlace_0 : decode cX5_atPlace 0 = .ok (.iconst 0, 1) := by decide +kernel
theorem dX5_atPlace_1 : decode cX5_atPlace 1 = .ok (.istore_n 3, 1) := by decide +kernel
theorem dX5_atPlace_2 : decode cX5_atPlace 2 = .ok (.iload_n 3, 1) := by decide +kernel
theorem dX5_atPlace_3 : decode cX5_atPlace 3 = .ok (.aload_n 0, 1) := by decide +kernel
theorem dX5_atPlace_4 : decode cX5_atPlace 4 = .ok (.iconst 0, 1) := by decide +kernel
theorem dX5_atPlace_5 : decode cX5_atPlace 5 = .ok (.invokevirtual 11, 3) := by decide +kernel
theorem dX5_atPlace_8 : decode cX5_atPlace 8 = .ok (.if_icmp .ge 21, 3) := by decide +kernel
theorem dX5_atPlace_11 : decode cX5_atPlace 11 = .ok (.aload_n 0, 1) := by decide +kernel
theorem dX5_atPlace_12 : decode cX5_atPlace 12 = .ok (.iload_n 1, 1) := by decide +kernel
theorem dX5_atPlace_13 : decode cX5_atPlace 13 = .ok (.iload_n 3, 1) := by decide +kernel
theorem dX5_atPlace_14 : decode cX5_atPlace 14 = .ok (.invokestatic 15, 3) := by decide +kernel
theorem dX5_atPlace_17 : decode cX5_atPlace 17 = .ok (.iload_n 2, 1) := by decide +kernel
theorem dX5_atPlace_18 : decode cX5_atPlace 18 = .ok (.if_icmp .ne 5, 3) := by decide +kernel
theorem dX5_atPlace_21 : decode cX5_atPlace 21 = .ok (.iload_n 3, 1) := by decide +kernel
theorem dX5_atPlace_22 : decode cX5_atPlace 22 = .ok (.ireturn, 1) := by decide +kernel
theorem dX5_atPlace_23 : decode cX5_atPlace 23 = .ok (.iinc 3 1, 3) := by decide +kernel
theorem dX5_atPlace_26 : decode cX5_atPlace 26 = .ok (.goto (-24), 3) := by decide +kernel
theorem dX5_atPlace_29 : decode cX5_atPlace 29 = .ok (.iconst (-1), 1) := by decide +kernel
theorem dX5_atPlace_30 : decode cX5_atPlace 30 = .ok (.ireturn, 1) := by decide +kernel
set_option maxRecDepth 20000 in
theorem ggX5_placeOf_X5_measured : GoodIn wsX5_placeOf wsX5_measured := goodIn_ca (goodIn_r _ [4, 5, 6, 7, 8, 9, 10, 11, 12, 13, 14, 15, 16, 17, 18, 19, 20] rfl (by decide +kernel)) (goodIn_sub (fun _ h => List.mem_cons_of_mem _ (List.mem_append_right _ h)) (by decide +kernel))
set_option maxRecDepth 20000 in
theorem gX5_placeOf_X5_measured : GoodIn wsX5_placeOf (va_wsS RX5 21 yX5_measured wsX5_measured) := goodIn_app (goodIn_r _ [1, 2, 3] rfl (by decide +kernel)) ggX5_placeOf_X5_measured
set_option maxRecDepth 20000 in
theorem ggX5_placeOf_X0_get : GoodIn wsX5_placeOf wsX0_get := goodIn_ca (goodIn_r _ [14, 10, 20] rfl (by decide +kernel)) (goodIn_sub (fun _ h => List.mem_cons_of_mem _ (List.mem_append_right _ h)) (by decide +kernel))
set_option maxRecDepth 20000 in
theorem gX5_placeOf_X0_get : GoodIn wsX5_placeOf (wsV RX5 11 RX0 yX0_get wsX0_get) := goodIn_app (goodIn_r _ [11, 12, 13, 8] rfl (by decide +kernel)) ggX5_placeOf_X0_get
theorem dX5_placeOf_0 : decode cX5_placeOf 0 = .ok (.aload_n 0, 1) := by decide +kernel
theorem dX5_placeOf_1 : decode cX5_placeOf 1 = .ok (.iload_n 1, 1) := by decide +kernel
theorem dX5_placeOf_2 : decode cX5_placeOf 2 = .ok (.iload_n 2, 1) := by decide +kernel
theorem dX5_placeOf_3 : decode cX5_placeOf 3 = .ok (.invokestatic 21, 3) := by decide +kernel
theorem dX5_placeOf_6 : decode cX5_placeOf 6 = .ok (.istore_n 3, 1) := by decide +kernel
theorem dX5_placeOf_7 : decode cX5_placeOf 7 = .ok (.iconst 0, 1) := by decide +kernel
theorem dX5_placeOf_8 : decode cX5_placeOf 8 = .ok (.istore 4, 2) := by decide +kernel
theorem dX5_placeOf_10 : decode cX5_placeOf 10 = .ok (.iconst 0, 1) := by decide +kernel
theorem dX5_placeOf_11 : decode cX5_placeOf 11 = .ok (.istore 5, 2) := by decide +kernel
theorem dX5_placeOf_13 : decode cX5_placeOf 13 = .ok (.iload 5, 2) := by decide +kernel
theorem dX5_placeOf_15 : decode cX5_placeOf 15 = .ok (.aload_n 0, 1) := by decide +kernel
theorem dX5_placeOf_16 : decode cX5_placeOf 16 = .ok (.iconst 0, 1) := by decide +kernel
theorem dX5_placeOf_17 : decode cX5_placeOf 17 = .ok (.invokevirtual 11, 3) := by decide +kernel
theorem dX5_placeOf_20 : decode cX5_placeOf 20 = .ok (.if_icmp .ge 39, 3) := by decide +kernel
theorem dX5_placeOf_23 : decode cX5_placeOf 23 = .ok (.aload_n 0, 1) := by decide +kernel
theorem dX5_placeOf_24 : decode cX5_placeOf 24 = .ok (.iload_n 1, 1) := by decide +kernel
theorem dX5_placeOf_25 : decode cX5_placeOf 25 = .ok (.iload 5, 2) := by decide +kernel
theorem dX5_placeOf_27 : decode cX5_placeOf 27 = .ok (.invokestatic 21, 3) := by decide +kernel
theorem dX5_placeOf_30 : decode cX5_placeOf 30 = .ok (.istore 6, 2) := by decide +kernel
theorem dX5_placeOf_32 : decode cX5_placeOf 32 = .ok (.iload 6, 2) := by decide +kernel
theorem dX5_placeOf_34 : decode cX5_placeOf 34 = .ok (.iload_n 3, 1) := by decide +kernel
theorem dX5_placeOf_35 : decode cX5_placeOf 35 = .ok (.if_icmp .gt 15, 3) := by decide +kernel
theorem dX5_placeOf_38 : decode cX5_placeOf 38 = .ok (.iload 6, 2) := by decide +kernel
theorem dX5_placeOf_40 : decode cX5_placeOf 40 = .ok (.iload_n 3, 1) := by decide +kernel
theorem dX5_placeOf_41 : decode cX5_placeOf 41 = .ok (.if_icmp .ne 12, 3) := by decide +kernel
theorem dX5_placeOf_44 : decode cX5_placeOf 44 = .ok (.iload 5, 2) := by decide +kernel
theorem dX5_placeOf_46 : decode cX5_placeOf 46 = .ok (.iload_n 2, 1) := by decide +kernel
theorem dX5_placeOf_47 : decode cX5_placeOf 47 = .ok (.if_icmp .ge 6, 3) := by decide +kernel
theorem dX5_placeOf_50 : decode cX5_placeOf 50 = .ok (.iinc 4 1, 3) := by decide +kernel
theorem dX5_placeOf_53 : decode cX5_placeOf 53 = .ok (.iinc 5 1, 3) := by decide +kernel
theorem dX5_placeOf_56 : decode cX5_placeOf 56 = .ok (.goto (-43), 3) := by decide +kernel
theorem dX5_placeOf_59 : decode cX5_placeOf 59 = .ok (.iload 4, 2) := by decide +kernel
theorem dX5_placeOf_61 : decode cX5_placeOf 61 = .ok (.ireturn, 1) := by decide +kernel
set_option maxRecDepth 20000 in
theorem ggX5_measured_X0_of : GoodIn wsX5_measured wsX0_of := goodIn_ca (goodIn_r _ [5, 6, 16] rfl (by decide +kernel)) (goodIn_sub (fun _ h => List.mem_cons_of_mem _ (List.mem_append_right _ h)) (by decide +kernel))
set_option maxRecDepth 20000 in
theorem gX5_measured_X0_of : GoodIn wsX5_measured (wsV RX5 24 RX0 yX0_of wsX0_of) := goodIn_app (goodIn_r _ [1, 2, 3, 4] rfl (by decide +kernel)) ggX5_measured_X0_of
set_option maxRecDepth 20000 in
theorem ggX5_measured_X0_get : GoodIn wsX5_measured wsX0_get := goodIn_ca (goodIn_r _ [10, 6, 16] rfl (by decide +kernel)) (goodIn_sub (fun _ h => List.mem_cons_of_mem _ (List.mem_append_right _ h)) (by decide +kernel))
set_option maxRecDepth 20000 in
theorem gX5_measured_X0_get : GoodIn wsX5_measured (wsV RX5 11 RX0 yX0_get wsX0_get) := goodIn_app (goodIn_r _ [7, 8, 9, 4] rfl (by decide +kernel)) ggX5_measured_X0_get
set_option maxRecDepth 20000 in
theorem ggX5_measured_X3_shown : GoodIn wsX5_measured wsX3_shown := goodIn_ca (goodIn_r _ [14, 15, 2, 3, 4, 5, 6, 16] rfl (by decide +kernel)) (goodIn_sub (fun _ h => List.mem_cons_of_mem _ (List.mem_append_right _ h)) (by decide +kernel))
set_option maxRecDepth 20000 in
theorem gX5_measured_X3_shown : GoodIn wsX5_measured (va_wsS RX5 28 yX3_shown wsX3_shown) := goodIn_app (goodIn_r _ [11, 12, 13] rfl (by decide +kernel)) ggX5_measured_X3_shown
theorem dX5_measured_0 : decode cX5_measured 0 = .ok (.iload_n 1, 1) := by decide +kernel
theorem dX5_measured_1 : decode cX5_measured 1 = .ok (.tableswitch 52 0 2 #[27, 34, 41], 27) := by decide +kernel
theorem dX5_measured_28 : decode cX5_measured 28 = .ok (.aload_n 0, 1) := by decide +kernel
theorem dX5_measured_29 : decode cX5_measured 29 = .ok (.iload_n 2, 1) := by decide +kernel
theorem dX5_measured_30 : decode cX5_measured 30 = .ok (.iconst 0, 1) := by decide +kernel
theorem dX5_measured_31 : decode cX5_measured 31 = .ok (.invokevirtual 24, 3) := by decide +kernel
theorem dX5_measured_34 : decode cX5_measured 34 = .ok (.ireturn, 1) := by decide +kernel
theorem dX5_measured_35 : decode cX5_measured 35 = .ok (.aload_n 0, 1) := by decide +kernel
theorem dX5_measured_36 : decode cX5_measured 36 = .ok (.iload_n 2, 1) := by decide +kernel
theorem dX5_measured_37 : decode cX5_measured 37 = .ok (.iconst 1, 1) := by decide +kernel
theorem dX5_measured_38 : decode cX5_measured 38 = .ok (.invokevirtual 24, 3) := by decide +kernel
theorem dX5_measured_41 : decode cX5_measured 41 = .ok (.ireturn, 1) := by decide +kernel
theorem dX5_measured_42 : decode cX5_measured 42 = .ok (.aload_n 0, 1) := by decide +kernel
theorem dX5_measured_43 : decode cX5_measured 43 = .ok (.iload_n 2, 1) := by decide +kernel
theorem dX5_measured_44 : decode cX5_measured 44 = .ok (.aload_n 0, 1) := by decide +kernel
theorem dX5_measured_45 : decode cX5_measured 45 = .ok (.iconst 1, 1) := by decide +kernel
theorem dX5_measured_46 : decode cX5_measured 46 = .ok (.invokevirtual 11, 3) := by decide +kernel
theorem dX5_measured_49 : decode cX5_measured 49 = .ok (.invokestatic 28, 3) := by decide +kernel
theorem dX5_measured_52 : decode cX5_measured 52 = .ok (.ireturn, 1) := by decide +kernel
theorem dX5_measured_53 : decode cX5_measured 53 = .ok (.aload_n 0, 1) := by decide +kernel
theorem dX5_measured_54 : decode cX5_measured 54 = .ok (.iload_n 2, 1) := by decide +kernel
theorem dX5_measured_55 : decode cX5_measured 55 = .ok (.bipush 6, 2) := by decide +kernel
theorem dX5_measured_57 : decode cX5_measured 57 = .ok (.invokevirtual 24, 3) := by decide +kernel
theorem dX5_measured_60 : decode cX5_measured 60 = .ok (.ireturn, 1) := by decide +kernel
theorem dX6_init_0 : decode cX6_init 0 = .ok (.aload_n 0, 1) := by decide +kernel
theorem dX6_init_1 : decode cX6_init 1 = .ok (.invokespecial 3, 3) := by decide +kernel
theorem dX6_init_4 : decode cX6_init 4 = .ok (.aload_n 0, 1) := by decide +kernel
theorem dX6_init_5 : decode cX6_init 5 = .ok (.iconst 0, 1) := by decide +kernel
theorem dX6_init_6 : decode cX6_init 6 = .ok (.putfield 9, 3) := by decide +kernel
theorem dX6_init_9 : decode cX6_init 9 = .ok (.aload_n 0, 1) := by decide +kernel
theorem dX6_init_10 : decode cX6_init 10 = .ok (.iconst 0, 1) := by decide +kernel
theorem dX6_init_11 : decode cX6_init 11 = .ok (.putfield 15, 3) := by decide +kernel
theorem dX6_init_14 : decode cX6_init 14 = .ok (.return_, 1) := by decide +kernel
theorem dX6_isRefused_0 : decode cX6_isRefused 0 = .ok (.aload_n 0, 1) := by decide +kernel
theorem dX6_isRefused_1 : decode cX6_isRefused 1 = .ok (.getfield 9, 3) := by decide +kernel
theorem dX6_isRefused_4 : decode cX6_isRefused 4 = .ok (.ifCond .eq 7, 3) := by decide +kernel
theorem dX6_isRefused_7 : decode cX6_isRefused 7 = .ok (.iconst 1, 1) := by decide +kernel
theorem dX6_isRefused_8 : decode cX6_isRefused 8 = .ok (.goto 4, 3) := by decide +kernel
theorem dX6_isRefused_11 : decode cX6_isRefused 11 = .ok (.iconst 0, 1) := by decide +kernel
theorem dX6_isRefused_12 : decode cX6_isRefused 12 = .ok (.ireturn, 1) := by decide +kernel
theorem dX6_latestReason_0 : decode cX6_latestReason 0 = .ok (.aload_n 0, 1) := by decide +kernel
theorem dX6_latestReason_1 : decode cX6_latestReason 1 = .ok (.getfield 9, 3) := by decide +kernel
theorem dX6_latestReason_4 : decode cX6_latestReason 4 = .ok (.ireturn, 1) := by decide +kernel
theorem dX6_latestDetail_0 : decode cX6_latestDetail 0 = .ok (.aload_n 0, 1) := by decide +kernel
theorem dX6_latestDetail_1 : decode cX6_latestDetail 1 = .ok (.getfield 15, 3) := by decide +kernel
theorem dX6_latestDetail_4 : decode cX6_latestDetail 4 = .ok (.ireturn, 1) := by decide +kernel
set_option maxRecDepth 20000 in
theorem ggX6_carryOut_X6_enter : GoodIn wsX6_carryOut wsX6_enter := goodIn_ca (goodIn_r _ [7, 8, 9, 10, 11, 12, 13, 6, 14, 1, 2, 15, 16, 17, 18, 19, 20, 21, 22, 23, 24, 25, 26, 27, 28, 29, 30, 31, 32, 33, 34, 35, 36, 37, 38, 39, 40, 41, 42, 43, 44, 45, 46, 47, 48, 49, 50, 51, 52, 53, 54, 176, 177, 178] rfl (by decide +kernel)) (goodIn_sub (fun _ h => List.mem_cons_of_mem _ (List.mem_append_left _ (List.mem_append_right _ h))) (by decide +kernel))
set_option maxRecDepth 20000 in
theorem gX6_carryOut_X6_enter : GoodIn wsX6_carryOut (wsV RX6 18 RX6 yX6_enter wsX6_enter) := goodIn_app (goodIn_r _ [3, 4, 5, 6] rfl (by decide +kernel)) ggX6_carryOut_X6_enter
set_option maxRecDepth 20000 in
theorem ggX6_carryOut_X6_goAway : GoodIn wsX6_carryOut wsX6_goAway := goodIn_ca (goodIn_r _ [58, 59, 60, 61, 18, 62, 20, 63, 64, 65, 6, 66, 15, 16, 17, 19, 11, 12, 13, 14, 1, 2, 67, 68, 69, 70, 29, 30, 31, 32, 71, 72, 73, 74, 75, 46, 47, 48, 49, 50, 51, 52, 53, 54, 38, 39, 40, 41, 178, 176, 177] rfl (by decide +kernel)) (goodIn_sub (fun _ h => List.mem_cons_of_mem _ (List.mem_append_left _ (List.mem_append_right _ h))) (by decide +kernel))
set_option maxRecDepth 20000 in
theorem gX6_carryOut_X6_goAway : GoodIn wsX6_carryOut (wsV RX6 22 RX6 yX6_goAway wsX6_goAway) := goodIn_app (goodIn_r _ [55, 56, 57, 6] rfl (by decide +kernel)) ggX6_carryOut_X6_goAway
set_option maxRecDepth 20000 in
theorem ggX6_carryOut_X6_climb : GoodIn wsX6_carryOut wsX6_climb := goodIn_ca (goodIn_r _ [79, 80, 81, 82, 83, 59, 60, 61, 18, 62, 20, 63, 64, 65, 6, 66, 15, 16, 17, 19, 11, 12, 13, 14, 1, 2, 8, 9, 10, 21, 22, 23, 24, 25, 26, 27, 28, 29, 30, 31, 32, 33, 71, 84, 85, 86, 87, 88, 89, 90, 91, 38, 39, 40, 41, 46, 47, 48, 49, 50, 51, 52, 53, 54, 92, 93, 178, 176, 177] rfl (by decide +kernel)) (goodIn_sub (fun _ h => List.mem_cons_of_mem _ (List.mem_append_left _ (List.mem_append_right _ h))) (by decide +kernel))
set_option maxRecDepth 20000 in
theorem gX6_carryOut_X6_climb : GoodIn wsX6_carryOut (wsV RX6 25 RX6 yX6_climb wsX6_climb) := goodIn_app (goodIn_r _ [76, 77, 78, 6] rfl (by decide +kernel)) ggX6_carryOut_X6_climb
set_option maxRecDepth 20000 in
theorem ggX6_carryOut_X6_swap : GoodIn wsX6_carryOut wsX6_swap := goodIn_ca (goodIn_r _ [97, 80, 81, 82, 83, 59, 60, 61, 18, 62, 20, 63, 64, 65, 6, 66, 15, 16, 17, 19, 11, 12, 13, 14, 1, 2, 71, 30, 31, 32, 93, 39, 40, 41, 178, 176, 177] rfl (by decide +kernel)) (goodIn_sub (fun _ h => List.mem_cons_of_mem _ (List.mem_append_left _ (List.mem_append_right _ h))) (by decide +kernel))
set_option maxRecDepth 20000 in
theorem gX6_carryOut_X6_swap : GoodIn wsX6_carryOut (wsV RX6 29 RX6 yX6_swap wsX6_swap) := goodIn_app (goodIn_r _ [94, 95, 96, 6] rfl (by decide +kernel)) ggX6_carryOut_X6_swap
set_option maxRecDepth 20000 in
theorem ggX6_carryOut_X6_bet : GoodIn wsX6_carryOut wsX6_bet := goodIn_ca (goodIn_r _ [101, 59, 60, 61, 18, 62, 20, 63, 64, 65, 6, 66, 15, 16, 17, 19, 11, 12, 13, 14, 1, 2, 67, 68, 69, 70, 29, 30, 31, 32, 71, 84, 85, 86, 87, 88, 89, 90, 91, 38, 39, 40, 41, 46, 47, 48, 49, 50, 51, 52, 53, 54, 93, 178, 176, 177] rfl (by decide +kernel)) (goodIn_sub (fun _ h => List.mem_cons_of_mem _ (List.mem_append_left _ (List.mem_append_right _ h))) (by decide +kernel))
set_option maxRecDepth 20000 in
theorem gX6_carryOut_X6_bet : GoodIn wsX6_carryOut (wsV RX6 32 RX6 yX6_bet wsX6_bet) := goodIn_app (goodIn_r _ [98, 99, 100, 6] rfl (by decide +kernel)) ggX6_carryOut_X6_bet
set_option maxRecDepth 20000 in
theorem ggX6_carryOut_X6_knock : GoodIn wsX6_carryOut wsX6_knock := goodIn_ca (goodIn_r _ [105, 59, 60, 61, 18, 62, 20, 63, 64, 65, 6, 66, 15, 16, 17, 19, 11, 12, 13, 14, 1, 2, 67, 68, 69, 70, 29, 30, 31, 32, 106, 107, 108, 109, 71, 84, 85, 86, 87, 88, 89, 90, 91, 38, 39, 40, 41, 46, 47, 48, 49, 50, 51, 52, 53, 54, 92, 93, 110, 9, 111, 178, 176, 177] rfl (by decide +kernel)) (goodIn_sub (fun _ h => List.mem_cons_of_mem _ (List.mem_append_left _ (List.mem_append_right _ h))) (by decide +kernel))
set_option maxRecDepth 20000 in
theorem gX6_carryOut_X6_knock : GoodIn wsX6_carryOut (wsV RX6 36 RX6 yX6_knock wsX6_knock) := goodIn_app (goodIn_r _ [102, 103, 104, 6] rfl (by decide +kernel)) ggX6_carryOut_X6_knock
set_option maxRecDepth 20000 in
theorem ggX6_carryOut_X6_passDay : GoodIn wsX6_carryOut wsX6_passDay := goodIn_ca (goodIn_r _ [115, 116, 9, 117, 11, 12, 13, 6, 14, 1, 2, 15, 16, 17, 18, 19, 20, 118, 119, 120, 121, 122, 123, 46, 47, 48, 49, 50, 51, 52, 53, 54, 92, 124, 176, 177, 178] rfl (by decide +kernel)) (goodIn_sub (fun _ h => List.mem_cons_of_mem _ (List.mem_append_left _ (List.mem_append_right _ h))) (by decide +kernel))
set_option maxRecDepth 20000 in
theorem gX6_carryOut_X6_passDay : GoodIn wsX6_carryOut (wsV RX6 39 RX6 yX6_passDay wsX6_passDay) := goodIn_app (goodIn_r _ [112, 113, 114, 6] rfl (by decide +kernel)) ggX6_carryOut_X6_passDay
set_option maxRecDepth 20000 in
theorem ggX6_carryOut_X6_fill : GoodIn wsX6_carryOut wsX6_fill := goodIn_ca (goodIn_r _ [128, 59, 60, 61, 18, 62, 20, 63, 64, 65, 6, 66, 15, 16, 17, 19, 11, 12, 13, 14, 1, 2, 71, 30, 31, 32, 124, 52, 53, 54, 129, 89, 90, 91, 29, 38, 39, 40, 41, 178, 176, 177] rfl (by decide +kernel)) (goodIn_sub (fun _ h => List.mem_cons_of_mem _ (List.mem_append_left _ (List.mem_append_right _ h))) (by decide +kernel))
set_option maxRecDepth 20000 in
theorem gX6_carryOut_X6_fill : GoodIn wsX6_carryOut (wsV RX6 42 RX6 yX6_fill wsX6_fill) := goodIn_app (goodIn_r _ [125, 126, 127, 6] rfl (by decide +kernel)) ggX6_carryOut_X6_fill
set_option maxRecDepth 20000 in
theorem ggX6_carryOut_X6_uncork : GoodIn wsX6_carryOut wsX6_uncork := goodIn_ca (goodIn_r _ [133, 59, 60, 61, 18, 62, 20, 63, 64, 65, 6, 66, 15, 16, 17, 19, 11, 12, 13, 14, 1, 2, 71, 30, 31, 32, 118, 9, 119, 120, 121, 122, 123, 46, 47, 48, 49, 50, 51, 52, 53, 54, 129, 89, 90, 91, 29, 38, 39, 40, 41, 92, 178, 176, 177] rfl (by decide +kernel)) (goodIn_sub (fun _ h => List.mem_cons_of_mem _ (List.mem_append_left _ (List.mem_append_right _ h))) (by decide +kernel))
set_option maxRecDepth 20000 in
theorem gX6_carryOut_X6_uncork : GoodIn wsX6_carryOut (wsV RX6 45 RX6 yX6_uncork wsX6_uncork) := goodIn_app (goodIn_r _ [130, 131, 132, 6] rfl (by decide +kernel)) ggX6_carryOut_X6_uncork
set_option maxRecDepth 20000 in
theorem ggX6_carryOut_X6_readNeedles : GoodIn wsX6_carryOut wsX6_readNeedles := goodIn_ca (goodIn_ca (goodIn_r _ [137, 138, 139, 140, 18, 141, 20, 142, 68, 69, 70, 29, 30, 31, 32, 15, 16, 17, 19, 11, 12, 13, 6, 14, 1, 2, 143, 144, 145, 146, 147, 148, 149, 150, 151, 152, 107, 108, 109, 153, 154, 155, 156, 81, 82, 83, 157, 158, 159, 160, 161, 162, 163, 164, 165, 166, 167, 168, 169, 170, 171, 172, 173, 84, 85, 86, 87, 88, 89, 90, 91, 38, 39, 40, 41, 46, 47, 48, 49, 50, 51, 52, 53, 54, 129, 92, 174, 43, 44, 45, 175, 178, 176, 177] rfl (by decide +kernel)) (goodIn_sub (fun _ h => List.mem_cons_of_mem _ (List.mem_append_left _ (List.mem_append_right _ h))) (by decide +kernel))) (goodIn_sub (fun _ h => List.mem_cons_of_mem _ (List.mem_append_right _ h)) (by decide +kernel))
set_option maxRecDepth 20000 in
theorem gX6_carryOut_X6_readNeedles : GoodIn wsX6_carryOut (wsV RX6 48 RX6 yX6_readNeedles wsX6_readNeedles) := goodIn_app (goodIn_r _ [134, 135, 136, 6] rfl (by decide +kernel)) ggX6_carryOut_X6_readNeedles
theorem dX6_carryOut_0 : decode cX6_carryOut 0 = .ok (.aload_n 0, 1) := by decide +kernel
theorem dX6_carryOut_1 : decode cX6_carryOut 1 = .ok (.iconst 0, 1) := by decide +kernel
theorem dX6_carryOut_2 : decode cX6_carryOut 2 = .ok (.putfield 9, 3) := by decide +kernel
theorem dX6_carryOut_5 : decode cX6_carryOut 5 = .ok (.aload_n 0, 1) := by decide +kernel
theorem dX6_carryOut_6 : decode cX6_carryOut 6 = .ok (.iconst 0, 1) := by decide +kernel
theorem dX6_carryOut_7 : decode cX6_carryOut 7 = .ok (.putfield 15, 3) := by decide +kernel
theorem dX6_carryOut_10 : decode cX6_carryOut 10 = .ok (.iload_n 2, 1) := by decide +kernel
theorem dX6_carryOut_11 : decode cX6_carryOut 11 = .ok (.tableswitch 176 98 120 #[162, 176, 155, 176, 176, 176, 176, 176, 105, 176, 176, 119, 176, 169, 176, 176, 176, 128, 148, 176, 176, 137, 112], 105) := by decide +kernel
theorem dX6_carryOut_116 : decode cX6_carryOut 116 = .ok (.aload_n 0, 1) := by decide +kernel
theorem dX6_carryOut_117 : decode cX6_carryOut 117 = .ok (.aload_n 1, 1) := by decide +kernel
theorem dX6_carryOut_118 : decode cX6_carryOut 118 = .ok (.iload_n 3, 1) := by decide +kernel
theorem dX6_carryOut_119 : decode cX6_carryOut 119 = .ok (.invokevirtual 18, 3) := by decide +kernel
theorem dX6_carryOut_122 : decode cX6_carryOut 122 = .ok (.ireturn, 1) := by decide +kernel
theorem dX6_carryOut_123 : decode cX6_carryOut 123 = .ok (.aload_n 0, 1) := by decide +kernel
theorem dX6_carryOut_124 : decode cX6_carryOut 124 = .ok (.aload_n 1, 1) := by decide +kernel
theorem dX6_carryOut_125 : decode cX6_carryOut 125 = .ok (.iload_n 3, 1) := by decide +kernel
theorem dX6_carryOut_126 : decode cX6_carryOut 126 = .ok (.invokevirtual 22, 3) := by decide +kernel
theorem dX6_carryOut_129 : decode cX6_carryOut 129 = .ok (.ireturn, 1) := by decide +kernel
theorem dX6_carryOut_130 : decode cX6_carryOut 130 = .ok (.aload_n 0, 1) := by decide +kernel
theorem dX6_carryOut_131 : decode cX6_carryOut 131 = .ok (.aload_n 1, 1) := by decide +kernel
theorem dX6_carryOut_132 : decode cX6_carryOut 132 = .ok (.iload_n 3, 1) := by decide +kernel
theorem dX6_carryOut_133 : decode cX6_carryOut 133 = .ok (.iload 4, 2) := by decide +kernel
theorem dX6_carryOut_135 : decode cX6_carryOut 135 = .ok (.invokevirtual 25, 3) := by decide +kernel
theorem dX6_carryOut_138 : decode cX6_carryOut 138 = .ok (.ireturn, 1) := by decide +kernel
theorem dX6_carryOut_139 : decode cX6_carryOut 139 = .ok (.aload_n 0, 1) := by decide +kernel
theorem dX6_carryOut_140 : decode cX6_carryOut 140 = .ok (.aload_n 1, 1) := by decide +kernel
theorem dX6_carryOut_141 : decode cX6_carryOut 141 = .ok (.iload_n 3, 1) := by decide +kernel
theorem dX6_carryOut_142 : decode cX6_carryOut 142 = .ok (.iload 4, 2) := by decide +kernel
theorem dX6_carryOut_144 : decode cX6_carryOut 144 = .ok (.invokevirtual 29, 3) := by decide +kernel
theorem dX6_carryOut_147 : decode cX6_carryOut 147 = .ok (.ireturn, 1) := by decide +kernel
theorem dX6_carryOut_148 : decode cX6_carryOut 148 = .ok (.aload_n 0, 1) := by decide +kernel
theorem dX6_carryOut_149 : decode cX6_carryOut 149 = .ok (.aload_n 1, 1) := by decide +kernel
theorem dX6_carryOut_150 : decode cX6_carryOut 150 = .ok (.iload_n 3, 1) := by decide +kernel
theorem dX6_carryOut_151 : decode cX6_carryOut 151 = .ok (.iload 4, 2) := by decide +kernel
theorem dX6_carryOut_153 : decode cX6_carryOut 153 = .ok (.iload 5, 2) := by decide +kernel
theorem dX6_carryOut_155 : decode cX6_carryOut 155 = .ok (.invokevirtual 32, 3) := by decide +kernel
theorem dX6_carryOut_158 : decode cX6_carryOut 158 = .ok (.ireturn, 1) := by decide +kernel
theorem dX6_carryOut_159 : decode cX6_carryOut 159 = .ok (.aload_n 0, 1) := by decide +kernel
theorem dX6_carryOut_160 : decode cX6_carryOut 160 = .ok (.aload_n 1, 1) := by decide +kernel
theorem dX6_carryOut_161 : decode cX6_carryOut 161 = .ok (.iload_n 3, 1) := by decide +kernel
theorem dX6_carryOut_162 : decode cX6_carryOut 162 = .ok (.invokevirtual 36, 3) := by decide +kernel
theorem dX6_carryOut_165 : decode cX6_carryOut 165 = .ok (.ireturn, 1) := by decide +kernel
theorem dX6_carryOut_166 : decode cX6_carryOut 166 = .ok (.aload_n 0, 1) := by decide +kernel
theorem dX6_carryOut_167 : decode cX6_carryOut 167 = .ok (.aload_n 1, 1) := by decide +kernel
theorem dX6_carryOut_168 : decode cX6_carryOut 168 = .ok (.iload_n 3, 1) := by decide +kernel
theorem dX6_carryOut_169 : decode cX6_carryOut 169 = .ok (.invokevirtual 39, 3) := by decide +kernel
theorem dX6_carryOut_172 : decode cX6_carryOut 172 = .ok (.ireturn, 1) := by decide +kernel
theorem dX6_carryOut_173 : decode cX6_carryOut 173 = .ok (.aload_n 0, 1) := by decide +kernel
theorem dX6_carryOut_174 : decode cX6_carryOut 174 = .ok (.aload_n 1, 1) := by decide +kernel
theorem dX6_carryOut_175 : decode cX6_carryOut 175 = .ok (.iload_n 3, 1) := by decide +kernel
theorem dX6_carryOut_176 : decode cX6_carryOut 176 = .ok (.invokevirtual 42, 3) := by decide +kernel
theorem dX6_carryOut_179 : decode cX6_carryOut 179 = .ok (.ireturn, 1) := by decide +kernel
theorem dX6_carryOut_180 : decode cX6_carryOut 180 = .ok (.aload_n 0, 1) := by decide +kernel
theorem dX6_carryOut_181 : decode cX6_carryOut 181 = .ok (.aload_n 1, 1) := by decide +kernel
theorem dX6_carryOut_182 : decode cX6_carryOut 182 = .ok (.iload_n 3, 1) := by decide +kernel
theorem dX6_carryOut_183 : decode cX6_carryOut 183 = .ok (.invokevirtual 45, 3) := by decide +kernel
theorem dX6_carryOut_186 : decode cX6_carryOut 186 = .ok (.ireturn, 1) := by decide +kernel
theorem dX6_carryOut_187 : decode cX6_carryOut 187 = .ok (.aload_n 0, 1) := by decide +kernel
theorem dX6_carryOut_188 : decode cX6_carryOut 188 = .ok (.aload_n 1, 1) := by decide +kernel
theorem dX6_carryOut_189 : decode cX6_carryOut 189 = .ok (.invokevirtual 48, 3) := by decide +kernel
theorem dX6_carryOut_192 : decode cX6_carryOut 192 = .ok (.ireturn, 1) := by decide +kernel
theorem dX6_refuse_0 : decode cX6_refuse 0 = .ok (.aload_n 0, 1) := by decide +kernel
theorem dX6_refuse_1 : decode cX6_refuse 1 = .ok (.iload_n 1, 1) := by decide +kernel
theorem dX6_refuse_2 : decode cX6_refuse 2 = .ok (.putfield 9, 3) := by decide +kernel
theorem dX6_refuse_5 : decode cX6_refuse 5 = .ok (.aload_n 0, 1) := by decide +kernel
theorem dX6_refuse_6 : decode cX6_refuse 6 = .ok (.iload_n 2, 1) := by decide +kernel
theorem dX6_refuse_7 : decode cX6_refuse 7 = .ok (.putfield 15, 3) := by decide +kernel
theorem dX6_refuse_10 : decode cX6_refuse 10 = .ok (.iconst 0, 1) := by decide +kernel
theorem dX6_refuse_11 : decode cX6_refuse 11 = .ok (.ireturn, 1) := by decide +kernel
set_option maxRecDepth 20000 in
theorem ggX6_refuseStranger_X0_get : GoodIn wsX6_refuseStranger wsX0_get := goodIn_ca (goodIn_r _ [5, 6, 14] rfl (by decide +kernel)) (goodIn_sub (fun _ h => List.mem_cons_of_mem _ (List.mem_append_right _ h)) (by decide +kernel))
set_option maxRecDepth 20000 in
theorem gX6_refuseStranger_X0_get : GoodIn wsX6_refuseStranger (wsV RX6 54 RX0 yX0_get wsX0_get) := goodIn_app (goodIn_r _ [1, 2, 3, 4] rfl (by decide +kernel)) ggX6_refuseStranger_X0_get
set_option maxRecDepth 20000 in
theorem ggX6_refuseStranger_X6_refuse : GoodIn wsX6_refuseStranger wsX6_refuse := goodIn_r _ [11, 12, 13, 15, 16] rfl (by decide +kernel)
set_option maxRecDepth 20000 in
theorem gX6_refuseStranger_X6_refuse : GoodIn wsX6_refuseStranger (wsV RX6 58 RX6 yX6_refuse wsX6_refuse) := goodIn_app (goodIn_r _ [7, 8, 9, 10] rfl (by decide +kernel)) ggX6_refuseStranger_X6_refuse
theorem dX6_refuseStranger_0 : decode cX6_refuseStranger 0 = .ok (.aload_n 0, 1) := by decide +kernel
theorem dX6_refuseStranger_1 : decode cX6_refuseStranger 1 = .ok (.iconst 4, 1) := by decide +kernel
theorem dX6_refuseStranger_2 : decode cX6_refuseStranger 2 = .ok (.aload_n 1, 1) := by decide +kernel
theorem dX6_refuseStranger_3 : decode cX6_refuseStranger 3 = .ok (.iconst 0, 1) := by decide +kernel
theorem dX6_refuseStranger_4 : decode cX6_refuseStranger 4 = .ok (.invokevirtual 54, 3) := by decide +kernel
theorem dX6_refuseStranger_7 : decode cX6_refuseStranger 7 = .ok (.invokevirtual 58, 3) := by decide +kernel
theorem dX6_refuseStranger_10 : decode cX6_refuseStranger 10 = .ok (.ireturn, 1) := by decide +kernel
set_option maxRecDepth 20000 in
theorem ggX6_enter_X7_isHeight : GoodIn wsX6_enter wsX7_isHeight := goodIn_r _ [3] rfl (by decide +kernel)
set_option maxRecDepth 20000 in
theorem gX6_enter_X7_isHeight_n62 : GoodIn wsX6_enter (wsX7_isHeight) := ggX6_enter_X7_isHeight
set_option maxRecDepth 20000 in
theorem ggX6_enter_X6_refuse : GoodIn wsX6_enter wsX6_refuse := goodIn_r _ [8, 9, 10, 51, 52] rfl (by decide +kernel)
set_option maxRecDepth 20000 in
theorem gX6_enter_X6_refuse : GoodIn wsX6_enter (wsV RX6 58 RX6 yX6_refuse wsX6_refuse) := goodIn_app (goodIn_r _ [4, 5, 6, 7] rfl (by decide +kernel)) ggX6_enter_X6_refuse
set_option maxRecDepth 20000 in
theorem ggX6_enter_X0_get : GoodIn wsX6_enter wsX0_get := goodIn_ca (goodIn_r _ [15, 16, 53] rfl (by decide +kernel)) (goodIn_sub (fun _ h => List.mem_cons_of_mem _ (List.mem_append_right _ h)) (by decide +kernel))
set_option maxRecDepth 20000 in
theorem gX6_enter_X0_get : GoodIn wsX6_enter (wsV RX6 54 RX0 yX0_get wsX0_get) := goodIn_app (goodIn_r _ [11, 12, 13, 14] rfl (by decide +kernel)) ggX6_enter_X0_get
set_option maxRecDepth 20000 in
theorem ggX6_enter_X0_isFree : GoodIn wsX6_enter wsX0_isFree := goodIn_ca (goodIn_r _ [20, 1, 2, 3, 21, 22, 23, 14, 24, 16, 25, 26, 27, 28, 53] rfl (by decide +kernel)) (goodIn_sub (fun _ h => List.mem_cons_of_mem _ (List.mem_append_right _ h)) (by decide +kernel))
set_option maxRecDepth 20000 in
theorem gX6_enter_X0_isFree : GoodIn wsX6_enter (wsV RX6 66 RX0 yX0_isFree wsX0_isFree) := goodIn_app (goodIn_r _ [17, 18, 19, 14] rfl (by decide +kernel)) ggX6_enter_X0_isFree
set_option maxRecDepth 20000 in
theorem ggX6_enter_X0_ownerOf : GoodIn wsX6_enter wsX0_ownerOf := goodIn_ca (goodIn_r _ [24, 16, 25, 26, 27, 14, 28, 53] rfl (by decide +kernel)) (goodIn_sub (fun _ h => List.mem_cons_of_mem _ (List.mem_append_right _ h)) (by decide +kernel))
set_option maxRecDepth 20000 in
theorem gX6_enter_X0_ownerOf : GoodIn wsX6_enter (wsV RX6 69 RX0 yX0_ownerOf wsX0_ownerOf) := goodIn_app (goodIn_r _ [29, 22, 23, 14] rfl (by decide +kernel)) ggX6_enter_X0_ownerOf
set_option maxRecDepth 20000 in
theorem ggX6_enter_X0_enroll : GoodIn wsX6_enter wsX0_enroll := goodIn_ca (goodIn_r _ [33, 16, 34, 35, 36, 14, 37, 38, 39, 40, 41, 42, 43, 44, 45, 46, 12, 13, 15, 47, 48, 49, 50, 53] rfl (by decide +kernel)) (goodIn_sub (fun _ h => List.mem_cons_of_mem _ (List.mem_append_right _ h)) (by decide +kernel))
set_option maxRecDepth 20000 in
theorem gX6_enter_X0_enroll : GoodIn wsX6_enter (wsV RX6 72 RX0 yX0_enroll wsX0_enroll) := goodIn_app (goodIn_r _ [30, 31, 32, 14] rfl (by decide +kernel)) ggX6_enter_X0_enroll
theorem dX6_enter_0 : decode cX6_enter 0 = .ok (.iload_n 2, 1) := by decide +kernel
theorem dX6_enter_1 : decode cX6_enter 1 = .ok (.invokestatic 62, 3) := by decide +kernel
theorem dX6_enter_4 : decode cX6_enter 4 = .ok (.ifCond .ne 10, 3) := by decide +kernel
theorem dX6_enter_7 : decode cX6_enter 7 = .ok (.aload_n 0, 1) := by decide +kernel
theorem dX6_enter_8 : decode cX6_enter 8 = .ok (.iconst 1, 1) := by decide +kernel
theorem dX6_enter_9 : decode cX6_enter 9 = .ok (.iconst 0, 1) := by decide +kernel
theorem dX6_enter_10 : decode cX6_enter 10 = .ok (.invokevirtual 58, 3) := by decide +kernel
theorem dX6_enter_13 : decode cX6_enter 13 = .ok (.ireturn, 1) := by decide +kernel
theorem dX6_enter_14 : decode cX6_enter 14 = .ok (.aload_n 1, 1) := by decide +kernel
theorem dX6_enter_15 : decode cX6_enter 15 = .ok (.iconst 0, 1) := by decide +kernel
theorem dX6_enter_16 : decode cX6_enter 16 = .ok (.invokevirtual 54, 3) := by decide +kernel
theorem dX6_enter_19 : decode cX6_enter 19 = .ok (.bipush 6, 2) := by decide +kernel
theorem dX6_enter_21 : decode cX6_enter 21 = .ok (.if_icmp .lt 14, 3) := by decide +kernel
theorem dX6_enter_24 : decode cX6_enter 24 = .ok (.aload_n 0, 1) := by decide +kernel
theorem dX6_enter_25 : decode cX6_enter 25 = .ok (.iconst 2, 1) := by decide +kernel
theorem dX6_enter_26 : decode cX6_enter 26 = .ok (.aload_n 1, 1) := by decide +kernel
theorem dX6_enter_27 : decode cX6_enter 27 = .ok (.iconst 0, 1) := by decide +kernel
theorem dX6_enter_28 : decode cX6_enter 28 = .ok (.invokevirtual 54, 3) := by decide +kernel
theorem dX6_enter_31 : decode cX6_enter 31 = .ok (.invokevirtual 58, 3) := by decide +kernel
theorem dX6_enter_34 : decode cX6_enter 34 = .ok (.ireturn, 1) := by decide +kernel
theorem dX6_enter_35 : decode cX6_enter 35 = .ok (.aload_n 1, 1) := by decide +kernel
theorem dX6_enter_36 : decode cX6_enter 36 = .ok (.iload_n 2, 1) := by decide +kernel
theorem dX6_enter_37 : decode cX6_enter 37 = .ok (.invokevirtual 66, 3) := by decide +kernel
theorem dX6_enter_40 : decode cX6_enter 40 = .ok (.ifCond .ne 14, 3) := by decide +kernel
theorem dX6_enter_43 : decode cX6_enter 43 = .ok (.aload_n 0, 1) := by decide +kernel
theorem dX6_enter_44 : decode cX6_enter 44 = .ok (.iconst 3, 1) := by decide +kernel
theorem dX6_enter_45 : decode cX6_enter 45 = .ok (.aload_n 1, 1) := by decide +kernel
theorem dX6_enter_46 : decode cX6_enter 46 = .ok (.iload_n 2, 1) := by decide +kernel
theorem dX6_enter_47 : decode cX6_enter 47 = .ok (.invokevirtual 69, 3) := by decide +kernel
theorem dX6_enter_50 : decode cX6_enter 50 = .ok (.invokevirtual 58, 3) := by decide +kernel
theorem dX6_enter_53 : decode cX6_enter 53 = .ok (.ireturn, 1) := by decide +kernel
theorem dX6_enter_54 : decode cX6_enter 54 = .ok (.aload_n 1, 1) := by decide +kernel
theorem dX6_enter_55 : decode cX6_enter 55 = .ok (.iload_n 2, 1) := by decide +kernel
theorem dX6_enter_56 : decode cX6_enter 56 = .ok (.invokevirtual 72, 3) := by decide +kernel
theorem dX6_enter_59 : decode cX6_enter 59 = .ok (.ireturn, 1) := by decide +kernel
set_option maxRecDepth 20000 in
theorem ggX6_goAway_X0_isMember : GoodIn wsX6_goAway wsX0_isMember := goodIn_ca (goodIn_r _ [5, 6, 48] rfl (by decide +kernel)) (goodIn_sub (fun _ h => List.mem_cons_of_mem _ (List.mem_append_right _ h)) (by decide +kernel))
set_option maxRecDepth 20000 in
theorem gX6_goAway_X0_isMember : GoodIn wsX6_goAway (wsV RX6 75 RX0 yX0_isMember wsX0_isMember) := goodIn_app (goodIn_r _ [1, 2, 3, 4] rfl (by decide +kernel)) ggX6_goAway_X0_isMember
set_option maxRecDepth 20000 in
theorem ggX6_goAway_X6_refuseStranger : GoodIn wsX6_goAway wsX6_refuseStranger := goodIn_ca (goodIn_r _ [11, 12, 13, 14, 4, 15, 6, 16, 17, 18, 10, 19, 20, 21, 48, 49, 50] rfl (by decide +kernel)) (goodIn_sub (fun _ h => List.mem_cons_of_mem _ (List.mem_append_right _ h)) (by decide +kernel))
set_option maxRecDepth 20000 in
theorem gX6_goAway_X6_refuseStranger : GoodIn wsX6_goAway (wsV RX6 78 RX6 yX6_refuseStranger wsX6_refuseStranger) := goodIn_app (goodIn_r _ [7, 8, 9, 10] rfl (by decide +kernel)) ggX6_goAway_X6_refuseStranger
set_option maxRecDepth 20000 in
theorem ggX6_goAway_X0_hasWagered : GoodIn wsX6_goAway wsX0_hasWagered := goodIn_ca (goodIn_r _ [25, 26, 27, 28, 4, 29, 6, 48] rfl (by decide +kernel)) (goodIn_sub (fun _ h => List.mem_cons_of_mem _ (List.mem_append_right _ h)) (by decide +kernel))
set_option maxRecDepth 20000 in
theorem gX6_goAway_X0_hasWagered : GoodIn wsX6_goAway (wsV RX6 81 RX0 yX0_hasWagered wsX0_hasWagered) := goodIn_app (goodIn_r _ [22, 23, 24, 4] rfl (by decide +kernel)) ggX6_goAway_X0_hasWagered
set_option maxRecDepth 20000 in
theorem ggX6_goAway_X0_of : GoodIn wsX6_goAway wsX0_of := goodIn_ca (goodIn_r _ [29, 6, 48] rfl (by decide +kernel)) (goodIn_sub (fun _ h => List.mem_cons_of_mem _ (List.mem_append_right _ h)) (by decide +kernel))
set_option maxRecDepth 20000 in
theorem gX6_goAway_X0_of : GoodIn wsX6_goAway (wsV RX6 84 RX0 yX0_of wsX0_of) := goodIn_app (goodIn_r _ [30, 27, 28, 4] rfl (by decide +kernel)) ggX6_goAway_X0_of
set_option maxRecDepth 20000 in
theorem ggX6_goAway_X6_refuse : GoodIn wsX6_goAway wsX6_refuse := goodIn_r _ [19, 20, 21, 49, 50] rfl (by decide +kernel)
set_option maxRecDepth 20000 in
theorem gX6_goAway_X6_refuse : GoodIn wsX6_goAway (wsV RX6 58 RX6 yX6_refuse wsX6_refuse) := goodIn_app (goodIn_r _ [16, 17, 18, 10] rfl (by decide +kernel)) ggX6_goAway_X6_refuse
set_option maxRecDepth 20000 in
theorem ggX6_goAway_X0_dismiss : GoodIn wsX6_goAway wsX0_dismiss := goodIn_ca (goodIn_r _ [34, 6, 26, 27, 28, 4, 29, 35, 36, 37, 38, 39, 13, 14, 15, 40, 41, 42, 43, 44, 45, 46, 47, 48] rfl (by decide +kernel)) (goodIn_sub (fun _ h => List.mem_cons_of_mem _ (List.mem_append_right _ h)) (by decide +kernel))
set_option maxRecDepth 20000 in
theorem gX6_goAway_X0_dismiss : GoodIn wsX6_goAway (wsV RX6 87 RX0 yX0_dismiss wsX0_dismiss) := goodIn_app (goodIn_r _ [31, 32, 33, 4] rfl (by decide +kernel)) ggX6_goAway_X0_dismiss
theorem dX6_goAway_0 : decode cX6_goAway 0 = .ok (.aload_n 1, 1) := by decide +kernel
theorem dX6_goAway_1 : decode cX6_goAway 1 = .ok (.iload_n 2, 1) := by decide +kernel
theorem dX6_goAway_2 : decode cX6_goAway 2 = .ok (.invokevirtual 75, 3) := by decide +kernel
theorem dX6_goAway_5 : decode cX6_goAway 5 = .ok (.ifCond .ne 9, 3) := by decide +kernel
theorem dX6_goAway_8 : decode cX6_goAway 8 = .ok (.aload_n 0, 1) := by decide +kernel
theorem dX6_goAway_9 : decode cX6_goAway 9 = .ok (.aload_n 1, 1) := by decide +kernel
theorem dX6_goAway_10 : decode cX6_goAway 10 = .ok (.invokevirtual 78, 3) := by decide +kernel
theorem dX6_goAway_13 : decode cX6_goAway 13 = .ok (.ireturn, 1) := by decide +kernel
theorem dX6_goAway_14 : decode cX6_goAway 14 = .ok (.aload_n 1, 1) := by decide +kernel
theorem dX6_goAway_15 : decode cX6_goAway 15 = .ok (.iload_n 2, 1) := by decide +kernel
theorem dX6_goAway_16 : decode cX6_goAway 16 = .ok (.invokevirtual 81, 3) := by decide +kernel
theorem dX6_goAway_19 : decode cX6_goAway 19 = .ok (.ifCond .eq 16, 3) := by decide +kernel
theorem dX6_goAway_22 : decode cX6_goAway 22 = .ok (.aload_n 0, 1) := by decide +kernel
theorem dX6_goAway_23 : decode cX6_goAway 23 = .ok (.bipush 7, 2) := by decide +kernel
theorem dX6_goAway_25 : decode cX6_goAway 25 = .ok (.aload_n 1, 1) := by decide +kernel
theorem dX6_goAway_26 : decode cX6_goAway 26 = .ok (.iload_n 2, 1) := by decide +kernel
theorem dX6_goAway_27 : decode cX6_goAway 27 = .ok (.iconst 2, 1) := by decide +kernel
theorem dX6_goAway_28 : decode cX6_goAway 28 = .ok (.invokevirtual 84, 3) := by decide +kernel
theorem dX6_goAway_31 : decode cX6_goAway 31 = .ok (.invokevirtual 58, 3) := by decide +kernel
theorem dX6_goAway_34 : decode cX6_goAway 34 = .ok (.ireturn, 1) := by decide +kernel
theorem dX6_goAway_35 : decode cX6_goAway 35 = .ok (.aload_n 1, 1) := by decide +kernel
theorem dX6_goAway_36 : decode cX6_goAway 36 = .ok (.iload_n 2, 1) := by decide +kernel
theorem dX6_goAway_37 : decode cX6_goAway 37 = .ok (.invokevirtual 87, 3) := by decide +kernel
theorem dX6_goAway_40 : decode cX6_goAway 40 = .ok (.ireturn, 1) := by decide +kernel
set_option maxRecDepth 20000 in
theorem ggX6_climb_X0_isMember : GoodIn wsX6_climb wsX0_isMember := goodIn_ca (goodIn_r _ [9, 10, 66] rfl (by decide +kernel)) (goodIn_sub (fun _ h => List.mem_cons_of_mem _ (List.mem_append_right _ h)) (by decide +kernel))
set_option maxRecDepth 20000 in
theorem gX6_climb_X0_isMember : GoodIn wsX6_climb (wsV RX6 75 RX0 yX0_isMember wsX0_isMember) := goodIn_app (goodIn_r _ [5, 6, 7, 8] rfl (by decide +kernel)) ggX6_climb_X0_isMember
set_option maxRecDepth 20000 in
theorem ggX6_climb_X6_refuseStranger : GoodIn wsX6_climb wsX6_refuseStranger := goodIn_ca (goodIn_r _ [15, 16, 17, 18, 8, 19, 10, 20, 21, 22, 14, 23, 24, 25, 66, 67, 68] rfl (by decide +kernel)) (goodIn_sub (fun _ h => List.mem_cons_of_mem _ (List.mem_append_right _ h)) (by decide +kernel))
set_option maxRecDepth 20000 in
theorem gX6_climb_X6_refuseStranger : GoodIn wsX6_climb (wsV RX6 78 RX6 yX6_refuseStranger wsX6_refuseStranger) := goodIn_app (goodIn_r _ [11, 12, 13, 14] rfl (by decide +kernel)) ggX6_climb_X6_refuseStranger
set_option maxRecDepth 20000 in
theorem ggX6_climb_X7_isHeight : GoodIn wsX6_climb wsX7_isHeight := goodIn_r _ [28] rfl (by decide +kernel)
set_option maxRecDepth 20000 in
theorem gX6_climb_X7_isHeight_n62 : GoodIn wsX6_climb (wsX7_isHeight) := ggX6_climb_X7_isHeight
set_option maxRecDepth 20000 in
theorem ggX6_climb_X6_refuse : GoodIn wsX6_climb wsX6_refuse := goodIn_r _ [23, 24, 25, 67, 68] rfl (by decide +kernel)
set_option maxRecDepth 20000 in
theorem gX6_climb_X6_refuse : GoodIn wsX6_climb (wsV RX6 58 RX6 yX6_refuse wsX6_refuse) := goodIn_app (goodIn_r _ [20, 21, 22, 14] rfl (by decide +kernel)) ggX6_climb_X6_refuse
set_option maxRecDepth 20000 in
theorem ggX6_climb_X0_isFree : GoodIn wsX6_climb wsX0_isFree := goodIn_ca (goodIn_r _ [32, 26, 27, 28, 33, 34, 35, 8, 36, 10, 37, 38, 39, 40, 66] rfl (by decide +kernel)) (goodIn_sub (fun _ h => List.mem_cons_of_mem _ (List.mem_append_right _ h)) (by decide +kernel))
set_option maxRecDepth 20000 in
theorem gX6_climb_X0_isFree : GoodIn wsX6_climb (wsV RX6 66 RX0 yX0_isFree wsX0_isFree) := goodIn_app (goodIn_r _ [29, 30, 31, 8] rfl (by decide +kernel)) ggX6_climb_X0_isFree
set_option maxRecDepth 20000 in
theorem ggX6_climb_X0_ownerOf : GoodIn wsX6_climb wsX0_ownerOf := goodIn_ca (goodIn_r _ [36, 10, 37, 38, 39, 8, 40, 66] rfl (by decide +kernel)) (goodIn_sub (fun _ h => List.mem_cons_of_mem _ (List.mem_append_right _ h)) (by decide +kernel))
set_option maxRecDepth 20000 in
theorem gX6_climb_X0_ownerOf : GoodIn wsX6_climb (wsV RX6 69 RX0 yX0_ownerOf wsX0_ownerOf) := goodIn_app (goodIn_r _ [41, 34, 35, 8] rfl (by decide +kernel)) ggX6_climb_X0_ownerOf
set_option maxRecDepth 20000 in
theorem ggX6_climb_X0_of : GoodIn wsX6_climb wsX0_of := goodIn_ca (goodIn_r _ [40, 10, 66] rfl (by decide +kernel)) (goodIn_sub (fun _ h => List.mem_cons_of_mem _ (List.mem_append_right _ h)) (by decide +kernel))
set_option maxRecDepth 20000 in
theorem gX6_climb_X0_of : GoodIn wsX6_climb (wsV RX6 84 RX0 yX0_of wsX0_of) := goodIn_app (goodIn_r _ [42, 38, 39, 8] rfl (by decide +kernel)) ggX6_climb_X0_of
set_option maxRecDepth 20000 in
theorem ggX6_climb_X0_payIntoPot : GoodIn wsX6_climb wsX0_payIntoPot := goodIn_ca (goodIn_r _ [46, 47, 48, 49, 8, 50, 37, 38, 39, 40, 10, 51, 52, 53, 54, 55, 56, 57, 58, 59, 17, 18, 19, 60, 61, 62, 63, 66] rfl (by decide +kernel)) (goodIn_sub (fun _ h => List.mem_cons_of_mem _ (List.mem_append_right _ h)) (by decide +kernel))
set_option maxRecDepth 20000 in
theorem gX6_climb_X0_payIntoPot : GoodIn wsX6_climb (wsV RX6 95 RX0 yX0_payIntoPot wsX0_payIntoPot) := goodIn_app (goodIn_r _ [43, 44, 45, 8] rfl (by decide +kernel)) ggX6_climb_X0_payIntoPot
set_option maxRecDepth 20000 in
theorem ggX6_climb_X0_add : GoodIn wsX6_climb wsX0_add := goodIn_ca (goodIn_r _ [58, 59, 17, 18, 8, 19, 10, 60, 61, 62, 63, 66] rfl (by decide +kernel)) (goodIn_sub (fun _ h => List.mem_cons_of_mem _ (List.mem_append_right _ h)) (by decide +kernel))
set_option maxRecDepth 20000 in
theorem gX6_climb_X0_add : GoodIn wsX6_climb (wsV RX6 99 RX0 yX0_add wsX0_add) := goodIn_app (goodIn_r _ [64, 56, 57, 8] rfl (by decide +kernel)) ggX6_climb_X0_add
set_option maxRecDepth 20000 in
theorem ggX6_climb_X0_setOf : GoodIn wsX6_climb wsX0_setOf := goodIn_ca (goodIn_r _ [54, 10, 66] rfl (by decide +kernel)) (goodIn_sub (fun _ h => List.mem_cons_of_mem _ (List.mem_append_right _ h)) (by decide +kernel))
set_option maxRecDepth 20000 in
theorem gX6_climb_X0_setOf : GoodIn wsX6_climb (wsV RX6 102 RX0 yX0_setOf wsX0_setOf) := goodIn_app (goodIn_r _ [65, 52, 53, 8] rfl (by decide +kernel)) ggX6_climb_X0_setOf
theorem dX6_climb_0 : decode cX6_climb 0 = .ok (.aload_n 1, 1) := by decide +kernel
theorem dX6_climb_1 : decode cX6_climb 1 = .ok (.iload_n 2, 1) := by decide +kernel
theorem dX6_climb_2 : decode cX6_climb 2 = .ok (.invokevirtual 75, 3) := by decide +kernel
theorem dX6_climb_5 : decode cX6_climb 5 = .ok (.ifCond .ne 9, 3) := by decide +kernel
theorem dX6_climb_8 : decode cX6_climb 8 = .ok (.aload_n 0, 1) := by decide +kernel
theorem dX6_climb_9 : decode cX6_climb 9 = .ok (.aload_n 1, 1) := by decide +kernel
theorem dX6_climb_10 : decode cX6_climb 10 = .ok (.invokevirtual 78, 3) := by decide +kernel
theorem dX6_climb_13 : decode cX6_climb 13 = .ok (.ireturn, 1) := by decide +kernel
theorem dX6_climb_14 : decode cX6_climb 14 = .ok (.iload_n 3, 1) := by decide +kernel
theorem dX6_climb_15 : decode cX6_climb 15 = .ok (.invokestatic 62, 3) := by decide +kernel
theorem dX6_climb_18 : decode cX6_climb 18 = .ok (.ifCond .ne 10, 3) := by decide +kernel
theorem dX6_climb_21 : decode cX6_climb 21 = .ok (.aload_n 0, 1) := by decide +kernel
theorem dX6_climb_22 : decode cX6_climb 22 = .ok (.iconst 1, 1) := by decide +kernel
theorem dX6_climb_23 : decode cX6_climb 23 = .ok (.iconst 0, 1) := by decide +kernel
theorem dX6_climb_24 : decode cX6_climb 24 = .ok (.invokevirtual 58, 3) := by decide +kernel
theorem dX6_climb_27 : decode cX6_climb 27 = .ok (.ireturn, 1) := by decide +kernel
theorem dX6_climb_28 : decode cX6_climb 28 = .ok (.aload_n 1, 1) := by decide +kernel
theorem dX6_climb_29 : decode cX6_climb 29 = .ok (.iload_n 3, 1) := by decide +kernel
theorem dX6_climb_30 : decode cX6_climb 30 = .ok (.invokevirtual 66, 3) := by decide +kernel
theorem dX6_climb_33 : decode cX6_climb 33 = .ok (.ifCond .ne 14, 3) := by decide +kernel
theorem dX6_climb_36 : decode cX6_climb 36 = .ok (.aload_n 0, 1) := by decide +kernel
theorem dX6_climb_37 : decode cX6_climb 37 = .ok (.iconst 3, 1) := by decide +kernel
theorem dX6_climb_38 : decode cX6_climb 38 = .ok (.aload_n 1, 1) := by decide +kernel
theorem dX6_climb_39 : decode cX6_climb 39 = .ok (.iload_n 3, 1) := by decide +kernel
theorem dX6_climb_40 : decode cX6_climb 40 = .ok (.invokevirtual 69, 3) := by decide +kernel
theorem dX6_climb_43 : decode cX6_climb 43 = .ok (.invokevirtual 58, 3) := by decide +kernel
theorem dX6_climb_46 : decode cX6_climb 46 = .ok (.ireturn, 1) := by decide +kernel
theorem dX6_climb_47 : decode cX6_climb 47 = .ok (.iconst 2, 1) := by decide +kernel
theorem dX6_climb_48 : decode cX6_climb 48 = .ok (.iload_n 3, 1) := by decide +kernel
theorem dX6_climb_49 : decode cX6_climb 49 = .ok (.aload_n 1, 1) := by decide +kernel
theorem dX6_climb_50 : decode cX6_climb 50 = .ok (.iload_n 2, 1) := by decide +kernel
theorem dX6_climb_51 : decode cX6_climb 51 = .ok (.iconst 1, 1) := by decide +kernel
theorem dX6_climb_52 : decode cX6_climb 52 = .ok (.invokevirtual 84, 3) := by decide +kernel
theorem dX6_climb_55 : decode cX6_climb 55 = .ok (.isub, 1) := by decide +kernel
theorem dX6_climb_56 : decode cX6_climb 56 = .ok (.invokestatic 90, 3) := by decide +kernel
theorem dX6_climb_59 : decode cX6_climb 59 = .ok (.imul, 1) := by decide +kernel
theorem dX6_climb_60 : decode cX6_climb 60 = .ok (.istore 4, 2) := by decide +kernel
theorem dX6_climb_62 : decode cX6_climb 62 = .ok (.iload 4, 2) := by decide +kernel
theorem dX6_climb_64 : decode cX6_climb 64 = .ok (.aload_n 1, 1) := by decide +kernel
theorem dX6_climb_65 : decode cX6_climb 65 = .ok (.iload_n 2, 1) := by decide +kernel
theorem dX6_climb_66 : decode cX6_climb 66 = .ok (.iconst 0, 1) := by decide +kernel
theorem dX6_climb_67 : decode cX6_climb 67 = .ok (.invokevirtual 84, 3) := by decide +kernel
theorem dX6_climb_70 : decode cX6_climb 70 = .ok (.if_icmp .le 18, 3) := by decide +kernel
theorem dX6_climb_73 : decode cX6_climb 73 = .ok (.aload_n 0, 1) := by decide +kernel
theorem dX6_climb_74 : decode cX6_climb 74 = .ok (.iconst 5, 1) := by decide +kernel
theorem dX6_climb_75 : decode cX6_climb 75 = .ok (.iload 4, 2) := by decide +kernel
theorem dX6_climb_77 : decode cX6_climb 77 = .ok (.aload_n 1, 1) := by decide +kernel
theorem dX6_climb_78 : decode cX6_climb 78 = .ok (.iload_n 2, 1) := by decide +kernel
theorem dX6_climb_79 : decode cX6_climb 79 = .ok (.iconst 0, 1) := by decide +kernel
theorem dX6_climb_80 : decode cX6_climb 80 = .ok (.invokevirtual 84, 3) := by decide +kernel
theorem dX6_climb_83 : decode cX6_climb 83 = .ok (.isub, 1) := by decide +kernel
theorem dX6_climb_84 : decode cX6_climb 84 = .ok (.invokevirtual 58, 3) := by decide +kernel
theorem dX6_climb_87 : decode cX6_climb 87 = .ok (.ireturn, 1) := by decide +kernel
theorem dX6_climb_88 : decode cX6_climb 88 = .ok (.aload_n 1, 1) := by decide +kernel
theorem dX6_climb_89 : decode cX6_climb 89 = .ok (.iload_n 2, 1) := by decide +kernel
theorem dX6_climb_90 : decode cX6_climb 90 = .ok (.iload 4, 2) := by decide +kernel
theorem dX6_climb_92 : decode cX6_climb 92 = .ok (.invokevirtual 95, 3) := by decide +kernel
theorem dX6_climb_95 : decode cX6_climb 95 = .ok (.aload_n 1, 1) := by decide +kernel
theorem dX6_climb_96 : decode cX6_climb 96 = .ok (.bipush 10, 2) := by decide +kernel
theorem dX6_climb_98 : decode cX6_climb 98 = .ok (.iload 4, 2) := by decide +kernel
theorem dX6_climb_100 : decode cX6_climb 100 = .ok (.invokevirtual 99, 3) := by decide +kernel
theorem dX6_climb_103 : decode cX6_climb 103 = .ok (.aload_n 1, 1) := by decide +kernel
theorem dX6_climb_104 : decode cX6_climb 104 = .ok (.iload_n 2, 1) := by decide +kernel
theorem dX6_climb_105 : decode cX6_climb 105 = .ok (.iconst 1, 1) := by decide +kernel
theorem dX6_climb_106 : decode cX6_climb 106 = .ok (.iload_n 3, 1) := by decide +kernel
theorem dX6_climb_107 : decode cX6_climb 107 = .ok (.invokevirtual 102, 3) := by decide +kernel
theorem dX6_climb_110 : decode cX6_climb 110 = .ok (.aload_n 1, 1) := by decide +kernel
theorem dX6_climb_111 : decode cX6_climb 111 = .ok (.iload_n 2, 1) := by decide +kernel
theorem dX6_climb_112 : decode cX6_climb 112 = .ok (.iconst 0, 1) := by decide +kernel
theorem dX6_climb_113 : decode cX6_climb 113 = .ok (.invokevirtual 84, 3) := by decide +kernel
theorem dX6_climb_116 : decode cX6_climb 116 = .ok (.ireturn, 1) := by decide +kernel
set_option maxRecDepth 20000 in
theorem ggX6_swap_X0_isMember : GoodIn wsX6_swap wsX0_isMember := goodIn_ca (goodIn_r _ [9, 10, 34] rfl (by decide +kernel)) (goodIn_sub (fun _ h => List.mem_cons_of_mem _ (List.mem_append_right _ h)) (by decide +kernel))
set_option maxRecDepth 20000 in
theorem gX6_swap_X0_isMember : GoodIn wsX6_swap (wsV RX6 75 RX0 yX0_isMember wsX0_isMember) := goodIn_app (goodIn_r _ [5, 6, 7, 8] rfl (by decide +kernel)) ggX6_swap_X0_isMember
set_option maxRecDepth 20000 in
theorem ggX6_swap_X6_refuseStranger : GoodIn wsX6_swap wsX6_refuseStranger := goodIn_ca (goodIn_r _ [15, 16, 17, 18, 8, 19, 10, 20, 21, 22, 14, 23, 24, 25, 34, 35, 36] rfl (by decide +kernel)) (goodIn_sub (fun _ h => List.mem_cons_of_mem _ (List.mem_append_right _ h)) (by decide +kernel))
set_option maxRecDepth 20000 in
theorem gX6_swap_X6_refuseStranger : GoodIn wsX6_swap (wsV RX6 78 RX6 yX6_refuseStranger wsX6_refuseStranger) := goodIn_app (goodIn_r _ [11, 12, 13, 14] rfl (by decide +kernel)) ggX6_swap_X6_refuseStranger
set_option maxRecDepth 20000 in
theorem ggX6_swap_X6_refuse : GoodIn wsX6_swap wsX6_refuse := goodIn_r _ [23, 24, 25, 35, 36] rfl (by decide +kernel)
set_option maxRecDepth 20000 in
theorem gX6_swap_X6_refuse : GoodIn wsX6_swap (wsV RX6 58 RX6 yX6_refuse wsX6_refuse) := goodIn_app (goodIn_r _ [20, 21, 22, 14] rfl (by decide +kernel)) ggX6_swap_X6_refuse
set_option maxRecDepth 20000 in
theorem ggX6_swap_X0_of : GoodIn wsX6_swap wsX0_of := goodIn_ca (goodIn_r _ [29, 10, 34] rfl (by decide +kernel)) (goodIn_sub (fun _ h => List.mem_cons_of_mem _ (List.mem_append_right _ h)) (by decide +kernel))
set_option maxRecDepth 20000 in
theorem gX6_swap_X0_of : GoodIn wsX6_swap (wsV RX6 84 RX0 yX0_of wsX0_of) := goodIn_app (goodIn_r _ [26, 27, 28, 8] rfl (by decide +kernel)) ggX6_swap_X0_of
set_option maxRecDepth 20000 in
theorem ggX6_swap_X0_setOf : GoodIn wsX6_swap wsX0_setOf := goodIn_ca (goodIn_r _ [33, 10, 34] rfl (by decide +kernel)) (goodIn_sub (fun _ h => List.mem_cons_of_mem _ (List.mem_append_right _ h)) (by decide +kernel))
set_option maxRecDepth 20000 in
theorem gX6_swap_X0_setOf : GoodIn wsX6_swap (wsV RX6 102 RX0 yX0_setOf wsX0_setOf) := goodIn_app (goodIn_r _ [30, 31, 32, 8] rfl (by decide +kernel)) ggX6_swap_X0_setOf
theorem dX6_swap_0 : decode cX6_swap 0 = .ok (.aload_n 1, 1) := by decide +kernel
theorem dX6_swap_1 : decode cX6_swap 1 = .ok (.iload_n 2, 1) := by decide +kernel
theorem dX6_swap_2 : decode cX6_swap 2 = .ok (.invokevirtual 75, 3) := by decide +kernel
theorem dX6_swap_5 : decode cX6_swap 5 = .ok (.ifCond .eq 11, 3) := by decide +kernel
theorem dX6_swap_8 : decode cX6_swap 8 = .ok (.aload_n 1, 1) := by decide +kernel
theorem dX6_swap_9 : decode cX6_swap 9 = .ok (.iload_n 3, 1) := by decide +kernel
theorem dX6_swap_10 : decode cX6_swap 10 = .ok (.invokevirtual 75, 3) := by decide +kernel
theorem dX6_swap_13 : decode cX6_swap 13 = .ok (.ifCond .ne 9, 3) := by decide +kernel
theorem dX6_swap_16 : decode cX6_swap 16 = .ok (.aload_n 0, 1) := by decide +kernel
theorem dX6_swap_17 : decode cX6_swap 17 = .ok (.aload_n 1, 1) := by decide +kernel
theorem dX6_swap_18 : decode cX6_swap 18 = .ok (.invokevirtual 78, 3) := by decide +kernel
theorem dX6_swap_21 : decode cX6_swap 21 = .ok (.ireturn, 1) := by decide +kernel
theorem dX6_swap_22 : decode cX6_swap 22 = .ok (.iload_n 2, 1) := by decide +kernel
theorem dX6_swap_23 : decode cX6_swap 23 = .ok (.iload_n 3, 1) := by decide +kernel
theorem dX6_swap_24 : decode cX6_swap 24 = .ok (.if_icmp .ne 11, 3) := by decide +kernel
theorem dX6_swap_27 : decode cX6_swap 27 = .ok (.aload_n 0, 1) := by decide +kernel
theorem dX6_swap_28 : decode cX6_swap 28 = .ok (.bipush 6, 2) := by decide +kernel
theorem dX6_swap_30 : decode cX6_swap 30 = .ok (.iload_n 2, 1) := by decide +kernel
theorem dX6_swap_31 : decode cX6_swap 31 = .ok (.invokevirtual 58, 3) := by decide +kernel
theorem dX6_swap_34 : decode cX6_swap 34 = .ok (.ireturn, 1) := by decide +kernel
theorem dX6_swap_35 : decode cX6_swap 35 = .ok (.aload_n 1, 1) := by decide +kernel
theorem dX6_swap_36 : decode cX6_swap 36 = .ok (.iload_n 2, 1) := by decide +kernel
theorem dX6_swap_37 : decode cX6_swap 37 = .ok (.iconst 1, 1) := by decide +kernel
theorem dX6_swap_38 : decode cX6_swap 38 = .ok (.invokevirtual 84, 3) := by decide +kernel
theorem dX6_swap_41 : decode cX6_swap 41 = .ok (.istore 4, 2) := by decide +kernel
theorem dX6_swap_43 : decode cX6_swap 43 = .ok (.aload_n 1, 1) := by decide +kernel
theorem dX6_swap_44 : decode cX6_swap 44 = .ok (.iload_n 2, 1) := by decide +kernel
theorem dX6_swap_45 : decode cX6_swap 45 = .ok (.iconst 1, 1) := by decide +kernel
theorem dX6_swap_46 : decode cX6_swap 46 = .ok (.aload_n 1, 1) := by decide +kernel
theorem dX6_swap_47 : decode cX6_swap 47 = .ok (.iload_n 3, 1) := by decide +kernel
theorem dX6_swap_48 : decode cX6_swap 48 = .ok (.iconst 1, 1) := by decide +kernel
theorem dX6_swap_49 : decode cX6_swap 49 = .ok (.invokevirtual 84, 3) := by decide +kernel
theorem dX6_swap_52 : decode cX6_swap 52 = .ok (.invokevirtual 102, 3) := by decide +kernel
theorem dX6_swap_55 : decode cX6_swap 55 = .ok (.aload_n 1, 1) := by decide +kernel
theorem dX6_swap_56 : decode cX6_swap 56 = .ok (.iload_n 3, 1) := by decide +kernel
theorem dX6_swap_57 : decode cX6_swap 57 = .ok (.iconst 1, 1) := by decide +kernel
theorem dX6_swap_58 : decode cX6_swap 58 = .ok (.iload 4, 2) := by decide +kernel
theorem dX6_swap_60 : decode cX6_swap 60 = .ok (.invokevirtual 102, 3) := by decide +kernel
theorem dX6_swap_63 : decode cX6_swap 63 = .ok (.iload 4, 2) := by decide +kernel
theorem dX6_swap_65 : decode cX6_swap 65 = .ok (.aload_n 1, 1) := by decide +kernel
theorem dX6_swap_66 : decode cX6_swap 66 = .ok (.iload_n 2, 1) := by decide +kernel
theorem dX6_swap_67 : decode cX6_swap 67 = .ok (.iconst 1, 1) := by decide +kernel
theorem dX6_swap_68 : decode cX6_swap 68 = .ok (.invokevirtual 84, 3) := by decide +kernel
theorem dX6_swap_71 : decode cX6_swap 71 = .ok (.isub, 1) := by decide +kernel
theorem dX6_swap_72 : decode cX6_swap 72 = .ok (.invokestatic 90, 3) := by decide +kernel
theorem dX6_swap_75 : decode cX6_swap 75 = .ok (.ireturn, 1) := by decide +kernel
set_option maxRecDepth 20000 in
theorem ggX6_bet_X0_isMember : GoodIn wsX6_bet wsX0_isMember := goodIn_ca (goodIn_r _ [5, 6, 53] rfl (by decide +kernel)) (goodIn_sub (fun _ h => List.mem_cons_of_mem _ (List.mem_append_right _ h)) (by decide +kernel))
set_option maxRecDepth 20000 in
theorem gX6_bet_X0_isMember : GoodIn wsX6_bet (wsV RX6 75 RX0 yX0_isMember wsX0_isMember) := goodIn_app (goodIn_r _ [1, 2, 3, 4] rfl (by decide +kernel)) ggX6_bet_X0_isMember
set_option maxRecDepth 20000 in
theorem ggX6_bet_X6_refuseStranger : GoodIn wsX6_bet wsX6_refuseStranger := goodIn_ca (goodIn_r _ [11, 12, 13, 14, 4, 15, 6, 16, 17, 18, 10, 19, 20, 21, 53, 54, 55] rfl (by decide +kernel)) (goodIn_sub (fun _ h => List.mem_cons_of_mem _ (List.mem_append_right _ h)) (by decide +kernel))
set_option maxRecDepth 20000 in
theorem gX6_bet_X6_refuseStranger : GoodIn wsX6_bet (wsV RX6 78 RX6 yX6_refuseStranger wsX6_refuseStranger) := goodIn_app (goodIn_r _ [7, 8, 9, 10] rfl (by decide +kernel)) ggX6_bet_X6_refuseStranger
set_option maxRecDepth 20000 in
theorem ggX6_bet_X6_refuse : GoodIn wsX6_bet wsX6_refuse := goodIn_r _ [19, 20, 21, 54, 55] rfl (by decide +kernel)
set_option maxRecDepth 20000 in
theorem gX6_bet_X6_refuse : GoodIn wsX6_bet (wsV RX6 58 RX6 yX6_refuse wsX6_refuse) := goodIn_app (goodIn_r _ [16, 17, 18, 10] rfl (by decide +kernel)) ggX6_bet_X6_refuse
set_option maxRecDepth 20000 in
theorem ggX6_bet_X0_hasWagered : GoodIn wsX6_bet wsX0_hasWagered := goodIn_ca (goodIn_r _ [25, 26, 27, 28, 4, 29, 6, 53] rfl (by decide +kernel)) (goodIn_sub (fun _ h => List.mem_cons_of_mem _ (List.mem_append_right _ h)) (by decide +kernel))
set_option maxRecDepth 20000 in
theorem gX6_bet_X0_hasWagered : GoodIn wsX6_bet (wsV RX6 81 RX0 yX0_hasWagered wsX0_hasWagered) := goodIn_app (goodIn_r _ [22, 23, 24, 4] rfl (by decide +kernel)) ggX6_bet_X0_hasWagered
set_option maxRecDepth 20000 in
theorem ggX6_bet_X0_of : GoodIn wsX6_bet wsX0_of := goodIn_ca (goodIn_r _ [29, 6, 53] rfl (by decide +kernel)) (goodIn_sub (fun _ h => List.mem_cons_of_mem _ (List.mem_append_right _ h)) (by decide +kernel))
set_option maxRecDepth 20000 in
theorem gX6_bet_X0_of : GoodIn wsX6_bet (wsV RX6 84 RX0 yX0_of wsX0_of) := goodIn_app (goodIn_r _ [30, 27, 28, 4] rfl (by decide +kernel)) ggX6_bet_X0_of
set_option maxRecDepth 20000 in
theorem ggX6_bet_X0_payIntoPot : GoodIn wsX6_bet wsX0_payIntoPot := goodIn_ca (goodIn_r _ [34, 35, 36, 37, 4, 38, 26, 27, 28, 29, 6, 39, 40, 41, 42, 43, 44, 45, 46, 47, 13, 14, 15, 48, 49, 50, 51, 53] rfl (by decide +kernel)) (goodIn_sub (fun _ h => List.mem_cons_of_mem _ (List.mem_append_right _ h)) (by decide +kernel))
set_option maxRecDepth 20000 in
theorem gX6_bet_X0_payIntoPot : GoodIn wsX6_bet (wsV RX6 95 RX0 yX0_payIntoPot wsX0_payIntoPot) := goodIn_app (goodIn_r _ [31, 32, 33, 4] rfl (by decide +kernel)) ggX6_bet_X0_payIntoPot
set_option maxRecDepth 20000 in
theorem ggX6_bet_X0_setOf : GoodIn wsX6_bet wsX0_setOf := goodIn_ca (goodIn_r _ [42, 6, 53] rfl (by decide +kernel)) (goodIn_sub (fun _ h => List.mem_cons_of_mem _ (List.mem_append_right _ h)) (by decide +kernel))
set_option maxRecDepth 20000 in
theorem gX6_bet_X0_setOf : GoodIn wsX6_bet (wsV RX6 102 RX0 yX0_setOf wsX0_setOf) := goodIn_app (goodIn_r _ [52, 40, 41, 4] rfl (by decide +kernel)) ggX6_bet_X0_setOf
set_option maxRecDepth 20000 in
theorem ggX6_bet_X0_get : GoodIn wsX6_bet wsX0_get := goodIn_ca (goodIn_r _ [15, 6, 53] rfl (by decide +kernel)) (goodIn_sub (fun _ h => List.mem_cons_of_mem _ (List.mem_append_right _ h)) (by decide +kernel))
set_option maxRecDepth 20000 in
theorem gX6_bet_X0_get : GoodIn wsX6_bet (wsV RX6 54 RX0 yX0_get wsX0_get) := goodIn_app (goodIn_r _ [12, 13, 14, 4] rfl (by decide +kernel)) ggX6_bet_X0_get
theorem dX6_bet_0 : decode cX6_bet 0 = .ok (.aload_n 1, 1) := by decide +kernel
theorem dX6_bet_1 : decode cX6_bet 1 = .ok (.iload_n 2, 1) := by decide +kernel
theorem dX6_bet_2 : decode cX6_bet 2 = .ok (.invokevirtual 75, 3) := by decide +kernel
theorem dX6_bet_5 : decode cX6_bet 5 = .ok (.ifCond .ne 9, 3) := by decide +kernel
theorem dX6_bet_8 : decode cX6_bet 8 = .ok (.aload_n 0, 1) := by decide +kernel
theorem dX6_bet_9 : decode cX6_bet 9 = .ok (.aload_n 1, 1) := by decide +kernel
theorem dX6_bet_10 : decode cX6_bet 10 = .ok (.invokevirtual 78, 3) := by decide +kernel
theorem dX6_bet_13 : decode cX6_bet 13 = .ok (.ireturn, 1) := by decide +kernel
theorem dX6_bet_14 : decode cX6_bet 14 = .ok (.iload_n 3, 1) := by decide +kernel
theorem dX6_bet_15 : decode cX6_bet 15 = .ok (.sipush 700, 3) := by decide +kernel
theorem dX6_bet_18 : decode cX6_bet 18 = .ok (.if_icmp .lt 23, 3) := by decide +kernel
theorem dX6_bet_21 : decode cX6_bet 21 = .ok (.iload_n 3, 1) := by decide +kernel
theorem dX6_bet_22 : decode cX6_bet 22 = .ok (.sipush 1100, 3) := by decide +kernel
theorem dX6_bet_25 : decode cX6_bet 25 = .ok (.if_icmp .gt 16, 3) := by decide +kernel
theorem dX6_bet_28 : decode cX6_bet 28 = .ok (.iload 4, 2) := by decide +kernel
theorem dX6_bet_30 : decode cX6_bet 30 = .ok (.iconst 1, 1) := by decide +kernel
theorem dX6_bet_31 : decode cX6_bet 31 = .ok (.if_icmp .lt 10, 3) := by decide +kernel
theorem dX6_bet_34 : decode cX6_bet 34 = .ok (.iload 4, 2) := by decide +kernel
theorem dX6_bet_36 : decode cX6_bet 36 = .ok (.bipush 9, 2) := by decide +kernel
theorem dX6_bet_38 : decode cX6_bet 38 = .ok (.if_icmp .le 10, 3) := by decide +kernel
theorem dX6_bet_41 : decode cX6_bet 41 = .ok (.aload_n 0, 1) := by decide +kernel
theorem dX6_bet_42 : decode cX6_bet 42 = .ok (.iconst 1, 1) := by decide +kernel
theorem dX6_bet_43 : decode cX6_bet 43 = .ok (.iconst 0, 1) := by decide +kernel
theorem dX6_bet_44 : decode cX6_bet 44 = .ok (.invokevirtual 58, 3) := by decide +kernel
theorem dX6_bet_47 : decode cX6_bet 47 = .ok (.ireturn, 1) := by decide +kernel
theorem dX6_bet_48 : decode cX6_bet 48 = .ok (.aload_n 1, 1) := by decide +kernel
theorem dX6_bet_49 : decode cX6_bet 49 = .ok (.iload_n 2, 1) := by decide +kernel
theorem dX6_bet_50 : decode cX6_bet 50 = .ok (.invokevirtual 81, 3) := by decide +kernel
theorem dX6_bet_53 : decode cX6_bet 53 = .ok (.ifCond .eq 16, 3) := by decide +kernel
theorem dX6_bet_56 : decode cX6_bet 56 = .ok (.aload_n 0, 1) := by decide +kernel
theorem dX6_bet_57 : decode cX6_bet 57 = .ok (.bipush 7, 2) := by decide +kernel
theorem dX6_bet_59 : decode cX6_bet 59 = .ok (.aload_n 1, 1) := by decide +kernel
theorem dX6_bet_60 : decode cX6_bet 60 = .ok (.iload_n 2, 1) := by decide +kernel
theorem dX6_bet_61 : decode cX6_bet 61 = .ok (.iconst 2, 1) := by decide +kernel
theorem dX6_bet_62 : decode cX6_bet 62 = .ok (.invokevirtual 84, 3) := by decide +kernel
theorem dX6_bet_65 : decode cX6_bet 65 = .ok (.invokevirtual 58, 3) := by decide +kernel
theorem dX6_bet_68 : decode cX6_bet 68 = .ok (.ireturn, 1) := by decide +kernel
theorem dX6_bet_69 : decode cX6_bet 69 = .ok (.iload 4, 2) := by decide +kernel
theorem dX6_bet_71 : decode cX6_bet 71 = .ok (.aload_n 1, 1) := by decide +kernel
theorem dX6_bet_72 : decode cX6_bet 72 = .ok (.iload_n 2, 1) := by decide +kernel
theorem dX6_bet_73 : decode cX6_bet 73 = .ok (.iconst 0, 1) := by decide +kernel
theorem dX6_bet_74 : decode cX6_bet 74 = .ok (.invokevirtual 84, 3) := by decide +kernel
theorem dX6_bet_77 : decode cX6_bet 77 = .ok (.if_icmp .le 18, 3) := by decide +kernel
theorem dX6_bet_80 : decode cX6_bet 80 = .ok (.aload_n 0, 1) := by decide +kernel
theorem dX6_bet_81 : decode cX6_bet 81 = .ok (.iconst 5, 1) := by decide +kernel
theorem dX6_bet_82 : decode cX6_bet 82 = .ok (.iload 4, 2) := by decide +kernel
theorem dX6_bet_84 : decode cX6_bet 84 = .ok (.aload_n 1, 1) := by decide +kernel
theorem dX6_bet_85 : decode cX6_bet 85 = .ok (.iload_n 2, 1) := by decide +kernel
theorem dX6_bet_86 : decode cX6_bet 86 = .ok (.iconst 0, 1) := by decide +kernel
theorem dX6_bet_87 : decode cX6_bet 87 = .ok (.invokevirtual 84, 3) := by decide +kernel
theorem dX6_bet_90 : decode cX6_bet 90 = .ok (.isub, 1) := by decide +kernel
theorem dX6_bet_91 : decode cX6_bet 91 = .ok (.invokevirtual 58, 3) := by decide +kernel
theorem dX6_bet_94 : decode cX6_bet 94 = .ok (.ireturn, 1) := by decide +kernel
theorem dX6_bet_95 : decode cX6_bet 95 = .ok (.aload_n 1, 1) := by decide +kernel
theorem dX6_bet_96 : decode cX6_bet 96 = .ok (.iload_n 2, 1) := by decide +kernel
theorem dX6_bet_97 : decode cX6_bet 97 = .ok (.iload 4, 2) := by decide +kernel
theorem dX6_bet_99 : decode cX6_bet 99 = .ok (.invokevirtual 95, 3) := by decide +kernel
theorem dX6_bet_102 : decode cX6_bet 102 = .ok (.aload_n 1, 1) := by decide +kernel
theorem dX6_bet_103 : decode cX6_bet 103 = .ok (.iload_n 2, 1) := by decide +kernel
theorem dX6_bet_104 : decode cX6_bet 104 = .ok (.iconst 2, 1) := by decide +kernel
theorem dX6_bet_105 : decode cX6_bet 105 = .ok (.iload_n 3, 1) := by decide +kernel
theorem dX6_bet_106 : decode cX6_bet 106 = .ok (.invokevirtual 102, 3) := by decide +kernel
theorem dX6_bet_109 : decode cX6_bet 109 = .ok (.aload_n 1, 1) := by decide +kernel
theorem dX6_bet_110 : decode cX6_bet 110 = .ok (.iload_n 2, 1) := by decide +kernel
theorem dX6_bet_111 : decode cX6_bet 111 = .ok (.iconst 3, 1) := by decide +kernel
theorem dX6_bet_112 : decode cX6_bet 112 = .ok (.iload 4, 2) := by decide +kernel
theorem dX6_bet_114 : decode cX6_bet 114 = .ok (.invokevirtual 102, 3) := by decide +kernel
theorem dX6_bet_117 : decode cX6_bet 117 = .ok (.aload_n 1, 1) := by decide +kernel
theorem dX6_bet_118 : decode cX6_bet 118 = .ok (.bipush 7, 2) := by decide +kernel
theorem dX6_bet_120 : decode cX6_bet 120 = .ok (.invokevirtual 54, 3) := by decide +kernel
theorem dX6_bet_123 : decode cX6_bet 123 = .ok (.ireturn, 1) := by decide +kernel
set_option maxRecDepth 20000 in
theorem ggX6_knock_X0_isMember : GoodIn wsX6_knock wsX0_isMember := goodIn_ca (goodIn_r _ [5, 6, 61] rfl (by decide +kernel)) (goodIn_sub (fun _ h => List.mem_cons_of_mem _ (List.mem_append_right _ h)) (by decide +kernel))
set_option maxRecDepth 20000 in
theorem gX6_knock_X0_isMember : GoodIn wsX6_knock (wsV RX6 75 RX0 yX0_isMember wsX0_isMember) := goodIn_app (goodIn_r _ [1, 2, 3, 4] rfl (by decide +kernel)) ggX6_knock_X0_isMember
set_option maxRecDepth 20000 in
theorem ggX6_knock_X6_refuseStranger : GoodIn wsX6_knock wsX6_refuseStranger := goodIn_ca (goodIn_r _ [11, 12, 13, 14, 4, 15, 6, 16, 17, 18, 10, 19, 20, 21, 61, 62, 63] rfl (by decide +kernel)) (goodIn_sub (fun _ h => List.mem_cons_of_mem _ (List.mem_append_right _ h)) (by decide +kernel))
set_option maxRecDepth 20000 in
theorem gX6_knock_X6_refuseStranger : GoodIn wsX6_knock (wsV RX6 78 RX6 yX6_refuseStranger wsX6_refuseStranger) := goodIn_app (goodIn_r _ [7, 8, 9, 10] rfl (by decide +kernel)) ggX6_knock_X6_refuseStranger
set_option maxRecDepth 20000 in
theorem ggX6_knock_X0_hasWagered : GoodIn wsX6_knock wsX0_hasWagered := goodIn_ca (goodIn_r _ [25, 26, 27, 28, 4, 29, 6, 61] rfl (by decide +kernel)) (goodIn_sub (fun _ h => List.mem_cons_of_mem _ (List.mem_append_right _ h)) (by decide +kernel))
set_option maxRecDepth 20000 in
theorem gX6_knock_X0_hasWagered : GoodIn wsX6_knock (wsV RX6 81 RX0 yX0_hasWagered wsX0_hasWagered) := goodIn_app (goodIn_r _ [22, 23, 24, 4] rfl (by decide +kernel)) ggX6_knock_X0_hasWagered
set_option maxRecDepth 20000 in
theorem ggX6_knock_X6_refuse : GoodIn wsX6_knock wsX6_refuse := goodIn_r _ [19, 20, 21, 62, 63] rfl (by decide +kernel)
set_option maxRecDepth 20000 in
theorem gX6_knock_X6_refuse : GoodIn wsX6_knock (wsV RX6 58 RX6 yX6_refuse wsX6_refuse) := goodIn_app (goodIn_r _ [16, 17, 18, 10] rfl (by decide +kernel)) ggX6_knock_X6_refuse
set_option maxRecDepth 20000 in
theorem ggX6_knock_X0_hasTapped : GoodIn wsX6_knock wsX0_hasTapped := goodIn_ca (goodIn_r _ [33, 26, 27, 28, 4, 29, 6, 61] rfl (by decide +kernel)) (goodIn_sub (fun _ h => List.mem_cons_of_mem _ (List.mem_append_right _ h)) (by decide +kernel))
set_option maxRecDepth 20000 in
theorem gX6_knock_X0_hasTapped : GoodIn wsX6_knock (wsV RX6 106 RX0 yX0_hasTapped wsX0_hasTapped) := goodIn_app (goodIn_r _ [30, 31, 32, 4] rfl (by decide +kernel)) ggX6_knock_X0_hasTapped
set_option maxRecDepth 20000 in
theorem ggX6_knock_X0_of : GoodIn wsX6_knock wsX0_of := goodIn_ca (goodIn_r _ [29, 6, 61] rfl (by decide +kernel)) (goodIn_sub (fun _ h => List.mem_cons_of_mem _ (List.mem_append_right _ h)) (by decide +kernel))
set_option maxRecDepth 20000 in
theorem gX6_knock_X0_of : GoodIn wsX6_knock (wsV RX6 84 RX0 yX0_of wsX0_of) := goodIn_app (goodIn_r _ [34, 27, 28, 4] rfl (by decide +kernel)) ggX6_knock_X0_of
set_option maxRecDepth 20000 in
theorem ggX6_knock_X0_payIntoPot : GoodIn wsX6_knock wsX0_payIntoPot := goodIn_ca (goodIn_r _ [38, 39, 40, 41, 4, 42, 26, 27, 28, 29, 6, 43, 44, 45, 46, 47, 48, 49, 50, 51, 13, 14, 15, 52, 53, 54, 55, 61] rfl (by decide +kernel)) (goodIn_sub (fun _ h => List.mem_cons_of_mem _ (List.mem_append_right _ h)) (by decide +kernel))
set_option maxRecDepth 20000 in
theorem gX6_knock_X0_payIntoPot : GoodIn wsX6_knock (wsV RX6 95 RX0 yX0_payIntoPot wsX0_payIntoPot) := goodIn_app (goodIn_r _ [35, 36, 37, 4] rfl (by decide +kernel)) ggX6_knock_X0_payIntoPot
set_option maxRecDepth 20000 in
theorem ggX6_knock_X0_add : GoodIn wsX6_knock wsX0_add := goodIn_ca (goodIn_r _ [50, 51, 13, 14, 4, 15, 6, 52, 53, 54, 55, 61] rfl (by decide +kernel)) (goodIn_sub (fun _ h => List.mem_cons_of_mem _ (List.mem_append_right _ h)) (by decide +kernel))
set_option maxRecDepth 20000 in
theorem gX6_knock_X0_add : GoodIn wsX6_knock (wsV RX6 99 RX0 yX0_add wsX0_add) := goodIn_app (goodIn_r _ [56, 48, 49, 4] rfl (by decide +kernel)) ggX6_knock_X0_add
set_option maxRecDepth 20000 in
theorem ggX6_knock_X0_setOf : GoodIn wsX6_knock wsX0_setOf := goodIn_ca (goodIn_r _ [46, 6, 61] rfl (by decide +kernel)) (goodIn_sub (fun _ h => List.mem_cons_of_mem _ (List.mem_append_right _ h)) (by decide +kernel))
set_option maxRecDepth 20000 in
theorem gX6_knock_X0_setOf : GoodIn wsX6_knock (wsV RX6 102 RX0 yX0_setOf wsX0_setOf) := goodIn_app (goodIn_r _ [57, 44, 45, 4] rfl (by decide +kernel)) ggX6_knock_X0_setOf
set_option maxRecDepth 20000 in
theorem ggX6_knock_X0_get : GoodIn wsX6_knock wsX0_get := goodIn_ca (goodIn_r _ [15, 6, 61] rfl (by decide +kernel)) (goodIn_sub (fun _ h => List.mem_cons_of_mem _ (List.mem_append_right _ h)) (by decide +kernel))
set_option maxRecDepth 20000 in
theorem gX6_knock_X0_get : GoodIn wsX6_knock (wsV RX6 54 RX0 yX0_get wsX0_get) := goodIn_app (goodIn_r _ [12, 13, 14, 4] rfl (by decide +kernel)) ggX6_knock_X0_get
set_option maxRecDepth 20000 in
theorem ggX6_knock_X7_signOf : GoodIn wsX6_knock wsX7_signOf := goodIn_r _ [60] rfl (by decide +kernel)
set_option maxRecDepth 20000 in
theorem gX6_knock_X7_signOf_n109 : GoodIn wsX6_knock (wsX7_signOf) := ggX6_knock_X7_signOf
theorem dX6_knock_0 : decode cX6_knock 0 = .ok (.aload_n 1, 1) := by decide +kernel
theorem dX6_knock_1 : decode cX6_knock 1 = .ok (.iload_n 2, 1) := by decide +kernel
theorem dX6_knock_2 : decode cX6_knock 2 = .ok (.invokevirtual 75, 3) := by decide +kernel
theorem dX6_knock_5 : decode cX6_knock 5 = .ok (.ifCond .ne 9, 3) := by decide +kernel
theorem dX6_knock_8 : decode cX6_knock 8 = .ok (.aload_n 0, 1) := by decide +kernel
theorem dX6_knock_9 : decode cX6_knock 9 = .ok (.aload_n 1, 1) := by decide +kernel
theorem dX6_knock_10 : decode cX6_knock 10 = .ok (.invokevirtual 78, 3) := by decide +kernel
theorem dX6_knock_13 : decode cX6_knock 13 = .ok (.ireturn, 1) := by decide +kernel
theorem dX6_knock_14 : decode cX6_knock 14 = .ok (.aload_n 1, 1) := by decide +kernel
theorem dX6_knock_15 : decode cX6_knock 15 = .ok (.iload_n 2, 1) := by decide +kernel
theorem dX6_knock_16 : decode cX6_knock 16 = .ok (.invokevirtual 81, 3) := by decide +kernel
theorem dX6_knock_19 : decode cX6_knock 19 = .ok (.ifCond .ne 11, 3) := by decide +kernel
theorem dX6_knock_22 : decode cX6_knock 22 = .ok (.aload_n 0, 1) := by decide +kernel
theorem dX6_knock_23 : decode cX6_knock 23 = .ok (.bipush 8, 2) := by decide +kernel
theorem dX6_knock_25 : decode cX6_knock 25 = .ok (.iconst 0, 1) := by decide +kernel
theorem dX6_knock_26 : decode cX6_knock 26 = .ok (.invokevirtual 58, 3) := by decide +kernel
theorem dX6_knock_29 : decode cX6_knock 29 = .ok (.ireturn, 1) := by decide +kernel
theorem dX6_knock_30 : decode cX6_knock 30 = .ok (.aload_n 1, 1) := by decide +kernel
theorem dX6_knock_31 : decode cX6_knock 31 = .ok (.iload_n 2, 1) := by decide +kernel
theorem dX6_knock_32 : decode cX6_knock 32 = .ok (.invokevirtual 106, 3) := by decide +kernel
theorem dX6_knock_35 : decode cX6_knock 35 = .ok (.ifCond .eq 16, 3) := by decide +kernel
theorem dX6_knock_38 : decode cX6_knock 38 = .ok (.aload_n 0, 1) := by decide +kernel
theorem dX6_knock_39 : decode cX6_knock 39 = .ok (.bipush 9, 2) := by decide +kernel
theorem dX6_knock_41 : decode cX6_knock 41 = .ok (.aload_n 1, 1) := by decide +kernel
theorem dX6_knock_42 : decode cX6_knock 42 = .ok (.iload_n 2, 1) := by decide +kernel
theorem dX6_knock_43 : decode cX6_knock 43 = .ok (.iconst 3, 1) := by decide +kernel
theorem dX6_knock_44 : decode cX6_knock 44 = .ok (.invokevirtual 84, 3) := by decide +kernel
theorem dX6_knock_47 : decode cX6_knock 47 = .ok (.invokevirtual 58, 3) := by decide +kernel
theorem dX6_knock_50 : decode cX6_knock 50 = .ok (.ireturn, 1) := by decide +kernel
theorem dX6_knock_51 : decode cX6_knock 51 = .ok (.iconst 1, 1) := by decide +kernel
theorem dX6_knock_52 : decode cX6_knock 52 = .ok (.aload_n 1, 1) := by decide +kernel
theorem dX6_knock_53 : decode cX6_knock 53 = .ok (.iload_n 2, 1) := by decide +kernel
theorem dX6_knock_54 : decode cX6_knock 54 = .ok (.iconst 0, 1) := by decide +kernel
theorem dX6_knock_55 : decode cX6_knock 55 = .ok (.invokevirtual 84, 3) := by decide +kernel
theorem dX6_knock_58 : decode cX6_knock 58 = .ok (.if_icmp .le 17, 3) := by decide +kernel
theorem dX6_knock_61 : decode cX6_knock 61 = .ok (.aload_n 0, 1) := by decide +kernel
theorem dX6_knock_62 : decode cX6_knock 62 = .ok (.iconst 5, 1) := by decide +kernel
theorem dX6_knock_63 : decode cX6_knock 63 = .ok (.iconst 1, 1) := by decide +kernel
theorem dX6_knock_64 : decode cX6_knock 64 = .ok (.aload_n 1, 1) := by decide +kernel
theorem dX6_knock_65 : decode cX6_knock 65 = .ok (.iload_n 2, 1) := by decide +kernel
theorem dX6_knock_66 : decode cX6_knock 66 = .ok (.iconst 0, 1) := by decide +kernel
theorem dX6_knock_67 : decode cX6_knock 67 = .ok (.invokevirtual 84, 3) := by decide +kernel
theorem dX6_knock_70 : decode cX6_knock 70 = .ok (.isub, 1) := by decide +kernel
theorem dX6_knock_71 : decode cX6_knock 71 = .ok (.invokevirtual 58, 3) := by decide +kernel
theorem dX6_knock_74 : decode cX6_knock 74 = .ok (.ireturn, 1) := by decide +kernel
theorem dX6_knock_75 : decode cX6_knock 75 = .ok (.aload_n 1, 1) := by decide +kernel
theorem dX6_knock_76 : decode cX6_knock 76 = .ok (.iload_n 2, 1) := by decide +kernel
theorem dX6_knock_77 : decode cX6_knock 77 = .ok (.iconst 1, 1) := by decide +kernel
theorem dX6_knock_78 : decode cX6_knock 78 = .ok (.invokevirtual 95, 3) := by decide +kernel
theorem dX6_knock_81 : decode cX6_knock 81 = .ok (.aload_n 1, 1) := by decide +kernel
theorem dX6_knock_82 : decode cX6_knock 82 = .ok (.bipush 10, 2) := by decide +kernel
theorem dX6_knock_84 : decode cX6_knock 84 = .ok (.iconst 1, 1) := by decide +kernel
theorem dX6_knock_85 : decode cX6_knock 85 = .ok (.invokevirtual 99, 3) := by decide +kernel
theorem dX6_knock_88 : decode cX6_knock 88 = .ok (.aload_n 1, 1) := by decide +kernel
theorem dX6_knock_89 : decode cX6_knock 89 = .ok (.iload_n 2, 1) := by decide +kernel
theorem dX6_knock_90 : decode cX6_knock 90 = .ok (.iconst 4, 1) := by decide +kernel
theorem dX6_knock_91 : decode cX6_knock 91 = .ok (.iconst 1, 1) := by decide +kernel
theorem dX6_knock_92 : decode cX6_knock 92 = .ok (.invokevirtual 102, 3) := by decide +kernel
theorem dX6_knock_95 : decode cX6_knock 95 = .ok (.aload_n 1, 1) := by decide +kernel
theorem dX6_knock_96 : decode cX6_knock 96 = .ok (.iconst 2, 1) := by decide +kernel
theorem dX6_knock_97 : decode cX6_knock 97 = .ok (.invokevirtual 54, 3) := by decide +kernel
theorem dX6_knock_100 : decode cX6_knock 100 = .ok (.invokestatic 109, 3) := by decide +kernel
theorem dX6_knock_103 : decode cX6_knock 103 = .ok (.ireturn, 1) := by decide +kernel
set_option maxRecDepth 20000 in
theorem ggX6_passDay_X7_isChange : GoodIn wsX6_passDay wsX7_isChange := goodIn_r _ [3] rfl (by decide +kernel)
set_option maxRecDepth 20000 in
theorem gX6_passDay_X7_isChange_n112 : GoodIn wsX6_passDay (wsX7_isChange) := ggX6_passDay_X7_isChange
set_option maxRecDepth 20000 in
theorem ggX6_passDay_X6_refuse : GoodIn wsX6_passDay wsX6_refuse := goodIn_r _ [8, 9, 10, 34, 35] rfl (by decide +kernel)
set_option maxRecDepth 20000 in
theorem gX6_passDay_X6_refuse : GoodIn wsX6_passDay (wsV RX6 58 RX6 yX6_refuse wsX6_refuse) := goodIn_app (goodIn_r _ [4, 5, 6, 7] rfl (by decide +kernel)) ggX6_passDay_X6_refuse
set_option maxRecDepth 20000 in
theorem ggX6_passDay_X0_get : GoodIn wsX6_passDay wsX0_get := goodIn_ca (goodIn_r _ [15, 16, 36] rfl (by decide +kernel)) (goodIn_sub (fun _ h => List.mem_cons_of_mem _ (List.mem_append_right _ h)) (by decide +kernel))
set_option maxRecDepth 20000 in
theorem gX6_passDay_X0_get : GoodIn wsX6_passDay (wsV RX6 54 RX0 yX0_get wsX0_get) := goodIn_app (goodIn_r _ [11, 12, 13, 14] rfl (by decide +kernel)) ggX6_passDay_X0_get
set_option maxRecDepth 20000 in
theorem ggX6_passDay_X7_isPressure : GoodIn wsX6_passDay wsX7_isPressure := goodIn_r _ [18] rfl (by decide +kernel)
set_option maxRecDepth 20000 in
theorem gX6_passDay_X7_isPressure_n115 : GoodIn wsX6_passDay (wsX7_isPressure) := ggX6_passDay_X7_isPressure
set_option maxRecDepth 20000 in
theorem ggX6_passDay_X0_changePressure : GoodIn wsX6_passDay wsX0_changePressure := goodIn_ca (goodIn_r _ [22, 23, 24, 25, 14, 26, 27, 12, 13, 15, 16, 28, 29, 30, 31, 36] rfl (by decide +kernel)) (goodIn_sub (fun _ h => List.mem_cons_of_mem _ (List.mem_append_right _ h)) (by decide +kernel))
set_option maxRecDepth 20000 in
theorem gX6_passDay_X0_changePressure : GoodIn wsX6_passDay (wsV RX6 118 RX0 yX0_changePressure wsX0_changePressure) := goodIn_app (goodIn_r _ [19, 20, 21, 14] rfl (by decide +kernel)) ggX6_passDay_X0_changePressure
set_option maxRecDepth 20000 in
theorem ggX6_passDay_X0_add : GoodIn wsX6_passDay wsX0_add := goodIn_ca (goodIn_r _ [26, 27, 12, 13, 14, 15, 16, 28, 29, 30, 31, 36] rfl (by decide +kernel)) (goodIn_sub (fun _ h => List.mem_cons_of_mem _ (List.mem_append_right _ h)) (by decide +kernel))
set_option maxRecDepth 20000 in
theorem gX6_passDay_X0_add : GoodIn wsX6_passDay (wsV RX6 99 RX0 yX0_add wsX0_add) := goodIn_app (goodIn_r _ [32, 24, 25, 14] rfl (by decide +kernel)) ggX6_passDay_X0_add
set_option maxRecDepth 20000 in
theorem ggX6_passDay_X0_set : GoodIn wsX6_passDay wsX0_set := goodIn_ca (goodIn_r _ [31, 16, 36] rfl (by decide +kernel)) (goodIn_sub (fun _ h => List.mem_cons_of_mem _ (List.mem_append_right _ h)) (by decide +kernel))
set_option maxRecDepth 20000 in
theorem gX6_passDay_X0_set : GoodIn wsX6_passDay (wsV RX6 122 RX0 yX0_set wsX0_set) := goodIn_app (goodIn_r _ [33, 29, 30, 14] rfl (by decide +kernel)) ggX6_passDay_X0_set
theorem dX6_passDay_0 : decode cX6_passDay 0 = .ok (.iload_n 2, 1) := by decide +kernel
theorem dX6_passDay_1 : decode cX6_passDay 1 = .ok (.invokestatic 112, 3) := by decide +kernel
theorem dX6_passDay_4 : decode cX6_passDay 4 = .ok (.ifCond .ne 10, 3) := by decide +kernel
theorem dX6_passDay_7 : decode cX6_passDay 7 = .ok (.aload_n 0, 1) := by decide +kernel
theorem dX6_passDay_8 : decode cX6_passDay 8 = .ok (.iconst 1, 1) := by decide +kernel
theorem dX6_passDay_9 : decode cX6_passDay 9 = .ok (.iconst 0, 1) := by decide +kernel
theorem dX6_passDay_10 : decode cX6_passDay 10 = .ok (.invokevirtual 58, 3) := by decide +kernel
theorem dX6_passDay_13 : decode cX6_passDay 13 = .ok (.ireturn, 1) := by decide +kernel
theorem dX6_passDay_14 : decode cX6_passDay 14 = .ok (.aload_n 1, 1) := by decide +kernel
theorem dX6_passDay_15 : decode cX6_passDay 15 = .ok (.iconst 1, 1) := by decide +kernel
theorem dX6_passDay_16 : decode cX6_passDay 16 = .ok (.invokevirtual 54, 3) := by decide +kernel
theorem dX6_passDay_19 : decode cX6_passDay 19 = .ok (.iload_n 2, 1) := by decide +kernel
theorem dX6_passDay_20 : decode cX6_passDay 20 = .ok (.iadd, 1) := by decide +kernel
theorem dX6_passDay_21 : decode cX6_passDay 21 = .ok (.istore_n 3, 1) := by decide +kernel
theorem dX6_passDay_22 : decode cX6_passDay 22 = .ok (.iload_n 3, 1) := by decide +kernel
theorem dX6_passDay_23 : decode cX6_passDay 23 = .ok (.invokestatic 115, 3) := by decide +kernel
theorem dX6_passDay_26 : decode cX6_passDay 26 = .ok (.ifCond .ne 11, 3) := by decide +kernel
theorem dX6_passDay_29 : decode cX6_passDay 29 = .ok (.aload_n 0, 1) := by decide +kernel
theorem dX6_passDay_30 : decode cX6_passDay 30 = .ok (.bipush 13, 2) := by decide +kernel
theorem dX6_passDay_32 : decode cX6_passDay 32 = .ok (.iload_n 3, 1) := by decide +kernel
theorem dX6_passDay_33 : decode cX6_passDay 33 = .ok (.invokevirtual 58, 3) := by decide +kernel
theorem dX6_passDay_36 : decode cX6_passDay 36 = .ok (.ireturn, 1) := by decide +kernel
theorem dX6_passDay_37 : decode cX6_passDay 37 = .ok (.aload_n 1, 1) := by decide +kernel
theorem dX6_passDay_38 : decode cX6_passDay 38 = .ok (.iload_n 2, 1) := by decide +kernel
theorem dX6_passDay_39 : decode cX6_passDay 39 = .ok (.invokevirtual 118, 3) := by decide +kernel
theorem dX6_passDay_42 : decode cX6_passDay 42 = .ok (.aload_n 1, 1) := by decide +kernel
theorem dX6_passDay_43 : decode cX6_passDay 43 = .ok (.iconst 4, 1) := by decide +kernel
theorem dX6_passDay_44 : decode cX6_passDay 44 = .ok (.iconst 1, 1) := by decide +kernel
theorem dX6_passDay_45 : decode cX6_passDay 45 = .ok (.invokevirtual 99, 3) := by decide +kernel
theorem dX6_passDay_48 : decode cX6_passDay 48 = .ok (.iload_n 2, 1) := by decide +kernel
theorem dX6_passDay_49 : decode cX6_passDay 49 = .ok (.bipush (-20), 2) := by decide +kernel
theorem dX6_passDay_51 : decode cX6_passDay 51 = .ok (.if_icmp .gt 15, 3) := by decide +kernel
theorem dX6_passDay_54 : decode cX6_passDay 54 = .ok (.aload_n 1, 1) := by decide +kernel
theorem dX6_passDay_55 : decode cX6_passDay 55 = .ok (.iconst 3, 1) := by decide +kernel
theorem dX6_passDay_56 : decode cX6_passDay 56 = .ok (.iconst 1, 1) := by decide +kernel
theorem dX6_passDay_57 : decode cX6_passDay 57 = .ok (.invokevirtual 122, 3) := by decide +kernel
theorem dX6_passDay_60 : decode cX6_passDay 60 = .ok (.aload_n 1, 1) := by decide +kernel
theorem dX6_passDay_61 : decode cX6_passDay 61 = .ok (.iconst 5, 1) := by decide +kernel
theorem dX6_passDay_62 : decode cX6_passDay 62 = .ok (.iconst 1, 1) := by decide +kernel
theorem dX6_passDay_63 : decode cX6_passDay 63 = .ok (.invokevirtual 99, 3) := by decide +kernel
theorem dX6_passDay_66 : decode cX6_passDay 66 = .ok (.iload_n 3, 1) := by decide +kernel
theorem dX6_passDay_67 : decode cX6_passDay 67 = .ok (.ireturn, 1) := by decide +kernel
set_option maxRecDepth 20000 in
theorem ggX6_fill_X0_isMember : GoodIn wsX6_fill wsX0_isMember := goodIn_ca (goodIn_r _ [5, 6, 39] rfl (by decide +kernel)) (goodIn_sub (fun _ h => List.mem_cons_of_mem _ (List.mem_append_right _ h)) (by decide +kernel))
set_option maxRecDepth 20000 in
theorem gX6_fill_X0_isMember : GoodIn wsX6_fill (wsV RX6 75 RX0 yX0_isMember wsX0_isMember) := goodIn_app (goodIn_r _ [1, 2, 3, 4] rfl (by decide +kernel)) ggX6_fill_X0_isMember
set_option maxRecDepth 20000 in
theorem ggX6_fill_X6_refuseStranger : GoodIn wsX6_fill wsX6_refuseStranger := goodIn_ca (goodIn_r _ [11, 12, 13, 14, 4, 15, 6, 16, 17, 18, 10, 19, 20, 21, 39, 40, 41] rfl (by decide +kernel)) (goodIn_sub (fun _ h => List.mem_cons_of_mem _ (List.mem_append_right _ h)) (by decide +kernel))
set_option maxRecDepth 20000 in
theorem gX6_fill_X6_refuseStranger : GoodIn wsX6_fill (wsV RX6 78 RX6 yX6_refuseStranger wsX6_refuseStranger) := goodIn_app (goodIn_r _ [7, 8, 9, 10] rfl (by decide +kernel)) ggX6_fill_X6_refuseStranger
set_option maxRecDepth 20000 in
theorem ggX6_fill_X0_get : GoodIn wsX6_fill wsX0_get := goodIn_ca (goodIn_r _ [15, 6, 39] rfl (by decide +kernel)) (goodIn_sub (fun _ h => List.mem_cons_of_mem _ (List.mem_append_right _ h)) (by decide +kernel))
set_option maxRecDepth 20000 in
theorem gX6_fill_X0_get : GoodIn wsX6_fill (wsV RX6 54 RX0 yX0_get wsX0_get) := goodIn_app (goodIn_r _ [12, 13, 14, 4] rfl (by decide +kernel)) ggX6_fill_X0_get
set_option maxRecDepth 20000 in
theorem ggX6_fill_X6_refuse : GoodIn wsX6_fill wsX6_refuse := goodIn_r _ [19, 20, 21, 40, 41] rfl (by decide +kernel)
set_option maxRecDepth 20000 in
theorem gX6_fill_X6_refuse : GoodIn wsX6_fill (wsV RX6 58 RX6 yX6_refuse wsX6_refuse) := goodIn_app (goodIn_r _ [16, 17, 18, 10] rfl (by decide +kernel)) ggX6_fill_X6_refuse
set_option maxRecDepth 20000 in
theorem ggX6_fill_X0_of : GoodIn wsX6_fill wsX0_of := goodIn_ca (goodIn_r _ [25, 6, 39] rfl (by decide +kernel)) (goodIn_sub (fun _ h => List.mem_cons_of_mem _ (List.mem_append_right _ h)) (by decide +kernel))
set_option maxRecDepth 20000 in
theorem gX6_fill_X0_of : GoodIn wsX6_fill (wsV RX6 84 RX0 yX0_of wsX0_of) := goodIn_app (goodIn_r _ [22, 23, 24, 4] rfl (by decide +kernel)) ggX6_fill_X0_of
set_option maxRecDepth 20000 in
theorem ggX6_fill_X0_set : GoodIn wsX6_fill wsX0_set := goodIn_ca (goodIn_r _ [29, 6, 39] rfl (by decide +kernel)) (goodIn_sub (fun _ h => List.mem_cons_of_mem _ (List.mem_append_right _ h)) (by decide +kernel))
set_option maxRecDepth 20000 in
theorem gX6_fill_X0_set : GoodIn wsX6_fill (wsV RX6 122 RX0 yX0_set wsX0_set) := goodIn_app (goodIn_r _ [26, 27, 28, 4] rfl (by decide +kernel)) ggX6_fill_X0_set
set_option maxRecDepth 20000 in
theorem ggX6_fill_X0_addOf : GoodIn wsX6_fill wsX0_addOf := goodIn_ca (goodIn_r _ [33, 34, 23, 24, 4, 25, 6, 35, 36, 37, 38, 39] rfl (by decide +kernel)) (goodIn_sub (fun _ h => List.mem_cons_of_mem _ (List.mem_append_right _ h)) (by decide +kernel))
set_option maxRecDepth 20000 in
theorem gX6_fill_X0_addOf : GoodIn wsX6_fill (wsV RX6 125 RX0 yX0_addOf wsX0_addOf) := goodIn_app (goodIn_r _ [30, 31, 32, 4] rfl (by decide +kernel)) ggX6_fill_X0_addOf
theorem dX6_fill_0 : decode cX6_fill 0 = .ok (.aload_n 1, 1) := by decide +kernel
theorem dX6_fill_1 : decode cX6_fill 1 = .ok (.iload_n 2, 1) := by decide +kernel
theorem dX6_fill_2 : decode cX6_fill 2 = .ok (.invokevirtual 75, 3) := by decide +kernel
theorem dX6_fill_5 : decode cX6_fill 5 = .ok (.ifCond .ne 9, 3) := by decide +kernel
theorem dX6_fill_8 : decode cX6_fill 8 = .ok (.aload_n 0, 1) := by decide +kernel
theorem dX6_fill_9 : decode cX6_fill 9 = .ok (.aload_n 1, 1) := by decide +kernel
theorem dX6_fill_10 : decode cX6_fill 10 = .ok (.invokevirtual 78, 3) := by decide +kernel
theorem dX6_fill_13 : decode cX6_fill 13 = .ok (.ireturn, 1) := by decide +kernel
theorem dX6_fill_14 : decode cX6_fill 14 = .ok (.aload_n 1, 1) := by decide +kernel
theorem dX6_fill_15 : decode cX6_fill 15 = .ok (.iconst 3, 1) := by decide +kernel
theorem dX6_fill_16 : decode cX6_fill 16 = .ok (.invokevirtual 54, 3) := by decide +kernel
theorem dX6_fill_19 : decode cX6_fill 19 = .ok (.ifCond .ne 15, 3) := by decide +kernel
theorem dX6_fill_22 : decode cX6_fill 22 = .ok (.aload_n 0, 1) := by decide +kernel
theorem dX6_fill_23 : decode cX6_fill 23 = .ok (.bipush 10, 2) := by decide +kernel
theorem dX6_fill_25 : decode cX6_fill 25 = .ok (.aload_n 1, 1) := by decide +kernel
theorem dX6_fill_26 : decode cX6_fill 26 = .ok (.iconst 2, 1) := by decide +kernel
theorem dX6_fill_27 : decode cX6_fill 27 = .ok (.invokevirtual 54, 3) := by decide +kernel
theorem dX6_fill_30 : decode cX6_fill 30 = .ok (.invokevirtual 58, 3) := by decide +kernel
theorem dX6_fill_33 : decode cX6_fill 33 = .ok (.ireturn, 1) := by decide +kernel
theorem dX6_fill_34 : decode cX6_fill 34 = .ok (.aload_n 1, 1) := by decide +kernel
theorem dX6_fill_35 : decode cX6_fill 35 = .ok (.iload_n 2, 1) := by decide +kernel
theorem dX6_fill_36 : decode cX6_fill 36 = .ok (.iconst 5, 1) := by decide +kernel
theorem dX6_fill_37 : decode cX6_fill 37 = .ok (.invokevirtual 84, 3) := by decide +kernel
theorem dX6_fill_40 : decode cX6_fill 40 = .ok (.istore_n 3, 1) := by decide +kernel
theorem dX6_fill_41 : decode cX6_fill 41 = .ok (.iload_n 3, 1) := by decide +kernel
theorem dX6_fill_42 : decode cX6_fill 42 = .ok (.iconst 3, 1) := by decide +kernel
theorem dX6_fill_43 : decode cX6_fill 43 = .ok (.if_icmp .lt 11, 3) := by decide +kernel
theorem dX6_fill_46 : decode cX6_fill 46 = .ok (.aload_n 0, 1) := by decide +kernel
theorem dX6_fill_47 : decode cX6_fill 47 = .ok (.bipush 11, 2) := by decide +kernel
theorem dX6_fill_49 : decode cX6_fill 49 = .ok (.iload_n 3, 1) := by decide +kernel
theorem dX6_fill_50 : decode cX6_fill 50 = .ok (.invokevirtual 58, 3) := by decide +kernel
theorem dX6_fill_53 : decode cX6_fill 53 = .ok (.ireturn, 1) := by decide +kernel
theorem dX6_fill_54 : decode cX6_fill 54 = .ok (.aload_n 1, 1) := by decide +kernel
theorem dX6_fill_55 : decode cX6_fill 55 = .ok (.iconst 3, 1) := by decide +kernel
theorem dX6_fill_56 : decode cX6_fill 56 = .ok (.iconst 0, 1) := by decide +kernel
theorem dX6_fill_57 : decode cX6_fill 57 = .ok (.invokevirtual 122, 3) := by decide +kernel
theorem dX6_fill_60 : decode cX6_fill 60 = .ok (.aload_n 1, 1) := by decide +kernel
theorem dX6_fill_61 : decode cX6_fill 61 = .ok (.iload_n 2, 1) := by decide +kernel
theorem dX6_fill_62 : decode cX6_fill 62 = .ok (.iconst 5, 1) := by decide +kernel
theorem dX6_fill_63 : decode cX6_fill 63 = .ok (.iconst 1, 1) := by decide +kernel
theorem dX6_fill_64 : decode cX6_fill 64 = .ok (.invokevirtual 125, 3) := by decide +kernel
theorem dX6_fill_67 : decode cX6_fill 67 = .ok (.iload_n 3, 1) := by decide +kernel
theorem dX6_fill_68 : decode cX6_fill 68 = .ok (.iconst 1, 1) := by decide +kernel
theorem dX6_fill_69 : decode cX6_fill 69 = .ok (.iadd, 1) := by decide +kernel
theorem dX6_fill_70 : decode cX6_fill 70 = .ok (.ireturn, 1) := by decide +kernel
set_option maxRecDepth 20000 in
theorem ggX6_uncork_X0_isMember : GoodIn wsX6_uncork wsX0_isMember := goodIn_ca (goodIn_r _ [5, 6, 52] rfl (by decide +kernel)) (goodIn_sub (fun _ h => List.mem_cons_of_mem _ (List.mem_append_right _ h)) (by decide +kernel))
set_option maxRecDepth 20000 in
theorem gX6_uncork_X0_isMember : GoodIn wsX6_uncork (wsV RX6 75 RX0 yX0_isMember wsX0_isMember) := goodIn_app (goodIn_r _ [1, 2, 3, 4] rfl (by decide +kernel)) ggX6_uncork_X0_isMember
set_option maxRecDepth 20000 in
theorem ggX6_uncork_X6_refuseStranger : GoodIn wsX6_uncork wsX6_refuseStranger := goodIn_ca (goodIn_r _ [11, 12, 13, 14, 4, 15, 6, 16, 17, 18, 10, 19, 20, 21, 52, 53, 54] rfl (by decide +kernel)) (goodIn_sub (fun _ h => List.mem_cons_of_mem _ (List.mem_append_right _ h)) (by decide +kernel))
set_option maxRecDepth 20000 in
theorem gX6_uncork_X6_refuseStranger : GoodIn wsX6_uncork (wsV RX6 78 RX6 yX6_refuseStranger wsX6_refuseStranger) := goodIn_app (goodIn_r _ [7, 8, 9, 10] rfl (by decide +kernel)) ggX6_uncork_X6_refuseStranger
set_option maxRecDepth 20000 in
theorem ggX6_uncork_X0_of : GoodIn wsX6_uncork wsX0_of := goodIn_ca (goodIn_r _ [25, 6, 52] rfl (by decide +kernel)) (goodIn_sub (fun _ h => List.mem_cons_of_mem _ (List.mem_append_right _ h)) (by decide +kernel))
set_option maxRecDepth 20000 in
theorem gX6_uncork_X0_of : GoodIn wsX6_uncork (wsV RX6 84 RX0 yX0_of wsX0_of) := goodIn_app (goodIn_r _ [22, 23, 24, 4] rfl (by decide +kernel)) ggX6_uncork_X0_of
set_option maxRecDepth 20000 in
theorem ggX6_uncork_X6_refuse : GoodIn wsX6_uncork wsX6_refuse := goodIn_r _ [19, 20, 21, 53, 54] rfl (by decide +kernel)
set_option maxRecDepth 20000 in
theorem gX6_uncork_X6_refuse : GoodIn wsX6_uncork (wsV RX6 58 RX6 yX6_refuse wsX6_refuse) := goodIn_app (goodIn_r _ [16, 17, 18, 10] rfl (by decide +kernel)) ggX6_uncork_X6_refuse
set_option maxRecDepth 20000 in
theorem ggX6_uncork_X0_get : GoodIn wsX6_uncork wsX0_get := goodIn_ca (goodIn_r _ [15, 6, 52] rfl (by decide +kernel)) (goodIn_sub (fun _ h => List.mem_cons_of_mem _ (List.mem_append_right _ h)) (by decide +kernel))
set_option maxRecDepth 20000 in
theorem gX6_uncork_X0_get : GoodIn wsX6_uncork (wsV RX6 54 RX0 yX0_get wsX0_get) := goodIn_app (goodIn_r _ [12, 13, 14, 4] rfl (by decide +kernel)) ggX6_uncork_X0_get
set_option maxRecDepth 20000 in
theorem ggX6_uncork_X7_isPressure : GoodIn wsX6_uncork wsX7_isPressure := goodIn_r _ [28] rfl (by decide +kernel)
set_option maxRecDepth 20000 in
theorem gX6_uncork_X7_isPressure_n115 : GoodIn wsX6_uncork (wsX7_isPressure) := ggX6_uncork_X7_isPressure
set_option maxRecDepth 20000 in
theorem ggX6_uncork_X0_changePressure : GoodIn wsX6_uncork wsX0_changePressure := goodIn_ca (goodIn_r _ [32, 33, 34, 35, 4, 36, 37, 13, 14, 15, 6, 38, 39, 40, 41, 52] rfl (by decide +kernel)) (goodIn_sub (fun _ h => List.mem_cons_of_mem _ (List.mem_append_right _ h)) (by decide +kernel))
set_option maxRecDepth 20000 in
theorem gX6_uncork_X0_changePressure : GoodIn wsX6_uncork (wsV RX6 118 RX0 yX0_changePressure wsX0_changePressure) := goodIn_app (goodIn_r _ [29, 30, 31, 4] rfl (by decide +kernel)) ggX6_uncork_X0_changePressure
set_option maxRecDepth 20000 in
theorem ggX6_uncork_X0_addOf : GoodIn wsX6_uncork wsX0_addOf := goodIn_ca (goodIn_r _ [45, 46, 23, 24, 4, 25, 6, 47, 48, 49, 50, 52] rfl (by decide +kernel)) (goodIn_sub (fun _ h => List.mem_cons_of_mem _ (List.mem_append_right _ h)) (by decide +kernel))
set_option maxRecDepth 20000 in
theorem gX6_uncork_X0_addOf : GoodIn wsX6_uncork (wsV RX6 125 RX0 yX0_addOf wsX0_addOf) := goodIn_app (goodIn_r _ [42, 43, 44, 4] rfl (by decide +kernel)) ggX6_uncork_X0_addOf
set_option maxRecDepth 20000 in
theorem ggX6_uncork_X0_add : GoodIn wsX6_uncork wsX0_add := goodIn_ca (goodIn_r _ [36, 37, 13, 14, 4, 15, 6, 38, 39, 40, 41, 52] rfl (by decide +kernel)) (goodIn_sub (fun _ h => List.mem_cons_of_mem _ (List.mem_append_right _ h)) (by decide +kernel))
set_option maxRecDepth 20000 in
theorem gX6_uncork_X0_add : GoodIn wsX6_uncork (wsV RX6 99 RX0 yX0_add wsX0_add) := goodIn_app (goodIn_r _ [51, 34, 35, 4] rfl (by decide +kernel)) ggX6_uncork_X0_add
theorem dX6_uncork_0 : decode cX6_uncork 0 = .ok (.aload_n 1, 1) := by decide +kernel
theorem dX6_uncork_1 : decode cX6_uncork 1 = .ok (.iload_n 2, 1) := by decide +kernel
theorem dX6_uncork_2 : decode cX6_uncork 2 = .ok (.invokevirtual 75, 3) := by decide +kernel
theorem dX6_uncork_5 : decode cX6_uncork 5 = .ok (.ifCond .ne 9, 3) := by decide +kernel
theorem dX6_uncork_8 : decode cX6_uncork 8 = .ok (.aload_n 0, 1) := by decide +kernel
theorem dX6_uncork_9 : decode cX6_uncork 9 = .ok (.aload_n 1, 1) := by decide +kernel
theorem dX6_uncork_10 : decode cX6_uncork 10 = .ok (.invokevirtual 78, 3) := by decide +kernel
theorem dX6_uncork_13 : decode cX6_uncork 13 = .ok (.ireturn, 1) := by decide +kernel
theorem dX6_uncork_14 : decode cX6_uncork 14 = .ok (.aload_n 1, 1) := by decide +kernel
theorem dX6_uncork_15 : decode cX6_uncork 15 = .ok (.iload_n 2, 1) := by decide +kernel
theorem dX6_uncork_16 : decode cX6_uncork 16 = .ok (.iconst 5, 1) := by decide +kernel
theorem dX6_uncork_17 : decode cX6_uncork 17 = .ok (.invokevirtual 84, 3) := by decide +kernel
theorem dX6_uncork_20 : decode cX6_uncork 20 = .ok (.ifCond .ne 11, 3) := by decide +kernel
theorem dX6_uncork_23 : decode cX6_uncork 23 = .ok (.aload_n 0, 1) := by decide +kernel
theorem dX6_uncork_24 : decode cX6_uncork 24 = .ok (.bipush 12, 2) := by decide +kernel
theorem dX6_uncork_26 : decode cX6_uncork 26 = .ok (.iconst 0, 1) := by decide +kernel
theorem dX6_uncork_27 : decode cX6_uncork 27 = .ok (.invokevirtual 58, 3) := by decide +kernel
theorem dX6_uncork_30 : decode cX6_uncork 30 = .ok (.ireturn, 1) := by decide +kernel
theorem dX6_uncork_31 : decode cX6_uncork 31 = .ok (.aload_n 1, 1) := by decide +kernel
theorem dX6_uncork_32 : decode cX6_uncork 32 = .ok (.iconst 1, 1) := by decide +kernel
theorem dX6_uncork_33 : decode cX6_uncork 33 = .ok (.invokevirtual 54, 3) := by decide +kernel
theorem dX6_uncork_36 : decode cX6_uncork 36 = .ok (.bipush (-15), 2) := by decide +kernel
theorem dX6_uncork_38 : decode cX6_uncork 38 = .ok (.iadd, 1) := by decide +kernel
theorem dX6_uncork_39 : decode cX6_uncork 39 = .ok (.istore_n 3, 1) := by decide +kernel
theorem dX6_uncork_40 : decode cX6_uncork 40 = .ok (.iload_n 3, 1) := by decide +kernel
theorem dX6_uncork_41 : decode cX6_uncork 41 = .ok (.invokestatic 115, 3) := by decide +kernel
theorem dX6_uncork_44 : decode cX6_uncork 44 = .ok (.ifCond .ne 11, 3) := by decide +kernel
theorem dX6_uncork_47 : decode cX6_uncork 47 = .ok (.aload_n 0, 1) := by decide +kernel
theorem dX6_uncork_48 : decode cX6_uncork 48 = .ok (.bipush 13, 2) := by decide +kernel
theorem dX6_uncork_50 : decode cX6_uncork 50 = .ok (.iload_n 3, 1) := by decide +kernel
theorem dX6_uncork_51 : decode cX6_uncork 51 = .ok (.invokevirtual 58, 3) := by decide +kernel
theorem dX6_uncork_54 : decode cX6_uncork 54 = .ok (.ireturn, 1) := by decide +kernel
theorem dX6_uncork_55 : decode cX6_uncork 55 = .ok (.aload_n 1, 1) := by decide +kernel
theorem dX6_uncork_56 : decode cX6_uncork 56 = .ok (.bipush (-15), 2) := by decide +kernel
theorem dX6_uncork_58 : decode cX6_uncork 58 = .ok (.invokevirtual 118, 3) := by decide +kernel
theorem dX6_uncork_61 : decode cX6_uncork 61 = .ok (.aload_n 1, 1) := by decide +kernel
theorem dX6_uncork_62 : decode cX6_uncork 62 = .ok (.iload_n 2, 1) := by decide +kernel
theorem dX6_uncork_63 : decode cX6_uncork 63 = .ok (.iconst 5, 1) := by decide +kernel
theorem dX6_uncork_64 : decode cX6_uncork 64 = .ok (.iconst (-1), 1) := by decide +kernel
theorem dX6_uncork_65 : decode cX6_uncork 65 = .ok (.invokevirtual 125, 3) := by decide +kernel
theorem dX6_uncork_68 : decode cX6_uncork 68 = .ok (.aload_n 1, 1) := by decide +kernel
theorem dX6_uncork_69 : decode cX6_uncork 69 = .ok (.bipush 6, 2) := by decide +kernel
theorem dX6_uncork_71 : decode cX6_uncork 71 = .ok (.iconst 1, 1) := by decide +kernel
theorem dX6_uncork_72 : decode cX6_uncork 72 = .ok (.invokevirtual 99, 3) := by decide +kernel
theorem dX6_uncork_75 : decode cX6_uncork 75 = .ok (.iload_n 3, 1) := by decide +kernel
theorem dX6_uncork_76 : decode cX6_uncork 76 = .ok (.ireturn, 1) := by decide +kernel
set_option maxRecDepth 20000 in
theorem ggX6_readNeedles_X0_wageredNumber : GoodIn wsX6_readNeedles wsX0_wageredNumber := goodIn_ca (goodIn_r _ [5, 6, 7, 8, 9, 4, 10, 11, 12, 13, 14, 91] rfl (by decide +kernel)) (goodIn_sub (fun _ h => List.mem_cons_of_mem _ (List.mem_append_left _ (List.mem_append_right _ h))) (by decide +kernel))
set_option maxRecDepth 20000 in
theorem gX6_readNeedles_X0_wageredNumber : GoodIn wsX6_readNeedles (wsV RX6 128 RX0 yX0_wageredNumber wsX0_wageredNumber) := goodIn_app (goodIn_r _ [1, 2, 3, 4] rfl (by decide +kernel)) ggX6_readNeedles_X0_wageredNumber
set_option maxRecDepth 20000 in
theorem ggX6_readNeedles_X0_get : GoodIn wsX6_readNeedles wsX0_get := goodIn_ca (goodIn_r _ [18, 6, 91] rfl (by decide +kernel)) (goodIn_sub (fun _ h => List.mem_cons_of_mem _ (List.mem_append_left _ (List.mem_append_right _ h))) (by decide +kernel))
set_option maxRecDepth 20000 in
theorem gX6_readNeedles_X0_get : GoodIn wsX6_readNeedles (wsV RX6 54 RX0 yX0_get wsX0_get) := goodIn_app (goodIn_r _ [15, 16, 17, 4] rfl (by decide +kernel)) ggX6_readNeedles_X0_get
set_option maxRecDepth 20000 in
theorem ggX6_readNeedles_X6_refuse : GoodIn wsX6_readNeedles wsX6_refuse := goodIn_r _ [23, 24, 25, 92, 93] rfl (by decide +kernel)
set_option maxRecDepth 20000 in
theorem gX6_readNeedles_X6_refuse : GoodIn wsX6_readNeedles (wsV RX6 58 RX6 yX6_refuse wsX6_refuse) := goodIn_app (goodIn_r _ [19, 20, 21, 22] rfl (by decide +kernel)) ggX6_readNeedles_X6_refuse
set_option maxRecDepth 20000 in
theorem ggX6_readNeedles_X3_nearest : GoodIn wsX6_readNeedles wsX3_nearest := goodIn_ca (goodIn_r _ [29, 30, 16, 17, 4, 18, 6, 31, 32, 28, 33, 34, 8, 9, 10, 11, 12, 13, 14, 35, 36, 37, 38, 39, 40, 41, 42, 43, 44, 45, 46, 47, 48, 49, 91] rfl (by decide +kernel)) (goodIn_sub (fun _ h => List.mem_cons_of_mem _ (List.mem_append_left _ (List.mem_append_right _ h))) (by decide +kernel))
set_option maxRecDepth 20000 in
theorem gX6_readNeedles_X3_nearest : GoodIn wsX6_readNeedles (va_wsS RX6 132 yX3_nearest wsX3_nearest) := goodIn_app (goodIn_r _ [26, 27, 28] rfl (by decide +kernel)) ggX6_readNeedles_X3_nearest
set_option maxRecDepth 20000 in
theorem ggX6_readNeedles_X3_shareOf : GoodIn wsX6_readNeedles wsX3_shareOf := goodIn_ca (goodIn_ca (goodIn_r _ [52, 53, 54, 55, 56, 57, 58, 59, 30, 16, 17, 4, 18, 6, 91] rfl (by decide +kernel)) (goodIn_sub (fun _ h => List.mem_cons_of_mem _ (List.mem_append_right _ h)) (by decide +kernel))) (goodIn_sub (fun _ h => List.mem_cons_of_mem _ (List.mem_append_left _ (List.mem_append_right _ h))) (by decide +kernel))
set_option maxRecDepth 20000 in
theorem gX6_readNeedles_X3_shareOf : GoodIn wsX6_readNeedles (va_wsS RX6 137 yX3_shareOf wsX3_shareOf) := goodIn_app (goodIn_r _ [50, 51, 28] rfl (by decide +kernel)) ggX6_readNeedles_X3_shareOf
set_option maxRecDepth 20000 in
theorem ggX6_readNeedles_X6_payWinner : GoodIn wsX6_readNeedles wsX6_payWinner := goodIn_ca (goodIn_r _ [62, 63, 64, 65, 4, 66, 67, 68, 69, 70, 11, 12, 13, 14, 6, 71, 72, 73, 74, 75, 76, 77, 78, 79, 16, 17, 18, 80, 81, 82, 83, 84, 85, 91] rfl (by decide +kernel)) (goodIn_sub (fun _ h => List.mem_cons_of_mem _ (List.mem_append_left _ (List.mem_append_right _ h))) (by decide +kernel))
set_option maxRecDepth 20000 in
theorem gX6_readNeedles_X6_payWinner : GoodIn wsX6_readNeedles (va_wsS RX6 140 yX6_payWinner wsX6_payWinner) := goodIn_app (goodIn_r _ [60, 61, 22] rfl (by decide +kernel)) ggX6_readNeedles_X6_payWinner
set_option maxRecDepth 20000 in
theorem ggX6_readNeedles_X0_clearWager : GoodIn wsX6_readNeedles wsX0_clearWager := goodIn_ca (goodIn_r _ [89, 71, 72, 73, 4, 74, 6, 91] rfl (by decide +kernel)) (goodIn_sub (fun _ h => List.mem_cons_of_mem _ (List.mem_append_left _ (List.mem_append_right _ h))) (by decide +kernel))
set_option maxRecDepth 20000 in
theorem gX6_readNeedles_X0_clearWager : GoodIn wsX6_readNeedles (wsV RX6 144 RX0 yX0_clearWager wsX0_clearWager) := goodIn_app (goodIn_r _ [86, 87, 88, 4] rfl (by decide +kernel)) ggX6_readNeedles_X0_clearWager
set_option maxRecDepth 20000 in
theorem ggX6_readNeedles_X0_add : GoodIn wsX6_readNeedles wsX0_add := goodIn_ca (goodIn_r _ [78, 79, 16, 17, 4, 18, 6, 80, 81, 82, 83, 91] rfl (by decide +kernel)) (goodIn_sub (fun _ h => List.mem_cons_of_mem _ (List.mem_append_left _ (List.mem_append_right _ h))) (by decide +kernel))
set_option maxRecDepth 20000 in
theorem gX6_readNeedles_X0_add : GoodIn wsX6_readNeedles (wsV RX6 99 RX0 yX0_add wsX0_add) := goodIn_app (goodIn_r _ [85, 76, 77, 4] rfl (by decide +kernel)) ggX6_readNeedles_X0_add
set_option maxRecDepth 20000 in
theorem ggX6_readNeedles_J6_bitCount_0f7a4 : GoodIn wsX6_readNeedles wsJ6_bitCount_0f7a4 := goodIn_r _ [56, 57, 58, 59] rfl (by decide +kernel)
set_option maxRecDepth 20000 in
theorem gX6_readNeedles_J6_bitCount_0f7a4 : GoodIn wsX6_readNeedles (va_wsS RX6 147 yJ6_bitCount_0f7a4 wsJ6_bitCount_0f7a4) := goodIn_app (goodIn_r _ [90, 54, 55] rfl (by decide +kernel)) ggX6_readNeedles_J6_bitCount_0f7a4
theorem dX6_readNeedles_0 : decode cX6_readNeedles 0 = .ok (.aload_n 1, 1) := by decide +kernel
theorem dX6_readNeedles_1 : decode cX6_readNeedles 1 = .ok (.invokevirtual 128, 3) := by decide +kernel
theorem dX6_readNeedles_4 : decode cX6_readNeedles 4 = .ok (.ifCond .ne 16, 3) := by decide +kernel
theorem dX6_readNeedles_7 : decode cX6_readNeedles 7 = .ok (.aload_n 0, 1) := by decide +kernel
theorem dX6_readNeedles_8 : decode cX6_readNeedles 8 = .ok (.bipush 14, 2) := by decide +kernel
theorem dX6_readNeedles_10 : decode cX6_readNeedles 10 = .ok (.aload_n 1, 1) := by decide +kernel
theorem dX6_readNeedles_11 : decode cX6_readNeedles 11 = .ok (.bipush 7, 2) := by decide +kernel
theorem dX6_readNeedles_13 : decode cX6_readNeedles 13 = .ok (.invokevirtual 54, 3) := by decide +kernel
theorem dX6_readNeedles_16 : decode cX6_readNeedles 16 = .ok (.invokevirtual 58, 3) := by decide +kernel
theorem dX6_readNeedles_19 : decode cX6_readNeedles 19 = .ok (.ireturn, 1) := by decide +kernel
theorem dX6_readNeedles_20 : decode cX6_readNeedles 20 = .ok (.aload_n 1, 1) := by decide +kernel
theorem dX6_readNeedles_21 : decode cX6_readNeedles 21 = .ok (.aload_n 1, 1) := by decide +kernel
theorem dX6_readNeedles_22 : decode cX6_readNeedles 22 = .ok (.iconst 1, 1) := by decide +kernel
theorem dX6_readNeedles_23 : decode cX6_readNeedles 23 = .ok (.invokevirtual 54, 3) := by decide +kernel
theorem dX6_readNeedles_26 : decode cX6_readNeedles 26 = .ok (.invokestatic 132, 3) := by decide +kernel
theorem dX6_readNeedles_29 : decode cX6_readNeedles 29 = .ok (.istore_n 2, 1) := by decide +kernel
theorem dX6_readNeedles_30 : decode cX6_readNeedles 30 = .ok (.aload_n 1, 1) := by decide +kernel
theorem dX6_readNeedles_31 : decode cX6_readNeedles 31 = .ok (.iload_n 2, 1) := by decide +kernel
theorem dX6_readNeedles_32 : decode cX6_readNeedles 32 = .ok (.invokestatic 137, 3) := by decide +kernel
theorem dX6_readNeedles_35 : decode cX6_readNeedles 35 = .ok (.istore_n 3, 1) := by decide +kernel
theorem dX6_readNeedles_36 : decode cX6_readNeedles 36 = .ok (.iconst 0, 1) := by decide +kernel
theorem dX6_readNeedles_37 : decode cX6_readNeedles 37 = .ok (.istore 4, 2) := by decide +kernel
theorem dX6_readNeedles_39 : decode cX6_readNeedles 39 = .ok (.iload 4, 2) := by decide +kernel
theorem dX6_readNeedles_41 : decode cX6_readNeedles 41 = .ok (.aload_n 1, 1) := by decide +kernel
theorem dX6_readNeedles_42 : decode cX6_readNeedles 42 = .ok (.iconst 0, 1) := by decide +kernel
theorem dX6_readNeedles_43 : decode cX6_readNeedles 43 = .ok (.invokevirtual 54, 3) := by decide +kernel
theorem dX6_readNeedles_46 : decode cX6_readNeedles 46 = .ok (.if_icmp .ge 32, 3) := by decide +kernel
theorem dX6_readNeedles_49 : decode cX6_readNeedles 49 = .ok (.iload_n 2, 1) := by decide +kernel
theorem dX6_readNeedles_50 : decode cX6_readNeedles 50 = .ok (.iload 4, 2) := by decide +kernel
theorem dX6_readNeedles_52 : decode cX6_readNeedles 52 = .ok (.ishr, 1) := by decide +kernel
theorem dX6_readNeedles_53 : decode cX6_readNeedles 53 = .ok (.iconst 1, 1) := by decide +kernel
theorem dX6_readNeedles_54 : decode cX6_readNeedles 54 = .ok (.iand, 1) := by decide +kernel
theorem dX6_readNeedles_55 : decode cX6_readNeedles 55 = .ok (.iconst 1, 1) := by decide +kernel
theorem dX6_readNeedles_56 : decode cX6_readNeedles 56 = .ok (.if_icmp .ne 10, 3) := by decide +kernel
theorem dX6_readNeedles_59 : decode cX6_readNeedles 59 = .ok (.aload_n 1, 1) := by decide +kernel
theorem dX6_readNeedles_60 : decode cX6_readNeedles 60 = .ok (.iload 4, 2) := by decide +kernel
theorem dX6_readNeedles_62 : decode cX6_readNeedles 62 = .ok (.iload_n 3, 1) := by decide +kernel
theorem dX6_readNeedles_63 : decode cX6_readNeedles 63 = .ok (.invokestatic 140, 3) := by decide +kernel
theorem dX6_readNeedles_66 : decode cX6_readNeedles 66 = .ok (.aload_n 1, 1) := by decide +kernel
theorem dX6_readNeedles_67 : decode cX6_readNeedles 67 = .ok (.iload 4, 2) := by decide +kernel
theorem dX6_readNeedles_69 : decode cX6_readNeedles 69 = .ok (.invokevirtual 144, 3) := by decide +kernel
theorem dX6_readNeedles_72 : decode cX6_readNeedles 72 = .ok (.iinc 4 1, 3) := by decide +kernel
theorem dX6_readNeedles_75 : decode cX6_readNeedles 75 = .ok (.goto (-36), 3) := by decide +kernel
theorem dX6_readNeedles_78 : decode cX6_readNeedles 78 = .ok (.aload_n 1, 1) := by decide +kernel
theorem dX6_readNeedles_79 : decode cX6_readNeedles 79 = .ok (.bipush 8, 2) := by decide +kernel
theorem dX6_readNeedles_81 : decode cX6_readNeedles 81 = .ok (.iconst 1, 1) := by decide +kernel
theorem dX6_readNeedles_82 : decode cX6_readNeedles 82 = .ok (.invokevirtual 99, 3) := by decide +kernel
theorem dX6_readNeedles_85 : decode cX6_readNeedles 85 = .ok (.iload_n 2, 1) := by decide +kernel
theorem dX6_readNeedles_86 : decode cX6_readNeedles 86 = .ok (.invokestatic 147, 3) := by decide +kernel
theorem dX6_readNeedles_89 : decode cX6_readNeedles 89 = .ok (.ireturn, 1) := by decide +kernel
set_option maxRecDepth 20000 in
theorem ggX6_payWinner_X0_payIntoPot : GoodIn wsX6_payWinner wsX0_payIntoPot := goodIn_ca (goodIn_r _ [5, 6, 7, 8, 4, 9, 10, 11, 12, 13, 14, 15, 16, 17, 18, 19, 20, 21, 22, 23, 24, 25, 26, 27, 28, 29, 30, 33] rfl (by decide +kernel)) (goodIn_sub (fun _ h => List.mem_cons_of_mem _ (List.mem_append_right _ h)) (by decide +kernel))
set_option maxRecDepth 20000 in
theorem gX6_payWinner_X0_payIntoPot : GoodIn wsX6_payWinner (wsV RX6 95 RX0 yX0_payIntoPot wsX0_payIntoPot) := goodIn_app (goodIn_r _ [1, 2, 3, 4] rfl (by decide +kernel)) ggX6_payWinner_X0_payIntoPot
set_option maxRecDepth 20000 in
theorem ggX6_payWinner_X0_addOf : GoodIn wsX6_payWinner wsX0_addOf := goodIn_ca (goodIn_r _ [9, 10, 11, 12, 4, 13, 14, 15, 16, 17, 18, 33] rfl (by decide +kernel)) (goodIn_sub (fun _ h => List.mem_cons_of_mem _ (List.mem_append_right _ h)) (by decide +kernel))
set_option maxRecDepth 20000 in
theorem gX6_payWinner_X0_addOf : GoodIn wsX6_payWinner (wsV RX6 125 RX0 yX0_addOf wsX0_addOf) := goodIn_app (goodIn_r _ [31, 7, 8, 4] rfl (by decide +kernel)) ggX6_payWinner_X0_addOf
set_option maxRecDepth 20000 in
theorem ggX6_payWinner_X0_add : GoodIn wsX6_payWinner wsX0_add := goodIn_ca (goodIn_r _ [22, 23, 24, 25, 4, 26, 14, 27, 28, 29, 30, 33] rfl (by decide +kernel)) (goodIn_sub (fun _ h => List.mem_cons_of_mem _ (List.mem_append_right _ h)) (by decide +kernel))
set_option maxRecDepth 20000 in
theorem gX6_payWinner_X0_add : GoodIn wsX6_payWinner (wsV RX6 99 RX0 yX0_add wsX0_add) := goodIn_app (goodIn_r _ [32, 20, 21, 4] rfl (by decide +kernel)) ggX6_payWinner_X0_add
theorem dX6_payWinner_0 : decode cX6_payWinner 0 = .ok (.aload_n 0, 1) := by decide +kernel
theorem dX6_payWinner_1 : decode cX6_payWinner 1 = .ok (.iload_n 1, 1) := by decide +kernel
theorem dX6_payWinner_2 : decode cX6_payWinner 2 = .ok (.iload_n 2, 1) := by decide +kernel
theorem dX6_payWinner_3 : decode cX6_payWinner 3 = .ok (.ineg, 1) := by decide +kernel
theorem dX6_payWinner_4 : decode cX6_payWinner 4 = .ok (.invokevirtual 95, 3) := by decide +kernel
theorem dX6_payWinner_7 : decode cX6_payWinner 7 = .ok (.aload_n 0, 1) := by decide +kernel
theorem dX6_payWinner_8 : decode cX6_payWinner 8 = .ok (.iload_n 1, 1) := by decide +kernel
theorem dX6_payWinner_9 : decode cX6_payWinner 9 = .ok (.bipush 6, 2) := by decide +kernel
theorem dX6_payWinner_11 : decode cX6_payWinner 11 = .ok (.iconst 1, 1) := by decide +kernel
theorem dX6_payWinner_12 : decode cX6_payWinner 12 = .ok (.invokevirtual 125, 3) := by decide +kernel
theorem dX6_payWinner_15 : decode cX6_payWinner 15 = .ok (.aload_n 0, 1) := by decide +kernel
theorem dX6_payWinner_16 : decode cX6_payWinner 16 = .ok (.bipush 9, 2) := by decide +kernel
theorem dX6_payWinner_18 : decode cX6_payWinner 18 = .ok (.iload_n 2, 1) := by decide +kernel
theorem dX6_payWinner_19 : decode cX6_payWinner 19 = .ok (.invokevirtual 99, 3) := by decide +kernel
theorem dX6_payWinner_22 : decode cX6_payWinner 22 = .ok (.return_, 1) := by decide +kernel
set_option maxRecDepth 20000 in
theorem ggX7_init_X0_init : GoodIn wsX7_init wsX0_init := goodIn_ca (goodIn_r _ [33, 34, 2, 3, 24, 35, 62] rfl (by decide +kernel)) (goodIn_sub (fun _ h => List.mem_cons_of_mem _ (List.mem_append_right _ h)) (by decide +kernel))
set_option maxRecDepth 20000 in
theorem gX7_init_X0_init : GoodIn wsX7_init (wsX0_init) := ggX7_init_X0_init
set_option maxRecDepth 20000 in
theorem ggX7_init_X6_init : GoodIn wsX7_init wsX6_init := goodIn_r _ [37, 38, 2, 3, 39, 40, 74, 75] rfl (by decide +kernel)
set_option maxRecDepth 20000 in
theorem gX7_init_X6_init_n18 : GoodIn wsX7_init (wsX6_init) := ggX7_init_X6_init
set_option maxRecDepth 20000 in
theorem ggX7_init_X2_init : GoodIn wsX7_init wsX2_init := goodIn_r _ [42, 43, 2, 3, 24, 44, 45, 46, 76, 77, 78] rfl (by decide +kernel)
set_option maxRecDepth 20000 in
theorem gX7_init_X2_init_n25 : GoodIn wsX7_init (wsX2_init) := ggX7_init_X2_init
set_option maxRecDepth 20000 in
theorem ggX7_init_X1_init : GoodIn wsX7_init wsX1_init := goodIn_r _ [48, 49, 2, 3, 50, 51, 24, 52, 53, 54, 55, 56, 79, 80, 81, 82, 83, 84] rfl (by decide +kernel)
set_option maxRecDepth 20000 in
theorem gX7_init_X1_init_n32 : GoodIn wsX7_init (wsX1_init) := ggX7_init_X1_init
set_option maxRecDepth 20000 in
theorem ggX7_init_X4_init : GoodIn wsX7_init wsX4_init := goodIn_r _ [58, 59, 2, 3, 50, 60, 61, 85, 86] rfl (by decide +kernel)
set_option maxRecDepth 20000 in
theorem gX7_init_X4_init_n39 : GoodIn wsX7_init (wsX4_init) := ggX7_init_X4_init
theorem dX7_init_0 : decode cX7_init 0 = .ok (.aload_n 0, 1) := by decide +kernel
theorem dX7_init_1 : decode cX7_init 1 = .ok (.invokespecial 1, 3) := by decide +kernel
theorem dX7_init_4 : decode cX7_init 4 = .ok (.aload_n 0, 1) := by decide +kernel
theorem dX7_init_5 : decode cX7_init 5 = .ok (.new 7, 3) := by decide +kernel
theorem dX7_init_8 : decode cX7_init 8 = .ok (.dup, 1) := by decide +kernel
theorem dX7_init_9 : decode cX7_init 9 = .ok (.invokespecial 9, 3) := by decide +kernel
theorem dX7_init_12 : decode cX7_init 12 = .ok (.putfield 10, 3) := by decide +kernel
theorem dX7_init_15 : decode cX7_init 15 = .ok (.aload_n 0, 1) := by decide +kernel
theorem dX7_init_16 : decode cX7_init 16 = .ok (.new 16, 3) := by decide +kernel
theorem dX7_init_19 : decode cX7_init 19 = .ok (.dup, 1) := by decide +kernel
theorem dX7_init_20 : decode cX7_init 20 = .ok (.invokespecial 18, 3) := by decide +kernel
theorem dX7_init_23 : decode cX7_init 23 = .ok (.putfield 19, 3) := by decide +kernel
theorem dX7_init_26 : decode cX7_init 26 = .ok (.aload_n 0, 1) := by decide +kernel
theorem dX7_init_27 : decode cX7_init 27 = .ok (.new 23, 3) := by decide +kernel
theorem dX7_init_30 : decode cX7_init 30 = .ok (.dup, 1) := by decide +kernel
theorem dX7_init_31 : decode cX7_init 31 = .ok (.invokespecial 25, 3) := by decide +kernel
theorem dX7_init_34 : decode cX7_init 34 = .ok (.putfield 26, 3) := by decide +kernel
theorem dX7_init_37 : decode cX7_init 37 = .ok (.aload_n 0, 1) := by decide +kernel
theorem dX7_init_38 : decode cX7_init 38 = .ok (.new 30, 3) := by decide +kernel
theorem dX7_init_41 : decode cX7_init 41 = .ok (.dup, 1) := by decide +kernel
theorem dX7_init_42 : decode cX7_init 42 = .ok (.invokespecial 32, 3) := by decide +kernel
theorem dX7_init_45 : decode cX7_init 45 = .ok (.putfield 33, 3) := by decide +kernel
theorem dX7_init_48 : decode cX7_init 48 = .ok (.aload_n 0, 1) := by decide +kernel
theorem dX7_init_49 : decode cX7_init 49 = .ok (.new 37, 3) := by decide +kernel
theorem dX7_init_52 : decode cX7_init 52 = .ok (.dup, 1) := by decide +kernel
theorem dX7_init_53 : decode cX7_init 53 = .ok (.invokespecial 39, 3) := by decide +kernel
theorem dX7_init_56 : decode cX7_init 56 = .ok (.putfield 40, 3) := by decide +kernel
theorem dX7_init_59 : decode cX7_init 59 = .ok (.aload_n 0, 1) := by decide +kernel
theorem dX7_init_60 : decode cX7_init 60 = .ok (.bipush 55, 2) := by decide +kernel
theorem dX7_init_62 : decode cX7_init 62 = .ok (.newarray .int, 2) := by decide +kernel
theorem dX7_init_64 : decode cX7_init 64 = .ok (.putfield 44, 3) := by decide +kernel
theorem dX7_init_67 : decode cX7_init 67 = .ok (.aload_n 0, 1) := by decide +kernel
theorem dX7_init_68 : decode cX7_init 68 = .ok (.iconst 0, 1) := by decide +kernel
theorem dX7_init_69 : decode cX7_init 69 = .ok (.putfield 48, 3) := by decide +kernel
theorem dX7_init_72 : decode cX7_init 72 = .ok (.aload_n 0, 1) := by decide +kernel
theorem dX7_init_73 : decode cX7_init 73 = .ok (.iconst (-1), 1) := by decide +kernel
theorem dX7_init_74 : decode cX7_init 74 = .ok (.putfield 52, 3) := by decide +kernel
theorem dX7_init_77 : decode cX7_init 77 = .ok (.aload_n 0, 1) := by decide +kernel
theorem dX7_init_78 : decode cX7_init 78 = .ok (.iconst 0, 1) := by decide +kernel
theorem dX7_init_79 : decode cX7_init 79 = .ok (.putfield 56, 3) := by decide +kernel
theorem dX7_init_82 : decode cX7_init 82 = .ok (.aload_n 0, 1) := by decide +kernel
theorem dX7_init_83 : decode cX7_init 83 = .ok (.iconst 0, 1) := by decide +kernel
theorem dX7_init_84 : decode cX7_init 84 = .ok (.putfield 59, 3) := by decide +kernel
theorem dX7_init_87 : decode cX7_init 87 = .ok (.aload_n 0, 1) := by decide +kernel
theorem dX7_init_88 : decode cX7_init 88 = .ok (.iconst 0, 1) := by decide +kernel
theorem dX7_init_89 : decode cX7_init 89 = .ok (.putfield 62, 3) := by decide +kernel
theorem dX7_init_92 : decode cX7_init 92 = .ok (.return_, 1) := by decide +kernel
set_option maxRecDepth 20000 in
theorem ggX7_join_X7_change : GoodIn wsX7_join wsX7_change := goodIn_ca (goodIn_ca (goodIn_ca (goodIn_r _ [5, 6, 7, 8, 9, 10, 11, 12, 13, 14, 15, 16, 17, 18, 19, 20, 21, 22, 23, 24, 25, 26, 27, 28, 29, 30, 31, 32, 33, 34, 35, 36, 37, 38, 39, 4, 40, 41, 42, 43, 44, 45, 46, 47, 48, 49, 50, 51, 52, 53, 54, 55, 56, 57, 58, 59, 60, 61, 62, 63, 64, 65, 66, 67, 68, 69, 70, 71, 72, 73, 74, 75, 76, 77, 78, 79, 80, 81, 82, 83, 84, 85, 86, 87, 88, 89, 90, 91, 92, 93, 94, 95, 96, 97, 98, 99, 100, 101, 102, 103, 104, 105, 106, 107, 108, 109, 110, 111, 112, 113, 114, 115, 116, 117, 118, 119, 120, 121, 122, 123, 124, 125, 126, 127, 128, 129, 130, 131, 132, 133, 134, 135, 136, 137, 138, 139, 140, 141, 142, 143, 144, 145, 146, 147, 148, 149, 150, 151, 152, 153, 154, 155, 156, 157, 158, 159, 160, 161, 162, 163, 164, 165, 166, 167, 168, 169, 170, 171, 172, 173, 174, 175, 176, 177, 178, 179, 180, 181, 182, 183, 184, 185, 186, 187, 188, 189, 190, 191, 192, 193, 194, 195, 196, 197, 198, 199, 200, 201, 202, 203, 204, 205, 206, 207, 208, 209, 210, 211, 212, 213, 214, 215, 216, 217, 218, 219, 220, 221, 222, 223, 224, 225, 226, 227, 228, 229, 230, 231, 232, 233, 234, 235, 236, 237, 238, 239, 240, 241, 242, 243, 244, 245, 246, 247] rfl (by decide +kernel)) (goodIn_sub (fun _ h => List.mem_cons_of_mem _ (List.mem_append_left _ (List.mem_append_left _ (List.mem_append_right _ h)))) (by decide +kernel))) (goodIn_sub (fun _ h => List.mem_cons_of_mem _ (List.mem_append_left _ (List.mem_append_right _ h))) (by decide +kernel))) (goodIn_sub (fun _ h => List.mem_cons_of_mem _ (List.mem_append_right _ h)) (by decide +kernel))
set_option maxRecDepth 20000 in
theorem gX7_join_X7_change : GoodIn wsX7_join (wsV RX7 65 RX7 yX7_change wsX7_change) := goodIn_app (goodIn_r _ [1, 2, 3, 4] rfl (by decide +kernel)) ggX7_join_X7_change
theorem dX7_join_0 : decode cX7_join 0 = .ok (.aload_n 0, 1) := by decide +kernel
theorem dX7_join_1 : decode cX7_join 1 = .ok (.bipush 106, 2) := by decide +kernel
theorem dX7_join_3 : decode cX7_join 3 = .ok (.iload_n 1, 1) := by decide +kernel
theorem dX7_join_4 : decode cX7_join 4 = .ok (.iconst 0, 1) := by decide +kernel
theorem dX7_join_5 : decode cX7_join 5 = .ok (.iconst 0, 1) := by decide +kernel
theorem dX7_join_6 : decode cX7_join 6 = .ok (.invokevirtual 65, 3) := by decide +kernel
theorem dX7_join_9 : decode cX7_join 9 = .ok (.ireturn, 1) := by decide +kernel
set_option maxRecDepth 20000 in
theorem ggX7_leave_X7_change : GoodIn wsX7_leave wsX7_change := goodIn_ca (goodIn_ca (goodIn_ca (goodIn_r _ [5, 6, 7, 8, 9, 10, 11, 12, 13, 14, 15, 16, 17, 18, 19, 20, 21, 22, 23, 24, 25, 26, 27, 28, 29, 30, 31, 32, 33, 34, 35, 36, 37, 38, 39, 4, 40, 41, 42, 43, 44, 45, 46, 47, 48, 49, 50, 51, 52, 53, 54, 55, 56, 57, 58, 59, 60, 61, 62, 63, 64, 65, 66, 67, 68, 69, 70, 71, 72, 73, 74, 75, 76, 77, 78, 79, 80, 81, 82, 83, 84, 85, 86, 87, 88, 89, 90, 91, 92, 93, 94, 95, 96, 97, 98, 99, 100, 101, 102, 103, 104, 105, 106, 107, 108, 109, 110, 111, 112, 113, 114, 115, 116, 117, 118, 119, 120, 121, 122, 123, 124, 125, 126, 127, 128, 129, 130, 131, 132, 133, 134, 135, 136, 137, 138, 139, 140, 141, 142, 143, 144, 145, 146, 147, 148, 149, 150, 151, 152, 153, 154, 155, 156, 157, 158, 159, 160, 161, 162, 163, 164, 165, 166, 167, 168, 169, 170, 171, 172, 173, 174, 175, 176, 177, 178, 179, 180, 181, 182, 183, 184, 185, 186, 187, 188, 189, 190, 191, 192, 193, 194, 195, 196, 197, 198, 199, 200, 201, 202, 203, 204, 205, 206, 207, 208, 209, 210, 211, 212, 213, 214, 215, 216, 217, 218, 219, 220, 221, 222, 223, 224, 225, 226, 227, 228, 229, 230, 231, 232, 233, 234, 235, 236, 237, 238, 239, 240, 241, 242, 243, 244, 245, 246, 247] rfl (by decide +kernel)) (goodIn_sub (fun _ h => List.mem_cons_of_mem _ (List.mem_append_left _ (List.mem_append_left _ (List.mem_append_right _ h)))) (by decide +kernel))) (goodIn_sub (fun _ h => List.mem_cons_of_mem _ (List.mem_append_left _ (List.mem_append_right _ h))) (by decide +kernel))) (goodIn_sub (fun _ h => List.mem_cons_of_mem _ (List.mem_append_right _ h)) (by decide +kernel))
set_option maxRecDepth 20000 in
theorem gX7_leave_X7_change : GoodIn wsX7_leave (wsV RX7 65 RX7 yX7_change wsX7_change) := goodIn_app (goodIn_r _ [1, 2, 3, 4] rfl (by decide +kernel)) ggX7_leave_X7_change
theorem dX7_leave_0 : decode cX7_leave 0 = .ok (.aload_n 0, 1) := by decide +kernel
theorem dX7_leave_1 : decode cX7_leave 1 = .ok (.bipush 120, 2) := by decide +kernel
theorem dX7_leave_3 : decode cX7_leave 3 = .ok (.iload_n 1, 1) := by decide +kernel
theorem dX7_leave_4 : decode cX7_leave 4 = .ok (.iconst 0, 1) := by decide +kernel
theorem dX7_leave_5 : decode cX7_leave 5 = .ok (.iconst 0, 1) := by decide +kernel
theorem dX7_leave_6 : decode cX7_leave 6 = .ok (.invokevirtual 65, 3) := by decide +kernel
theorem dX7_leave_9 : decode cX7_leave 9 = .ok (.ireturn, 1) := by decide +kernel
set_option maxRecDepth 20000 in
theorem ggX7_move_X7_change : GoodIn wsX7_move wsX7_change := goodIn_ca (goodIn_ca (goodIn_ca (goodIn_r _ [5, 6, 7, 8, 9, 10, 11, 12, 13, 14, 15, 16, 17, 18, 19, 20, 21, 22, 23, 24, 25, 26, 27, 28, 29, 30, 31, 32, 33, 34, 35, 36, 37, 38, 39, 4, 40, 41, 42, 43, 44, 45, 46, 47, 48, 49, 50, 51, 52, 53, 54, 55, 56, 57, 58, 59, 60, 61, 62, 63, 64, 65, 66, 67, 68, 69, 70, 71, 72, 73, 74, 75, 76, 77, 78, 79, 80, 81, 82, 83, 84, 85, 86, 87, 88, 89, 90, 91, 92, 93, 94, 95, 96, 97, 98, 99, 100, 101, 102, 103, 104, 105, 106, 107, 108, 109, 110, 111, 112, 113, 114, 115, 116, 117, 118, 119, 120, 121, 122, 123, 124, 125, 126, 127, 128, 129, 130, 131, 132, 133, 134, 135, 136, 137, 138, 139, 140, 141, 142, 143, 144, 145, 146, 147, 148, 149, 150, 151, 152, 153, 154, 155, 156, 157, 158, 159, 160, 161, 162, 163, 164, 165, 166, 167, 168, 169, 170, 171, 172, 173, 174, 175, 176, 177, 178, 179, 180, 181, 182, 183, 184, 185, 186, 187, 188, 189, 190, 191, 192, 193, 194, 195, 196, 197, 198, 199, 200, 201, 202, 203, 204, 205, 206, 207, 208, 209, 210, 211, 212, 213, 214, 215, 216, 217, 218, 219, 220, 221, 222, 223, 224, 225, 226, 227, 228, 229, 230, 231, 232, 233, 234, 235, 236, 237, 238, 239, 240, 241, 242, 243, 244, 245, 246, 247] rfl (by decide +kernel)) (goodIn_sub (fun _ h => List.mem_cons_of_mem _ (List.mem_append_left _ (List.mem_append_left _ (List.mem_append_right _ h)))) (by decide +kernel))) (goodIn_sub (fun _ h => List.mem_cons_of_mem _ (List.mem_append_left _ (List.mem_append_right _ h))) (by decide +kernel))) (goodIn_sub (fun _ h => List.mem_cons_of_mem _ (List.mem_append_right _ h)) (by decide +kernel))
set_option maxRecDepth 20000 in
theorem gX7_move_X7_change : GoodIn wsX7_move (wsV RX7 65 RX7 yX7_change wsX7_change) := goodIn_app (goodIn_r _ [1, 2, 3, 4] rfl (by decide +kernel)) ggX7_move_X7_change
theorem dX7_move_0 : decode cX7_move 0 = .ok (.aload_n 0, 1) := by decide +kernel
theorem dX7_move_1 : decode cX7_move 1 = .ok (.bipush 109, 2) := by decide +kernel
theorem dX7_move_3 : decode cX7_move 3 = .ok (.iload_n 1, 1) := by decide +kernel
theorem dX7_move_4 : decode cX7_move 4 = .ok (.iload_n 2, 1) := by decide +kernel
theorem dX7_move_5 : decode cX7_move 5 = .ok (.iconst 0, 1) := by decide +kernel
theorem dX7_move_6 : decode cX7_move 6 = .ok (.invokevirtual 65, 3) := by decide +kernel
theorem dX7_move_9 : decode cX7_move 9 = .ok (.ireturn, 1) := by decide +kernel
set_option maxRecDepth 20000 in
theorem ggX7_exchange_X7_change : GoodIn wsX7_exchange wsX7_change := goodIn_ca (goodIn_ca (goodIn_ca (goodIn_r _ [5, 6, 7, 8, 9, 10, 11, 12, 13, 14, 15, 16, 17, 18, 19, 20, 21, 22, 23, 24, 25, 26, 27, 28, 29, 30, 31, 32, 33, 34, 35, 36, 37, 38, 39, 4, 40, 41, 42, 43, 44, 45, 46, 47, 48, 49, 50, 51, 52, 53, 54, 55, 56, 57, 58, 59, 60, 61, 62, 63, 64, 65, 66, 67, 68, 69, 70, 71, 72, 73, 74, 75, 76, 77, 78, 79, 80, 81, 82, 83, 84, 85, 86, 87, 88, 89, 90, 91, 92, 93, 94, 95, 96, 97, 98, 99, 100, 101, 102, 103, 104, 105, 106, 107, 108, 109, 110, 111, 112, 113, 114, 115, 116, 117, 118, 119, 120, 121, 122, 123, 124, 125, 126, 127, 128, 129, 130, 131, 132, 133, 134, 135, 136, 137, 138, 139, 140, 141, 142, 143, 144, 145, 146, 147, 148, 149, 150, 151, 152, 153, 154, 155, 156, 157, 158, 159, 160, 161, 162, 163, 164, 165, 166, 167, 168, 169, 170, 171, 172, 173, 174, 175, 176, 177, 178, 179, 180, 181, 182, 183, 184, 185, 186, 187, 188, 189, 190, 191, 192, 193, 194, 195, 196, 197, 198, 199, 200, 201, 202, 203, 204, 205, 206, 207, 208, 209, 210, 211, 212, 213, 214, 215, 216, 217, 218, 219, 220, 221, 222, 223, 224, 225, 226, 227, 228, 229, 230, 231, 232, 233, 234, 235, 236, 237, 238, 239, 240, 241, 242, 243, 244, 245, 246, 247] rfl (by decide +kernel)) (goodIn_sub (fun _ h => List.mem_cons_of_mem _ (List.mem_append_left _ (List.mem_append_left _ (List.mem_append_right _ h)))) (by decide +kernel))) (goodIn_sub (fun _ h => List.mem_cons_of_mem _ (List.mem_append_left _ (List.mem_append_right _ h))) (by decide +kernel))) (goodIn_sub (fun _ h => List.mem_cons_of_mem _ (List.mem_append_right _ h)) (by decide +kernel))
set_option maxRecDepth 20000 in
theorem gX7_exchange_X7_change : GoodIn wsX7_exchange (wsV RX7 65 RX7 yX7_change wsX7_change) := goodIn_app (goodIn_r _ [1, 2, 3, 4] rfl (by decide +kernel)) ggX7_exchange_X7_change
theorem dX7_exchange_0 : decode cX7_exchange 0 = .ok (.aload_n 0, 1) := by decide +kernel
theorem dX7_exchange_1 : decode cX7_exchange 1 = .ok (.bipush 115, 2) := by decide +kernel
theorem dX7_exchange_3 : decode cX7_exchange 3 = .ok (.iload_n 1, 1) := by decide +kernel
theorem dX7_exchange_4 : decode cX7_exchange 4 = .ok (.iload_n 2, 1) := by decide +kernel
theorem dX7_exchange_5 : decode cX7_exchange 5 = .ok (.iconst 0, 1) := by decide +kernel
theorem dX7_exchange_6 : decode cX7_exchange 6 = .ok (.invokevirtual 65, 3) := by decide +kernel
theorem dX7_exchange_9 : decode cX7_exchange 9 = .ok (.ireturn, 1) := by decide +kernel
set_option maxRecDepth 20000 in
theorem ggX7_wager_X7_change : GoodIn wsX7_wager wsX7_change := goodIn_ca (goodIn_ca (goodIn_ca (goodIn_r _ [5, 6, 7, 8, 9, 10, 11, 12, 13, 14, 15, 16, 17, 18, 19, 20, 21, 22, 23, 24, 25, 26, 27, 28, 29, 30, 31, 32, 33, 34, 35, 36, 37, 38, 39, 4, 40, 41, 42, 43, 44, 45, 46, 47, 48, 49, 50, 51, 52, 53, 54, 55, 56, 57, 58, 59, 60, 61, 62, 63, 64, 65, 66, 67, 68, 69, 70, 71, 72, 73, 74, 75, 76, 77, 78, 79, 80, 81, 82, 83, 84, 85, 86, 87, 88, 89, 90, 91, 92, 93, 94, 95, 96, 97, 98, 99, 100, 101, 102, 103, 104, 105, 106, 107, 108, 109, 110, 111, 112, 113, 114, 115, 116, 117, 118, 119, 120, 121, 122, 123, 124, 125, 126, 127, 128, 129, 130, 131, 132, 133, 134, 135, 136, 137, 138, 139, 140, 141, 142, 143, 144, 145, 146, 147, 148, 149, 150, 151, 152, 153, 154, 155, 156, 157, 158, 159, 160, 161, 162, 163, 164, 165, 166, 167, 168, 169, 170, 171, 172, 173, 174, 175, 176, 177, 178, 179, 180, 181, 182, 183, 184, 185, 186, 187, 188, 189, 190, 191, 192, 193, 194, 195, 196, 197, 198, 199, 200, 201, 202, 203, 204, 205, 206, 207, 208, 209, 210, 211, 212, 213, 214, 215, 216, 217, 218, 219, 220, 221, 222, 223, 224, 225, 226, 227, 228, 229, 230, 231, 232, 233, 234, 235, 236, 237, 238, 239, 240, 241, 242, 243, 244, 245, 246, 247] rfl (by decide +kernel)) (goodIn_sub (fun _ h => List.mem_cons_of_mem _ (List.mem_append_left _ (List.mem_append_left _ (List.mem_append_right _ h)))) (by decide +kernel))) (goodIn_sub (fun _ h => List.mem_cons_of_mem _ (List.mem_append_left _ (List.mem_append_right _ h))) (by decide +kernel))) (goodIn_sub (fun _ h => List.mem_cons_of_mem _ (List.mem_append_right _ h)) (by decide +kernel))
set_option maxRecDepth 20000 in
theorem gX7_wager_X7_change : GoodIn wsX7_wager (wsV RX7 65 RX7 yX7_change wsX7_change) := goodIn_app (goodIn_r _ [1, 2, 3, 4] rfl (by decide +kernel)) ggX7_wager_X7_change
theorem dX7_wager_0 : decode cX7_wager 0 = .ok (.aload_n 0, 1) := by decide +kernel
theorem dX7_wager_1 : decode cX7_wager 1 = .ok (.bipush 119, 2) := by decide +kernel
theorem dX7_wager_3 : decode cX7_wager 3 = .ok (.iload_n 1, 1) := by decide +kernel
theorem dX7_wager_4 : decode cX7_wager 4 = .ok (.iload_n 2, 1) := by decide +kernel
theorem dX7_wager_5 : decode cX7_wager 5 = .ok (.iload_n 3, 1) := by decide +kernel
theorem dX7_wager_6 : decode cX7_wager 6 = .ok (.invokevirtual 65, 3) := by decide +kernel
theorem dX7_wager_9 : decode cX7_wager 9 = .ok (.ireturn, 1) := by decide +kernel
set_option maxRecDepth 20000 in
theorem ggX7_tap_X7_change : GoodIn wsX7_tap wsX7_change := goodIn_ca (goodIn_ca (goodIn_ca (goodIn_r _ [5, 6, 7, 8, 9, 10, 11, 12, 13, 14, 15, 16, 17, 18, 19, 20, 21, 22, 23, 24, 25, 26, 27, 28, 29, 30, 31, 32, 33, 34, 35, 36, 37, 38, 39, 4, 40, 41, 42, 43, 44, 45, 46, 47, 48, 49, 50, 51, 52, 53, 54, 55, 56, 57, 58, 59, 60, 61, 62, 63, 64, 65, 66, 67, 68, 69, 70, 71, 72, 73, 74, 75, 76, 77, 78, 79, 80, 81, 82, 83, 84, 85, 86, 87, 88, 89, 90, 91, 92, 93, 94, 95, 96, 97, 98, 99, 100, 101, 102, 103, 104, 105, 106, 107, 108, 109, 110, 111, 112, 113, 114, 115, 116, 117, 118, 119, 120, 121, 122, 123, 124, 125, 126, 127, 128, 129, 130, 131, 132, 133, 134, 135, 136, 137, 138, 139, 140, 141, 142, 143, 144, 145, 146, 147, 148, 149, 150, 151, 152, 153, 154, 155, 156, 157, 158, 159, 160, 161, 162, 163, 164, 165, 166, 167, 168, 169, 170, 171, 172, 173, 174, 175, 176, 177, 178, 179, 180, 181, 182, 183, 184, 185, 186, 187, 188, 189, 190, 191, 192, 193, 194, 195, 196, 197, 198, 199, 200, 201, 202, 203, 204, 205, 206, 207, 208, 209, 210, 211, 212, 213, 214, 215, 216, 217, 218, 219, 220, 221, 222, 223, 224, 225, 226, 227, 228, 229, 230, 231, 232, 233, 234, 235, 236, 237, 238, 239, 240, 241, 242, 243, 244, 245, 246, 247] rfl (by decide +kernel)) (goodIn_sub (fun _ h => List.mem_cons_of_mem _ (List.mem_append_left _ (List.mem_append_left _ (List.mem_append_right _ h)))) (by decide +kernel))) (goodIn_sub (fun _ h => List.mem_cons_of_mem _ (List.mem_append_left _ (List.mem_append_right _ h))) (by decide +kernel))) (goodIn_sub (fun _ h => List.mem_cons_of_mem _ (List.mem_append_right _ h)) (by decide +kernel))
set_option maxRecDepth 20000 in
theorem gX7_tap_X7_change : GoodIn wsX7_tap (wsV RX7 65 RX7 yX7_change wsX7_change) := goodIn_app (goodIn_r _ [1, 2, 3, 4] rfl (by decide +kernel)) ggX7_tap_X7_change
theorem dX7_tap_0 : decode cX7_tap 0 = .ok (.aload_n 0, 1) := by decide +kernel
theorem dX7_tap_1 : decode cX7_tap 1 = .ok (.bipush 116, 2) := by decide +kernel
theorem dX7_tap_3 : decode cX7_tap 3 = .ok (.iload_n 1, 1) := by decide +kernel
theorem dX7_tap_4 : decode cX7_tap 4 = .ok (.iconst 0, 1) := by decide +kernel
theorem dX7_tap_5 : decode cX7_tap 5 = .ok (.iconst 0, 1) := by decide +kernel
theorem dX7_tap_6 : decode cX7_tap 6 = .ok (.invokevirtual 65, 3) := by decide +kernel
theorem dX7_tap_9 : decode cX7_tap 9 = .ok (.ireturn, 1) := by decide +kernel
set_option maxRecDepth 20000 in
theorem ggX7_day_X7_change : GoodIn wsX7_day wsX7_change := goodIn_ca (goodIn_ca (goodIn_ca (goodIn_r _ [5, 6, 7, 8, 9, 10, 11, 12, 13, 14, 15, 16, 17, 18, 19, 20, 21, 22, 23, 24, 25, 26, 27, 28, 29, 30, 31, 32, 33, 34, 35, 36, 37, 38, 39, 4, 40, 41, 42, 43, 44, 45, 46, 47, 48, 49, 50, 51, 52, 53, 54, 55, 56, 57, 58, 59, 60, 61, 62, 63, 64, 65, 66, 67, 68, 69, 70, 71, 72, 73, 74, 75, 76, 77, 78, 79, 80, 81, 82, 83, 84, 85, 86, 87, 88, 89, 90, 91, 92, 93, 94, 95, 96, 97, 98, 99, 100, 101, 102, 103, 104, 105, 106, 107, 108, 109, 110, 111, 112, 113, 114, 115, 116, 117, 118, 119, 120, 121, 122, 123, 124, 125, 126, 127, 128, 129, 130, 131, 132, 133, 134, 135, 136, 137, 138, 139, 140, 141, 142, 143, 144, 145, 146, 147, 148, 149, 150, 151, 152, 153, 154, 155, 156, 157, 158, 159, 160, 161, 162, 163, 164, 165, 166, 167, 168, 169, 170, 171, 172, 173, 174, 175, 176, 177, 178, 179, 180, 181, 182, 183, 184, 185, 186, 187, 188, 189, 190, 191, 192, 193, 194, 195, 196, 197, 198, 199, 200, 201, 202, 203, 204, 205, 206, 207, 208, 209, 210, 211, 212, 213, 214, 215, 216, 217, 218, 219, 220, 221, 222, 223, 224, 225, 226, 227, 228, 229, 230, 231, 232, 233, 234, 235, 236, 237, 238, 239, 240, 241, 242, 243, 244, 245, 246, 247] rfl (by decide +kernel)) (goodIn_sub (fun _ h => List.mem_cons_of_mem _ (List.mem_append_left _ (List.mem_append_left _ (List.mem_append_right _ h)))) (by decide +kernel))) (goodIn_sub (fun _ h => List.mem_cons_of_mem _ (List.mem_append_left _ (List.mem_append_right _ h))) (by decide +kernel))) (goodIn_sub (fun _ h => List.mem_cons_of_mem _ (List.mem_append_right _ h)) (by decide +kernel))
set_option maxRecDepth 20000 in
theorem gX7_day_X7_change : GoodIn wsX7_day (wsV RX7 65 RX7 yX7_change wsX7_change) := goodIn_app (goodIn_r _ [1, 2, 3, 4] rfl (by decide +kernel)) ggX7_day_X7_change
theorem dX7_day_0 : decode cX7_day 0 = .ok (.aload_n 0, 1) := by decide +kernel
theorem dX7_day_1 : decode cX7_day 1 = .ok (.bipush 100, 2) := by decide +kernel
theorem dX7_day_3 : decode cX7_day 3 = .ok (.iload_n 1, 1) := by decide +kernel
theorem dX7_day_4 : decode cX7_day 4 = .ok (.iconst 0, 1) := by decide +kernel
theorem dX7_day_5 : decode cX7_day 5 = .ok (.iconst 0, 1) := by decide +kernel
theorem dX7_day_6 : decode cX7_day 6 = .ok (.invokevirtual 65, 3) := by decide +kernel
theorem dX7_day_9 : decode cX7_day 9 = .ok (.ireturn, 1) := by decide +kernel
set_option maxRecDepth 20000 in
theorem ggX7_bottle_X7_change : GoodIn wsX7_bottle wsX7_change := goodIn_ca (goodIn_ca (goodIn_ca (goodIn_r _ [5, 6, 7, 8, 9, 10, 11, 12, 13, 14, 15, 16, 17, 18, 19, 20, 21, 22, 23, 24, 25, 26, 27, 28, 29, 30, 31, 32, 33, 34, 35, 36, 37, 38, 39, 4, 40, 41, 42, 43, 44, 45, 46, 47, 48, 49, 50, 51, 52, 53, 54, 55, 56, 57, 58, 59, 60, 61, 62, 63, 64, 65, 66, 67, 68, 69, 70, 71, 72, 73, 74, 75, 76, 77, 78, 79, 80, 81, 82, 83, 84, 85, 86, 87, 88, 89, 90, 91, 92, 93, 94, 95, 96, 97, 98, 99, 100, 101, 102, 103, 104, 105, 106, 107, 108, 109, 110, 111, 112, 113, 114, 115, 116, 117, 118, 119, 120, 121, 122, 123, 124, 125, 126, 127, 128, 129, 130, 131, 132, 133, 134, 135, 136, 137, 138, 139, 140, 141, 142, 143, 144, 145, 146, 147, 148, 149, 150, 151, 152, 153, 154, 155, 156, 157, 158, 159, 160, 161, 162, 163, 164, 165, 166, 167, 168, 169, 170, 171, 172, 173, 174, 175, 176, 177, 178, 179, 180, 181, 182, 183, 184, 185, 186, 187, 188, 189, 190, 191, 192, 193, 194, 195, 196, 197, 198, 199, 200, 201, 202, 203, 204, 205, 206, 207, 208, 209, 210, 211, 212, 213, 214, 215, 216, 217, 218, 219, 220, 221, 222, 223, 224, 225, 226, 227, 228, 229, 230, 231, 232, 233, 234, 235, 236, 237, 238, 239, 240, 241, 242, 243, 244, 245, 246, 247] rfl (by decide +kernel)) (goodIn_sub (fun _ h => List.mem_cons_of_mem _ (List.mem_append_left _ (List.mem_append_left _ (List.mem_append_right _ h)))) (by decide +kernel))) (goodIn_sub (fun _ h => List.mem_cons_of_mem _ (List.mem_append_left _ (List.mem_append_right _ h))) (by decide +kernel))) (goodIn_sub (fun _ h => List.mem_cons_of_mem _ (List.mem_append_right _ h)) (by decide +kernel))
set_option maxRecDepth 20000 in
theorem gX7_bottle_X7_change : GoodIn wsX7_bottle (wsV RX7 65 RX7 yX7_change wsX7_change) := goodIn_app (goodIn_r _ [1, 2, 3, 4] rfl (by decide +kernel)) ggX7_bottle_X7_change
theorem dX7_bottle_0 : decode cX7_bottle 0 = .ok (.aload_n 0, 1) := by decide +kernel
theorem dX7_bottle_1 : decode cX7_bottle 1 = .ok (.bipush 98, 2) := by decide +kernel
theorem dX7_bottle_3 : decode cX7_bottle 3 = .ok (.iload_n 1, 1) := by decide +kernel
theorem dX7_bottle_4 : decode cX7_bottle 4 = .ok (.iconst 0, 1) := by decide +kernel
theorem dX7_bottle_5 : decode cX7_bottle 5 = .ok (.iconst 0, 1) := by decide +kernel
theorem dX7_bottle_6 : decode cX7_bottle 6 = .ok (.invokevirtual 65, 3) := by decide +kernel
theorem dX7_bottle_9 : decode cX7_bottle 9 = .ok (.ireturn, 1) := by decide +kernel
set_option maxRecDepth 20000 in
theorem ggX7_letOut_X7_change : GoodIn wsX7_letOut wsX7_change := goodIn_ca (goodIn_ca (goodIn_ca (goodIn_r _ [5, 6, 7, 8, 9, 10, 11, 12, 13, 14, 15, 16, 17, 18, 19, 20, 21, 22, 23, 24, 25, 26, 27, 28, 29, 30, 31, 32, 33, 34, 35, 36, 37, 38, 39, 4, 40, 41, 42, 43, 44, 45, 46, 47, 48, 49, 50, 51, 52, 53, 54, 55, 56, 57, 58, 59, 60, 61, 62, 63, 64, 65, 66, 67, 68, 69, 70, 71, 72, 73, 74, 75, 76, 77, 78, 79, 80, 81, 82, 83, 84, 85, 86, 87, 88, 89, 90, 91, 92, 93, 94, 95, 96, 97, 98, 99, 100, 101, 102, 103, 104, 105, 106, 107, 108, 109, 110, 111, 112, 113, 114, 115, 116, 117, 118, 119, 120, 121, 122, 123, 124, 125, 126, 127, 128, 129, 130, 131, 132, 133, 134, 135, 136, 137, 138, 139, 140, 141, 142, 143, 144, 145, 146, 147, 148, 149, 150, 151, 152, 153, 154, 155, 156, 157, 158, 159, 160, 161, 162, 163, 164, 165, 166, 167, 168, 169, 170, 171, 172, 173, 174, 175, 176, 177, 178, 179, 180, 181, 182, 183, 184, 185, 186, 187, 188, 189, 190, 191, 192, 193, 194, 195, 196, 197, 198, 199, 200, 201, 202, 203, 204, 205, 206, 207, 208, 209, 210, 211, 212, 213, 214, 215, 216, 217, 218, 219, 220, 221, 222, 223, 224, 225, 226, 227, 228, 229, 230, 231, 232, 233, 234, 235, 236, 237, 238, 239, 240, 241, 242, 243, 244, 245, 246, 247] rfl (by decide +kernel)) (goodIn_sub (fun _ h => List.mem_cons_of_mem _ (List.mem_append_left _ (List.mem_append_left _ (List.mem_append_right _ h)))) (by decide +kernel))) (goodIn_sub (fun _ h => List.mem_cons_of_mem _ (List.mem_append_left _ (List.mem_append_right _ h))) (by decide +kernel))) (goodIn_sub (fun _ h => List.mem_cons_of_mem _ (List.mem_append_right _ h)) (by decide +kernel))
set_option maxRecDepth 20000 in
theorem gX7_letOut_X7_change : GoodIn wsX7_letOut (wsV RX7 65 RX7 yX7_change wsX7_change) := goodIn_app (goodIn_r _ [1, 2, 3, 4] rfl (by decide +kernel)) ggX7_letOut_X7_change
theorem dX7_letOut_0 : decode cX7_letOut 0 = .ok (.aload_n 0, 1) := by decide +kernel
theorem dX7_letOut_1 : decode cX7_letOut 1 = .ok (.bipush 111, 2) := by decide +kernel
theorem dX7_letOut_3 : decode cX7_letOut 3 = .ok (.iload_n 1, 1) := by decide +kernel
theorem dX7_letOut_4 : decode cX7_letOut 4 = .ok (.iconst 0, 1) := by decide +kernel
theorem dX7_letOut_5 : decode cX7_letOut 5 = .ok (.iconst 0, 1) := by decide +kernel
theorem dX7_letOut_6 : decode cX7_letOut 6 = .ok (.invokevirtual 65, 3) := by decide +kernel
theorem dX7_letOut_9 : decode cX7_letOut 9 = .ok (.ireturn, 1) := by decide +kernel
set_option maxRecDepth 20000 in
theorem ggX7_read_X7_change : GoodIn wsX7_read wsX7_change := goodIn_ca (goodIn_ca (goodIn_ca (goodIn_r _ [5, 6, 7, 8, 9, 10, 11, 12, 13, 14, 15, 16, 17, 18, 19, 20, 21, 22, 23, 24, 25, 26, 27, 28, 29, 30, 31, 32, 33, 34, 35, 36, 37, 38, 39, 4, 40, 41, 42, 43, 44, 45, 46, 47, 48, 49, 50, 51, 52, 53, 54, 55, 56, 57, 58, 59, 60, 61, 62, 63, 64, 65, 66, 67, 68, 69, 70, 71, 72, 73, 74, 75, 76, 77, 78, 79, 80, 81, 82, 83, 84, 85, 86, 87, 88, 89, 90, 91, 92, 93, 94, 95, 96, 97, 98, 99, 100, 101, 102, 103, 104, 105, 106, 107, 108, 109, 110, 111, 112, 113, 114, 115, 116, 117, 118, 119, 120, 121, 122, 123, 124, 125, 126, 127, 128, 129, 130, 131, 132, 133, 134, 135, 136, 137, 138, 139, 140, 141, 142, 143, 144, 145, 146, 147, 148, 149, 150, 151, 152, 153, 154, 155, 156, 157, 158, 159, 160, 161, 162, 163, 164, 165, 166, 167, 168, 169, 170, 171, 172, 173, 174, 175, 176, 177, 178, 179, 180, 181, 182, 183, 184, 185, 186, 187, 188, 189, 190, 191, 192, 193, 194, 195, 196, 197, 198, 199, 200, 201, 202, 203, 204, 205, 206, 207, 208, 209, 210, 211, 212, 213, 214, 215, 216, 217, 218, 219, 220, 221, 222, 223, 224, 225, 226, 227, 228, 229, 230, 231, 232, 233, 234, 235, 236, 237, 238, 239, 240, 241, 242, 243, 244, 245, 246, 247] rfl (by decide +kernel)) (goodIn_sub (fun _ h => List.mem_cons_of_mem _ (List.mem_append_left _ (List.mem_append_left _ (List.mem_append_right _ h)))) (by decide +kernel))) (goodIn_sub (fun _ h => List.mem_cons_of_mem _ (List.mem_append_left _ (List.mem_append_right _ h))) (by decide +kernel))) (goodIn_sub (fun _ h => List.mem_cons_of_mem _ (List.mem_append_right _ h)) (by decide +kernel))
set_option maxRecDepth 20000 in
theorem gX7_read_X7_change : GoodIn wsX7_read (wsV RX7 65 RX7 yX7_change wsX7_change) := goodIn_app (goodIn_r _ [1, 2, 3, 4] rfl (by decide +kernel)) ggX7_read_X7_change
theorem dX7_read_0 : decode cX7_read 0 = .ok (.aload_n 0, 1) := by decide +kernel
theorem dX7_read_1 : decode cX7_read 1 = .ok (.bipush 114, 2) := by decide +kernel
theorem dX7_read_3 : decode cX7_read 3 = .ok (.iconst 0, 1) := by decide +kernel
theorem dX7_read_4 : decode cX7_read 4 = .ok (.iconst 0, 1) := by decide +kernel
theorem dX7_read_5 : decode cX7_read 5 = .ok (.iconst 0, 1) := by decide +kernel
theorem dX7_read_6 : decode cX7_read 6 = .ok (.invokevirtual 65, 3) := by decide +kernel
theorem dX7_read_9 : decode cX7_read 9 = .ok (.ireturn, 1) := by decide +kernel
set_option maxRecDepth 20000 in
theorem ggX7_memberOf_X7_refuseStranger : GoodIn wsX7_memberOf wsX7_refuseStranger := goodIn_ca (goodIn_ca (goodIn_r _ [8, 9, 10, 3, 11, 12, 13, 14, 15, 16, 21, 22, 23, 24, 25, 26, 27, 28, 29, 30, 31, 32] rfl (by decide +kernel)) (goodIn_sub (fun _ h => List.mem_cons_of_mem _ (List.mem_append_left _ (List.mem_append_right _ h))) (by decide +kernel))) (goodIn_sub (fun _ h => List.mem_cons_of_mem _ (List.mem_append_right _ h)) (by decide +kernel))
set_option maxRecDepth 20000 in
theorem gX7_memberOf_X7_refuseStranger : GoodIn wsX7_memberOf (wsV RX7 69 RX7 yX7_refuseStranger wsX7_refuseStranger) := goodIn_app (goodIn_r _ [4, 5, 6, 7] rfl (by decide +kernel)) ggX7_memberOf_X7_refuseStranger
set_option maxRecDepth 20000 in
theorem ggX7_memberOf_X0_of : GoodIn wsX7_memberOf wsX0_of := goodIn_ca (goodIn_r _ [20, 16, 32] rfl (by decide +kernel)) (goodIn_sub (fun _ h => List.mem_cons_of_mem _ (List.mem_append_right _ h)) (by decide +kernel))
set_option maxRecDepth 20000 in
theorem gX7_memberOf_X0_of : GoodIn wsX7_memberOf (wsV RX7 80 RX0 yX0_of wsX0_of) := goodIn_app (goodIn_r _ [17, 18, 19, 14] rfl (by decide +kernel)) ggX7_memberOf_X0_of
theorem dX7_memberOf_0 : decode cX7_memberOf 0 = .ok (.aload_n 0, 1) := by decide +kernel
theorem dX7_memberOf_1 : decode cX7_memberOf 1 = .ok (.iload_n 1, 1) := by decide +kernel
theorem dX7_memberOf_2 : decode cX7_memberOf 2 = .ok (.invokevirtual 69, 3) := by decide +kernel
theorem dX7_memberOf_5 : decode cX7_memberOf 5 = .ok (.iload_n 2, 1) := by decide +kernel
theorem dX7_memberOf_6 : decode cX7_memberOf 6 = .ok (.ifCond .lt 9, 3) := by decide +kernel
theorem dX7_memberOf_9 : decode cX7_memberOf 9 = .ok (.iload_n 2, 1) := by decide +kernel
theorem dX7_memberOf_10 : decode cX7_memberOf 10 = .ok (.bipush 7, 2) := by decide +kernel
theorem dX7_memberOf_12 : decode cX7_memberOf 12 = .ok (.if_icmp .lt 13, 3) := by decide +kernel
theorem dX7_memberOf_15 : decode cX7_memberOf 15 = .ok (.new 73, 3) := by decide +kernel
theorem dX7_memberOf_18 : decode cX7_memberOf 18 = .ok (.dup, 1) := by decide +kernel
theorem dX7_memberOf_19 : decode cX7_memberOf 19 = .ok (.ldc 75, 2) := by decide +kernel
theorem dX7_memberOf_21 : decode cX7_memberOf 21 = .ok (.invokespecial 77, 3) := by decide +kernel
theorem dX7_memberOf_24 : decode cX7_memberOf 24 = .ok (.athrow, 1) := by decide +kernel
theorem dX7_memberOf_25 : decode cX7_memberOf 25 = .ok (.aload_n 0, 1) := by decide +kernel
theorem dX7_memberOf_26 : decode cX7_memberOf 26 = .ok (.getfield 10, 3) := by decide +kernel
theorem dX7_memberOf_29 : decode cX7_memberOf 29 = .ok (.iload_n 1, 1) := by decide +kernel
theorem dX7_memberOf_30 : decode cX7_memberOf 30 = .ok (.iload_n 2, 1) := by decide +kernel
theorem dX7_memberOf_31 : decode cX7_memberOf 31 = .ok (.invokevirtual 80, 3) := by decide +kernel
theorem dX7_memberOf_34 : decode cX7_memberOf 34 = .ok (.ireturn, 1) := by decide +kernel
set_option maxRecDepth 20000 in
theorem ggX7_needle_X7_refuseStranger : GoodIn wsX7_needle wsX7_refuseStranger := goodIn_ca (goodIn_ca (goodIn_r _ [6, 7, 8, 1, 9, 10, 11, 12, 13, 14, 27, 28, 29, 30, 31, 32, 33, 34, 35, 36, 37, 38] rfl (by decide +kernel)) (goodIn_sub (fun _ h => List.mem_cons_of_mem _ (List.mem_append_left _ (List.mem_append_right _ h))) (by decide +kernel))) (goodIn_sub (fun _ h => List.mem_cons_of_mem _ (List.mem_append_right _ h)) (by decide +kernel))
set_option maxRecDepth 20000 in
theorem gX7_needle_X7_refuseStranger : GoodIn wsX7_needle (wsV RX7 69 RX7 yX7_refuseStranger wsX7_refuseStranger) := goodIn_app (goodIn_r _ [2, 3, 4, 5] rfl (by decide +kernel)) ggX7_needle_X7_refuseStranger
set_option maxRecDepth 20000 in
theorem ggX7_needle_X0_get : GoodIn wsX7_needle wsX0_get := goodIn_ca (goodIn_r _ [18, 14, 38] rfl (by decide +kernel)) (goodIn_sub (fun _ h => List.mem_cons_of_mem _ (List.mem_append_right _ h)) (by decide +kernel))
set_option maxRecDepth 20000 in
theorem gX7_needle_X0_get : GoodIn wsX7_needle (wsV RX7 84 RX0 yX0_get wsX0_get) := goodIn_app (goodIn_r _ [15, 16, 17, 12] rfl (by decide +kernel)) ggX7_needle_X0_get
set_option maxRecDepth 20000 in
theorem ggX7_needle_X3_shown : GoodIn wsX7_needle wsX3_shown := goodIn_ca (goodIn_r _ [22, 23, 24, 25, 12, 26, 14, 38] rfl (by decide +kernel)) (goodIn_sub (fun _ h => List.mem_cons_of_mem _ (List.mem_append_right _ h)) (by decide +kernel))
set_option maxRecDepth 20000 in
theorem gX7_needle_X3_shown : GoodIn wsX7_needle (va_wsS RX7 88 yX3_shown wsX3_shown) := goodIn_app (goodIn_r _ [19, 20, 21] rfl (by decide +kernel)) ggX7_needle_X3_shown
theorem dX7_needle_0 : decode cX7_needle 0 = .ok (.aload_n 0, 1) := by decide +kernel
theorem dX7_needle_1 : decode cX7_needle 1 = .ok (.iload_n 1, 1) := by decide +kernel
theorem dX7_needle_2 : decode cX7_needle 2 = .ok (.invokevirtual 69, 3) := by decide +kernel
theorem dX7_needle_5 : decode cX7_needle 5 = .ok (.aload_n 0, 1) := by decide +kernel
theorem dX7_needle_6 : decode cX7_needle 6 = .ok (.getfield 10, 3) := by decide +kernel
theorem dX7_needle_9 : decode cX7_needle 9 = .ok (.iload_n 1, 1) := by decide +kernel
theorem dX7_needle_10 : decode cX7_needle 10 = .ok (.aload_n 0, 1) := by decide +kernel
theorem dX7_needle_11 : decode cX7_needle 11 = .ok (.getfield 10, 3) := by decide +kernel
theorem dX7_needle_14 : decode cX7_needle 14 = .ok (.iconst 1, 1) := by decide +kernel
theorem dX7_needle_15 : decode cX7_needle 15 = .ok (.invokevirtual 84, 3) := by decide +kernel
theorem dX7_needle_18 : decode cX7_needle 18 = .ok (.invokestatic 88, 3) := by decide +kernel
theorem dX7_needle_21 : decode cX7_needle 21 = .ok (.ireturn, 1) := by decide +kernel
set_option maxRecDepth 20000 in
theorem ggX7_needleAgain_X7_refuseStranger : GoodIn wsX7_needleAgain wsX7_refuseStranger := goodIn_ca (goodIn_ca (goodIn_r _ [6, 7, 8, 1, 9, 10, 11, 12, 13, 14, 27, 28, 29, 30, 31, 32, 33, 34, 35, 36, 37, 38] rfl (by decide +kernel)) (goodIn_sub (fun _ h => List.mem_cons_of_mem _ (List.mem_append_left _ (List.mem_append_right _ h))) (by decide +kernel))) (goodIn_sub (fun _ h => List.mem_cons_of_mem _ (List.mem_append_right _ h)) (by decide +kernel))
set_option maxRecDepth 20000 in
theorem gX7_needleAgain_X7_refuseStranger : GoodIn wsX7_needleAgain (wsV RX7 69 RX7 yX7_refuseStranger wsX7_refuseStranger) := goodIn_app (goodIn_r _ [2, 3, 4, 5] rfl (by decide +kernel)) ggX7_needleAgain_X7_refuseStranger
set_option maxRecDepth 20000 in
theorem ggX7_needleAgain_X3_shownStepByStep : GoodIn wsX7_needleAgain wsX3_shownStepByStep := goodIn_ca (goodIn_r _ [18, 19, 20, 21, 12, 22, 14, 23, 24, 25, 26, 38] rfl (by decide +kernel)) (goodIn_sub (fun _ h => List.mem_cons_of_mem _ (List.mem_append_right _ h)) (by decide +kernel))
set_option maxRecDepth 20000 in
theorem gX7_needleAgain_X3_shownStepByStep : GoodIn wsX7_needleAgain (va_wsS RX7 94 yX3_shownStepByStep wsX3_shownStepByStep) := goodIn_app (goodIn_r _ [15, 16, 17] rfl (by decide +kernel)) ggX7_needleAgain_X3_shownStepByStep
theorem dX7_needleAgain_0 : decode cX7_needleAgain 0 = .ok (.aload_n 0, 1) := by decide +kernel
theorem dX7_needleAgain_1 : decode cX7_needleAgain 1 = .ok (.iload_n 1, 1) := by decide +kernel
theorem dX7_needleAgain_2 : decode cX7_needleAgain 2 = .ok (.invokevirtual 69, 3) := by decide +kernel
theorem dX7_needleAgain_5 : decode cX7_needleAgain 5 = .ok (.aload_n 0, 1) := by decide +kernel
theorem dX7_needleAgain_6 : decode cX7_needleAgain 6 = .ok (.getfield 10, 3) := by decide +kernel
theorem dX7_needleAgain_9 : decode cX7_needleAgain 9 = .ok (.iload_n 1, 1) := by decide +kernel
theorem dX7_needleAgain_10 : decode cX7_needleAgain 10 = .ok (.invokestatic 94, 3) := by decide +kernel
theorem dX7_needleAgain_13 : decode cX7_needleAgain 13 = .ok (.ireturn, 1) := by decide +kernel
set_option maxRecDepth 20000 in
theorem ggX7_off_X7_refuseStranger : GoodIn wsX7_off wsX7_refuseStranger := goodIn_ca (goodIn_ca (goodIn_r _ [8, 9, 10, 3, 11, 12, 13, 14, 15, 16, 41, 42, 43, 44, 45, 46, 47, 48, 49, 50, 51, 52] rfl (by decide +kernel)) (goodIn_sub (fun _ h => List.mem_cons_of_mem _ (List.mem_append_left _ (List.mem_append_right _ h))) (by decide +kernel))) (goodIn_sub (fun _ h => List.mem_cons_of_mem _ (List.mem_append_right _ h)) (by decide +kernel))
set_option maxRecDepth 20000 in
theorem gX7_off_X7_refuseStranger : GoodIn wsX7_off (wsV RX7 69 RX7 yX7_refuseStranger wsX7_refuseStranger) := goodIn_app (goodIn_r _ [4, 5, 6, 7] rfl (by decide +kernel)) ggX7_off_X7_refuseStranger
set_option maxRecDepth 20000 in
theorem ggX7_off_X0_hasWagered : GoodIn wsX7_off wsX0_hasWagered := goodIn_ca (goodIn_r _ [20, 21, 22, 23, 14, 24, 16, 52] rfl (by decide +kernel)) (goodIn_sub (fun _ h => List.mem_cons_of_mem _ (List.mem_append_right _ h)) (by decide +kernel))
set_option maxRecDepth 20000 in
theorem gX7_off_X0_hasWagered : GoodIn wsX7_off (wsV RX7 98 RX0 yX0_hasWagered wsX0_hasWagered) := goodIn_app (goodIn_r _ [17, 18, 19, 14] rfl (by decide +kernel)) ggX7_off_X0_hasWagered
set_option maxRecDepth 20000 in
theorem ggX7_off_X0_get : GoodIn wsX7_off wsX0_get := goodIn_ca (goodIn_r _ [28, 16, 52] rfl (by decide +kernel)) (goodIn_sub (fun _ h => List.mem_cons_of_mem _ (List.mem_append_right _ h)) (by decide +kernel))
set_option maxRecDepth 20000 in
theorem gX7_off_X0_get : GoodIn wsX7_off (wsV RX7 84 RX0 yX0_get wsX0_get) := goodIn_app (goodIn_r _ [25, 26, 27, 14] rfl (by decide +kernel)) ggX7_off_X0_get
set_option maxRecDepth 20000 in
theorem ggX7_off_X3_distance : GoodIn wsX7_off wsX3_distance := goodIn_ca (goodIn_r _ [32, 33, 34, 35, 36, 37, 22, 23, 14, 24, 16, 38, 39, 31, 40, 52] rfl (by decide +kernel)) (goodIn_sub (fun _ h => List.mem_cons_of_mem _ (List.mem_append_right _ h)) (by decide +kernel))
set_option maxRecDepth 20000 in
theorem gX7_off_X3_distance : GoodIn wsX7_off (va_wsS RX7 107 yX3_distance wsX3_distance) := goodIn_app (goodIn_r _ [29, 30, 31] rfl (by decide +kernel)) ggX7_off_X3_distance
theorem dX7_off_0 : decode cX7_off 0 = .ok (.aload_n 0, 1) := by decide +kernel
theorem dX7_off_1 : decode cX7_off 1 = .ok (.iload_n 1, 1) := by decide +kernel
theorem dX7_off_2 : decode cX7_off 2 = .ok (.invokevirtual 69, 3) := by decide +kernel
theorem dX7_off_5 : decode cX7_off 5 = .ok (.aload_n 0, 1) := by decide +kernel
theorem dX7_off_6 : decode cX7_off 6 = .ok (.getfield 10, 3) := by decide +kernel
theorem dX7_off_9 : decode cX7_off 9 = .ok (.iload_n 1, 1) := by decide +kernel
theorem dX7_off_10 : decode cX7_off 10 = .ok (.invokevirtual 98, 3) := by decide +kernel
theorem dX7_off_13 : decode cX7_off 13 = .ok (.ifCond .ne 13, 3) := by decide +kernel
theorem dX7_off_16 : decode cX7_off 16 = .ok (.new 102, 3) := by decide +kernel
theorem dX7_off_19 : decode cX7_off 19 = .ok (.dup, 1) := by decide +kernel
theorem dX7_off_20 : decode cX7_off 20 = .ok (.ldc 104, 2) := by decide +kernel
theorem dX7_off_22 : decode cX7_off 22 = .ok (.invokespecial 106, 3) := by decide +kernel
theorem dX7_off_25 : decode cX7_off 25 = .ok (.athrow, 1) := by decide +kernel
theorem dX7_off_26 : decode cX7_off 26 = .ok (.aload_n 0, 1) := by decide +kernel
theorem dX7_off_27 : decode cX7_off 27 = .ok (.getfield 10, 3) := by decide +kernel
theorem dX7_off_30 : decode cX7_off 30 = .ok (.iload_n 1, 1) := by decide +kernel
theorem dX7_off_31 : decode cX7_off 31 = .ok (.aload_n 0, 1) := by decide +kernel
theorem dX7_off_32 : decode cX7_off 32 = .ok (.getfield 10, 3) := by decide +kernel
theorem dX7_off_35 : decode cX7_off 35 = .ok (.iconst 1, 1) := by decide +kernel
theorem dX7_off_36 : decode cX7_off 36 = .ok (.invokevirtual 84, 3) := by decide +kernel
theorem dX7_off_39 : decode cX7_off 39 = .ok (.invokestatic 107, 3) := by decide +kernel
theorem dX7_off_42 : decode cX7_off 42 = .ok (.ireturn, 1) := by decide +kernel
set_option maxRecDepth 20000 in
theorem ggX7_owner_X7_isHeight : GoodIn wsX7_owner wsX7_isHeight := goodIn_r _ [9] rfl (by decide +kernel)
set_option maxRecDepth 20000 in
theorem gX7_owner_X7_isHeight : GoodIn wsX7_owner (va_wsS RX7 110 yX7_isHeight wsX7_isHeight) := goodIn_app (goodIn_r _ [6, 7, 8] rfl (by decide +kernel)) ggX7_owner_X7_isHeight
set_option maxRecDepth 20000 in
theorem ggX7_owner_X0_ownerOf : GoodIn wsX7_owner wsX0_ownerOf := goodIn_ca (goodIn_r _ [14, 15, 16, 17, 18, 13, 19, 31] rfl (by decide +kernel)) (goodIn_sub (fun _ h => List.mem_cons_of_mem _ (List.mem_append_right _ h)) (by decide +kernel))
set_option maxRecDepth 20000 in
theorem gX7_owner_X0_ownerOf : GoodIn wsX7_owner (wsV RX7 115 RX0 yX0_ownerOf wsX0_ownerOf) := goodIn_app (goodIn_r _ [10, 11, 12, 13] rfl (by decide +kernel)) ggX7_owner_X0_ownerOf
theorem dX7_owner_0 : decode cX7_owner 0 = .ok (.iload_n 1, 1) := by decide +kernel
theorem dX7_owner_1 : decode cX7_owner 1 = .ok (.invokestatic 110, 3) := by decide +kernel
theorem dX7_owner_4 : decode cX7_owner 4 = .ok (.ifCond .ne 13, 3) := by decide +kernel
theorem dX7_owner_7 : decode cX7_owner 7 = .ok (.new 73, 3) := by decide +kernel
theorem dX7_owner_10 : decode cX7_owner 10 = .ok (.dup, 1) := by decide +kernel
theorem dX7_owner_11 : decode cX7_owner 11 = .ok (.ldc 113, 2) := by decide +kernel
theorem dX7_owner_13 : decode cX7_owner 13 = .ok (.invokespecial 77, 3) := by decide +kernel
theorem dX7_owner_16 : decode cX7_owner 16 = .ok (.athrow, 1) := by decide +kernel
theorem dX7_owner_17 : decode cX7_owner 17 = .ok (.aload_n 0, 1) := by decide +kernel
theorem dX7_owner_18 : decode cX7_owner 18 = .ok (.getfield 10, 3) := by decide +kernel
theorem dX7_owner_21 : decode cX7_owner 21 = .ok (.iload_n 1, 1) := by decide +kernel
theorem dX7_owner_22 : decode cX7_owner 22 = .ok (.invokevirtual 115, 3) := by decide +kernel
theorem dX7_owner_25 : decode cX7_owner 25 = .ok (.istore_n 2, 1) := by decide +kernel
theorem dX7_owner_26 : decode cX7_owner 26 = .ok (.iload_n 2, 1) := by decide +kernel
theorem dX7_owner_27 : decode cX7_owner 27 = .ok (.iconst (-1), 1) := by decide +kernel
theorem dX7_owner_28 : decode cX7_owner 28 = .ok (.if_icmp .ne 13, 3) := by decide +kernel
theorem dX7_owner_31 : decode cX7_owner 31 = .ok (.new 102, 3) := by decide +kernel
theorem dX7_owner_34 : decode cX7_owner 34 = .ok (.dup, 1) := by decide +kernel
theorem dX7_owner_35 : decode cX7_owner 35 = .ok (.ldc 118, 2) := by decide +kernel
theorem dX7_owner_37 : decode cX7_owner 37 = .ok (.invokespecial 106, 3) := by decide +kernel
theorem dX7_owner_40 : decode cX7_owner 40 = .ok (.athrow, 1) := by decide +kernel
theorem dX7_owner_41 : decode cX7_owner 41 = .ok (.iload_n 2, 1) := by decide +kernel
theorem dX7_owner_42 : decode cX7_owner 42 = .ok (.ireturn, 1) := by decide +kernel
set_option maxRecDepth 20000 in
theorem ggX7_winners_X0_get : GoodIn wsX7_winners wsX0_get := goodIn_ca (goodIn_r _ [6, 7, 50] rfl (by decide +kernel)) (goodIn_sub (fun _ h => List.mem_cons_of_mem _ (List.mem_append_right _ h)) (by decide +kernel))
set_option maxRecDepth 20000 in
theorem gX7_winners_X0_get : GoodIn wsX7_winners (wsV RX7 84 RX0 yX0_get wsX0_get) := goodIn_app (goodIn_r _ [2, 3, 4, 5] rfl (by decide +kernel)) ggX7_winners_X0_get
set_option maxRecDepth 20000 in
theorem ggX7_winners_X3_nearest : GoodIn wsX7_winners wsX3_nearest := goodIn_ca (goodIn_r _ [11, 12, 3, 4, 5, 6, 7, 13, 14, 10, 15, 16, 17, 18, 19, 20, 21, 22, 23, 24, 25, 26, 27, 28, 29, 30, 31, 32, 33, 34, 35, 36, 37, 38, 50] rfl (by decide +kernel)) (goodIn_sub (fun _ h => List.mem_cons_of_mem _ (List.mem_append_right _ h)) (by decide +kernel))
set_option maxRecDepth 20000 in
theorem gX7_winners_X3_nearest : GoodIn wsX7_winners (va_wsS RX7 120 yX3_nearest wsX3_nearest) := goodIn_app (goodIn_r _ [8, 9, 10] rfl (by decide +kernel)) ggX7_winners_X3_nearest
theorem dX7_winners_0 : decode cX7_winners 0 = .ok (.aload_n 0, 1) := by decide +kernel
theorem dX7_winners_1 : decode cX7_winners 1 = .ok (.getfield 10, 3) := by decide +kernel
theorem dX7_winners_4 : decode cX7_winners 4 = .ok (.aload_n 0, 1) := by decide +kernel
theorem dX7_winners_5 : decode cX7_winners 5 = .ok (.getfield 10, 3) := by decide +kernel
theorem dX7_winners_8 : decode cX7_winners 8 = .ok (.iconst 1, 1) := by decide +kernel
theorem dX7_winners_9 : decode cX7_winners 9 = .ok (.invokevirtual 84, 3) := by decide +kernel
theorem dX7_winners_12 : decode cX7_winners 12 = .ok (.invokestatic 120, 3) := by decide +kernel
theorem dX7_winners_15 : decode cX7_winners 15 = .ok (.ireturn, 1) := by decide +kernel
set_option maxRecDepth 20000 in
theorem ggX7_winnersAgain_X3_nearestByDistances : GoodIn wsX7_winnersAgain wsX3_nearestByDistances := goodIn_ca (goodIn_r _ [5, 6, 7, 4, 8, 9, 10, 11, 12, 13, 14, 15, 16, 17, 18, 19, 20, 21, 22, 23, 24, 25, 26, 27, 28, 29, 30, 31, 32, 33, 34, 35, 36, 37, 38, 39, 40, 52] rfl (by decide +kernel)) (goodIn_sub (fun _ h => List.mem_cons_of_mem _ (List.mem_append_right _ h)) (by decide +kernel))
set_option maxRecDepth 20000 in
theorem gX7_winnersAgain_X3_nearestByDistances : GoodIn wsX7_winnersAgain (va_wsS RX7 123 yX3_nearestByDistances wsX3_nearestByDistances) := goodIn_app (goodIn_r _ [2, 3, 4] rfl (by decide +kernel)) ggX7_winnersAgain_X3_nearestByDistances
theorem dX7_winnersAgain_0 : decode cX7_winnersAgain 0 = .ok (.aload_n 0, 1) := by decide +kernel
theorem dX7_winnersAgain_1 : decode cX7_winnersAgain 1 = .ok (.getfield 10, 3) := by decide +kernel
theorem dX7_winnersAgain_4 : decode cX7_winnersAgain 4 = .ok (.invokestatic 123, 3) := by decide +kernel
theorem dX7_winnersAgain_7 : decode cX7_winnersAgain 7 = .ok (.ireturn, 1) := by decide +kernel
set_option maxRecDepth 20000 in
theorem ggX7_share_X0_get : GoodIn wsX7_share wsX0_get := goodIn_ca (goodIn_r _ [6, 7, 60] rfl (by decide +kernel)) (goodIn_sub (fun _ h => List.mem_cons_of_mem _ (List.mem_append_left _ (List.mem_append_right _ h))) (by decide +kernel))
set_option maxRecDepth 20000 in
theorem gX7_share_X0_get : GoodIn wsX7_share (wsV RX7 84 RX0 yX0_get wsX0_get) := goodIn_app (goodIn_r _ [2, 3, 4, 5] rfl (by decide +kernel)) ggX7_share_X0_get
set_option maxRecDepth 20000 in
theorem ggX7_share_X3_nearest : GoodIn wsX7_share wsX3_nearest := goodIn_ca (goodIn_r _ [11, 12, 3, 4, 5, 6, 7, 13, 14, 10, 15, 16, 17, 18, 19, 20, 21, 22, 23, 24, 25, 26, 27, 28, 29, 30, 31, 32, 33, 34, 35, 36, 37, 38, 60] rfl (by decide +kernel)) (goodIn_sub (fun _ h => List.mem_cons_of_mem _ (List.mem_append_left _ (List.mem_append_right _ h))) (by decide +kernel))
set_option maxRecDepth 20000 in
theorem gX7_share_X3_nearest : GoodIn wsX7_share (va_wsS RX7 120 yX3_nearest wsX3_nearest) := goodIn_app (goodIn_r _ [8, 9, 10] rfl (by decide +kernel)) ggX7_share_X3_nearest
set_option maxRecDepth 20000 in
theorem ggX7_share_X3_shareOf : GoodIn wsX7_share wsX3_shareOf := goodIn_ca (goodIn_ca (goodIn_r _ [41, 42, 43, 44, 45, 46, 47, 48, 12, 3, 4, 5, 6, 7, 60] rfl (by decide +kernel)) (goodIn_sub (fun _ h => List.mem_cons_of_mem _ (List.mem_append_right _ h)) (by decide +kernel))) (goodIn_sub (fun _ h => List.mem_cons_of_mem _ (List.mem_append_left _ (List.mem_append_right _ h))) (by decide +kernel))
set_option maxRecDepth 20000 in
theorem gX7_share_X3_shareOf : GoodIn wsX7_share (va_wsS RX7 127 yX3_shareOf wsX3_shareOf) := goodIn_app (goodIn_r _ [39, 40, 10] rfl (by decide +kernel)) ggX7_share_X3_shareOf
theorem dX7_share_0 : decode cX7_share 0 = .ok (.aload_n 0, 1) := by decide +kernel
theorem dX7_share_1 : decode cX7_share 1 = .ok (.getfield 10, 3) := by decide +kernel
theorem dX7_share_4 : decode cX7_share 4 = .ok (.aload_n 0, 1) := by decide +kernel
theorem dX7_share_5 : decode cX7_share 5 = .ok (.getfield 10, 3) := by decide +kernel
theorem dX7_share_8 : decode cX7_share 8 = .ok (.aload_n 0, 1) := by decide +kernel
theorem dX7_share_9 : decode cX7_share 9 = .ok (.getfield 10, 3) := by decide +kernel
theorem dX7_share_12 : decode cX7_share 12 = .ok (.iconst 1, 1) := by decide +kernel
theorem dX7_share_13 : decode cX7_share 13 = .ok (.invokevirtual 84, 3) := by decide +kernel
theorem dX7_share_16 : decode cX7_share 16 = .ok (.invokestatic 120, 3) := by decide +kernel
theorem dX7_share_19 : decode cX7_share 19 = .ok (.invokestatic 127, 3) := by decide +kernel
theorem dX7_share_22 : decode cX7_share 22 = .ok (.ireturn, 1) := by decide +kernel
set_option maxRecDepth 20000 in
theorem ggX7_wouldWin_X7_isChange : GoodIn wsX7_wouldWin wsX7_isChange := goodIn_r _ [7] rfl (by decide +kernel)
set_option maxRecDepth 20000 in
theorem gX7_wouldWin_X7_isChange : GoodIn wsX7_wouldWin (va_wsS RX7 130 yX7_isChange wsX7_isChange) := goodIn_app (goodIn_r _ [4, 5, 6] rfl (by decide +kernel)) ggX7_wouldWin_X7_isChange
set_option maxRecDepth 20000 in
theorem ggX7_wouldWin_X3_nearestBehind : GoodIn wsX7_wouldWin wsX3_nearestBehind := goodIn_ca (goodIn_r _ [11, 12, 13, 14, 15, 16, 17, 18, 6, 19, 20, 21, 22, 23, 24, 25, 26, 27, 28, 10, 29, 30, 31, 32, 33, 34, 35, 36, 37, 38, 39, 40, 41, 42, 43, 44, 45, 46, 47, 48, 49, 50, 51, 52, 53, 54, 66] rfl (by decide +kernel)) (goodIn_sub (fun _ h => List.mem_cons_of_mem _ (List.mem_append_right _ h)) (by decide +kernel))
set_option maxRecDepth 20000 in
theorem gX7_wouldWin_X3_nearestBehind : GoodIn wsX7_wouldWin (va_wsS RX7 135 yX3_nearestBehind wsX3_nearestBehind) := goodIn_app (goodIn_r _ [8, 9, 10] rfl (by decide +kernel)) ggX7_wouldWin_X3_nearestBehind
theorem dX7_wouldWin_0 : decode cX7_wouldWin 0 = .ok (.iload_n 1, 1) := by decide +kernel
theorem dX7_wouldWin_1 : decode cX7_wouldWin 1 = .ok (.invokestatic 130, 3) := by decide +kernel
theorem dX7_wouldWin_4 : decode cX7_wouldWin 4 = .ok (.ifCond .ne 13, 3) := by decide +kernel
theorem dX7_wouldWin_7 : decode cX7_wouldWin 7 = .ok (.new 73, 3) := by decide +kernel
theorem dX7_wouldWin_10 : decode cX7_wouldWin 10 = .ok (.dup, 1) := by decide +kernel
theorem dX7_wouldWin_11 : decode cX7_wouldWin 11 = .ok (.ldc 133, 2) := by decide +kernel
theorem dX7_wouldWin_13 : decode cX7_wouldWin 13 = .ok (.invokespecial 77, 3) := by decide +kernel
theorem dX7_wouldWin_16 : decode cX7_wouldWin 16 = .ok (.athrow, 1) := by decide +kernel
theorem dX7_wouldWin_17 : decode cX7_wouldWin 17 = .ok (.aload_n 0, 1) := by decide +kernel
theorem dX7_wouldWin_18 : decode cX7_wouldWin 18 = .ok (.getfield 10, 3) := by decide +kernel
theorem dX7_wouldWin_21 : decode cX7_wouldWin 21 = .ok (.iload_n 1, 1) := by decide +kernel
theorem dX7_wouldWin_22 : decode cX7_wouldWin 22 = .ok (.invokestatic 135, 3) := by decide +kernel
theorem dX7_wouldWin_25 : decode cX7_wouldWin 25 = .ok (.ireturn, 1) := by decide +kernel
set_option maxRecDepth 20000 in
theorem ggX7_changeFor_X7_refuseStranger : GoodIn wsX7_changeFor wsX7_refuseStranger := goodIn_ca (goodIn_ca (goodIn_r _ [8, 9, 10, 3, 11, 12, 13, 14, 15, 16, 65, 66, 67, 68, 69, 70, 71, 72, 73, 74, 75, 76] rfl (by decide +kernel)) (goodIn_sub (fun _ h => List.mem_cons_of_mem _ (List.mem_append_left _ (List.mem_append_right _ h))) (by decide +kernel))) (goodIn_sub (fun _ h => List.mem_cons_of_mem _ (List.mem_append_right _ h)) (by decide +kernel))
set_option maxRecDepth 20000 in
theorem gX7_changeFor_X7_refuseStranger : GoodIn wsX7_changeFor (wsV RX7 69 RX7 yX7_refuseStranger wsX7_refuseStranger) := goodIn_app (goodIn_r _ [4, 5, 6, 7] rfl (by decide +kernel)) ggX7_changeFor_X7_refuseStranger
set_option maxRecDepth 20000 in
theorem ggX7_changeFor_X3_winsAloneBehind : GoodIn wsX7_changeFor wsX3_winsAloneBehind := goodIn_ca (goodIn_r _ [20, 21, 22, 19, 23, 24, 25, 26, 14, 27, 16, 28, 7, 29, 30, 31, 32, 33, 34, 35, 36, 37, 38, 39, 40, 41, 42, 43, 44, 45, 46, 47, 48, 49, 50, 51, 52, 53, 54, 55, 56, 57, 58, 59, 60, 61, 62, 63, 64, 76] rfl (by decide +kernel)) (goodIn_sub (fun _ h => List.mem_cons_of_mem _ (List.mem_append_right _ h)) (by decide +kernel))
set_option maxRecDepth 20000 in
theorem gX7_changeFor_X3_winsAloneBehind : GoodIn wsX7_changeFor (va_wsS RX7 138 yX3_winsAloneBehind wsX3_winsAloneBehind) := goodIn_app (goodIn_r _ [17, 18, 19] rfl (by decide +kernel)) ggX7_changeFor_X3_winsAloneBehind
theorem dX7_changeFor_0 : decode cX7_changeFor 0 = .ok (.aload_n 0, 1) := by decide +kernel
theorem dX7_changeFor_1 : decode cX7_changeFor 1 = .ok (.iload_n 1, 1) := by decide +kernel
theorem dX7_changeFor_2 : decode cX7_changeFor 2 = .ok (.invokevirtual 69, 3) := by decide +kernel
theorem dX7_changeFor_5 : decode cX7_changeFor 5 = .ok (.iconst 0, 1) := by decide +kernel
theorem dX7_changeFor_6 : decode cX7_changeFor 6 = .ok (.istore_n 2, 1) := by decide +kernel
theorem dX7_changeFor_7 : decode cX7_changeFor 7 = .ok (.iload_n 2, 1) := by decide +kernel
theorem dX7_changeFor_8 : decode cX7_changeFor 8 = .ok (.bipush 40, 2) := by decide +kernel
theorem dX7_changeFor_10 : decode cX7_changeFor 10 = .ok (.if_icmp .gt 39, 3) := by decide +kernel
theorem dX7_changeFor_13 : decode cX7_changeFor 13 = .ok (.aload_n 0, 1) := by decide +kernel
theorem dX7_changeFor_14 : decode cX7_changeFor 14 = .ok (.getfield 10, 3) := by decide +kernel
theorem dX7_changeFor_17 : decode cX7_changeFor 17 = .ok (.iload_n 1, 1) := by decide +kernel
theorem dX7_changeFor_18 : decode cX7_changeFor 18 = .ok (.iload_n 2, 1) := by decide +kernel
theorem dX7_changeFor_19 : decode cX7_changeFor 19 = .ok (.ineg, 1) := by decide +kernel
theorem dX7_changeFor_20 : decode cX7_changeFor 20 = .ok (.invokestatic 138, 3) := by decide +kernel
theorem dX7_changeFor_23 : decode cX7_changeFor 23 = .ok (.ifCond .eq 6, 3) := by decide +kernel
theorem dX7_changeFor_26 : decode cX7_changeFor 26 = .ok (.iload_n 2, 1) := by decide +kernel
theorem dX7_changeFor_27 : decode cX7_changeFor 27 = .ok (.ineg, 1) := by decide +kernel
theorem dX7_changeFor_28 : decode cX7_changeFor 28 = .ok (.ireturn, 1) := by decide +kernel
theorem dX7_changeFor_29 : decode cX7_changeFor 29 = .ok (.aload_n 0, 1) := by decide +kernel
theorem dX7_changeFor_30 : decode cX7_changeFor 30 = .ok (.getfield 10, 3) := by decide +kernel
theorem dX7_changeFor_33 : decode cX7_changeFor 33 = .ok (.iload_n 1, 1) := by decide +kernel
theorem dX7_changeFor_34 : decode cX7_changeFor 34 = .ok (.iload_n 2, 1) := by decide +kernel
theorem dX7_changeFor_35 : decode cX7_changeFor 35 = .ok (.invokestatic 138, 3) := by decide +kernel
theorem dX7_changeFor_38 : decode cX7_changeFor 38 = .ok (.ifCond .eq 5, 3) := by decide +kernel
theorem dX7_changeFor_41 : decode cX7_changeFor 41 = .ok (.iload_n 2, 1) := by decide +kernel
theorem dX7_changeFor_42 : decode cX7_changeFor 42 = .ok (.ireturn, 1) := by decide +kernel
theorem dX7_changeFor_43 : decode cX7_changeFor 43 = .ok (.iinc 2 1, 3) := by decide +kernel
theorem dX7_changeFor_46 : decode cX7_changeFor 46 = .ok (.goto (-39), 3) := by decide +kernel
theorem dX7_changeFor_49 : decode cX7_changeFor 49 = .ok (.new 102, 3) := by decide +kernel
theorem dX7_changeFor_52 : decode cX7_changeFor 52 = .ok (.dup, 1) := by decide +kernel
theorem dX7_changeFor_53 : decode cX7_changeFor 53 = .ok (.ldc 142, 2) := by decide +kernel
theorem dX7_changeFor_55 : decode cX7_changeFor 55 = .ok (.invokespecial 106, 3) := by decide +kernel
theorem dX7_changeFor_58 : decode cX7_changeFor 58 = .ok (.athrow, 1) := by decide +kernel
set_option maxRecDepth 20000 in
theorem ggX7_bestGuess_X7_refuseStranger : GoodIn wsX7_bestGuess wsX7_refuseStranger := goodIn_ca (goodIn_ca (goodIn_r _ [6, 7, 8, 1, 9, 10, 11, 12, 13, 14, 37, 38, 39, 40, 41, 42, 43, 44, 45, 46, 47, 48] rfl (by decide +kernel)) (goodIn_sub (fun _ h => List.mem_cons_of_mem _ (List.mem_append_left _ (List.mem_append_right _ h))) (by decide +kernel))) (goodIn_sub (fun _ h => List.mem_cons_of_mem _ (List.mem_append_right _ h)) (by decide +kernel))
set_option maxRecDepth 20000 in
theorem gX7_bestGuess_X7_refuseStranger : GoodIn wsX7_bestGuess (wsV RX7 69 RX7 yX7_refuseStranger wsX7_refuseStranger) := goodIn_app (goodIn_r _ [2, 3, 4, 5] rfl (by decide +kernel)) ggX7_bestGuess_X7_refuseStranger
set_option maxRecDepth 20000 in
theorem ggX7_bestGuess_X0_get : GoodIn wsX7_bestGuess wsX0_get := goodIn_ca (goodIn_r _ [18, 14, 48] rfl (by decide +kernel)) (goodIn_sub (fun _ h => List.mem_cons_of_mem _ (List.mem_append_right _ h)) (by decide +kernel))
set_option maxRecDepth 20000 in
theorem gX7_bestGuess_X0_get : GoodIn wsX7_bestGuess (wsV RX7 84 RX0 yX0_get wsX0_get) := goodIn_app (goodIn_r _ [15, 16, 17, 12] rfl (by decide +kernel)) ggX7_bestGuess_X0_get
set_option maxRecDepth 20000 in
theorem ggX7_bestGuess_X3_shown : GoodIn wsX7_bestGuess wsX3_shown := goodIn_ca (goodIn_r _ [22, 23, 24, 25, 12, 26, 14, 48] rfl (by decide +kernel)) (goodIn_sub (fun _ h => List.mem_cons_of_mem _ (List.mem_append_right _ h)) (by decide +kernel))
set_option maxRecDepth 20000 in
theorem gX7_bestGuess_X3_shown : GoodIn wsX7_bestGuess (va_wsS RX7 88 yX3_shown wsX3_shown) := goodIn_app (goodIn_r _ [19, 20, 21] rfl (by decide +kernel)) ggX7_bestGuess_X3_shown
set_option maxRecDepth 20000 in
theorem ggX7_bestGuess_X7_held : GoodIn wsX7_bestGuess wsX7_held := goodIn_r _ [29, 30, 31, 32, 33, 34, 35, 36] rfl (by decide +kernel)
set_option maxRecDepth 20000 in
theorem gX7_bestGuess_X7_held : GoodIn wsX7_bestGuess (va_wsS RX7 144 yX7_held wsX7_held) := goodIn_app (goodIn_r _ [27, 28, 5] rfl (by decide +kernel)) ggX7_bestGuess_X7_held
theorem dX7_bestGuess_0 : decode cX7_bestGuess 0 = .ok (.aload_n 0, 1) := by decide +kernel
theorem dX7_bestGuess_1 : decode cX7_bestGuess 1 = .ok (.iload_n 1, 1) := by decide +kernel
theorem dX7_bestGuess_2 : decode cX7_bestGuess 2 = .ok (.invokevirtual 69, 3) := by decide +kernel
theorem dX7_bestGuess_5 : decode cX7_bestGuess 5 = .ok (.aload_n 0, 1) := by decide +kernel
theorem dX7_bestGuess_6 : decode cX7_bestGuess 6 = .ok (.getfield 10, 3) := by decide +kernel
theorem dX7_bestGuess_9 : decode cX7_bestGuess 9 = .ok (.iload_n 1, 1) := by decide +kernel
theorem dX7_bestGuess_10 : decode cX7_bestGuess 10 = .ok (.aload_n 0, 1) := by decide +kernel
theorem dX7_bestGuess_11 : decode cX7_bestGuess 11 = .ok (.getfield 10, 3) := by decide +kernel
theorem dX7_bestGuess_14 : decode cX7_bestGuess 14 = .ok (.iconst 1, 1) := by decide +kernel
theorem dX7_bestGuess_15 : decode cX7_bestGuess 15 = .ok (.invokevirtual 84, 3) := by decide +kernel
theorem dX7_bestGuess_18 : decode cX7_bestGuess 18 = .ok (.invokestatic 88, 3) := by decide +kernel
theorem dX7_bestGuess_21 : decode cX7_bestGuess 21 = .ok (.istore_n 2, 1) := by decide +kernel
theorem dX7_bestGuess_22 : decode cX7_bestGuess 22 = .ok (.iload_n 2, 1) := by decide +kernel
theorem dX7_bestGuess_23 : decode cX7_bestGuess 23 = .ok (.sipush 700, 3) := by decide +kernel
theorem dX7_bestGuess_26 : decode cX7_bestGuess 26 = .ok (.sipush 1100, 3) := by decide +kernel
theorem dX7_bestGuess_29 : decode cX7_bestGuess 29 = .ok (.invokestatic 144, 3) := by decide +kernel
theorem dX7_bestGuess_32 : decode cX7_bestGuess 32 = .ok (.ireturn, 1) := by decide +kernel
set_option maxRecDepth 20000 in
theorem ggX7_nearestFree_X7_refuseStranger : GoodIn wsX7_nearestFree wsX7_refuseStranger := goodIn_ca (goodIn_ca (goodIn_r _ [8, 9, 10, 3, 11, 12, 13, 14, 15, 16, 32, 33, 34, 35, 36, 37, 38, 39, 40, 41, 42, 43] rfl (by decide +kernel)) (goodIn_sub (fun _ h => List.mem_cons_of_mem _ (List.mem_append_left _ (List.mem_append_right _ h))) (by decide +kernel))) (goodIn_sub (fun _ h => List.mem_cons_of_mem _ (List.mem_append_right _ h)) (by decide +kernel))
set_option maxRecDepth 20000 in
theorem gX7_nearestFree_X7_refuseStranger : GoodIn wsX7_nearestFree (wsV RX7 69 RX7 yX7_refuseStranger wsX7_refuseStranger) := goodIn_app (goodIn_r _ [4, 5, 6, 7] rfl (by decide +kernel)) ggX7_nearestFree_X7_refuseStranger
set_option maxRecDepth 20000 in
theorem ggX7_nearestFree_X0_of : GoodIn wsX7_nearestFree wsX0_of := goodIn_ca (goodIn_r _ [20, 16, 43] rfl (by decide +kernel)) (goodIn_sub (fun _ h => List.mem_cons_of_mem _ (List.mem_append_right _ h)) (by decide +kernel))
set_option maxRecDepth 20000 in
theorem gX7_nearestFree_X0_of : GoodIn wsX7_nearestFree (wsV RX7 80 RX0 yX0_of wsX0_of) := goodIn_app (goodIn_r _ [17, 18, 19, 14] rfl (by decide +kernel)) ggX7_nearestFree_X0_of
set_option maxRecDepth 20000 in
theorem ggX7_nearestFree_X0_isFree : GoodIn wsX7_nearestFree wsX0_isFree := goodIn_ca (goodIn_r _ [24, 25, 7, 26, 27, 28, 29, 14, 30, 16, 31, 18, 19, 20, 43] rfl (by decide +kernel)) (goodIn_sub (fun _ h => List.mem_cons_of_mem _ (List.mem_append_right _ h)) (by decide +kernel))
set_option maxRecDepth 20000 in
theorem gX7_nearestFree_X0_isFree : GoodIn wsX7_nearestFree (wsV RX7 148 RX0 yX0_isFree wsX0_isFree) := goodIn_app (goodIn_r _ [21, 22, 23, 14] rfl (by decide +kernel)) ggX7_nearestFree_X0_isFree
theorem dX7_nearestFree_0 : decode cX7_nearestFree 0 = .ok (.aload_n 0, 1) := by decide +kernel
theorem dX7_nearestFree_1 : decode cX7_nearestFree 1 = .ok (.iload_n 1, 1) := by decide +kernel
theorem dX7_nearestFree_2 : decode cX7_nearestFree 2 = .ok (.invokevirtual 69, 3) := by decide +kernel
theorem dX7_nearestFree_5 : decode cX7_nearestFree 5 = .ok (.aload_n 0, 1) := by decide +kernel
theorem dX7_nearestFree_6 : decode cX7_nearestFree 6 = .ok (.getfield 10, 3) := by decide +kernel
theorem dX7_nearestFree_9 : decode cX7_nearestFree 9 = .ok (.iload_n 1, 1) := by decide +kernel
theorem dX7_nearestFree_10 : decode cX7_nearestFree 10 = .ok (.iconst 1, 1) := by decide +kernel
theorem dX7_nearestFree_11 : decode cX7_nearestFree 11 = .ok (.invokevirtual 80, 3) := by decide +kernel
theorem dX7_nearestFree_14 : decode cX7_nearestFree 14 = .ok (.istore_n 2, 1) := by decide +kernel
theorem dX7_nearestFree_15 : decode cX7_nearestFree 15 = .ok (.iconst 1, 1) := by decide +kernel
theorem dX7_nearestFree_16 : decode cX7_nearestFree 16 = .ok (.istore_n 3, 1) := by decide +kernel
theorem dX7_nearestFree_17 : decode cX7_nearestFree 17 = .ok (.iload_n 3, 1) := by decide +kernel
theorem dX7_nearestFree_18 : decode cX7_nearestFree 18 = .ok (.bipush 9, 2) := by decide +kernel
theorem dX7_nearestFree_20 : decode cX7_nearestFree 20 = .ok (.if_icmp .gt 75, 3) := by decide +kernel
theorem dX7_nearestFree_23 : decode cX7_nearestFree 23 = .ok (.iconst 2, 1) := by decide +kernel
theorem dX7_nearestFree_24 : decode cX7_nearestFree 24 = .ok (.iload_n 3, 1) := by decide +kernel
theorem dX7_nearestFree_25 : decode cX7_nearestFree 25 = .ok (.imul, 1) := by decide +kernel
theorem dX7_nearestFree_26 : decode cX7_nearestFree 26 = .ok (.aload_n 0, 1) := by decide +kernel
theorem dX7_nearestFree_27 : decode cX7_nearestFree 27 = .ok (.getfield 10, 3) := by decide +kernel
theorem dX7_nearestFree_30 : decode cX7_nearestFree 30 = .ok (.iload_n 1, 1) := by decide +kernel
theorem dX7_nearestFree_31 : decode cX7_nearestFree 31 = .ok (.iconst 0, 1) := by decide +kernel
theorem dX7_nearestFree_32 : decode cX7_nearestFree 32 = .ok (.invokevirtual 80, 3) := by decide +kernel
theorem dX7_nearestFree_35 : decode cX7_nearestFree 35 = .ok (.if_icmp .gt 7, 3) := by decide +kernel
theorem dX7_nearestFree_38 : decode cX7_nearestFree 38 = .ok (.iconst 1, 1) := by decide +kernel
theorem dX7_nearestFree_39 : decode cX7_nearestFree 39 = .ok (.goto 4, 3) := by decide +kernel
theorem dX7_nearestFree_42 : decode cX7_nearestFree 42 = .ok (.iconst 0, 1) := by decide +kernel
theorem dX7_nearestFree_43 : decode cX7_nearestFree 43 = .ok (.istore 4, 2) := by decide +kernel
theorem dX7_nearestFree_45 : decode cX7_nearestFree 45 = .ok (.iload 4, 2) := by decide +kernel
theorem dX7_nearestFree_47 : decode cX7_nearestFree 47 = .ok (.ifCond .eq 20, 3) := by decide +kernel
theorem dX7_nearestFree_50 : decode cX7_nearestFree 50 = .ok (.aload_n 0, 1) := by decide +kernel
theorem dX7_nearestFree_51 : decode cX7_nearestFree 51 = .ok (.getfield 10, 3) := by decide +kernel
theorem dX7_nearestFree_54 : decode cX7_nearestFree 54 = .ok (.iload_n 2, 1) := by decide +kernel
theorem dX7_nearestFree_55 : decode cX7_nearestFree 55 = .ok (.iload_n 3, 1) := by decide +kernel
theorem dX7_nearestFree_56 : decode cX7_nearestFree 56 = .ok (.isub, 1) := by decide +kernel
theorem dX7_nearestFree_57 : decode cX7_nearestFree 57 = .ok (.invokevirtual 148, 3) := by decide +kernel
theorem dX7_nearestFree_60 : decode cX7_nearestFree 60 = .ok (.ifCond .eq 7, 3) := by decide +kernel
theorem dX7_nearestFree_63 : decode cX7_nearestFree 63 = .ok (.iload_n 2, 1) := by decide +kernel
theorem dX7_nearestFree_64 : decode cX7_nearestFree 64 = .ok (.iload_n 3, 1) := by decide +kernel
theorem dX7_nearestFree_65 : decode cX7_nearestFree 65 = .ok (.isub, 1) := by decide +kernel
theorem dX7_nearestFree_66 : decode cX7_nearestFree 66 = .ok (.ireturn, 1) := by decide +kernel
theorem dX7_nearestFree_67 : decode cX7_nearestFree 67 = .ok (.iload 4, 2) := by decide +kernel
theorem dX7_nearestFree_69 : decode cX7_nearestFree 69 = .ok (.ifCond .eq 20, 3) := by decide +kernel
theorem dX7_nearestFree_72 : decode cX7_nearestFree 72 = .ok (.aload_n 0, 1) := by decide +kernel
theorem dX7_nearestFree_73 : decode cX7_nearestFree 73 = .ok (.getfield 10, 3) := by decide +kernel
theorem dX7_nearestFree_76 : decode cX7_nearestFree 76 = .ok (.iload_n 2, 1) := by decide +kernel
theorem dX7_nearestFree_77 : decode cX7_nearestFree 77 = .ok (.iload_n 3, 1) := by decide +kernel
theorem dX7_nearestFree_78 : decode cX7_nearestFree 78 = .ok (.iadd, 1) := by decide +kernel
theorem dX7_nearestFree_79 : decode cX7_nearestFree 79 = .ok (.invokevirtual 148, 3) := by decide +kernel
theorem dX7_nearestFree_82 : decode cX7_nearestFree 82 = .ok (.ifCond .eq 7, 3) := by decide +kernel
theorem dX7_nearestFree_85 : decode cX7_nearestFree 85 = .ok (.iload_n 2, 1) := by decide +kernel
theorem dX7_nearestFree_86 : decode cX7_nearestFree 86 = .ok (.iload_n 3, 1) := by decide +kernel
theorem dX7_nearestFree_87 : decode cX7_nearestFree 87 = .ok (.iadd, 1) := by decide +kernel
theorem dX7_nearestFree_88 : decode cX7_nearestFree 88 = .ok (.ireturn, 1) := by decide +kernel
theorem dX7_nearestFree_89 : decode cX7_nearestFree 89 = .ok (.iinc 3 1, 3) := by decide +kernel
theorem dX7_nearestFree_92 : decode cX7_nearestFree 92 = .ok (.goto (-75), 3) := by decide +kernel
theorem dX7_nearestFree_95 : decode cX7_nearestFree 95 = .ok (.new 102, 3) := by decide +kernel
theorem dX7_nearestFree_98 : decode cX7_nearestFree 98 = .ok (.dup, 1) := by decide +kernel
theorem dX7_nearestFree_99 : decode cX7_nearestFree 99 = .ok (.ldc 151, 2) := by decide +kernel
theorem dX7_nearestFree_101 : decode cX7_nearestFree 101 = .ok (.invokespecial 106, 3) := by decide +kernel
theorem dX7_nearestFree_104 : decode cX7_nearestFree 104 = .ok (.athrow, 1) := by decide +kernel
set_option maxRecDepth 20000 in
theorem ggX7_ranked_X5_atPlace : GoodIn wsX7_ranked wsX5_atPlace := goodIn_ca (goodIn_r _ [9, 10, 11, 12, 13, 14, 15, 16, 17, 8, 18, 19, 20, 21, 22, 23, 24, 25, 26, 27, 28, 29, 30, 42] rfl (by decide +kernel)) (goodIn_sub (fun _ h => List.mem_cons_of_mem _ (List.mem_append_right _ h)) (by decide +kernel))
set_option maxRecDepth 20000 in
theorem gX7_ranked_X5_atPlace : GoodIn wsX7_ranked (va_wsS RX7 157 yX5_atPlace wsX5_atPlace) := goodIn_app (goodIn_r _ [6, 7, 8] rfl (by decide +kernel)) ggX7_ranked_X5_atPlace
theorem dX7_ranked_0 : decode cX7_ranked 0 = .ok (.iload_n 1, 1) := by decide +kernel
theorem dX7_ranked_1 : decode cX7_ranked 1 = .ok (.ifCond .lt 8, 3) := by decide +kernel
theorem dX7_ranked_4 : decode cX7_ranked 4 = .ok (.iload_n 1, 1) := by decide +kernel
theorem dX7_ranked_5 : decode cX7_ranked 5 = .ok (.iconst 4, 1) := by decide +kernel
theorem dX7_ranked_6 : decode cX7_ranked 6 = .ok (.if_icmp .lt 13, 3) := by decide +kernel
theorem dX7_ranked_9 : decode cX7_ranked 9 = .ok (.new 73, 3) := by decide +kernel
theorem dX7_ranked_12 : decode cX7_ranked 12 = .ok (.dup, 1) := by decide +kernel
theorem dX7_ranked_13 : decode cX7_ranked 13 = .ok (.ldc 155, 2) := by decide +kernel
theorem dX7_ranked_15 : decode cX7_ranked 15 = .ok (.invokespecial 77, 3) := by decide +kernel
theorem dX7_ranked_18 : decode cX7_ranked 18 = .ok (.athrow, 1) := by decide +kernel
theorem dX7_ranked_19 : decode cX7_ranked 19 = .ok (.aload_n 0, 1) := by decide +kernel
theorem dX7_ranked_20 : decode cX7_ranked 20 = .ok (.getfield 10, 3) := by decide +kernel
theorem dX7_ranked_23 : decode cX7_ranked 23 = .ok (.iload_n 1, 1) := by decide +kernel
theorem dX7_ranked_24 : decode cX7_ranked 24 = .ok (.iload_n 2, 1) := by decide +kernel
theorem dX7_ranked_25 : decode cX7_ranked 25 = .ok (.invokestatic 157, 3) := by decide +kernel
theorem dX7_ranked_28 : decode cX7_ranked 28 = .ok (.istore_n 3, 1) := by decide +kernel
theorem dX7_ranked_29 : decode cX7_ranked 29 = .ok (.iload_n 3, 1) := by decide +kernel
theorem dX7_ranked_30 : decode cX7_ranked 30 = .ok (.iconst (-1), 1) := by decide +kernel
theorem dX7_ranked_31 : decode cX7_ranked 31 = .ok (.if_icmp .ne 13, 3) := by decide +kernel
theorem dX7_ranked_34 : decode cX7_ranked 34 = .ok (.new 102, 3) := by decide +kernel
theorem dX7_ranked_37 : decode cX7_ranked 37 = .ok (.dup, 1) := by decide +kernel
theorem dX7_ranked_38 : decode cX7_ranked 38 = .ok (.ldc 160, 2) := by decide +kernel
theorem dX7_ranked_40 : decode cX7_ranked 40 = .ok (.invokespecial 106, 3) := by decide +kernel
theorem dX7_ranked_43 : decode cX7_ranked 43 = .ok (.athrow, 1) := by decide +kernel
theorem dX7_ranked_44 : decode cX7_ranked 44 = .ok (.iload_n 3, 1) := by decide +kernel
theorem dX7_ranked_45 : decode cX7_ranked 45 = .ok (.ireturn, 1) := by decide +kernel
set_option maxRecDepth 20000 in
theorem ggX7_weather_X0_get : GoodIn wsX7_weather wsX0_get := goodIn_ca (goodIn_r _ [8, 9, 21] rfl (by decide +kernel)) (goodIn_sub (fun _ h => List.mem_cons_of_mem _ (List.mem_append_right _ h)) (by decide +kernel))
set_option maxRecDepth 20000 in
theorem gX7_weather_X0_get : GoodIn wsX7_weather (wsV RX7 84 RX0 yX0_get wsX0_get) := goodIn_app (goodIn_r _ [4, 5, 6, 7] rfl (by decide +kernel)) ggX7_weather_X0_get
theorem dX7_weather_0 : decode cX7_weather 0 = .ok (.iload_n 1, 1) := by decide +kernel
theorem dX7_weather_1 : decode cX7_weather 1 = .ok (.ifCond .lt 9, 3) := by decide +kernel
theorem dX7_weather_4 : decode cX7_weather 4 = .ok (.iload_n 1, 1) := by decide +kernel
theorem dX7_weather_5 : decode cX7_weather 5 = .ok (.bipush 6, 2) := by decide +kernel
theorem dX7_weather_7 : decode cX7_weather 7 = .ok (.if_icmp .lt 13, 3) := by decide +kernel
theorem dX7_weather_10 : decode cX7_weather 10 = .ok (.new 73, 3) := by decide +kernel
theorem dX7_weather_13 : decode cX7_weather 13 = .ok (.dup, 1) := by decide +kernel
theorem dX7_weather_14 : decode cX7_weather 14 = .ok (.ldc 162, 2) := by decide +kernel
theorem dX7_weather_16 : decode cX7_weather 16 = .ok (.invokespecial 77, 3) := by decide +kernel
theorem dX7_weather_19 : decode cX7_weather 19 = .ok (.athrow, 1) := by decide +kernel
theorem dX7_weather_20 : decode cX7_weather 20 = .ok (.aload_n 0, 1) := by decide +kernel
theorem dX7_weather_21 : decode cX7_weather 21 = .ok (.getfield 10, 3) := by decide +kernel
theorem dX7_weather_24 : decode cX7_weather 24 = .ok (.iconst 1, 1) := by decide +kernel
theorem dX7_weather_25 : decode cX7_weather 25 = .ok (.iload_n 1, 1) := by decide +kernel
theorem dX7_weather_26 : decode cX7_weather 26 = .ok (.iadd, 1) := by decide +kernel
theorem dX7_weather_27 : decode cX7_weather 27 = .ok (.invokevirtual 84, 3) := by decide +kernel
theorem dX7_weather_30 : decode cX7_weather 30 = .ok (.ireturn, 1) := by decide +kernel
set_option maxRecDepth 20000 in
theorem ggX7_append_X1_isFull : GoodIn wsX7_append wsX1_isFull := goodIn_r _ [8, 9, 30, 31, 32, 33, 34, 35] rfl (by decide +kernel)
set_option maxRecDepth 20000 in
theorem gX7_append_X1_isFull : GoodIn wsX7_append (wsV RX7 168 RX1 yX1_isFull wsX1_isFull) := goodIn_app (goodIn_r _ [4, 5, 6, 7] rfl (by decide +kernel)) ggX7_append_X1_isFull
set_option maxRecDepth 20000 in
theorem ggX7_append_X1_add : GoodIn wsX7_append wsX1_add := goodIn_ca (goodIn_r _ [13, 9, 14, 30, 31, 32, 33, 34, 35] rfl (by decide +kernel)) (goodIn_sub (fun _ h => List.mem_cons_of_mem _ (List.mem_append_right _ h)) (by decide +kernel))
set_option maxRecDepth 20000 in
theorem gX7_append_X1_add : GoodIn wsX7_append (wsV RX7 177 RX1 yX1_add wsX1_add) := goodIn_app (goodIn_r _ [10, 11, 12, 7] rfl (by decide +kernel)) ggX7_append_X1_add
set_option maxRecDepth 20000 in
theorem ggX7_append_X1_length : GoodIn wsX7_append wsX1_length := goodIn_r _ [18, 9, 30, 31, 32, 33, 34, 35] rfl (by decide +kernel)
set_option maxRecDepth 20000 in
theorem gX7_append_X1_length : GoodIn wsX7_append (wsV RX7 181 RX1 yX1_length wsX1_length) := goodIn_app (goodIn_r _ [15, 16, 17, 7] rfl (by decide +kernel)) ggX7_append_X1_length
theorem dX7_append_0 : decode cX7_append 0 = .ok (.aload_n 0, 1) := by decide +kernel
theorem dX7_append_1 : decode cX7_append 1 = .ok (.getfield 33, 3) := by decide +kernel
theorem dX7_append_4 : decode cX7_append 4 = .ok (.invokevirtual 168, 3) := by decide +kernel
theorem dX7_append_7 : decode cX7_append 7 = .ok (.ifCond .eq 13, 3) := by decide +kernel
theorem dX7_append_10 : decode cX7_append 10 = .ok (.new 172, 3) := by decide +kernel
theorem dX7_append_13 : decode cX7_append 13 = .ok (.dup, 1) := by decide +kernel
theorem dX7_append_14 : decode cX7_append 14 = .ok (.ldc 174, 2) := by decide +kernel
theorem dX7_append_16 : decode cX7_append 16 = .ok (.invokespecial 176, 3) := by decide +kernel
theorem dX7_append_19 : decode cX7_append 19 = .ok (.athrow, 1) := by decide +kernel
theorem dX7_append_20 : decode cX7_append 20 = .ok (.aload_n 0, 1) := by decide +kernel
theorem dX7_append_21 : decode cX7_append 21 = .ok (.getfield 33, 3) := by decide +kernel
theorem dX7_append_24 : decode cX7_append 24 = .ok (.iload_n 1, 1) := by decide +kernel
theorem dX7_append_25 : decode cX7_append 25 = .ok (.invokevirtual 177, 3) := by decide +kernel
theorem dX7_append_28 : decode cX7_append 28 = .ok (.aload_n 0, 1) := by decide +kernel
theorem dX7_append_29 : decode cX7_append 29 = .ok (.getfield 33, 3) := by decide +kernel
theorem dX7_append_32 : decode cX7_append 32 = .ok (.invokevirtual 181, 3) := by decide +kernel
theorem dX7_append_35 : decode cX7_append 35 = .ok (.ireturn, 1) := by decide +kernel
set_option maxRecDepth 20000 in
theorem ggX7_commands_X1_scan : GoodIn wsX7_commands wsX1_scan := goodIn_ca (goodIn_r _ [14, 15, 16, 17, 18, 19, 20, 21, 13, 22, 23, 24, 25, 26, 27, 28, 29, 30, 31, 32, 33, 34, 35, 36, 37, 38, 39, 40, 41, 42, 43, 44, 45, 46, 47, 48, 49, 50, 51, 52, 53, 54, 55, 56, 57, 58, 59, 60, 61, 319, 320, 321, 322, 323, 324] rfl (by decide +kernel)) (goodIn_sub (fun _ h => List.mem_cons_of_mem _ (List.mem_append_left _ (List.mem_append_right _ h))) (by decide +kernel))
set_option maxRecDepth 20000 in
theorem gX7_commands_X1_scan : GoodIn wsX7_commands (wsV RX7 184 RX1 yX1_scan wsX1_scan) := goodIn_app (goodIn_r _ [10, 11, 12, 13] rfl (by decide +kernel)) ggX7_commands_X1_scan
set_option maxRecDepth 20000 in
theorem ggX7_commands_X1_empty : GoodIn wsX7_commands wsX1_empty := goodIn_r _ [65, 18, 319, 320, 321, 322, 323, 324] rfl (by decide +kernel)
set_option maxRecDepth 20000 in
theorem gX7_commands_X1_empty : GoodIn wsX7_commands (wsV RX7 187 RX1 yX1_empty wsX1_empty) := goodIn_app (goodIn_r _ [62, 63, 64, 13] rfl (by decide +kernel)) ggX7_commands_X1_empty
set_option maxRecDepth 20000 in
theorem ggX7_commands_X2_prepare : GoodIn wsX7_commands wsX2_prepare := goodIn_r _ [70, 71, 72, 73, 74, 75, 76, 77, 78, 79, 80, 81, 82, 325, 326, 327, 328] rfl (by decide +kernel)
set_option maxRecDepth 20000 in
theorem gX7_commands_X2_prepare : GoodIn wsX7_commands (wsV RX7 192 RX2 yX2_prepare wsX2_prepare) := goodIn_app (goodIn_r _ [66, 67, 68, 69] rfl (by decide +kernel)) ggX7_commands_X2_prepare
set_option maxRecDepth 20000 in
theorem ggX7_commands_X1_size : GoodIn wsX7_commands wsX1_size := goodIn_r _ [86, 17, 319, 320, 321, 322, 323, 324] rfl (by decide +kernel)
set_option maxRecDepth 20000 in
theorem gX7_commands_X1_size : GoodIn wsX7_commands (wsV RX7 196 RX1 yX1_size wsX1_size) := goodIn_app (goodIn_r _ [83, 84, 85, 13] rfl (by decide +kernel)) ggX7_commands_X1_size
set_option maxRecDepth 20000 in
theorem ggX7_commands_X1_kind : GoodIn wsX7_commands wsX1_kind := goodIn_ca (goodIn_r _ [90, 91, 92, 93, 13, 94, 39, 40, 41, 42, 319, 320, 321, 322, 323, 324] rfl (by decide +kernel)) (goodIn_sub (fun _ h => List.mem_cons_of_mem _ (List.mem_append_left _ (List.mem_append_right _ h))) (by decide +kernel))
set_option maxRecDepth 20000 in
theorem gX7_commands_X1_kind : GoodIn wsX7_commands (wsV RX7 199 RX1 yX1_kind wsX1_kind) := goodIn_app (goodIn_r _ [87, 88, 89, 13] rfl (by decide +kernel)) ggX7_commands_X1_kind
set_option maxRecDepth 20000 in
theorem ggX7_commands_X1_number : GoodIn wsX7_commands wsX1_number := goodIn_ca (goodIn_r _ [94, 39, 40, 41, 13, 42, 319, 320, 321, 322, 323, 324] rfl (by decide +kernel)) (goodIn_sub (fun _ h => List.mem_cons_of_mem _ (List.mem_append_left _ (List.mem_append_right _ h))) (by decide +kernel))
set_option maxRecDepth 20000 in
theorem gX7_commands_X1_number : GoodIn wsX7_commands (wsV RX7 202 RX1 yX1_number wsX1_number) := goodIn_app (goodIn_r _ [95, 92, 93, 13] rfl (by decide +kernel)) ggX7_commands_X1_number
set_option maxRecDepth 20000 in
theorem ggX7_commands_X6_carryOut : GoodIn wsX7_commands wsX6_carryOut := goodIn_ca (goodIn_ca (goodIn_r _ [100, 101, 102, 103, 104, 105, 99, 106, 107, 108, 109, 110, 111, 112, 113, 114, 115, 116, 76, 117, 78, 118, 119, 120, 121, 122, 123, 124, 125, 126, 127, 128, 129, 130, 131, 132, 133, 134, 135, 136, 137, 138, 139, 140, 141, 142, 143, 144, 145, 146, 147, 148, 149, 150, 151, 152, 153, 154, 155, 156, 157, 158, 159, 160, 161, 162, 163, 164, 165, 166, 167, 168, 169, 170, 171, 172, 173, 174, 175, 176, 177, 178, 179, 180, 181, 182, 183, 184, 185, 186, 187, 188, 189, 190, 191, 192, 193, 194, 195, 196, 197, 198, 199, 200, 201, 202, 203, 204, 205, 206, 207, 208, 209, 210, 211, 212, 213, 214, 215, 216, 217, 218, 219, 220, 221, 222, 223, 224, 225, 226, 227, 228, 229, 230, 231, 232, 233, 234, 235, 236, 237, 238, 239, 240, 241, 242, 243, 244, 245, 246, 247, 248, 249, 250, 251, 252, 253, 254, 255, 256, 257, 258, 259, 260, 261, 262, 263, 264, 265, 266, 267, 268, 269, 270, 271, 272, 329, 330, 328] rfl (by decide +kernel)) (goodIn_sub (fun _ h => List.mem_cons_of_mem _ (List.mem_append_left _ (List.mem_append_right _ h))) (by decide +kernel))) (goodIn_sub (fun _ h => List.mem_cons_of_mem _ (List.mem_append_right _ h)) (by decide +kernel))
set_option maxRecDepth 20000 in
theorem gX7_commands_X6_carryOut : GoodIn wsX7_commands (wsV RX7 205 RX6 yX6_carryOut wsX6_carryOut) := goodIn_app (goodIn_r _ [96, 97, 98, 99] rfl (by decide +kernel)) ggX7_commands_X6_carryOut
set_option maxRecDepth 20000 in
theorem ggX7_commands_X6_isRefused : GoodIn wsX7_commands wsX6_isRefused := goodIn_r _ [276, 101, 329, 330] rfl (by decide +kernel)
set_option maxRecDepth 20000 in
theorem gX7_commands_X6_isRefused : GoodIn wsX7_commands (wsV RX7 209 RX6 yX6_isRefused wsX6_isRefused) := goodIn_app (goodIn_r _ [273, 274, 275, 99] rfl (by decide +kernel)) ggX7_commands_X6_isRefused
set_option maxRecDepth 20000 in
theorem ggX7_commands_X2_returnToPrepared : GoodIn wsX7_commands wsX2_returnToPrepared := goodIn_r _ [280, 71, 72, 281, 282, 283, 76, 284, 78, 79, 80, 81, 82, 325, 326, 327, 328] rfl (by decide +kernel)
set_option maxRecDepth 20000 in
theorem gX7_commands_X2_returnToPrepared : GoodIn wsX7_commands (wsV RX7 212 RX2 yX2_returnToPrepared wsX2_returnToPrepared) := goodIn_app (goodIn_r _ [277, 278, 279, 69] rfl (by decide +kernel)) ggX7_commands_X2_returnToPrepared
set_option maxRecDepth 20000 in
theorem ggX7_commands_X7_keepReason : GoodIn wsX7_commands wsX7_keepReason := goodIn_r _ [288, 9, 289, 290, 291, 292, 293, 294, 99, 295, 101, 296, 297, 298, 299, 102, 308, 309, 310, 311, 312, 313, 314, 315, 316, 317, 318, 329, 330] rfl (by decide +kernel)
set_option maxRecDepth 20000 in
theorem gX7_commands_X7_keepReason : GoodIn wsX7_commands (wsV RX7 215 RX7 yX7_keepReason wsX7_keepReason) := goodIn_app (goodIn_r _ [285, 286, 287, 108] rfl (by decide +kernel)) ggX7_commands_X7_keepReason
set_option maxRecDepth 20000 in
theorem ggX7_commands_X2_accept : GoodIn wsX7_commands wsX2_accept := goodIn_r _ [303, 72, 304, 305, 306, 179, 307, 325, 326, 327] rfl (by decide +kernel)
set_option maxRecDepth 20000 in
theorem gX7_commands_X2_accept : GoodIn wsX7_commands (wsV RX7 223 RX2 yX2_accept wsX2_accept) := goodIn_app (goodIn_r _ [300, 301, 302, 69] rfl (by decide +kernel)) ggX7_commands_X2_accept
theorem dX7_commands_0 : decode cX7_commands 0 = .ok (.aload_n 0, 1) := by decide +kernel
theorem dX7_commands_1 : decode cX7_commands 1 = .ok (.aload_n 0, 1) := by decide +kernel
theorem dX7_commands_2 : decode cX7_commands 2 = .ok (.getfield 33, 3) := by decide +kernel
theorem dX7_commands_5 : decode cX7_commands 5 = .ok (.invokevirtual 184, 3) := by decide +kernel
theorem dX7_commands_8 : decode cX7_commands 8 = .ok (.putfield 52, 3) := by decide +kernel
theorem dX7_commands_11 : decode cX7_commands 11 = .ok (.aload_n 0, 1) := by decide +kernel
theorem dX7_commands_12 : decode cX7_commands 12 = .ok (.getfield 33, 3) := by decide +kernel
theorem dX7_commands_15 : decode cX7_commands 15 = .ok (.invokevirtual 187, 3) := by decide +kernel
theorem dX7_commands_18 : decode cX7_commands 18 = .ok (.aload_n 0, 1) := by decide +kernel
theorem dX7_commands_19 : decode cX7_commands 19 = .ok (.getfield 52, 3) := by decide +kernel
theorem dX7_commands_22 : decode cX7_commands 22 = .ok (.iconst (-1), 1) := by decide +kernel
theorem dX7_commands_23 : decode cX7_commands 23 = .ok (.if_icmp .eq 13, 3) := by decide +kernel
theorem dX7_commands_26 : decode cX7_commands 26 = .ok (.new 73, 3) := by decide +kernel
theorem dX7_commands_29 : decode cX7_commands 29 = .ok (.dup, 1) := by decide +kernel
theorem dX7_commands_30 : decode cX7_commands 30 = .ok (.ldc 190, 2) := by decide +kernel
theorem dX7_commands_32 : decode cX7_commands 32 = .ok (.invokespecial 77, 3) := by decide +kernel
theorem dX7_commands_35 : decode cX7_commands 35 = .ok (.athrow, 1) := by decide +kernel
theorem dX7_commands_36 : decode cX7_commands 36 = .ok (.aload_n 0, 1) := by decide +kernel
theorem dX7_commands_37 : decode cX7_commands 37 = .ok (.getfield 26, 3) := by decide +kernel
theorem dX7_commands_40 : decode cX7_commands 40 = .ok (.aload_n 0, 1) := by decide +kernel
theorem dX7_commands_41 : decode cX7_commands 41 = .ok (.getfield 10, 3) := by decide +kernel
theorem dX7_commands_44 : decode cX7_commands 44 = .ok (.invokevirtual 192, 3) := by decide +kernel
theorem dX7_commands_47 : decode cX7_commands 47 = .ok (.iconst 0, 1) := by decide +kernel
theorem dX7_commands_48 : decode cX7_commands 48 = .ok (.istore_n 1, 1) := by decide +kernel
theorem dX7_commands_49 : decode cX7_commands 49 = .ok (.iload_n 1, 1) := by decide +kernel
theorem dX7_commands_50 : decode cX7_commands 50 = .ok (.aload_n 0, 1) := by decide +kernel
theorem dX7_commands_51 : decode cX7_commands 51 = .ok (.getfield 33, 3) := by decide +kernel
theorem dX7_commands_54 : decode cX7_commands 54 = .ok (.invokevirtual 196, 3) := by decide +kernel
theorem dX7_commands_57 : decode cX7_commands 57 = .ok (.if_icmp .ge 92, 3) := by decide +kernel
theorem dX7_commands_60 : decode cX7_commands 60 = .ok (.aload_n 0, 1) := by decide +kernel
theorem dX7_commands_61 : decode cX7_commands 61 = .ok (.getfield 19, 3) := by decide +kernel
theorem dX7_commands_64 : decode cX7_commands 64 = .ok (.aload_n 0, 1) := by decide +kernel
theorem dX7_commands_65 : decode cX7_commands 65 = .ok (.getfield 10, 3) := by decide +kernel
theorem dX7_commands_68 : decode cX7_commands 68 = .ok (.aload_n 0, 1) := by decide +kernel
theorem dX7_commands_69 : decode cX7_commands 69 = .ok (.getfield 33, 3) := by decide +kernel
theorem dX7_commands_72 : decode cX7_commands 72 = .ok (.iload_n 1, 1) := by decide +kernel
theorem dX7_commands_73 : decode cX7_commands 73 = .ok (.invokevirtual 199, 3) := by decide +kernel
theorem dX7_commands_76 : decode cX7_commands 76 = .ok (.aload_n 0, 1) := by decide +kernel
theorem dX7_commands_77 : decode cX7_commands 77 = .ok (.getfield 33, 3) := by decide +kernel
theorem dX7_commands_80 : decode cX7_commands 80 = .ok (.iload_n 1, 1) := by decide +kernel
theorem dX7_commands_81 : decode cX7_commands 81 = .ok (.iconst 1, 1) := by decide +kernel
theorem dX7_commands_82 : decode cX7_commands 82 = .ok (.invokevirtual 202, 3) := by decide +kernel
theorem dX7_commands_85 : decode cX7_commands 85 = .ok (.aload_n 0, 1) := by decide +kernel
theorem dX7_commands_86 : decode cX7_commands 86 = .ok (.getfield 33, 3) := by decide +kernel
theorem dX7_commands_89 : decode cX7_commands 89 = .ok (.iload_n 1, 1) := by decide +kernel
theorem dX7_commands_90 : decode cX7_commands 90 = .ok (.iconst 2, 1) := by decide +kernel
theorem dX7_commands_91 : decode cX7_commands 91 = .ok (.invokevirtual 202, 3) := by decide +kernel
theorem dX7_commands_94 : decode cX7_commands 94 = .ok (.aload_n 0, 1) := by decide +kernel
theorem dX7_commands_95 : decode cX7_commands 95 = .ok (.getfield 33, 3) := by decide +kernel
theorem dX7_commands_98 : decode cX7_commands 98 = .ok (.iload_n 1, 1) := by decide +kernel
theorem dX7_commands_99 : decode cX7_commands 99 = .ok (.iconst 3, 1) := by decide +kernel
theorem dX7_commands_100 : decode cX7_commands 100 = .ok (.invokevirtual 202, 3) := by decide +kernel
theorem dX7_commands_103 : decode cX7_commands 103 = .ok (.invokevirtual 205, 3) := by decide +kernel
theorem dX7_commands_106 : decode cX7_commands 106 = .ok (.pop, 1) := by decide +kernel
theorem dX7_commands_107 : decode cX7_commands 107 = .ok (.aload_n 0, 1) := by decide +kernel
theorem dX7_commands_108 : decode cX7_commands 108 = .ok (.getfield 19, 3) := by decide +kernel
theorem dX7_commands_111 : decode cX7_commands 111 = .ok (.invokevirtual 209, 3) := by decide +kernel
theorem dX7_commands_114 : decode cX7_commands 114 = .ok (.ifCond .eq 29, 3) := by decide +kernel
theorem dX7_commands_117 : decode cX7_commands 117 = .ok (.aload_n 0, 1) := by decide +kernel
theorem dX7_commands_118 : decode cX7_commands 118 = .ok (.getfield 26, 3) := by decide +kernel
theorem dX7_commands_121 : decode cX7_commands 121 = .ok (.aload_n 0, 1) := by decide +kernel
theorem dX7_commands_122 : decode cX7_commands 122 = .ok (.getfield 10, 3) := by decide +kernel
theorem dX7_commands_125 : decode cX7_commands 125 = .ok (.invokevirtual 212, 3) := by decide +kernel
theorem dX7_commands_128 : decode cX7_commands 128 = .ok (.aload_n 0, 1) := by decide +kernel
theorem dX7_commands_129 : decode cX7_commands 129 = .ok (.iload_n 1, 1) := by decide +kernel
theorem dX7_commands_130 : decode cX7_commands 130 = .ok (.invokevirtual 215, 3) := by decide +kernel
theorem dX7_commands_133 : decode cX7_commands 133 = .ok (.new 218, 3) := by decide +kernel
theorem dX7_commands_136 : decode cX7_commands 136 = .ok (.dup, 1) := by decide +kernel
theorem dX7_commands_137 : decode cX7_commands 137 = .ok (.ldc 220, 2) := by decide +kernel
theorem dX7_commands_139 : decode cX7_commands 139 = .ok (.invokespecial 222, 3) := by decide +kernel
theorem dX7_commands_142 : decode cX7_commands 142 = .ok (.athrow, 1) := by decide +kernel
theorem dX7_commands_143 : decode cX7_commands 143 = .ok (.iinc 1 1, 3) := by decide +kernel
theorem dX7_commands_146 : decode cX7_commands 146 = .ok (.goto (-97), 3) := by decide +kernel
theorem dX7_commands_149 : decode cX7_commands 149 = .ok (.aload_n 0, 1) := by decide +kernel
theorem dX7_commands_150 : decode cX7_commands 150 = .ok (.getfield 26, 3) := by decide +kernel
theorem dX7_commands_153 : decode cX7_commands 153 = .ok (.invokevirtual 223, 3) := by decide +kernel
theorem dX7_commands_156 : decode cX7_commands 156 = .ok (.aload_n 0, 1) := by decide +kernel
theorem dX7_commands_157 : decode cX7_commands 157 = .ok (.getfield 33, 3) := by decide +kernel
theorem dX7_commands_160 : decode cX7_commands 160 = .ok (.invokevirtual 196, 3) := by decide +kernel
theorem dX7_commands_163 : decode cX7_commands 163 = .ok (.ireturn, 1) := by decide +kernel
theorem dX7_faultPosition_0 : decode cX7_faultPosition 0 = .ok (.aload_n 0, 1) := by decide +kernel
theorem dX7_faultPosition_1 : decode cX7_faultPosition 1 = .ok (.getfield 52, 3) := by decide +kernel
theorem dX7_faultPosition_4 : decode cX7_faultPosition 4 = .ok (.ireturn, 1) := by decide +kernel
theorem dX7_reason_0 : decode cX7_reason 0 = .ok (.iload_n 1, 1) := by decide +kernel
theorem dX7_reason_1 : decode cX7_reason 1 = .ok (.ifCond .lt 8, 3) := by decide +kernel
theorem dX7_reason_4 : decode cX7_reason 4 = .ok (.iload_n 1, 1) := by decide +kernel
theorem dX7_reason_5 : decode cX7_reason 5 = .ok (.iconst 2, 1) := by decide +kernel
theorem dX7_reason_6 : decode cX7_reason 6 = .ok (.if_icmp .le 13, 3) := by decide +kernel
theorem dX7_reason_9 : decode cX7_reason 9 = .ok (.new 73, 3) := by decide +kernel
theorem dX7_reason_12 : decode cX7_reason 12 = .ok (.dup, 1) := by decide +kernel
theorem dX7_reason_13 : decode cX7_reason 13 = .ok (.ldc 226, 2) := by decide +kernel
theorem dX7_reason_15 : decode cX7_reason 15 = .ok (.invokespecial 77, 3) := by decide +kernel
theorem dX7_reason_18 : decode cX7_reason 18 = .ok (.athrow, 1) := by decide +kernel
theorem dX7_reason_19 : decode cX7_reason 19 = .ok (.aload_n 0, 1) := by decide +kernel
theorem dX7_reason_20 : decode cX7_reason 20 = .ok (.getfield 56, 3) := by decide +kernel
theorem dX7_reason_23 : decode cX7_reason 23 = .ok (.ifCond .ne 13, 3) := by decide +kernel
theorem dX7_reason_26 : decode cX7_reason 26 = .ok (.new 102, 3) := by decide +kernel
theorem dX7_reason_29 : decode cX7_reason 29 = .ok (.dup, 1) := by decide +kernel
theorem dX7_reason_30 : decode cX7_reason 30 = .ok (.ldc 228, 2) := by decide +kernel
theorem dX7_reason_32 : decode cX7_reason 32 = .ok (.invokespecial 106, 3) := by decide +kernel
theorem dX7_reason_35 : decode cX7_reason 35 = .ok (.athrow, 1) := by decide +kernel
theorem dX7_reason_36 : decode cX7_reason 36 = .ok (.iload_n 1, 1) := by decide +kernel
theorem dX7_reason_37 : decode cX7_reason 37 = .ok (.ifCond .ne 8, 3) := by decide +kernel
theorem dX7_reason_40 : decode cX7_reason 40 = .ok (.aload_n 0, 1) := by decide +kernel
theorem dX7_reason_41 : decode cX7_reason 41 = .ok (.getfield 56, 3) := by decide +kernel
theorem dX7_reason_44 : decode cX7_reason 44 = .ok (.ireturn, 1) := by decide +kernel
theorem dX7_reason_45 : decode cX7_reason 45 = .ok (.iload_n 1, 1) := by decide +kernel
theorem dX7_reason_46 : decode cX7_reason 46 = .ok (.iconst 1, 1) := by decide +kernel
theorem dX7_reason_47 : decode cX7_reason 47 = .ok (.if_icmp .ne 10, 3) := by decide +kernel
theorem dX7_reason_50 : decode cX7_reason 50 = .ok (.aload_n 0, 1) := by decide +kernel
theorem dX7_reason_51 : decode cX7_reason 51 = .ok (.getfield 59, 3) := by decide +kernel
theorem dX7_reason_54 : decode cX7_reason 54 = .ok (.goto 7, 3) := by decide +kernel
theorem dX7_reason_57 : decode cX7_reason 57 = .ok (.aload_n 0, 1) := by decide +kernel
theorem dX7_reason_58 : decode cX7_reason 58 = .ok (.getfield 62, 3) := by decide +kernel
theorem dX7_reason_61 : decode cX7_reason 61 = .ok (.ireturn, 1) := by decide +kernel
set_option maxRecDepth 20000 in
theorem ggX7_line_X7_refuseStranger : GoodIn wsX7_line wsX7_refuseStranger := goodIn_ca (goodIn_ca (goodIn_r _ [7, 8, 9, 2, 10, 11, 12, 13, 14, 15, 51, 52, 53, 54, 55, 56, 57, 58, 59, 60, 61, 62] rfl (by decide +kernel)) (goodIn_sub (fun _ h => List.mem_cons_of_mem _ (List.mem_append_left _ (List.mem_append_left _ (List.mem_append_right _ h)))) (by decide +kernel))) (goodIn_sub (fun _ h => List.mem_cons_of_mem _ (List.mem_append_left _ (List.mem_append_right _ h))) (by decide +kernel))
set_option maxRecDepth 20000 in
theorem gX7_line_X7_refuseStranger : GoodIn wsX7_line (wsV RX7 69 RX7 yX7_refuseStranger wsX7_refuseStranger) := goodIn_app (goodIn_r _ [3, 4, 5, 6] rfl (by decide +kernel)) ggX7_line_X7_refuseStranger
set_option maxRecDepth 20000 in
theorem ggX7_line_X4_writeMember : GoodIn wsX7_line wsX4_writeMember := goodIn_ca (goodIn_ca (goodIn_r _ [20, 21, 22, 23, 24, 13, 25, 15, 26, 27, 28, 19, 29, 30, 31, 32, 33, 34, 35, 36, 37, 38, 39, 40, 41, 42, 43, 44, 45, 46, 63, 64, 62] rfl (by decide +kernel)) (goodIn_sub (fun _ h => List.mem_cons_of_mem _ (List.mem_append_left _ (List.mem_append_right _ h))) (by decide +kernel))) (goodIn_sub (fun _ h => List.mem_cons_of_mem _ (List.mem_append_right _ h)) (by decide +kernel))
set_option maxRecDepth 20000 in
theorem gX7_line_X4_writeMember : GoodIn wsX7_line (wsV RX7 230 RX4 yX4_writeMember wsX4_writeMember) := goodIn_app (goodIn_r _ [16, 17, 18, 19] rfl (by decide +kernel)) ggX7_line_X4_writeMember
set_option maxRecDepth 20000 in
theorem ggX7_line_X4_length : GoodIn wsX7_line wsX4_length := goodIn_r _ [50, 21, 63, 64] rfl (by decide +kernel)
set_option maxRecDepth 20000 in
theorem gX7_line_X4_length : GoodIn wsX7_line (wsV RX7 234 RX4 yX4_length wsX4_length) := goodIn_app (goodIn_r _ [47, 48, 49, 19] rfl (by decide +kernel)) ggX7_line_X4_length
theorem dX7_line_0 : decode cX7_line 0 = .ok (.aload_n 0, 1) := by decide +kernel
theorem dX7_line_1 : decode cX7_line 1 = .ok (.iload_n 1, 1) := by decide +kernel
theorem dX7_line_2 : decode cX7_line 2 = .ok (.invokevirtual 69, 3) := by decide +kernel
theorem dX7_line_5 : decode cX7_line 5 = .ok (.aload_n 0, 1) := by decide +kernel
theorem dX7_line_6 : decode cX7_line 6 = .ok (.getfield 40, 3) := by decide +kernel
theorem dX7_line_9 : decode cX7_line 9 = .ok (.aload_n 0, 1) := by decide +kernel
theorem dX7_line_10 : decode cX7_line 10 = .ok (.getfield 10, 3) := by decide +kernel
theorem dX7_line_13 : decode cX7_line 13 = .ok (.iload_n 1, 1) := by decide +kernel
theorem dX7_line_14 : decode cX7_line 14 = .ok (.invokevirtual 230, 3) := by decide +kernel
theorem dX7_line_17 : decode cX7_line 17 = .ok (.aload_n 0, 1) := by decide +kernel
theorem dX7_line_18 : decode cX7_line 18 = .ok (.getfield 40, 3) := by decide +kernel
theorem dX7_line_21 : decode cX7_line 21 = .ok (.invokevirtual 234, 3) := by decide +kernel
theorem dX7_line_24 : decode cX7_line 24 = .ok (.ireturn, 1) := by decide +kernel
set_option maxRecDepth 20000 in
theorem ggX7_board_X4_writeHeights : GoodIn wsX7_board wsX4_writeHeights := goodIn_ca (goodIn_r _ [7, 8, 9, 10, 11, 12, 13, 14, 15, 16, 17, 18, 19, 20, 6, 21, 22, 23, 24, 25, 26, 42, 43, 44] rfl (by decide +kernel)) (goodIn_sub (fun _ h => List.mem_cons_of_mem _ (List.mem_append_right _ h)) (by decide +kernel))
set_option maxRecDepth 20000 in
theorem gX7_board_X4_writeHeights : GoodIn wsX7_board (wsV RX7 235 RX4 yX4_writeHeights wsX4_writeHeights) := goodIn_app (goodIn_r _ [3, 4, 5, 6] rfl (by decide +kernel)) ggX7_board_X4_writeHeights
set_option maxRecDepth 20000 in
theorem ggX7_board_X4_length : GoodIn wsX7_board wsX4_length := goodIn_r _ [30, 8, 42, 43] rfl (by decide +kernel)
set_option maxRecDepth 20000 in
theorem gX7_board_X4_length : GoodIn wsX7_board (wsV RX7 234 RX4 yX4_length wsX4_length) := goodIn_app (goodIn_r _ [27, 28, 29, 6] rfl (by decide +kernel)) ggX7_board_X4_length
theorem dX7_board_0 : decode cX7_board 0 = .ok (.aload_n 0, 1) := by decide +kernel
theorem dX7_board_1 : decode cX7_board 1 = .ok (.getfield 40, 3) := by decide +kernel
theorem dX7_board_4 : decode cX7_board 4 = .ok (.aload_n 0, 1) := by decide +kernel
theorem dX7_board_5 : decode cX7_board 5 = .ok (.getfield 10, 3) := by decide +kernel
theorem dX7_board_8 : decode cX7_board 8 = .ok (.invokevirtual 235, 3) := by decide +kernel
theorem dX7_board_11 : decode cX7_board 11 = .ok (.aload_n 0, 1) := by decide +kernel
theorem dX7_board_12 : decode cX7_board 12 = .ok (.getfield 40, 3) := by decide +kernel
theorem dX7_board_15 : decode cX7_board 15 = .ok (.invokevirtual 234, 3) := by decide +kernel
theorem dX7_board_18 : decode cX7_board 18 = .ok (.ireturn, 1) := by decide +kernel
set_option maxRecDepth 20000 in
theorem ggX7_character_X4_length : GoodIn wsX7_character wsX4_length := goodIn_r _ [8, 9, 26, 27] rfl (by decide +kernel)
set_option maxRecDepth 20000 in
theorem gX7_character_X4_length : GoodIn wsX7_character (wsV RX7 234 RX4 yX4_length wsX4_length) := goodIn_app (goodIn_r _ [4, 5, 6, 7] rfl (by decide +kernel)) ggX7_character_X4_length
set_option maxRecDepth 20000 in
theorem ggX7_character_X4_at : GoodIn wsX7_character wsX4_at := goodIn_ca (goodIn_r _ [13, 14, 26, 27] rfl (by decide +kernel)) (goodIn_sub (fun _ h => List.mem_cons_of_mem _ (List.mem_append_right _ h)) (by decide +kernel))
set_option maxRecDepth 20000 in
theorem gX7_character_X4_at : GoodIn wsX7_character (wsV RX7 243 RX4 yX4_at wsX4_at) := goodIn_app (goodIn_r _ [10, 11, 12, 7] rfl (by decide +kernel)) ggX7_character_X4_at
theorem dX7_character_0 : decode cX7_character 0 = .ok (.iload_n 1, 1) := by decide +kernel
theorem dX7_character_1 : decode cX7_character 1 = .ok (.ifCond .lt 14, 3) := by decide +kernel
theorem dX7_character_4 : decode cX7_character 4 = .ok (.iload_n 1, 1) := by decide +kernel
theorem dX7_character_5 : decode cX7_character 5 = .ok (.aload_n 0, 1) := by decide +kernel
theorem dX7_character_6 : decode cX7_character 6 = .ok (.getfield 40, 3) := by decide +kernel
theorem dX7_character_9 : decode cX7_character 9 = .ok (.invokevirtual 234, 3) := by decide +kernel
theorem dX7_character_12 : decode cX7_character 12 = .ok (.if_icmp .lt 13, 3) := by decide +kernel
theorem dX7_character_15 : decode cX7_character 15 = .ok (.new 238, 3) := by decide +kernel
theorem dX7_character_18 : decode cX7_character 18 = .ok (.dup, 1) := by decide +kernel
theorem dX7_character_19 : decode cX7_character 19 = .ok (.ldc 240, 2) := by decide +kernel
theorem dX7_character_21 : decode cX7_character 21 = .ok (.invokespecial 242, 3) := by decide +kernel
theorem dX7_character_24 : decode cX7_character 24 = .ok (.athrow, 1) := by decide +kernel
theorem dX7_character_25 : decode cX7_character 25 = .ok (.aload_n 0, 1) := by decide +kernel
theorem dX7_character_26 : decode cX7_character 26 = .ok (.getfield 40, 3) := by decide +kernel
theorem dX7_character_29 : decode cX7_character 29 = .ok (.iload_n 1, 1) := by decide +kernel
theorem dX7_character_30 : decode cX7_character 30 = .ok (.invokevirtual 243, 3) := by decide +kernel
theorem dX7_character_33 : decode cX7_character 33 = .ok (.ireturn, 1) := by decide +kernel
set_option maxRecDepth 20000 in
theorem ggX7_meanCoins_X0_get : GoodIn wsX7_meanCoins wsX0_get := goodIn_ca (goodIn_r _ [8, 9, 29] rfl (by decide +kernel)) (goodIn_sub (fun _ h => List.mem_cons_of_mem _ (List.mem_append_right _ h)) (by decide +kernel))
set_option maxRecDepth 20000 in
theorem gX7_meanCoins_X0_get : GoodIn wsX7_meanCoins (wsV RX7 84 RX0 yX0_get wsX0_get) := goodIn_app (goodIn_r _ [4, 5, 6, 7] rfl (by decide +kernel)) ggX7_meanCoins_X0_get
set_option maxRecDepth 20000 in
theorem ggX7_meanCoins_X0_coinsOfAll : GoodIn wsX7_meanCoins wsX0_coinsOfAll := goodIn_ca (goodIn_r _ [13, 9, 14, 15, 16, 7, 17, 29] rfl (by decide +kernel)) (goodIn_sub (fun _ h => List.mem_cons_of_mem _ (List.mem_append_right _ h)) (by decide +kernel))
set_option maxRecDepth 20000 in
theorem gX7_meanCoins_X0_coinsOfAll : GoodIn wsX7_meanCoins (wsV RX7 164 RX0 yX0_coinsOfAll wsX0_coinsOfAll) := goodIn_app (goodIn_r _ [10, 11, 12, 7] rfl (by decide +kernel)) ggX7_meanCoins_X0_coinsOfAll
theorem dX7_meanCoins_0 : decode cX7_meanCoins 0 = .ok (.aload_n 0, 1) := by decide +kernel
theorem dX7_meanCoins_1 : decode cX7_meanCoins 1 = .ok (.getfield 10, 3) := by decide +kernel
theorem dX7_meanCoins_4 : decode cX7_meanCoins 4 = .ok (.iconst 0, 1) := by decide +kernel
theorem dX7_meanCoins_5 : decode cX7_meanCoins 5 = .ok (.invokevirtual 84, 3) := by decide +kernel
theorem dX7_meanCoins_8 : decode cX7_meanCoins 8 = .ok (.istore_n 1, 1) := by decide +kernel
theorem dX7_meanCoins_9 : decode cX7_meanCoins 9 = .ok (.iload_n 1, 1) := by decide +kernel
theorem dX7_meanCoins_10 : decode cX7_meanCoins 10 = .ok (.ifCond .ne 13, 3) := by decide +kernel
theorem dX7_meanCoins_13 : decode cX7_meanCoins 13 = .ok (.new 247, 3) := by decide +kernel
theorem dX7_meanCoins_16 : decode cX7_meanCoins 16 = .ok (.dup, 1) := by decide +kernel
theorem dX7_meanCoins_17 : decode cX7_meanCoins 17 = .ok (.ldc 249, 2) := by decide +kernel
theorem dX7_meanCoins_19 : decode cX7_meanCoins 19 = .ok (.invokespecial 251, 3) := by decide +kernel
theorem dX7_meanCoins_22 : decode cX7_meanCoins 22 = .ok (.athrow, 1) := by decide +kernel
theorem dX7_meanCoins_23 : decode cX7_meanCoins 23 = .ok (.aload_n 0, 1) := by decide +kernel
theorem dX7_meanCoins_24 : decode cX7_meanCoins 24 = .ok (.getfield 10, 3) := by decide +kernel
theorem dX7_meanCoins_27 : decode cX7_meanCoins 27 = .ok (.invokevirtual 164, 3) := by decide +kernel
theorem dX7_meanCoins_30 : decode cX7_meanCoins 30 = .ok (.i2d, 1) := by decide +kernel
theorem dX7_meanCoins_31 : decode cX7_meanCoins 31 = .ok (.iload_n 1, 1) := by decide +kernel
theorem dX7_meanCoins_32 : decode cX7_meanCoins 32 = .ok (.i2d, 1) := by decide +kernel
theorem dX7_meanCoins_33 : decode cX7_meanCoins 33 = .ok (.ddiv, 1) := by decide +kernel
theorem dX7_meanCoins_34 : decode cX7_meanCoins 34 = .ok (.dreturn, 1) := by decide +kernel
set_option maxRecDepth 20000 in
theorem ggX7_tappedShare_X0_wageredNumber : GoodIn wsX7_tappedShare wsX0_wageredNumber := goodIn_ca (goodIn_r _ [8, 9, 10, 11, 12, 7, 13, 14, 15, 16, 17, 37] rfl (by decide +kernel)) (goodIn_sub (fun _ h => List.mem_cons_of_mem _ (List.mem_append_right _ h)) (by decide +kernel))
set_option maxRecDepth 20000 in
theorem gX7_tappedShare_X0_wageredNumber : GoodIn wsX7_tappedShare (wsV RX7 252 RX0 yX0_wageredNumber wsX0_wageredNumber) := goodIn_app (goodIn_r _ [4, 5, 6, 7] rfl (by decide +kernel)) ggX7_tappedShare_X0_wageredNumber
set_option maxRecDepth 20000 in
theorem ggX7_tappedShare_X0_tappedNumber : GoodIn wsX7_tappedShare wsX0_tappedNumber := goodIn_ca (goodIn_r _ [21, 9, 22, 23, 24, 7, 25, 14, 15, 16, 17, 37] rfl (by decide +kernel)) (goodIn_sub (fun _ h => List.mem_cons_of_mem _ (List.mem_append_right _ h)) (by decide +kernel))
set_option maxRecDepth 20000 in
theorem gX7_tappedShare_X0_tappedNumber : GoodIn wsX7_tappedShare (wsV RX7 257 RX0 yX0_tappedNumber wsX0_tappedNumber) := goodIn_app (goodIn_r _ [18, 19, 20, 7] rfl (by decide +kernel)) ggX7_tappedShare_X0_tappedNumber
theorem dX7_tappedShare_0 : decode cX7_tappedShare 0 = .ok (.aload_n 0, 1) := by decide +kernel
theorem dX7_tappedShare_1 : decode cX7_tappedShare 1 = .ok (.getfield 10, 3) := by decide +kernel
theorem dX7_tappedShare_4 : decode cX7_tappedShare 4 = .ok (.invokevirtual 252, 3) := by decide +kernel
theorem dX7_tappedShare_7 : decode cX7_tappedShare 7 = .ok (.istore_n 1, 1) := by decide +kernel
theorem dX7_tappedShare_8 : decode cX7_tappedShare 8 = .ok (.iload_n 1, 1) := by decide +kernel
theorem dX7_tappedShare_9 : decode cX7_tappedShare 9 = .ok (.ifCond .ne 13, 3) := by decide +kernel
theorem dX7_tappedShare_12 : decode cX7_tappedShare 12 = .ok (.new 247, 3) := by decide +kernel
theorem dX7_tappedShare_15 : decode cX7_tappedShare 15 = .ok (.dup, 1) := by decide +kernel
theorem dX7_tappedShare_16 : decode cX7_tappedShare 16 = .ok (.ldc 255, 2) := by decide +kernel
theorem dX7_tappedShare_18 : decode cX7_tappedShare 18 = .ok (.invokespecial 251, 3) := by decide +kernel
theorem dX7_tappedShare_21 : decode cX7_tappedShare 21 = .ok (.athrow, 1) := by decide +kernel
theorem dX7_tappedShare_22 : decode cX7_tappedShare 22 = .ok (.aload_n 0, 1) := by decide +kernel
theorem dX7_tappedShare_23 : decode cX7_tappedShare 23 = .ok (.getfield 10, 3) := by decide +kernel
theorem dX7_tappedShare_26 : decode cX7_tappedShare 26 = .ok (.invokevirtual 257, 3) := by decide +kernel
theorem dX7_tappedShare_29 : decode cX7_tappedShare 29 = .ok (.i2f, 1) := by decide +kernel
theorem dX7_tappedShare_30 : decode cX7_tappedShare 30 = .ok (.iload_n 1, 1) := by decide +kernel
theorem dX7_tappedShare_31 : decode cX7_tappedShare 31 = .ok (.i2f, 1) := by decide +kernel
theorem dX7_tappedShare_32 : decode cX7_tappedShare 32 = .ok (.fdiv, 1) := by decide +kernel
theorem dX7_tappedShare_33 : decode cX7_tappedShare 33 = .ok (.freturn, 1) := by decide +kernel
set_option maxRecDepth 20000 in
theorem ggX7_account_X0_get : GoodIn wsX7_account wsX0_get := goodIn_ca (goodIn_r _ [10, 11, 51] rfl (by decide +kernel)) (goodIn_sub (fun _ h => List.mem_cons_of_mem _ (List.mem_append_right _ h)) (by decide +kernel))
set_option maxRecDepth 20000 in
theorem gX7_account_X0_get : GoodIn wsX7_account (wsV RX7 84 RX0 yX0_get wsX0_get) := goodIn_app (goodIn_r _ [6, 7, 8, 9] rfl (by decide +kernel)) ggX7_account_X0_get
set_option maxRecDepth 20000 in
theorem ggX7_account_X0_coinsOfAll : GoodIn wsX7_account wsX0_coinsOfAll := goodIn_ca (goodIn_r _ [15, 11, 16, 17, 18, 9, 19, 51] rfl (by decide +kernel)) (goodIn_sub (fun _ h => List.mem_cons_of_mem _ (List.mem_append_right _ h)) (by decide +kernel))
set_option maxRecDepth 20000 in
theorem gX7_account_X0_coinsOfAll : GoodIn wsX7_account (wsV RX7 164 RX0 yX0_coinsOfAll wsX0_coinsOfAll) := goodIn_app (goodIn_r _ [12, 13, 14, 9] rfl (by decide +kernel)) ggX7_account_X0_coinsOfAll
set_option maxRecDepth 20000 in
theorem ggX7_account_X0_wageredNumber : GoodIn wsX7_account wsX0_wageredNumber := goodIn_ca (goodIn_r _ [23, 11, 24, 25, 26, 9, 27, 16, 17, 18, 19, 51] rfl (by decide +kernel)) (goodIn_sub (fun _ h => List.mem_cons_of_mem _ (List.mem_append_right _ h)) (by decide +kernel))
set_option maxRecDepth 20000 in
theorem gX7_account_X0_wageredNumber : GoodIn wsX7_account (wsV RX7 252 RX0 yX0_wageredNumber wsX0_wageredNumber) := goodIn_app (goodIn_r _ [20, 21, 22, 9] rfl (by decide +kernel)) ggX7_account_X0_wageredNumber
set_option maxRecDepth 20000 in
theorem ggX7_account_X2_size : GoodIn wsX7_account wsX2_size := goodIn_r _ [32, 33, 52, 53, 54] rfl (by decide +kernel)
set_option maxRecDepth 20000 in
theorem gX7_account_X2_size : GoodIn wsX7_account (wsV RX7 260 RX2 yX2_size wsX2_size) := goodIn_app (goodIn_r _ [28, 29, 30, 31] rfl (by decide +kernel)) ggX7_account_X2_size
set_option maxRecDepth 20000 in
theorem ggX7_account_X1_length : GoodIn wsX7_account wsX1_length := goodIn_r _ [38, 39, 55, 56, 57, 58, 59, 60] rfl (by decide +kernel)
set_option maxRecDepth 20000 in
theorem gX7_account_X1_length : GoodIn wsX7_account (wsV RX7 181 RX1 yX1_length wsX1_length) := goodIn_app (goodIn_r _ [34, 35, 36, 37] rfl (by decide +kernel)) ggX7_account_X1_length
theorem dX7_account_0 : decode cX7_account 0 = .ok (.iload_n 1, 1) := by decide +kernel
theorem dX7_account_1 : decode cX7_account 1 = .ok (.tableswitch 160 0 10 #[59, 68, 76, 86, 94, 104, 114, 124, 134, 144, 152], 59) := by decide +kernel
theorem dX7_account_60 : decode cX7_account 60 = .ok (.aload_n 0, 1) := by decide +kernel
theorem dX7_account_61 : decode cX7_account 61 = .ok (.getfield 10, 3) := by decide +kernel
theorem dX7_account_64 : decode cX7_account 64 = .ok (.iconst 0, 1) := by decide +kernel
theorem dX7_account_65 : decode cX7_account 65 = .ok (.invokevirtual 84, 3) := by decide +kernel
theorem dX7_account_68 : decode cX7_account 68 = .ok (.ireturn, 1) := by decide +kernel
theorem dX7_account_69 : decode cX7_account 69 = .ok (.aload_n 0, 1) := by decide +kernel
theorem dX7_account_70 : decode cX7_account 70 = .ok (.getfield 10, 3) := by decide +kernel
theorem dX7_account_73 : decode cX7_account 73 = .ok (.invokevirtual 164, 3) := by decide +kernel
theorem dX7_account_76 : decode cX7_account 76 = .ok (.ireturn, 1) := by decide +kernel
theorem dX7_account_77 : decode cX7_account 77 = .ok (.aload_n 0, 1) := by decide +kernel
theorem dX7_account_78 : decode cX7_account 78 = .ok (.getfield 10, 3) := by decide +kernel
theorem dX7_account_81 : decode cX7_account 81 = .ok (.bipush 7, 2) := by decide +kernel
theorem dX7_account_83 : decode cX7_account 83 = .ok (.invokevirtual 84, 3) := by decide +kernel
theorem dX7_account_86 : decode cX7_account 86 = .ok (.ireturn, 1) := by decide +kernel
theorem dX7_account_87 : decode cX7_account 87 = .ok (.aload_n 0, 1) := by decide +kernel
theorem dX7_account_88 : decode cX7_account 88 = .ok (.getfield 10, 3) := by decide +kernel
theorem dX7_account_91 : decode cX7_account 91 = .ok (.invokevirtual 252, 3) := by decide +kernel
theorem dX7_account_94 : decode cX7_account 94 = .ok (.ireturn, 1) := by decide +kernel
theorem dX7_account_95 : decode cX7_account 95 = .ok (.aload_n 0, 1) := by decide +kernel
theorem dX7_account_96 : decode cX7_account 96 = .ok (.getfield 10, 3) := by decide +kernel
theorem dX7_account_99 : decode cX7_account 99 = .ok (.bipush 8, 2) := by decide +kernel
theorem dX7_account_101 : decode cX7_account 101 = .ok (.invokevirtual 84, 3) := by decide +kernel
theorem dX7_account_104 : decode cX7_account 104 = .ok (.ireturn, 1) := by decide +kernel
theorem dX7_account_105 : decode cX7_account 105 = .ok (.aload_n 0, 1) := by decide +kernel
theorem dX7_account_106 : decode cX7_account 106 = .ok (.getfield 10, 3) := by decide +kernel
theorem dX7_account_109 : decode cX7_account 109 = .ok (.bipush 9, 2) := by decide +kernel
theorem dX7_account_111 : decode cX7_account 111 = .ok (.invokevirtual 84, 3) := by decide +kernel
theorem dX7_account_114 : decode cX7_account 114 = .ok (.ireturn, 1) := by decide +kernel
theorem dX7_account_115 : decode cX7_account 115 = .ok (.aload_n 0, 1) := by decide +kernel
theorem dX7_account_116 : decode cX7_account 116 = .ok (.getfield 10, 3) := by decide +kernel
theorem dX7_account_119 : decode cX7_account 119 = .ok (.bipush 10, 2) := by decide +kernel
theorem dX7_account_121 : decode cX7_account 121 = .ok (.invokevirtual 84, 3) := by decide +kernel
theorem dX7_account_124 : decode cX7_account 124 = .ok (.ireturn, 1) := by decide +kernel
theorem dX7_account_125 : decode cX7_account 125 = .ok (.aload_n 0, 1) := by decide +kernel
theorem dX7_account_126 : decode cX7_account 126 = .ok (.getfield 10, 3) := by decide +kernel
theorem dX7_account_129 : decode cX7_account 129 = .ok (.bipush 11, 2) := by decide +kernel
theorem dX7_account_131 : decode cX7_account 131 = .ok (.invokevirtual 84, 3) := by decide +kernel
theorem dX7_account_134 : decode cX7_account 134 = .ok (.ireturn, 1) := by decide +kernel
theorem dX7_account_135 : decode cX7_account 135 = .ok (.aload_n 0, 1) := by decide +kernel
theorem dX7_account_136 : decode cX7_account 136 = .ok (.getfield 10, 3) := by decide +kernel
theorem dX7_account_139 : decode cX7_account 139 = .ok (.bipush 12, 2) := by decide +kernel
theorem dX7_account_141 : decode cX7_account 141 = .ok (.invokevirtual 84, 3) := by decide +kernel
theorem dX7_account_144 : decode cX7_account 144 = .ok (.ireturn, 1) := by decide +kernel
theorem dX7_account_145 : decode cX7_account 145 = .ok (.aload_n 0, 1) := by decide +kernel
theorem dX7_account_146 : decode cX7_account 146 = .ok (.getfield 26, 3) := by decide +kernel
theorem dX7_account_149 : decode cX7_account 149 = .ok (.invokevirtual 260, 3) := by decide +kernel
theorem dX7_account_152 : decode cX7_account 152 = .ok (.ireturn, 1) := by decide +kernel
theorem dX7_account_153 : decode cX7_account 153 = .ok (.aload_n 0, 1) := by decide +kernel
theorem dX7_account_154 : decode cX7_account 154 = .ok (.getfield 33, 3) := by decide +kernel
theorem dX7_account_157 : decode cX7_account 157 = .ok (.invokevirtual 181, 3) := by decide +kernel
theorem dX7_account_160 : decode cX7_account 160 = .ok (.ireturn, 1) := by decide +kernel
theorem dX7_account_161 : decode cX7_account 161 = .ok (.new 73, 3) := by decide +kernel
theorem dX7_account_164 : decode cX7_account 164 = .ok (.dup, 1) := by decide +kernel
theorem dX7_account_165 : decode cX7_account 165 = .ok (.ldc_w 261, 3) := by decide +kernel
theorem dX7_account_168 : decode cX7_account 168 = .ok (.invokespecial 77, 3) := by decide +kernel
theorem dX7_account_171 : decode cX7_account 171 = .ok (.athrow, 1) := by decide +kernel
set_option maxRecDepth 20000 in
theorem ggX7_undo_X2_size : GoodIn wsX7_undo wsX2_size := goodIn_r _ [9, 10, 46, 47, 48] rfl (by decide +kernel)
set_option maxRecDepth 20000 in
theorem gX7_undo_X2_size : GoodIn wsX7_undo (wsV RX7 260 RX2 yX2_size wsX2_size) := goodIn_app (goodIn_r _ [5, 6, 7, 8] rfl (by decide +kernel)) ggX7_undo_X2_size
set_option maxRecDepth 20000 in
theorem ggX7_undo_X2_stepBack : GoodIn wsX7_undo wsX2_stepBack := goodIn_r _ [14, 15, 10, 16, 17, 18, 19, 20, 21, 22, 8, 23, 24, 25, 26, 27, 28, 29, 30, 31, 32, 33, 34, 46, 47, 48, 49] rfl (by decide +kernel)
set_option maxRecDepth 20000 in
theorem gX7_undo_X2_stepBack : GoodIn wsX7_undo (wsV RX7 265 RX2 yX2_stepBack wsX2_stepBack) := goodIn_app (goodIn_r _ [11, 12, 13, 8] rfl (by decide +kernel)) ggX7_undo_X2_stepBack
theorem dX7_undo_0 : decode cX7_undo 0 = .ok (.aload_n 0, 1) := by decide +kernel
theorem dX7_undo_1 : decode cX7_undo 1 = .ok (.getfield 26, 3) := by decide +kernel
theorem dX7_undo_4 : decode cX7_undo 4 = .ok (.invokevirtual 260, 3) := by decide +kernel
theorem dX7_undo_7 : decode cX7_undo 7 = .ok (.ifCond .ne 14, 3) := by decide +kernel
theorem dX7_undo_10 : decode cX7_undo 10 = .ok (.new 172, 3) := by decide +kernel
theorem dX7_undo_13 : decode cX7_undo 13 = .ok (.dup, 1) := by decide +kernel
theorem dX7_undo_14 : decode cX7_undo 14 = .ok (.ldc_w 263, 3) := by decide +kernel
theorem dX7_undo_17 : decode cX7_undo 17 = .ok (.invokespecial 176, 3) := by decide +kernel
theorem dX7_undo_20 : decode cX7_undo 20 = .ok (.athrow, 1) := by decide +kernel
theorem dX7_undo_21 : decode cX7_undo 21 = .ok (.aload_n 0, 1) := by decide +kernel
theorem dX7_undo_22 : decode cX7_undo 22 = .ok (.getfield 26, 3) := by decide +kernel
theorem dX7_undo_25 : decode cX7_undo 25 = .ok (.aload_n 0, 1) := by decide +kernel
theorem dX7_undo_26 : decode cX7_undo 26 = .ok (.getfield 10, 3) := by decide +kernel
theorem dX7_undo_29 : decode cX7_undo 29 = .ok (.invokevirtual 265, 3) := by decide +kernel
theorem dX7_undo_32 : decode cX7_undo 32 = .ok (.aload_n 0, 1) := by decide +kernel
theorem dX7_undo_33 : decode cX7_undo 33 = .ok (.getfield 26, 3) := by decide +kernel
theorem dX7_undo_36 : decode cX7_undo 36 = .ok (.invokevirtual 260, 3) := by decide +kernel
theorem dX7_undo_39 : decode cX7_undo 39 = .ok (.ireturn, 1) := by decide +kernel
set_option maxRecDepth 20000 in
theorem ggX7_save_X0_copyTo : GoodIn wsX7_save wsX0_copyTo := goodIn_r _ [8, 9, 10, 11, 12, 13, 29] rfl (by decide +kernel)
set_option maxRecDepth 20000 in
theorem gX7_save_X0_copyTo : GoodIn wsX7_save (wsV RX7 268 RX0 yX0_copyTo wsX0_copyTo) := goodIn_app (goodIn_r _ [4, 5, 6, 7] rfl (by decide +kernel)) ggX7_save_X0_copyTo
set_option maxRecDepth 20000 in
theorem ggX7_save_X0_get : GoodIn wsX7_save wsX0_get := goodIn_ca (goodIn_r _ [17, 9, 29] rfl (by decide +kernel)) (goodIn_sub (fun _ h => List.mem_cons_of_mem _ (List.mem_append_right _ h)) (by decide +kernel))
set_option maxRecDepth 20000 in
theorem gX7_save_X0_get : GoodIn wsX7_save (wsV RX7 84 RX0 yX0_get wsX0_get) := goodIn_app (goodIn_r _ [14, 15, 16, 7] rfl (by decide +kernel)) ggX7_save_X0_get
theorem dX7_save_0 : decode cX7_save 0 = .ok (.aload_n 0, 1) := by decide +kernel
theorem dX7_save_1 : decode cX7_save 1 = .ok (.getfield 10, 3) := by decide +kernel
theorem dX7_save_4 : decode cX7_save 4 = .ok (.aload_n 0, 1) := by decide +kernel
theorem dX7_save_5 : decode cX7_save 5 = .ok (.getfield 44, 3) := by decide +kernel
theorem dX7_save_8 : decode cX7_save 8 = .ok (.iconst 0, 1) := by decide +kernel
theorem dX7_save_9 : decode cX7_save 9 = .ok (.invokevirtual 268, 3) := by decide +kernel
theorem dX7_save_12 : decode cX7_save 12 = .ok (.aload_n 0, 1) := by decide +kernel
theorem dX7_save_13 : decode cX7_save 13 = .ok (.iconst 1, 1) := by decide +kernel
theorem dX7_save_14 : decode cX7_save 14 = .ok (.putfield 48, 3) := by decide +kernel
theorem dX7_save_17 : decode cX7_save 17 = .ok (.aload_n 0, 1) := by decide +kernel
theorem dX7_save_18 : decode cX7_save 18 = .ok (.getfield 10, 3) := by decide +kernel
theorem dX7_save_21 : decode cX7_save 21 = .ok (.iconst 0, 1) := by decide +kernel
theorem dX7_save_22 : decode cX7_save 22 = .ok (.invokevirtual 84, 3) := by decide +kernel
theorem dX7_save_25 : decode cX7_save 25 = .ok (.ireturn, 1) := by decide +kernel
set_option maxRecDepth 20000 in
theorem ggX7_restore_X0_copyFrom : GoodIn wsX7_restore wsX0_copyFrom := goodIn_r _ [11, 12, 13, 14, 15, 16, 38] rfl (by decide +kernel)
set_option maxRecDepth 20000 in
theorem gX7_restore_X0_copyFrom : GoodIn wsX7_restore (wsV RX7 274 RX0 yX0_copyFrom wsX0_copyFrom) := goodIn_app (goodIn_r _ [7, 8, 9, 10] rfl (by decide +kernel)) ggX7_restore_X0_copyFrom
set_option maxRecDepth 20000 in
theorem ggX7_restore_X2_forget : GoodIn wsX7_restore wsX2_forget := goodIn_r _ [21, 22, 39, 40, 41] rfl (by decide +kernel)
set_option maxRecDepth 20000 in
theorem gX7_restore_X2_forget : GoodIn wsX7_restore (wsV RX7 277 RX2 yX2_forget wsX2_forget) := goodIn_app (goodIn_r _ [17, 18, 19, 20] rfl (by decide +kernel)) ggX7_restore_X2_forget
set_option maxRecDepth 20000 in
theorem ggX7_restore_X0_get : GoodIn wsX7_restore wsX0_get := goodIn_ca (goodIn_r _ [26, 12, 38] rfl (by decide +kernel)) (goodIn_sub (fun _ h => List.mem_cons_of_mem _ (List.mem_append_right _ h)) (by decide +kernel))
set_option maxRecDepth 20000 in
theorem gX7_restore_X0_get : GoodIn wsX7_restore (wsV RX7 84 RX0 yX0_get wsX0_get) := goodIn_app (goodIn_r _ [23, 24, 25, 10] rfl (by decide +kernel)) ggX7_restore_X0_get
