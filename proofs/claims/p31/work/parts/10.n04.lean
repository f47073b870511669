theorem dX0_init_0 : decode cX0_init 0 = .ok (.aload_n 0, 1) := by decide +kernel
theorem dX0_init_1 : decode cX0_init 1 = .ok (.invokespecial 3, 3) := by decide +kernel
theorem dX0_init_4 : decode cX0_init 4 = .ok (.aload_n 0, 1) := by decide +kernel
theorem dX0_init_5 : decode cX0_init 5 = .ok (.sipush 400, 3) := by decide +kernel
theorem dX0_init_8 : decode cX0_init 8 = .ok (.newarray .int, 2) := by decide +kernel
theorem dX0_init_10 : decode cX0_init 10 = .ok (.putfield 9, 3) := by decide +kernel
theorem dX0_init_13 : decode cX0_init 13 = .ok (.aload_n 0, 1) := by decide +kernel
theorem dX0_init_14 : decode cX0_init 14 = .ok (.iconst 0, 1) := by decide +kernel
theorem dX0_init_15 : decode cX0_init 15 = .ok (.putfield 15, 3) := by decide +kernel
theorem dX0_init_18 : decode cX0_init 18 = .ok (.aload_n 0, 1) := by decide +kernel
theorem dX0_init_19 : decode cX0_init 19 = .ok (.iconst 0, 1) := by decide +kernel
theorem dX0_init_20 : decode cX0_init 20 = .ok (.putfield 19, 3) := by decide +kernel
theorem dX0_init_23 : decode cX0_init 23 = .ok (.aload_n 0, 1) := by decide +kernel
theorem dX0_init_24 : decode cX0_init 24 = .ok (.iconst 0, 1) := by decide +kernel
theorem dX0_init_25 : decode cX0_init 25 = .ok (.putfield 22, 3) := by decide +kernel
theorem dX0_init_28 : decode cX0_init 28 = .ok (.aload_n 0, 1) := by decide +kernel
theorem dX0_init_29 : decode cX0_init 29 = .ok (.iconst 0, 1) := by decide +kernel
theorem dX0_init_30 : decode cX0_init 30 = .ok (.putfield 25, 3) := by decide +kernel
theorem dX0_init_33 : decode cX0_init 33 = .ok (.aload_n 0, 1) := by decide +kernel
theorem dX0_init_34 : decode cX0_init 34 = .ok (.iconst 0, 1) := by decide +kernel
theorem dX0_init_35 : decode cX0_init 35 = .ok (.putfield 28, 3) := by decide +kernel
theorem dX0_init_38 : decode cX0_init 38 = .ok (.return_, 1) := by decide +kernel
theorem dX0_waiting_0 : decode cX0_waiting 0 = .ok (.aload_n 0, 1) := by decide +kernel
theorem dX0_waiting_1 : decode cX0_waiting 1 = .ok (.getfield 15, 3) := by decide +kernel
theorem dX0_waiting_4 : decode cX0_waiting 4 = .ok (.aload_n 0, 1) := by decide +kernel
theorem dX0_waiting_5 : decode cX0_waiting 5 = .ok (.getfield 19, 3) := by decide +kernel
theorem dX0_waiting_8 : decode cX0_waiting 8 = .ok (.isub, 1) := by decide +kernel
theorem dX0_waiting_9 : decode cX0_waiting 9 = .ok (.ireturn, 1) := by decide +kernel
theorem dX0_flying_0 : decode cX0_flying 0 = .ok (.aload_n 0, 1) := by decide +kernel
theorem dX0_flying_1 : decode cX0_flying 1 = .ok (.getfield 19, 3) := by decide +kernel
theorem dX0_flying_4 : decode cX0_flying 4 = .ok (.aload_n 0, 1) := by decide +kernel
theorem dX0_flying_5 : decode cX0_flying 5 = .ok (.getfield 22, 3) := by decide +kernel
theorem dX0_flying_8 : decode cX0_flying 8 = .ok (.isub, 1) := by decide +kernel
theorem dX0_flying_9 : decode cX0_flying 9 = .ok (.ireturn, 1) := by decide +kernel
theorem dX0_take_0 : decode cX0_take 0 = .ok (.aload_n 0, 1) := by decide +kernel
theorem dX0_take_1 : decode cX0_take 1 = .ok (.getfield 15, 3) := by decide +kernel
theorem dX0_take_4 : decode cX0_take 4 = .ok (.aload_n 0, 1) := by decide +kernel
theorem dX0_take_5 : decode cX0_take 5 = .ok (.getfield 22, 3) := by decide +kernel
theorem dX0_take_8 : decode cX0_take 8 = .ok (.isub, 1) := by decide +kernel
theorem dX0_take_9 : decode cX0_take 9 = .ok (.bipush 30, 2) := by decide +kernel
theorem dX0_take_11 : decode cX0_take 11 = .ok (.if_icmp .ge 45, 3) := by decide +kernel
theorem dX0_take_14 : decode cX0_take 14 = .ok (.aload_n 0, 1) := by decide +kernel
theorem dX0_take_15 : decode cX0_take 15 = .ok (.getfield 15, 3) := by decide +kernel
theorem dX0_take_18 : decode cX0_take 18 = .ok (.ifCond .lt 38, 3) := by decide +kernel
theorem dX0_take_21 : decode cX0_take 21 = .ok (.aload_n 0, 1) := by decide +kernel
theorem dX0_take_22 : decode cX0_take 22 = .ok (.getfield 15, 3) := by decide +kernel
theorem dX0_take_25 : decode cX0_take 25 = .ok (.aload_n 0, 1) := by decide +kernel
theorem dX0_take_26 : decode cX0_take 26 = .ok (.getfield 9, 3) := by decide +kernel
theorem dX0_take_29 : decode cX0_take 29 = .ok (.arraylength, 1) := by decide +kernel
theorem dX0_take_30 : decode cX0_take 30 = .ok (.if_icmp .ge 26, 3) := by decide +kernel
theorem dX0_take_33 : decode cX0_take 33 = .ok (.aload_n 0, 1) := by decide +kernel
theorem dX0_take_34 : decode cX0_take 34 = .ok (.getfield 9, 3) := by decide +kernel
theorem dX0_take_37 : decode cX0_take 37 = .ok (.aload_n 0, 1) := by decide +kernel
theorem dX0_take_38 : decode cX0_take 38 = .ok (.getfield 15, 3) := by decide +kernel
theorem dX0_take_41 : decode cX0_take 41 = .ok (.iload_n 1, 1) := by decide +kernel
theorem dX0_take_42 : decode cX0_take 42 = .ok (.iastore, 1) := by decide +kernel
theorem dX0_take_43 : decode cX0_take 43 = .ok (.aload_n 0, 1) := by decide +kernel
theorem dX0_take_44 : decode cX0_take 44 = .ok (.dup, 1) := by decide +kernel
theorem dX0_take_45 : decode cX0_take 45 = .ok (.getfield 15, 3) := by decide +kernel
theorem dX0_take_48 : decode cX0_take 48 = .ok (.iconst 1, 1) := by decide +kernel
theorem dX0_take_49 : decode cX0_take 49 = .ok (.iadd, 1) := by decide +kernel
theorem dX0_take_50 : decode cX0_take 50 = .ok (.putfield 15, 3) := by decide +kernel
theorem dX0_take_53 : decode cX0_take 53 = .ok (.goto 13, 3) := by decide +kernel
theorem dX0_take_56 : decode cX0_take 56 = .ok (.aload_n 0, 1) := by decide +kernel
theorem dX0_take_57 : decode cX0_take 57 = .ok (.dup, 1) := by decide +kernel
theorem dX0_take_58 : decode cX0_take 58 = .ok (.getfield 25, 3) := by decide +kernel
theorem dX0_take_61 : decode cX0_take 61 = .ok (.iconst 1, 1) := by decide +kernel
theorem dX0_take_62 : decode cX0_take 62 = .ok (.iadd, 1) := by decide +kernel
theorem dX0_take_63 : decode cX0_take 63 = .ok (.putfield 25, 3) := by decide +kernel
theorem dX0_take_66 : decode cX0_take 66 = .ok (.return_, 1) := by decide +kernel
set_option maxRecDepth 20000 in
theorem ggX0_canSend_X0_waiting : GoodIn wsX0_canSend wsX0_waiting := goodIn_r _ [6, 7, 8, 14, 15, 16, 17, 18, 19] (by decide +kernel) (by decide +kernel)
set_option maxRecDepth 20000 in
theorem gX0_canSend_X0_waiting : GoodIn wsX0_canSend (wsV RX0 32 RX0 yX0_waiting wsX0_waiting) := goodIn_app (goodIn_of _ (by decide +kernel)) ggX0_canSend_X0_waiting
set_option maxRecDepth 20000 in
theorem ggX0_canSend_X0_flying : GoodIn wsX0_canSend wsX0_flying := goodIn_r _ [12, 8, 13, 14, 15, 16, 17, 18, 19] (by decide +kernel) (by decide +kernel)
set_option maxRecDepth 20000 in
theorem gX0_canSend_X0_flying : GoodIn wsX0_canSend (wsV RX0 36 RX0 yX0_flying wsX0_flying) := goodIn_app (goodIn_of _ (by decide +kernel)) ggX0_canSend_X0_flying
theorem dX0_canSend_0 : decode cX0_canSend 0 = .ok (.aload_n 0, 1) := by decide +kernel
theorem dX0_canSend_1 : decode cX0_canSend 1 = .ok (.getfield 28, 3) := by decide +kernel
theorem dX0_canSend_4 : decode cX0_canSend 4 = .ok (.ifCond .eq 22, 3) := by decide +kernel
theorem dX0_canSend_7 : decode cX0_canSend 7 = .ok (.aload_n 0, 1) := by decide +kernel
theorem dX0_canSend_8 : decode cX0_canSend 8 = .ok (.invokevirtual 32, 3) := by decide +kernel
theorem dX0_canSend_11 : decode cX0_canSend 11 = .ok (.ifCond .le 15, 3) := by decide +kernel
theorem dX0_canSend_14 : decode cX0_canSend 14 = .ok (.aload_n 0, 1) := by decide +kernel
theorem dX0_canSend_15 : decode cX0_canSend 15 = .ok (.invokevirtual 36, 3) := by decide +kernel
theorem dX0_canSend_18 : decode cX0_canSend 18 = .ok (.iconst 5, 1) := by decide +kernel
theorem dX0_canSend_19 : decode cX0_canSend 19 = .ok (.if_icmp .ge 7, 3) := by decide +kernel
theorem dX0_canSend_22 : decode cX0_canSend 22 = .ok (.iconst 1, 1) := by decide +kernel
theorem dX0_canSend_23 : decode cX0_canSend 23 = .ok (.goto 4, 3) := by decide +kernel
theorem dX0_canSend_26 : decode cX0_canSend 26 = .ok (.iconst 0, 1) := by decide +kernel
theorem dX0_canSend_27 : decode cX0_canSend 27 = .ok (.ireturn, 1) := by decide +kernel
set_option maxRecDepth 20000 in
theorem ggX0_sendFirst_X0_lineAt : GoodIn wsX0_sendFirst wsX0_lineAt := goodIn_r _ [6, 7, 8, 9, 10, 11, 12, 13] (by decide +kernel) (by decide +kernel)
set_option maxRecDepth 20000 in
theorem gX0_sendFirst_X0_lineAt : GoodIn wsX0_sendFirst (wsV RX0 39 RX0 yX0_lineAt wsX0_lineAt) := goodIn_app (goodIn_of _ (by decide +kernel)) ggX0_sendFirst_X0_lineAt
theorem dX0_sendFirst_0 : decode cX0_sendFirst 0 = .ok (.aload_n 0, 1) := by decide +kernel
theorem dX0_sendFirst_1 : decode cX0_sendFirst 1 = .ok (.aload_n 0, 1) := by decide +kernel
theorem dX0_sendFirst_2 : decode cX0_sendFirst 2 = .ok (.getfield 19, 3) := by decide +kernel
theorem dX0_sendFirst_5 : decode cX0_sendFirst 5 = .ok (.invokevirtual 39, 3) := by decide +kernel
theorem dX0_sendFirst_8 : decode cX0_sendFirst 8 = .ok (.istore_n 1, 1) := by decide +kernel
theorem dX0_sendFirst_9 : decode cX0_sendFirst 9 = .ok (.aload_n 0, 1) := by decide +kernel
theorem dX0_sendFirst_10 : decode cX0_sendFirst 10 = .ok (.dup, 1) := by decide +kernel
theorem dX0_sendFirst_11 : decode cX0_sendFirst 11 = .ok (.getfield 19, 3) := by decide +kernel
theorem dX0_sendFirst_14 : decode cX0_sendFirst 14 = .ok (.iconst 1, 1) := by decide +kernel
theorem dX0_sendFirst_15 : decode cX0_sendFirst 15 = .ok (.iadd, 1) := by decide +kernel
theorem dX0_sendFirst_16 : decode cX0_sendFirst 16 = .ok (.putfield 19, 3) := by decide +kernel
theorem dX0_sendFirst_19 : decode cX0_sendFirst 19 = .ok (.iload_n 1, 1) := by decide +kernel
theorem dX0_sendFirst_20 : decode cX0_sendFirst 20 = .ok (.ireturn, 1) := by decide +kernel
set_option maxRecDepth 20000 in
theorem ggX0_acknowledgeFirst_X0_lineAt : GoodIn wsX0_acknowledgeFirst wsX0_lineAt := goodIn_r _ [6, 7, 8, 9, 10, 11, 12, 13] (by decide +kernel) (by decide +kernel)
set_option maxRecDepth 20000 in
theorem gX0_acknowledgeFirst_X0_lineAt : GoodIn wsX0_acknowledgeFirst (wsV RX0 39 RX0 yX0_lineAt wsX0_lineAt) := goodIn_app (goodIn_of _ (by decide +kernel)) ggX0_acknowledgeFirst_X0_lineAt
theorem dX0_acknowledgeFirst_0 : decode cX0_acknowledgeFirst 0 = .ok (.aload_n 0, 1) := by decide +kernel
theorem dX0_acknowledgeFirst_1 : decode cX0_acknowledgeFirst 1 = .ok (.aload_n 0, 1) := by decide +kernel
theorem dX0_acknowledgeFirst_2 : decode cX0_acknowledgeFirst 2 = .ok (.getfield 22, 3) := by decide +kernel
theorem dX0_acknowledgeFirst_5 : decode cX0_acknowledgeFirst 5 = .ok (.invokevirtual 39, 3) := by decide +kernel
theorem dX0_acknowledgeFirst_8 : decode cX0_acknowledgeFirst 8 = .ok (.istore_n 1, 1) := by decide +kernel
theorem dX0_acknowledgeFirst_9 : decode cX0_acknowledgeFirst 9 = .ok (.aload_n 0, 1) := by decide +kernel
theorem dX0_acknowledgeFirst_10 : decode cX0_acknowledgeFirst 10 = .ok (.dup, 1) := by decide +kernel
theorem dX0_acknowledgeFirst_11 : decode cX0_acknowledgeFirst 11 = .ok (.getfield 22, 3) := by decide +kernel
theorem dX0_acknowledgeFirst_14 : decode cX0_acknowledgeFirst 14 = .ok (.iconst 1, 1) := by decide +kernel
theorem dX0_acknowledgeFirst_15 : decode cX0_acknowledgeFirst 15 = .ok (.iadd, 1) := by decide +kernel
theorem dX0_acknowledgeFirst_16 : decode cX0_acknowledgeFirst 16 = .ok (.putfield 22, 3) := by decide +kernel
theorem dX0_acknowledgeFirst_19 : decode cX0_acknowledgeFirst 19 = .ok (.iload_n 1, 1) := by decide +kernel
theorem dX0_acknowledgeFirst_20 : decode cX0_acknowledgeFirst 20 = .ok (.ireturn, 1) := by decide +kernel
theorem dX0_loseConnection_0 : decode cX0_loseConnection 0 = .ok (.aload_n 0, 1) := by decide +kernel
theorem dX0_loseConnection_1 : decode cX0_loseConnection 1 = .ok (.iconst 0, 1) := by decide +kernel
theorem dX0_loseConnection_2 : decode cX0_loseConnection 2 = .ok (.putfield 28, 3) := by decide +kernel
theorem dX0_loseConnection_5 : decode cX0_loseConnection 5 = .ok (.aload_n 0, 1) := by decide +kernel
theorem dX0_loseConnection_6 : decode cX0_loseConnection 6 = .ok (.aload_n 0, 1) := by decide +kernel
theorem dX0_loseConnection_7 : decode cX0_loseConnection 7 = .ok (.getfield 22, 3) := by decide +kernel
theorem dX0_loseConnection_10 : decode cX0_loseConnection 10 = .ok (.putfield 19, 3) := by decide +kernel
theorem dX0_loseConnection_13 : decode cX0_loseConnection 13 = .ok (.return_, 1) := by decide +kernel
theorem dX0_lineAt_0 : decode cX0_lineAt 0 = .ok (.iload_n 1, 1) := by decide +kernel
theorem dX0_lineAt_1 : decode cX0_lineAt 1 = .ok (.ifCond .lt 21, 3) := by decide +kernel
theorem dX0_lineAt_4 : decode cX0_lineAt 4 = .ok (.iload_n 1, 1) := by decide +kernel
theorem dX0_lineAt_5 : decode cX0_lineAt 5 = .ok (.aload_n 0, 1) := by decide +kernel
theorem dX0_lineAt_6 : decode cX0_lineAt 6 = .ok (.getfield 9, 3) := by decide +kernel
theorem dX0_lineAt_9 : decode cX0_lineAt 9 = .ok (.arraylength, 1) := by decide +kernel
theorem dX0_lineAt_10 : decode cX0_lineAt 10 = .ok (.if_icmp .ge 12, 3) := by decide +kernel
theorem dX0_lineAt_13 : decode cX0_lineAt 13 = .ok (.aload_n 0, 1) := by decide +kernel
theorem dX0_lineAt_14 : decode cX0_lineAt 14 = .ok (.getfield 9, 3) := by decide +kernel
theorem dX0_lineAt_17 : decode cX0_lineAt 17 = .ok (.iload_n 1, 1) := by decide +kernel
theorem dX0_lineAt_18 : decode cX0_lineAt 18 = .ok (.iaload, 1) := by decide +kernel
theorem dX0_lineAt_19 : decode cX0_lineAt 19 = .ok (.goto 4, 3) := by decide +kernel
theorem dX0_lineAt_22 : decode cX0_lineAt 22 = .ok (.iconst (-1), 1) := by decide +kernel
theorem dX0_lineAt_23 : decode cX0_lineAt 23 = .ok (.ireturn, 1) := by decide +kernel
theorem dX1_init_0 : decode cX1_init 0 = .ok (.aload_n 0, 1) := by decide +kernel
theorem dX1_init_1 : decode cX1_init 1 = .ok (.invokespecial 3, 3) := by decide +kernel
theorem dX1_init_4 : decode cX1_init 4 = .ok (.aload_n 0, 1) := by decide +kernel
theorem dX1_init_5 : decode cX1_init 5 = .ok (.sipush 400, 3) := by decide +kernel
theorem dX1_init_8 : decode cX1_init 8 = .ok (.newarray .int, 2) := by decide +kernel
theorem dX1_init_10 : decode cX1_init 10 = .ok (.putfield 9, 3) := by decide +kernel
theorem dX1_init_13 : decode cX1_init 13 = .ok (.aload_n 0, 1) := by decide +kernel
theorem dX1_init_14 : decode cX1_init 14 = .ok (.sipush 400, 3) := by decide +kernel
theorem dX1_init_17 : decode cX1_init 17 = .ok (.newarray .int, 2) := by decide +kernel
theorem dX1_init_19 : decode cX1_init 19 = .ok (.putfield 15, 3) := by decide +kernel
theorem dX1_init_22 : decode cX1_init 22 = .ok (.aload_n 0, 1) := by decide +kernel
theorem dX1_init_23 : decode cX1_init 23 = .ok (.iconst 0, 1) := by decide +kernel
theorem dX1_init_24 : decode cX1_init 24 = .ok (.putfield 18, 3) := by decide +kernel
theorem dX1_init_27 : decode cX1_init 27 = .ok (.return_, 1) := by decide +kernel
theorem dX1_isFull_0 : decode cX1_isFull 0 = .ok (.aload_n 0, 1) := by decide +kernel
theorem dX1_isFull_1 : decode cX1_isFull 1 = .ok (.getfield 18, 3) := by decide +kernel
theorem dX1_isFull_4 : decode cX1_isFull 4 = .ok (.sipush 400, 3) := by decide +kernel
theorem dX1_isFull_7 : decode cX1_isFull 7 = .ok (.if_icmp .lt 7, 3) := by decide +kernel
theorem dX1_isFull_10 : decode cX1_isFull 10 = .ok (.iconst 1, 1) := by decide +kernel
theorem dX1_isFull_11 : decode cX1_isFull 11 = .ok (.goto 4, 3) := by decide +kernel
theorem dX1_isFull_14 : decode cX1_isFull 14 = .ok (.iconst 0, 1) := by decide +kernel
theorem dX1_isFull_15 : decode cX1_isFull 15 = .ok (.ireturn, 1) := by decide +kernel
theorem dX1_has_0 : decode cX1_has 0 = .ok (.iload_n 1, 1) := by decide +kernel
theorem dX1_has_1 : decode cX1_has 1 = .ok (.ifCond .lt 15, 3) := by decide +kernel
theorem dX1_has_4 : decode cX1_has 4 = .ok (.iload_n 1, 1) := by decide +kernel
theorem dX1_has_5 : decode cX1_has 5 = .ok (.aload_n 0, 1) := by decide +kernel
theorem dX1_has_6 : decode cX1_has 6 = .ok (.getfield 18, 3) := by decide +kernel
theorem dX1_has_9 : decode cX1_has 9 = .ok (.if_icmp .ge 7, 3) := by decide +kernel
theorem dX1_has_12 : decode cX1_has 12 = .ok (.iconst 1, 1) := by decide +kernel
theorem dX1_has_13 : decode cX1_has 13 = .ok (.goto 4, 3) := by decide +kernel
theorem dX1_has_16 : decode cX1_has 16 = .ok (.iconst 0, 1) := by decide +kernel
theorem dX1_has_17 : decode cX1_has 17 = .ok (.ireturn, 1) := by decide +kernel
theorem dX1_enter_0 : decode cX1_enter 0 = .ok (.aload_n 0, 1) := by decide +kernel
theorem dX1_enter_1 : decode cX1_enter 1 = .ok (.getfield 18, 3) := by decide +kernel
theorem dX1_enter_4 : decode cX1_enter 4 = .ok (.ifCond .lt 43, 3) := by decide +kernel
theorem dX1_enter_7 : decode cX1_enter 7 = .ok (.aload_n 0, 1) := by decide +kernel
theorem dX1_enter_8 : decode cX1_enter 8 = .ok (.getfield 18, 3) := by decide +kernel
theorem dX1_enter_11 : decode cX1_enter 11 = .ok (.sipush 400, 3) := by decide +kernel
theorem dX1_enter_14 : decode cX1_enter 14 = .ok (.if_icmp .ge 33, 3) := by decide +kernel
theorem dX1_enter_17 : decode cX1_enter 17 = .ok (.aload_n 0, 1) := by decide +kernel
theorem dX1_enter_18 : decode cX1_enter 18 = .ok (.getfield 9, 3) := by decide +kernel
theorem dX1_enter_21 : decode cX1_enter 21 = .ok (.aload_n 0, 1) := by decide +kernel
theorem dX1_enter_22 : decode cX1_enter 22 = .ok (.getfield 18, 3) := by decide +kernel
theorem dX1_enter_25 : decode cX1_enter 25 = .ok (.iload_n 1, 1) := by decide +kernel
theorem dX1_enter_26 : decode cX1_enter 26 = .ok (.iastore, 1) := by decide +kernel
theorem dX1_enter_27 : decode cX1_enter 27 = .ok (.aload_n 0, 1) := by decide +kernel
theorem dX1_enter_28 : decode cX1_enter 28 = .ok (.getfield 15, 3) := by decide +kernel
theorem dX1_enter_31 : decode cX1_enter 31 = .ok (.aload_n 0, 1) := by decide +kernel
theorem dX1_enter_32 : decode cX1_enter 32 = .ok (.getfield 18, 3) := by decide +kernel
theorem dX1_enter_35 : decode cX1_enter 35 = .ok (.iload_n 2, 1) := by decide +kernel
theorem dX1_enter_36 : decode cX1_enter 36 = .ok (.iastore, 1) := by decide +kernel
theorem dX1_enter_37 : decode cX1_enter 37 = .ok (.aload_n 0, 1) := by decide +kernel
theorem dX1_enter_38 : decode cX1_enter 38 = .ok (.dup, 1) := by decide +kernel
theorem dX1_enter_39 : decode cX1_enter 39 = .ok (.getfield 18, 3) := by decide +kernel
theorem dX1_enter_42 : decode cX1_enter 42 = .ok (.iconst 1, 1) := by decide +kernel
theorem dX1_enter_43 : decode cX1_enter 43 = .ok (.iadd, 1) := by decide +kernel
theorem dX1_enter_44 : decode cX1_enter 44 = .ok (.putfield 18, 3) := by decide +kernel
theorem dX1_enter_47 : decode cX1_enter 47 = .ok (.iload_n 1, 1) := by decide +kernel
theorem dX1_enter_48 : decode cX1_enter 48 = .ok (.ireturn, 1) := by decide +kernel
theorem dX1_fateAt_0 : decode cX1_fateAt 0 = .ok (.iload_n 1, 1) := by decide +kernel
theorem dX1_fateAt_1 : decode cX1_fateAt 1 = .ok (.ifCond .lt 19, 3) := by decide +kernel
theorem dX1_fateAt_4 : decode cX1_fateAt 4 = .ok (.iload_n 1, 1) := by decide +kernel
theorem dX1_fateAt_5 : decode cX1_fateAt 5 = .ok (.sipush 400, 3) := by decide +kernel
theorem dX1_fateAt_8 : decode cX1_fateAt 8 = .ok (.if_icmp .ge 12, 3) := by decide +kernel
theorem dX1_fateAt_11 : decode cX1_fateAt 11 = .ok (.aload_n 0, 1) := by decide +kernel
theorem dX1_fateAt_12 : decode cX1_fateAt 12 = .ok (.getfield 9, 3) := by decide +kernel
theorem dX1_fateAt_15 : decode cX1_fateAt 15 = .ok (.iload_n 1, 1) := by decide +kernel
theorem dX1_fateAt_16 : decode cX1_fateAt 16 = .ok (.iaload, 1) := by decide +kernel
theorem dX1_fateAt_17 : decode cX1_fateAt 17 = .ok (.goto 4, 3) := by decide +kernel
theorem dX1_fateAt_20 : decode cX1_fateAt 20 = .ok (.iconst (-1), 1) := by decide +kernel
theorem dX1_fateAt_21 : decode cX1_fateAt 21 = .ok (.ireturn, 1) := by decide +kernel
theorem dX1_targetsAt_0 : decode cX1_targetsAt 0 = .ok (.iload_n 1, 1) := by decide +kernel
theorem dX1_targetsAt_1 : decode cX1_targetsAt 1 = .ok (.ifCond .lt 19, 3) := by decide +kernel
theorem dX1_targetsAt_4 : decode cX1_targetsAt 4 = .ok (.iload_n 1, 1) := by decide +kernel
theorem dX1_targetsAt_5 : decode cX1_targetsAt 5 = .ok (.sipush 400, 3) := by decide +kernel
theorem dX1_targetsAt_8 : decode cX1_targetsAt 8 = .ok (.if_icmp .ge 12, 3) := by decide +kernel
theorem dX1_targetsAt_11 : decode cX1_targetsAt 11 = .ok (.aload_n 0, 1) := by decide +kernel
theorem dX1_targetsAt_12 : decode cX1_targetsAt 12 = .ok (.getfield 15, 3) := by decide +kernel
theorem dX1_targetsAt_15 : decode cX1_targetsAt 15 = .ok (.iload_n 1, 1) := by decide +kernel
theorem dX1_targetsAt_16 : decode cX1_targetsAt 16 = .ok (.iaload, 1) := by decide +kernel
theorem dX1_targetsAt_17 : decode cX1_targetsAt 17 = .ok (.goto 4, 3) := by decide +kernel
theorem dX1_targetsAt_20 : decode cX1_targetsAt 20 = .ok (.iconst 0, 1) := by decide +kernel
theorem dX1_targetsAt_21 : decode cX1_targetsAt 21 = .ok (.ireturn, 1) := by decide +kernel
theorem dX1_entriesWith_0 : decode cX1_entriesWith 0 = .ok (.iconst 0, 1) := by decide +kernel
theorem dX1_entriesWith_1 : decode cX1_entriesWith 1 = .ok (.istore_n 2, 1) := by decide +kernel
theorem dX1_entriesWith_2 : decode cX1_entriesWith 2 = .ok (.iconst 0, 1) := by decide +kernel
theorem dX1_entriesWith_3 : decode cX1_entriesWith 3 = .ok (.istore_n 3, 1) := by decide +kernel
theorem dX1_entriesWith_4 : decode cX1_entriesWith 4 = .ok (.iload_n 3, 1) := by decide +kernel
theorem dX1_entriesWith_5 : decode cX1_entriesWith 5 = .ok (.aload_n 0, 1) := by decide +kernel
theorem dX1_entriesWith_6 : decode cX1_entriesWith 6 = .ok (.getfield 18, 3) := by decide +kernel
theorem dX1_entriesWith_9 : decode cX1_entriesWith 9 = .ok (.if_icmp .ge 29, 3) := by decide +kernel
theorem dX1_entriesWith_12 : decode cX1_entriesWith 12 = .ok (.iload_n 3, 1) := by decide +kernel
theorem dX1_entriesWith_13 : decode cX1_entriesWith 13 = .ok (.sipush 400, 3) := by decide +kernel
theorem dX1_entriesWith_16 : decode cX1_entriesWith 16 = .ok (.if_icmp .ge 22, 3) := by decide +kernel
theorem dX1_entriesWith_19 : decode cX1_entriesWith 19 = .ok (.aload_n 0, 1) := by decide +kernel
theorem dX1_entriesWith_20 : decode cX1_entriesWith 20 = .ok (.getfield 9, 3) := by decide +kernel
theorem dX1_entriesWith_23 : decode cX1_entriesWith 23 = .ok (.iload_n 3, 1) := by decide +kernel
theorem dX1_entriesWith_24 : decode cX1_entriesWith 24 = .ok (.iaload, 1) := by decide +kernel
theorem dX1_entriesWith_25 : decode cX1_entriesWith 25 = .ok (.iload_n 1, 1) := by decide +kernel
theorem dX1_entriesWith_26 : decode cX1_entriesWith 26 = .ok (.if_icmp .ne 6, 3) := by decide +kernel
theorem dX1_entriesWith_29 : decode cX1_entriesWith 29 = .ok (.iinc 2 1, 3) := by decide +kernel
theorem dX1_entriesWith_32 : decode cX1_entriesWith 32 = .ok (.iinc 3 1, 3) := by decide +kernel
theorem dX1_entriesWith_35 : decode cX1_entriesWith 35 = .ok (.goto (-31), 3) := by decide +kernel
theorem dX1_entriesWith_38 : decode cX1_entriesWith 38 = .ok (.iload_n 2, 1) := by decide +kernel
theorem dX1_entriesWith_39 : decode cX1_entriesWith 39 = .ok (.ireturn, 1) := by decide +kernel
theorem dX2_init_0 : decode cX2_init 0 = .ok (.aload_n 0, 1) := by decide +kernel
theorem dX2_init_1 : decode cX2_init 1 = .ok (.invokespecial 3, 3) := by decide +kernel
theorem dX2_init_4 : decode cX2_init 4 = .ok (.aload_n 0, 1) := by decide +kernel
theorem dX2_init_5 : decode cX2_init 5 = .ok (.sipush 400, 3) := by decide +kernel
theorem dX2_init_8 : decode cX2_init 8 = .ok (.newarray .int, 2) := by decide +kernel
theorem dX2_init_10 : decode cX2_init 10 = .ok (.putfield 9, 3) := by decide +kernel
theorem dX2_init_13 : decode cX2_init 13 = .ok (.aload_n 0, 1) := by decide +kernel
theorem dX2_init_14 : decode cX2_init 14 = .ok (.bipush 6, 2) := by decide +kernel
theorem dX2_init_16 : decode cX2_init 16 = .ok (.newarray .int, 2) := by decide +kernel
theorem dX2_init_18 : decode cX2_init 18 = .ok (.putfield 15, 3) := by decide +kernel
theorem dX2_init_21 : decode cX2_init 21 = .ok (.aload_n 0, 1) := by decide +kernel
theorem dX2_init_22 : decode cX2_init 22 = .ok (.iconst 0, 1) := by decide +kernel
theorem dX2_init_23 : decode cX2_init 23 = .ok (.putfield 18, 3) := by decide +kernel
theorem dX2_init_26 : decode cX2_init 26 = .ok (.aload_n 0, 1) := by decide +kernel
theorem dX2_init_27 : decode cX2_init 27 = .ok (.sipush 1000, 3) := by decide +kernel
theorem dX2_init_30 : decode cX2_init 30 = .ok (.putfield 22, 3) := by decide +kernel
theorem dX2_init_33 : decode cX2_init 33 = .ok (.aload_n 0, 1) := by decide +kernel
theorem dX2_init_34 : decode cX2_init 34 = .ok (.iconst 0, 1) := by decide +kernel
theorem dX2_init_35 : decode cX2_init 35 = .ok (.putfield 25, 3) := by decide +kernel
theorem dX2_init_38 : decode cX2_init 38 = .ok (.aload_n 0, 1) := by decide +kernel
theorem dX2_init_39 : decode cX2_init 39 = .ok (.iconst 2, 1) := by decide +kernel
theorem dX2_init_40 : decode cX2_init 40 = .ok (.putfield 28, 3) := by decide +kernel
theorem dX2_init_43 : decode cX2_init 43 = .ok (.aload_n 0, 1) := by decide +kernel
theorem dX2_init_44 : decode cX2_init 44 = .ok (.iconst 0, 1) := by decide +kernel
theorem dX2_init_45 : decode cX2_init 45 = .ok (.putfield 31, 3) := by decide +kernel
theorem dX2_init_48 : decode cX2_init 48 = .ok (.aload_n 0, 1) := by decide +kernel
theorem dX2_init_49 : decode cX2_init 49 = .ok (.iconst 0, 1) := by decide +kernel
theorem dX2_init_50 : decode cX2_init 50 = .ok (.putfield 34, 3) := by decide +kernel
theorem dX2_init_53 : decode cX2_init 53 = .ok (.aload_n 0, 1) := by decide +kernel
theorem dX2_init_54 : decode cX2_init 54 = .ok (.iconst 0, 1) := by decide +kernel
theorem dX2_init_55 : decode cX2_init 55 = .ok (.putfield 37, 3) := by decide +kernel
theorem dX2_init_58 : decode cX2_init 58 = .ok (.aload_n 0, 1) := by decide +kernel
theorem dX2_init_59 : decode cX2_init 59 = .ok (.iconst 0, 1) := by decide +kernel
theorem dX2_init_60 : decode cX2_init 60 = .ok (.putfield 40, 3) := by decide +kernel
theorem dX2_init_63 : decode cX2_init 63 = .ok (.return_, 1) := by decide +kernel
theorem dX2_limit_0 : decode cX2_limit 0 = .ok (.aload_n 0, 1) := by decide +kernel
theorem dX2_limit_1 : decode cX2_limit 1 = .ok (.iload_n 1, 1) := by decide +kernel
theorem dX2_limit_2 : decode cX2_limit 2 = .ok (.putfield 22, 3) := by decide +kernel
theorem dX2_limit_5 : decode cX2_limit 5 = .ok (.aload_n 0, 1) := by decide +kernel
theorem dX2_limit_6 : decode cX2_limit 6 = .ok (.iload_n 2, 1) := by decide +kernel
theorem dX2_limit_7 : decode cX2_limit 7 = .ok (.putfield 25, 3) := by decide +kernel
theorem dX2_limit_10 : decode cX2_limit 10 = .ok (.aload_n 0, 1) := by decide +kernel
theorem dX2_limit_11 : decode cX2_limit 11 = .ok (.iload_n 3, 1) := by decide +kernel
theorem dX2_limit_12 : decode cX2_limit 12 = .ok (.putfield 28, 3) := by decide +kernel
theorem dX2_limit_15 : decode cX2_limit 15 = .ok (.aload_n 0, 1) := by decide +kernel
theorem dX2_limit_16 : decode cX2_limit 16 = .ok (.getfield 37, 3) := by decide +kernel
theorem dX2_limit_19 : decode cX2_limit 19 = .ok (.iload_n 3, 1) := by decide +kernel
theorem dX2_limit_20 : decode cX2_limit 20 = .ok (.if_icmp .le 8, 3) := by decide +kernel
theorem dX2_limit_23 : decode cX2_limit 23 = .ok (.aload_n 0, 1) := by decide +kernel
theorem dX2_limit_24 : decode cX2_limit 24 = .ok (.iload_n 3, 1) := by decide +kernel
theorem dX2_limit_25 : decode cX2_limit 25 = .ok (.putfield 37, 3) := by decide +kernel
theorem dX2_limit_28 : decode cX2_limit 28 = .ok (.return_, 1) := by decide +kernel
theorem dX2_isEmpty_0 : decode cX2_isEmpty 0 = .ok (.aload_n 0, 1) := by decide +kernel
theorem dX2_isEmpty_1 : decode cX2_isEmpty 1 = .ok (.getfield 18, 3) := by decide +kernel
theorem dX2_isEmpty_4 : decode cX2_isEmpty 4 = .ok (.aload_n 0, 1) := by decide +kernel
theorem dX2_isEmpty_5 : decode cX2_isEmpty 5 = .ok (.getfield 15, 3) := by decide +kernel
theorem dX2_isEmpty_8 : decode cX2_isEmpty 8 = .ok (.iconst 0, 1) := by decide +kernel
theorem dX2_isEmpty_9 : decode cX2_isEmpty 9 = .ok (.iaload, 1) := by decide +kernel
theorem dX2_isEmpty_10 : decode cX2_isEmpty 10 = .ok (.if_icmp .ne 7, 3) := by decide +kernel
theorem dX2_isEmpty_13 : decode cX2_isEmpty 13 = .ok (.iconst 1, 1) := by decide +kernel
theorem dX2_isEmpty_14 : decode cX2_isEmpty 14 = .ok (.goto 4, 3) := by decide +kernel
theorem dX2_isEmpty_17 : decode cX2_isEmpty 17 = .ok (.iconst 0, 1) := by decide +kernel
theorem dX2_isEmpty_18 : decode cX2_isEmpty 18 = .ok (.ireturn, 1) := by decide +kernel
set_option maxRecDepth 20000 in
theorem ggX2_isAged_X2_isEmpty : GoodIn wsX2_isAged wsX2_isEmpty := goodIn_r _ [7, 8, 9, 10, 11, 12, 13, 14, 15, 16, 17, 18, 19] (by decide +kernel) (by decide +kernel)
set_option maxRecDepth 20000 in
theorem gX2_isAged_X2_isEmpty : GoodIn wsX2_isAged (wsV RX2 43 RX2 yX2_isEmpty wsX2_isEmpty) := goodIn_app (goodIn_of _ (by decide +kernel)) ggX2_isAged_X2_isEmpty
theorem dX2_isAged_0 : decode cX2_isAged 0 = .ok (.aload_n 0, 1) := by decide +kernel
theorem dX2_isAged_1 : decode cX2_isAged 1 = .ok (.getfield 25, 3) := by decide +kernel
theorem dX2_isAged_4 : decode cX2_isAged 4 = .ok (.ifCond .eq 27, 3) := by decide +kernel
theorem dX2_isAged_7 : decode cX2_isAged 7 = .ok (.aload_n 0, 1) := by decide +kernel
theorem dX2_isAged_8 : decode cX2_isAged 8 = .ok (.invokevirtual 43, 3) := by decide +kernel
theorem dX2_isAged_11 : decode cX2_isAged 11 = .ok (.ifCond .ne 20, 3) := by decide +kernel
theorem dX2_isAged_14 : decode cX2_isAged 14 = .ok (.iload_n 1, 1) := by decide +kernel
theorem dX2_isAged_15 : decode cX2_isAged 15 = .ok (.aload_n 0, 1) := by decide +kernel
theorem dX2_isAged_16 : decode cX2_isAged 16 = .ok (.getfield 31, 3) := by decide +kernel
theorem dX2_isAged_19 : decode cX2_isAged 19 = .ok (.isub, 1) := by decide +kernel
theorem dX2_isAged_20 : decode cX2_isAged 20 = .ok (.aload_n 0, 1) := by decide +kernel
theorem dX2_isAged_21 : decode cX2_isAged 21 = .ok (.getfield 25, 3) := by decide +kernel
theorem dX2_isAged_24 : decode cX2_isAged 24 = .ok (.if_icmp .lt 7, 3) := by decide +kernel
theorem dX2_isAged_27 : decode cX2_isAged 27 = .ok (.iconst 1, 1) := by decide +kernel
theorem dX2_isAged_28 : decode cX2_isAged 28 = .ok (.goto 4, 3) := by decide +kernel
theorem dX2_isAged_31 : decode cX2_isAged 31 = .ok (.iconst 0, 1) := by decide +kernel
theorem dX2_isAged_32 : decode cX2_isAged 32 = .ok (.ireturn, 1) := by decide +kernel
set_option maxRecDepth 20000 in
theorem ggX2_add_X2_isEmpty : GoodIn wsX2_add wsX2_isEmpty := goodIn_r _ [10, 4, 11, 19, 20, 21, 22, 23, 24, 25, 26, 27, 28] (by decide +kernel) (by decide +kernel)
set_option maxRecDepth 20000 in
theorem gX2_add_X2_isEmpty : GoodIn wsX2_add (wsV RX2 43 RX2 yX2_isEmpty wsX2_isEmpty) := goodIn_app (goodIn_of _ (by decide +kernel)) ggX2_add_X2_isEmpty
set_option maxRecDepth 20000 in
theorem ggX2_add_X2_turnOver : GoodIn wsX2_add wsX2_turnOver := goodIn_r _ [15, 11, 4, 1, 16, 17, 18, 19, 20, 21, 22, 23, 24, 25, 26, 27, 28] (by decide +kernel) (by decide +kernel)
set_option maxRecDepth 20000 in
theorem gX2_add_X2_turnOver : GoodIn wsX2_add (wsV RX2 47 RX2 yX2_turnOver wsX2_turnOver) := goodIn_app (goodIn_of _ (by decide +kernel)) ggX2_add_X2_turnOver
theorem dX2_add_0 : decode cX2_add 0 = .ok (.aload_n 0, 1) := by decide +kernel
theorem dX2_add_1 : decode cX2_add 1 = .ok (.invokevirtual 43, 3) := by decide +kernel
theorem dX2_add_4 : decode cX2_add 4 = .ok (.ifCond .ne 20, 3) := by decide +kernel
theorem dX2_add_7 : decode cX2_add 7 = .ok (.aload_n 0, 1) := by decide +kernel
theorem dX2_add_8 : decode cX2_add 8 = .ok (.getfield 34, 3) := by decide +kernel
theorem dX2_add_11 : decode cX2_add 11 = .ok (.iload_n 2, 1) := by decide +kernel
theorem dX2_add_12 : decode cX2_add 12 = .ok (.iadd, 1) := by decide +kernel
theorem dX2_add_13 : decode cX2_add 13 = .ok (.aload_n 0, 1) := by decide +kernel
theorem dX2_add_14 : decode cX2_add 14 = .ok (.getfield 22, 3) := by decide +kernel
theorem dX2_add_17 : decode cX2_add 17 = .ok (.if_icmp .le 7, 3) := by decide +kernel
theorem dX2_add_20 : decode cX2_add 20 = .ok (.aload_n 0, 1) := by decide +kernel
theorem dX2_add_21 : decode cX2_add 21 = .ok (.invokevirtual 47, 3) := by decide +kernel
theorem dX2_add_24 : decode cX2_add 24 = .ok (.aload_n 0, 1) := by decide +kernel
theorem dX2_add_25 : decode cX2_add 25 = .ok (.invokevirtual 43, 3) := by decide +kernel
theorem dX2_add_28 : decode cX2_add 28 = .ok (.ifCond .eq 8, 3) := by decide +kernel
theorem dX2_add_31 : decode cX2_add 31 = .ok (.aload_n 0, 1) := by decide +kernel
theorem dX2_add_32 : decode cX2_add 32 = .ok (.iload_n 3, 1) := by decide +kernel
theorem dX2_add_33 : decode cX2_add 33 = .ok (.putfield 31, 3) := by decide +kernel
theorem dX2_add_36 : decode cX2_add 36 = .ok (.aload_n 0, 1) := by decide +kernel
theorem dX2_add_37 : decode cX2_add 37 = .ok (.getfield 18, 3) := by decide +kernel
theorem dX2_add_40 : decode cX2_add 40 = .ok (.ifCond .lt 45, 3) := by decide +kernel
theorem dX2_add_43 : decode cX2_add 43 = .ok (.aload_n 0, 1) := by decide +kernel
theorem dX2_add_44 : decode cX2_add 44 = .ok (.getfield 18, 3) := by decide +kernel
theorem dX2_add_47 : decode cX2_add 47 = .ok (.aload_n 0, 1) := by decide +kernel
theorem dX2_add_48 : decode cX2_add 48 = .ok (.getfield 9, 3) := by decide +kernel
theorem dX2_add_51 : decode cX2_add 51 = .ok (.arraylength, 1) := by decide +kernel
theorem dX2_add_52 : decode cX2_add 52 = .ok (.if_icmp .ge 33, 3) := by decide +kernel
theorem dX2_add_55 : decode cX2_add 55 = .ok (.aload_n 0, 1) := by decide +kernel
theorem dX2_add_56 : decode cX2_add 56 = .ok (.getfield 9, 3) := by decide +kernel
theorem dX2_add_59 : decode cX2_add 59 = .ok (.aload_n 0, 1) := by decide +kernel
theorem dX2_add_60 : decode cX2_add 60 = .ok (.getfield 18, 3) := by decide +kernel
theorem dX2_add_63 : decode cX2_add 63 = .ok (.iload_n 1, 1) := by decide +kernel
theorem dX2_add_64 : decode cX2_add 64 = .ok (.iastore, 1) := by decide +kernel
theorem dX2_add_65 : decode cX2_add 65 = .ok (.aload_n 0, 1) := by decide +kernel
theorem dX2_add_66 : decode cX2_add 66 = .ok (.dup, 1) := by decide +kernel
theorem dX2_add_67 : decode cX2_add 67 = .ok (.getfield 18, 3) := by decide +kernel
theorem dX2_add_70 : decode cX2_add 70 = .ok (.iconst 1, 1) := by decide +kernel
theorem dX2_add_71 : decode cX2_add 71 = .ok (.iadd, 1) := by decide +kernel
theorem dX2_add_72 : decode cX2_add 72 = .ok (.putfield 18, 3) := by decide +kernel
theorem dX2_add_75 : decode cX2_add 75 = .ok (.aload_n 0, 1) := by decide +kernel
theorem dX2_add_76 : decode cX2_add 76 = .ok (.dup, 1) := by decide +kernel
theorem dX2_add_77 : decode cX2_add 77 = .ok (.getfield 34, 3) := by decide +kernel
theorem dX2_add_80 : decode cX2_add 80 = .ok (.iload_n 2, 1) := by decide +kernel
theorem dX2_add_81 : decode cX2_add 81 = .ok (.iadd, 1) := by decide +kernel
theorem dX2_add_82 : decode cX2_add 82 = .ok (.putfield 34, 3) := by decide +kernel
theorem dX2_add_85 : decode cX2_add 85 = .ok (.return_, 1) := by decide +kernel
theorem dX2_turnOver_0 : decode cX2_turnOver 0 = .ok (.iconst 5, 1) := by decide +kernel
theorem dX2_turnOver_1 : decode cX2_turnOver 1 = .ok (.istore_n 1, 1) := by decide +kernel
theorem dX2_turnOver_2 : decode cX2_turnOver 2 = .ok (.iload_n 1, 1) := by decide +kernel
theorem dX2_turnOver_3 : decode cX2_turnOver 3 = .ok (.ifCond .le 23, 3) := by decide +kernel
theorem dX2_turnOver_6 : decode cX2_turnOver 6 = .ok (.aload_n 0, 1) := by decide +kernel
theorem dX2_turnOver_7 : decode cX2_turnOver 7 = .ok (.getfield 15, 3) := by decide +kernel
theorem dX2_turnOver_10 : decode cX2_turnOver 10 = .ok (.iload_n 1, 1) := by decide +kernel
theorem dX2_turnOver_11 : decode cX2_turnOver 11 = .ok (.aload_n 0, 1) := by decide +kernel
theorem dX2_turnOver_12 : decode cX2_turnOver 12 = .ok (.getfield 15, 3) := by decide +kernel
theorem dX2_turnOver_15 : decode cX2_turnOver 15 = .ok (.iload_n 1, 1) := by decide +kernel
theorem dX2_turnOver_16 : decode cX2_turnOver 16 = .ok (.iconst 1, 1) := by decide +kernel
theorem dX2_turnOver_17 : decode cX2_turnOver 17 = .ok (.isub, 1) := by decide +kernel
theorem dX2_turnOver_18 : decode cX2_turnOver 18 = .ok (.iaload, 1) := by decide +kernel
theorem dX2_turnOver_19 : decode cX2_turnOver 19 = .ok (.iastore, 1) := by decide +kernel
theorem dX2_turnOver_20 : decode cX2_turnOver 20 = .ok (.iinc 1 (-1), 3) := by decide +kernel
theorem dX2_turnOver_23 : decode cX2_turnOver 23 = .ok (.goto (-21), 3) := by decide +kernel
theorem dX2_turnOver_26 : decode cX2_turnOver 26 = .ok (.aload_n 0, 1) := by decide +kernel
theorem dX2_turnOver_27 : decode cX2_turnOver 27 = .ok (.getfield 15, 3) := by decide +kernel
theorem dX2_turnOver_30 : decode cX2_turnOver 30 = .ok (.iconst 0, 1) := by decide +kernel
theorem dX2_turnOver_31 : decode cX2_turnOver 31 = .ok (.aload_n 0, 1) := by decide +kernel
theorem dX2_turnOver_32 : decode cX2_turnOver 32 = .ok (.getfield 18, 3) := by decide +kernel
theorem dX2_turnOver_35 : decode cX2_turnOver 35 = .ok (.iastore, 1) := by decide +kernel
theorem dX2_turnOver_36 : decode cX2_turnOver 36 = .ok (.aload_n 0, 1) := by decide +kernel
theorem dX2_turnOver_37 : decode cX2_turnOver 37 = .ok (.iconst 0, 1) := by decide +kernel
theorem dX2_turnOver_38 : decode cX2_turnOver 38 = .ok (.putfield 34, 3) := by decide +kernel
theorem dX2_turnOver_41 : decode cX2_turnOver 41 = .ok (.aload_n 0, 1) := by decide +kernel
theorem dX2_turnOver_42 : decode cX2_turnOver 42 = .ok (.dup, 1) := by decide +kernel
theorem dX2_turnOver_43 : decode cX2_turnOver 43 = .ok (.getfield 40, 3) := by decide +kernel
theorem dX2_turnOver_46 : decode cX2_turnOver 46 = .ok (.iconst 1, 1) := by decide +kernel
theorem dX2_turnOver_47 : decode cX2_turnOver 47 = .ok (.iadd, 1) := by decide +kernel
theorem dX2_turnOver_48 : decode cX2_turnOver 48 = .ok (.putfield 40, 3) := by decide +kernel
theorem dX2_turnOver_51 : decode cX2_turnOver 51 = .ok (.aload_n 0, 1) := by decide +kernel
theorem dX2_turnOver_52 : decode cX2_turnOver 52 = .ok (.getfield 37, 3) := by decide +kernel
theorem dX2_turnOver_55 : decode cX2_turnOver 55 = .ok (.aload_n 0, 1) := by decide +kernel
theorem dX2_turnOver_56 : decode cX2_turnOver 56 = .ok (.getfield 28, 3) := by decide +kernel
theorem dX2_turnOver_59 : decode cX2_turnOver 59 = .ok (.if_icmp .ge 13, 3) := by decide +kernel
theorem dX2_turnOver_62 : decode cX2_turnOver 62 = .ok (.aload_n 0, 1) := by decide +kernel
theorem dX2_turnOver_63 : decode cX2_turnOver 63 = .ok (.dup, 1) := by decide +kernel
theorem dX2_turnOver_64 : decode cX2_turnOver 64 = .ok (.getfield 37, 3) := by decide +kernel
theorem dX2_turnOver_67 : decode cX2_turnOver 67 = .ok (.iconst 1, 1) := by decide +kernel
theorem dX2_turnOver_68 : decode cX2_turnOver 68 = .ok (.iadd, 1) := by decide +kernel
theorem dX2_turnOver_69 : decode cX2_turnOver 69 = .ok (.putfield 37, 3) := by decide +kernel
theorem dX2_turnOver_72 : decode cX2_turnOver 72 = .ok (.return_, 1) := by decide +kernel
theorem dX2_has_0 : decode cX2_has 0 = .ok (.iload_n 1, 1) := by decide +kernel
theorem dX2_has_1 : decode cX2_has 1 = .ok (.iconst (-1), 1) := by decide +kernel
theorem dX2_has_2 : decode cX2_has 2 = .ok (.if_icmp .lt 15, 3) := by decide +kernel
theorem dX2_has_5 : decode cX2_has 5 = .ok (.iload_n 1, 1) := by decide +kernel
theorem dX2_has_6 : decode cX2_has 6 = .ok (.aload_n 0, 1) := by decide +kernel
theorem dX2_has_7 : decode cX2_has 7 = .ok (.getfield 37, 3) := by decide +kernel
theorem dX2_has_10 : decode cX2_has 10 = .ok (.if_icmp .ge 7, 3) := by decide +kernel
theorem dX2_has_13 : decode cX2_has 13 = .ok (.iconst 1, 1) := by decide +kernel
theorem dX2_has_14 : decode cX2_has 14 = .ok (.goto 4, 3) := by decide +kernel
theorem dX2_has_17 : decode cX2_has 17 = .ok (.iconst 0, 1) := by decide +kernel
theorem dX2_has_18 : decode cX2_has 18 = .ok (.ireturn, 1) := by decide +kernel
set_option maxRecDepth 20000 in
theorem ggX2_linesOf_X2_startOf : GoodIn wsX2_linesOf wsX2_startOf := goodIn_r _ [6, 7, 1, 8, 9, 10, 11, 12, 13, 14, 15, 16, 17] (by decide +kernel) (by decide +kernel)
set_option maxRecDepth 20000 in
theorem gX2_linesOf_X2_startOf : GoodIn wsX2_linesOf (wsV RX2 50 RX2 yX2_startOf wsX2_startOf) := goodIn_app (goodIn_of _ (by decide +kernel)) ggX2_linesOf_X2_startOf
theorem dX2_linesOf_0 : decode cX2_linesOf 0 = .ok (.iload_n 1, 1) := by decide +kernel
theorem dX2_linesOf_1 : decode cX2_linesOf 1 = .ok (.iconst (-1), 1) := by decide +kernel
theorem dX2_linesOf_2 : decode cX2_linesOf 2 = .ok (.if_icmp .ne 10, 3) := by decide +kernel
theorem dX2_linesOf_5 : decode cX2_linesOf 5 = .ok (.aload_n 0, 1) := by decide +kernel
theorem dX2_linesOf_6 : decode cX2_linesOf 6 = .ok (.getfield 18, 3) := by decide +kernel
theorem dX2_linesOf_9 : decode cX2_linesOf 9 = .ok (.goto 10, 3) := by decide +kernel
theorem dX2_linesOf_12 : decode cX2_linesOf 12 = .ok (.aload_n 0, 1) := by decide +kernel
theorem dX2_linesOf_13 : decode cX2_linesOf 13 = .ok (.iload_n 1, 1) := by decide +kernel
theorem dX2_linesOf_14 : decode cX2_linesOf 14 = .ok (.iconst 1, 1) := by decide +kernel
theorem dX2_linesOf_15 : decode cX2_linesOf 15 = .ok (.isub, 1) := by decide +kernel
theorem dX2_linesOf_16 : decode cX2_linesOf 16 = .ok (.invokevirtual 50, 3) := by decide +kernel
theorem dX2_linesOf_19 : decode cX2_linesOf 19 = .ok (.istore_n 2, 1) := by decide +kernel
theorem dX2_linesOf_20 : decode cX2_linesOf 20 = .ok (.iload_n 2, 1) := by decide +kernel
theorem dX2_linesOf_21 : decode cX2_linesOf 21 = .ok (.aload_n 0, 1) := by decide +kernel
theorem dX2_linesOf_22 : decode cX2_linesOf 22 = .ok (.iload_n 1, 1) := by decide +kernel
theorem dX2_linesOf_23 : decode cX2_linesOf 23 = .ok (.invokevirtual 50, 3) := by decide +kernel
theorem dX2_linesOf_26 : decode cX2_linesOf 26 = .ok (.isub, 1) := by decide +kernel
theorem dX2_linesOf_27 : decode cX2_linesOf 27 = .ok (.ireturn, 1) := by decide +kernel
set_option maxRecDepth 20000 in
theorem ggX2_lineAt_X2_startOf : GoodIn wsX2_lineAt wsX2_startOf := goodIn_r _ [6, 7, 8, 9, 10, 11, 12, 13, 14, 15, 16, 17, 18] (by decide +kernel) (by decide +kernel)
set_option maxRecDepth 20000 in
theorem gX2_lineAt_X2_startOf : GoodIn wsX2_lineAt (wsV RX2 50 RX2 yX2_startOf wsX2_startOf) := goodIn_app (goodIn_of _ (by decide +kernel)) ggX2_lineAt_X2_startOf
theorem dX2_lineAt_0 : decode cX2_lineAt 0 = .ok (.aload_n 0, 1) := by decide +kernel
theorem dX2_lineAt_1 : decode cX2_lineAt 1 = .ok (.iload_n 1, 1) := by decide +kernel
theorem dX2_lineAt_2 : decode cX2_lineAt 2 = .ok (.invokevirtual 50, 3) := by decide +kernel
theorem dX2_lineAt_5 : decode cX2_lineAt 5 = .ok (.iload_n 2, 1) := by decide +kernel
theorem dX2_lineAt_6 : decode cX2_lineAt 6 = .ok (.iadd, 1) := by decide +kernel
theorem dX2_lineAt_7 : decode cX2_lineAt 7 = .ok (.istore_n 3, 1) := by decide +kernel
theorem dX2_lineAt_8 : decode cX2_lineAt 8 = .ok (.iload_n 3, 1) := by decide +kernel
theorem dX2_lineAt_9 : decode cX2_lineAt 9 = .ok (.ifCond .lt 21, 3) := by decide +kernel
theorem dX2_lineAt_12 : decode cX2_lineAt 12 = .ok (.iload_n 3, 1) := by decide +kernel
theorem dX2_lineAt_13 : decode cX2_lineAt 13 = .ok (.aload_n 0, 1) := by decide +kernel
theorem dX2_lineAt_14 : decode cX2_lineAt 14 = .ok (.getfield 9, 3) := by decide +kernel
theorem dX2_lineAt_17 : decode cX2_lineAt 17 = .ok (.arraylength, 1) := by decide +kernel
theorem dX2_lineAt_18 : decode cX2_lineAt 18 = .ok (.if_icmp .ge 12, 3) := by decide +kernel
theorem dX2_lineAt_21 : decode cX2_lineAt 21 = .ok (.aload_n 0, 1) := by decide +kernel
theorem dX2_lineAt_22 : decode cX2_lineAt 22 = .ok (.getfield 9, 3) := by decide +kernel
theorem dX2_lineAt_25 : decode cX2_lineAt 25 = .ok (.iload_n 3, 1) := by decide +kernel
theorem dX2_lineAt_26 : decode cX2_lineAt 26 = .ok (.iaload, 1) := by decide +kernel
theorem dX2_lineAt_27 : decode cX2_lineAt 27 = .ok (.goto 4, 3) := by decide +kernel
theorem dX2_lineAt_30 : decode cX2_lineAt 30 = .ok (.iconst (-1), 1) := by decide +kernel
theorem dX2_lineAt_31 : decode cX2_lineAt 31 = .ok (.ireturn, 1) := by decide +kernel
theorem dX2_startOf_0 : decode cX2_startOf 0 = .ok (.iload_n 1, 1) := by decide +kernel
theorem dX2_startOf_1 : decode cX2_startOf 1 = .ok (.iconst 1, 1) := by decide +kernel
theorem dX2_startOf_2 : decode cX2_startOf 2 = .ok (.iadd, 1) := by decide +kernel
theorem dX2_startOf_3 : decode cX2_startOf 3 = .ok (.istore_n 2, 1) := by decide +kernel
theorem dX2_startOf_4 : decode cX2_startOf 4 = .ok (.iload_n 2, 1) := by decide +kernel
theorem dX2_startOf_5 : decode cX2_startOf 5 = .ok (.ifCond .lt 21, 3) := by decide +kernel
theorem dX2_startOf_8 : decode cX2_startOf 8 = .ok (.iload_n 2, 1) := by decide +kernel
theorem dX2_startOf_9 : decode cX2_startOf 9 = .ok (.aload_n 0, 1) := by decide +kernel
theorem dX2_startOf_10 : decode cX2_startOf 10 = .ok (.getfield 15, 3) := by decide +kernel
theorem dX2_startOf_13 : decode cX2_startOf 13 = .ok (.arraylength, 1) := by decide +kernel
theorem dX2_startOf_14 : decode cX2_startOf 14 = .ok (.if_icmp .ge 12, 3) := by decide +kernel
theorem dX2_startOf_17 : decode cX2_startOf 17 = .ok (.aload_n 0, 1) := by decide +kernel
theorem dX2_startOf_18 : decode cX2_startOf 18 = .ok (.getfield 15, 3) := by decide +kernel
theorem dX2_startOf_21 : decode cX2_startOf 21 = .ok (.iload_n 2, 1) := by decide +kernel
theorem dX2_startOf_22 : decode cX2_startOf 22 = .ok (.iaload, 1) := by decide +kernel
theorem dX2_startOf_23 : decode cX2_startOf 23 = .ok (.goto 7, 3) := by decide +kernel
theorem dX2_startOf_26 : decode cX2_startOf 26 = .ok (.aload_n 0, 1) := by decide +kernel
theorem dX2_startOf_27 : decode cX2_startOf 27 = .ok (.getfield 18, 3) := by decide +kernel
theorem dX2_startOf_30 : decode cX2_startOf 30 = .ok (.ireturn, 1) := by decide +kernel
theorem dX3_init_0 : decode cX3_init 0 = .ok (.aload_n 0, 1) := by decide +kernel
theorem dX3_init_1 : decode cX3_init 1 = .ok (.invokespecial 3, 3) := by decide +kernel
theorem dX3_init_4 : decode cX3_init 4 = .ok (.aload_n 0, 1) := by decide +kernel
theorem dX3_init_5 : decode cX3_init 5 = .ok (.iconst 0, 1) := by decide +kernel
theorem dX3_init_6 : decode cX3_init 6 = .ok (.putfield 9, 3) := by decide +kernel
theorem dX3_init_9 : decode cX3_init 9 = .ok (.aload_n 0, 1) := by decide +kernel
theorem dX3_init_10 : decode cX3_init 10 = .ok (.iconst 0, 1) := by decide +kernel
theorem dX3_init_11 : decode cX3_init 11 = .ok (.putfield 15, 3) := by decide +kernel
theorem dX3_init_14 : decode cX3_init 14 = .ok (.aload_n 0, 1) := by decide +kernel
theorem dX3_init_15 : decode cX3_init 15 = .ok (.iconst 0, 1) := by decide +kernel
theorem dX3_init_16 : decode cX3_init 16 = .ok (.putfield 19, 3) := by decide +kernel
theorem dX3_init_19 : decode cX3_init 19 = .ok (.aload_n 0, 1) := by decide +kernel
theorem dX3_init_20 : decode cX3_init 20 = .ok (.iconst (-1), 1) := by decide +kernel
theorem dX3_init_21 : decode cX3_init 21 = .ok (.putfield 22, 3) := by decide +kernel
theorem dX3_init_24 : decode cX3_init 24 = .ok (.aload_n 0, 1) := by decide +kernel
theorem dX3_init_25 : decode cX3_init 25 = .ok (.iconst 0, 1) := by decide +kernel
theorem dX3_init_26 : decode cX3_init 26 = .ok (.putfield 25, 3) := by decide +kernel
theorem dX3_init_29 : decode cX3_init 29 = .ok (.return_, 1) := by decide +kernel
theorem dX3_put_0 : decode cX3_put 0 = .ok (.aload_n 0, 1) := by decide +kernel
theorem dX3_put_1 : decode cX3_put 1 = .ok (.iconst 1, 1) := by decide +kernel
theorem dX3_put_2 : decode cX3_put 2 = .ok (.putfield 9, 3) := by decide +kernel
theorem dX3_put_5 : decode cX3_put 5 = .ok (.aload_n 0, 1) := by decide +kernel
theorem dX3_put_6 : decode cX3_put 6 = .ok (.iload_n 1, 1) := by decide +kernel
theorem dX3_put_7 : decode cX3_put 7 = .ok (.putfield 15, 3) := by decide +kernel
theorem dX3_put_10 : decode cX3_put 10 = .ok (.aload_n 0, 1) := by decide +kernel
theorem dX3_put_11 : decode cX3_put 11 = .ok (.iload_n 2, 1) := by decide +kernel
theorem dX3_put_12 : decode cX3_put 12 = .ok (.putfield 19, 3) := by decide +kernel
theorem dX3_put_15 : decode cX3_put 15 = .ok (.aload_n 0, 1) := by decide +kernel
theorem dX3_put_16 : decode cX3_put 16 = .ok (.iload_n 3, 1) := by decide +kernel
theorem dX3_put_17 : decode cX3_put 17 = .ok (.putfield 22, 3) := by decide +kernel
theorem dX3_put_20 : decode cX3_put 20 = .ok (.aload_n 0, 1) := by decide +kernel
theorem dX3_put_21 : decode cX3_put 21 = .ok (.iload 4, 2) := by decide +kernel
theorem dX3_put_23 : decode cX3_put 23 = .ok (.putfield 25, 3) := by decide +kernel
theorem dX3_put_26 : decode cX3_put 26 = .ok (.return_, 1) := by decide +kernel
theorem dX3_fits_0 : decode cX3_fits 0 = .ok (.aload_n 0, 1) := by decide +kernel
theorem dX3_fits_1 : decode cX3_fits 1 = .ok (.getfield 9, 3) := by decide +kernel
theorem dX3_fits_4 : decode cX3_fits 4 = .ok (.ifCond .eq 43, 3) := by decide +kernel
theorem dX3_fits_7 : decode cX3_fits 7 = .ok (.aload_n 0, 1) := by decide +kernel
theorem dX3_fits_8 : decode cX3_fits 8 = .ok (.getfield 15, 3) := by decide +kernel
theorem dX3_fits_11 : decode cX3_fits 11 = .ok (.iload_n 2, 1) := by decide +kernel
theorem dX3_fits_12 : decode cX3_fits 12 = .ok (.ishr, 1) := by decide +kernel
theorem dX3_fits_13 : decode cX3_fits 13 = .ok (.iconst 1, 1) := by decide +kernel
theorem dX3_fits_14 : decode cX3_fits 14 = .ok (.iand, 1) := by decide +kernel
theorem dX3_fits_15 : decode cX3_fits 15 = .ok (.iconst 1, 1) := by decide +kernel
theorem dX3_fits_16 : decode cX3_fits 16 = .ok (.if_icmp .ne 31, 3) := by decide +kernel
theorem dX3_fits_19 : decode cX3_fits 19 = .ok (.iload_n 3, 1) := by decide +kernel
theorem dX3_fits_20 : decode cX3_fits 20 = .ok (.aload_n 0, 1) := by decide +kernel
theorem dX3_fits_21 : decode cX3_fits 21 = .ok (.getfield 19, 3) := by decide +kernel
theorem dX3_fits_24 : decode cX3_fits 24 = .ok (.if_icmp .gt 23, 3) := by decide +kernel
theorem dX3_fits_27 : decode cX3_fits 27 = .ok (.aload_n 0, 1) := by decide +kernel
theorem dX3_fits_28 : decode cX3_fits 28 = .ok (.getfield 22, 3) := by decide +kernel
theorem dX3_fits_31 : decode cX3_fits 31 = .ok (.iconst (-1), 1) := by decide +kernel
theorem dX3_fits_32 : decode cX3_fits 32 = .ok (.if_icmp .eq 11, 3) := by decide +kernel
theorem dX3_fits_35 : decode cX3_fits 35 = .ok (.aload_n 0, 1) := by decide +kernel
theorem dX3_fits_36 : decode cX3_fits 36 = .ok (.getfield 22, 3) := by decide +kernel
theorem dX3_fits_39 : decode cX3_fits 39 = .ok (.iload_n 1, 1) := by decide +kernel
theorem dX3_fits_40 : decode cX3_fits 40 = .ok (.if_icmp .ne 7, 3) := by decide +kernel
theorem dX3_fits_43 : decode cX3_fits 43 = .ok (.iconst 1, 1) := by decide +kernel
theorem dX3_fits_44 : decode cX3_fits 44 = .ok (.goto 4, 3) := by decide +kernel
theorem dX3_fits_47 : decode cX3_fits 47 = .ok (.iconst 0, 1) := by decide +kernel
theorem dX3_fits_48 : decode cX3_fits 48 = .ok (.ireturn, 1) := by decide +kernel
theorem dX4_init_0 : decode cX4_init 0 = .ok (.aload_n 0, 1) := by decide +kernel
theorem dX4_init_1 : decode cX4_init 1 = .ok (.invokespecial 3, 3) := by decide +kernel
theorem dX4_init_4 : decode cX4_init 4 = .ok (.aload_n 0, 1) := by decide +kernel
theorem dX4_init_5 : decode cX4_init 5 = .ok (.iconst 0, 1) := by decide +kernel
theorem dX4_init_6 : decode cX4_init 6 = .ok (.putfield 9, 3) := by decide +kernel
theorem dX4_init_9 : decode cX4_init 9 = .ok (.aload_n 0, 1) := by decide +kernel
theorem dX4_init_10 : decode cX4_init 10 = .ok (.iconst 0, 1) := by decide +kernel
theorem dX4_init_11 : decode cX4_init 11 = .ok (.putfield 15, 3) := by decide +kernel
theorem dX4_init_14 : decode cX4_init 14 = .ok (.aload_n 0, 1) := by decide +kernel
theorem dX4_init_15 : decode cX4_init 15 = .ok (.iconst 0, 1) := by decide +kernel
theorem dX4_init_16 : decode cX4_init 16 = .ok (.putfield 18, 3) := by decide +kernel
theorem dX4_init_19 : decode cX4_init 19 = .ok (.aload_n 0, 1) := by decide +kernel
theorem dX4_init_20 : decode cX4_init 20 = .ok (.iconst (-1), 1) := by decide +kernel
theorem dX4_init_21 : decode cX4_init 21 = .ok (.putfield 21, 3) := by decide +kernel
theorem dX4_init_24 : decode cX4_init 24 = .ok (.aload_n 0, 1) := by decide +kernel
theorem dX4_init_25 : decode cX4_init 25 = .ok (.iconst (-1), 1) := by decide +kernel
theorem dX4_init_26 : decode cX4_init 26 = .ok (.putfield 24, 3) := by decide +kernel
theorem dX4_init_29 : decode cX4_init 29 = .ok (.aload_n 0, 1) := by decide +kernel
theorem dX4_init_30 : decode cX4_init 30 = .ok (.iconst (-1), 1) := by decide +kernel
theorem dX4_init_31 : decode cX4_init 31 = .ok (.putfield 27, 3) := by decide +kernel
theorem dX4_init_34 : decode cX4_init 34 = .ok (.aload_n 0, 1) := by decide +kernel
theorem dX4_init_35 : decode cX4_init 35 = .ok (.iconst (-1), 1) := by decide +kernel
theorem dX4_init_36 : decode cX4_init 36 = .ok (.putfield 30, 3) := by decide +kernel
theorem dX4_init_39 : decode cX4_init 39 = .ok (.aload_n 0, 1) := by decide +kernel
theorem dX4_init_40 : decode cX4_init 40 = .ok (.iload_n 1, 1) := by decide +kernel
theorem dX4_init_41 : decode cX4_init 41 = .ok (.putfield 33, 3) := by decide +kernel
theorem dX4_init_44 : decode cX4_init 44 = .ok (.aload_n 0, 1) := by decide +kernel
theorem dX4_init_45 : decode cX4_init 45 = .ok (.iload_n 2, 1) := by decide +kernel
theorem dX4_init_46 : decode cX4_init 46 = .ok (.putfield 36, 3) := by decide +kernel
theorem dX4_init_49 : decode cX4_init 49 = .ok (.return_, 1) := by decide +kernel
theorem dX4_capTokens_0 : decode cX4_capTokens 0 = .ok (.aload_n 0, 1) := by decide +kernel
theorem dX4_capTokens_1 : decode cX4_capTokens 1 = .ok (.getfield 36, 3) := by decide +kernel
theorem dX4_capTokens_4 : decode cX4_capTokens 4 = .ok (.iload_n 1, 1) := by decide +kernel
theorem dX4_capTokens_5 : decode cX4_capTokens 5 = .ok (.if_icmp .le 8, 3) := by decide +kernel
theorem dX4_capTokens_8 : decode cX4_capTokens 8 = .ok (.aload_n 0, 1) := by decide +kernel
theorem dX4_capTokens_9 : decode cX4_capTokens 9 = .ok (.iload_n 1, 1) := by decide +kernel
theorem dX4_capTokens_10 : decode cX4_capTokens 10 = .ok (.putfield 36, 3) := by decide +kernel
theorem dX4_capTokens_13 : decode cX4_capTokens 13 = .ok (.return_, 1) := by decide +kernel
theorem dX4_gainToken_0 : decode cX4_gainToken 0 = .ok (.aload_n 0, 1) := by decide +kernel
theorem dX4_gainToken_1 : decode cX4_gainToken 1 = .ok (.getfield 36, 3) := by decide +kernel
theorem dX4_gainToken_4 : decode cX4_gainToken 4 = .ok (.iload_n 1, 1) := by decide +kernel
theorem dX4_gainToken_5 : decode cX4_gainToken 5 = .ok (.if_icmp .ge 13, 3) := by decide +kernel
theorem dX4_gainToken_8 : decode cX4_gainToken 8 = .ok (.aload_n 0, 1) := by decide +kernel
theorem dX4_gainToken_9 : decode cX4_gainToken 9 = .ok (.dup, 1) := by decide +kernel
theorem dX4_gainToken_10 : decode cX4_gainToken 10 = .ok (.getfield 36, 3) := by decide +kernel
theorem dX4_gainToken_13 : decode cX4_gainToken 13 = .ok (.iconst 1, 1) := by decide +kernel
theorem dX4_gainToken_14 : decode cX4_gainToken 14 = .ok (.iadd, 1) := by decide +kernel
theorem dX4_gainToken_15 : decode cX4_gainToken 15 = .ok (.putfield 36, 3) := by decide +kernel
theorem dX4_gainToken_18 : decode cX4_gainToken 18 = .ok (.return_, 1) := by decide +kernel
theorem dX4_lastIs_0 : decode cX4_lastIs 0 = .ok (.aload_n 0, 1) := by decide +kernel
theorem dX4_lastIs_1 : decode cX4_lastIs 1 = .ok (.getfield 21, 3) := by decide +kernel
theorem dX4_lastIs_4 : decode cX4_lastIs 4 = .ok (.iload_n 1, 1) := by decide +kernel
theorem dX4_lastIs_5 : decode cX4_lastIs 5 = .ok (.if_icmp .ne 32, 3) := by decide +kernel
theorem dX4_lastIs_8 : decode cX4_lastIs 8 = .ok (.aload_n 0, 1) := by decide +kernel
theorem dX4_lastIs_9 : decode cX4_lastIs 9 = .ok (.getfield 24, 3) := by decide +kernel
theorem dX4_lastIs_12 : decode cX4_lastIs 12 = .ok (.iload_n 2, 1) := by decide +kernel
theorem dX4_lastIs_13 : decode cX4_lastIs 13 = .ok (.if_icmp .ne 24, 3) := by decide +kernel
theorem dX4_lastIs_16 : decode cX4_lastIs 16 = .ok (.aload_n 0, 1) := by decide +kernel
theorem dX4_lastIs_17 : decode cX4_lastIs 17 = .ok (.getfield 27, 3) := by decide +kernel
theorem dX4_lastIs_20 : decode cX4_lastIs 20 = .ok (.iload_n 3, 1) := by decide +kernel
theorem dX4_lastIs_21 : decode cX4_lastIs 21 = .ok (.if_icmp .ne 16, 3) := by decide +kernel
theorem dX4_lastIs_24 : decode cX4_lastIs 24 = .ok (.aload_n 0, 1) := by decide +kernel
theorem dX4_lastIs_25 : decode cX4_lastIs 25 = .ok (.getfield 30, 3) := by decide +kernel
theorem dX4_lastIs_28 : decode cX4_lastIs 28 = .ok (.iload 4, 2) := by decide +kernel
theorem dX4_lastIs_30 : decode cX4_lastIs 30 = .ok (.if_icmp .ne 7, 3) := by decide +kernel
theorem dX4_lastIs_33 : decode cX4_lastIs 33 = .ok (.iconst 1, 1) := by decide +kernel
theorem dX4_lastIs_34 : decode cX4_lastIs 34 = .ok (.goto 4, 3) := by decide +kernel
theorem dX4_lastIs_37 : decode cX4_lastIs 37 = .ok (.iconst 0, 1) := by decide +kernel
theorem dX4_lastIs_38 : decode cX4_lastIs 38 = .ok (.ireturn, 1) := by decide +kernel
theorem dX4_setLast_0 : decode cX4_setLast 0 = .ok (.aload_n 0, 1) := by decide +kernel
theorem dX4_setLast_1 : decode cX4_setLast 1 = .ok (.iload_n 1, 1) := by decide +kernel
theorem dX4_setLast_2 : decode cX4_setLast 2 = .ok (.putfield 21, 3) := by decide +kernel
theorem dX4_setLast_5 : decode cX4_setLast 5 = .ok (.aload_n 0, 1) := by decide +kernel
theorem dX4_setLast_6 : decode cX4_setLast 6 = .ok (.iload_n 2, 1) := by decide +kernel
theorem dX4_setLast_7 : decode cX4_setLast 7 = .ok (.putfield 24, 3) := by decide +kernel
theorem dX4_setLast_10 : decode cX4_setLast 10 = .ok (.aload_n 0, 1) := by decide +kernel
theorem dX4_setLast_11 : decode cX4_setLast 11 = .ok (.iload_n 3, 1) := by decide +kernel
theorem dX4_setLast_12 : decode cX4_setLast 12 = .ok (.putfield 27, 3) := by decide +kernel
theorem dX4_setLast_15 : decode cX4_setLast 15 = .ok (.aload_n 0, 1) := by decide +kernel
theorem dX4_setLast_16 : decode cX4_setLast 16 = .ok (.iload 4, 2) := by decide +kernel
theorem dX4_setLast_18 : decode cX4_setLast 18 = .ok (.putfield 30, 3) := by decide +kernel
theorem dX4_setLast_21 : decode cX4_setLast 21 = .ok (.return_, 1) := by decide +kernel
theorem dX4_countRepeat_0 : decode cX4_countRepeat 0 = .ok (.aload_n 0, 1) := by decide +kernel
theorem dX4_countRepeat_1 : decode cX4_countRepeat 1 = .ok (.getfield 9, 3) := by decide +kernel
theorem dX4_countRepeat_4 : decode cX4_countRepeat 4 = .ok (.ifCond .ne 8, 3) := by decide +kernel
theorem dX4_countRepeat_7 : decode cX4_countRepeat 7 = .ok (.aload_n 0, 1) := by decide +kernel
theorem dX4_countRepeat_8 : decode cX4_countRepeat 8 = .ok (.iload_n 1, 1) := by decide +kernel
theorem dX4_countRepeat_9 : decode cX4_countRepeat 9 = .ok (.putfield 15, 3) := by decide +kernel
theorem dX4_countRepeat_12 : decode cX4_countRepeat 12 = .ok (.aload_n 0, 1) := by decide +kernel
theorem dX4_countRepeat_13 : decode cX4_countRepeat 13 = .ok (.dup, 1) := by decide +kernel
theorem dX4_countRepeat_14 : decode cX4_countRepeat 14 = .ok (.getfield 9, 3) := by decide +kernel
theorem dX4_countRepeat_17 : decode cX4_countRepeat 17 = .ok (.iconst 1, 1) := by decide +kernel
theorem dX4_countRepeat_18 : decode cX4_countRepeat 18 = .ok (.iadd, 1) := by decide +kernel
theorem dX4_countRepeat_19 : decode cX4_countRepeat 19 = .ok (.putfield 9, 3) := by decide +kernel
theorem dX4_countRepeat_22 : decode cX4_countRepeat 22 = .ok (.return_, 1) := by decide +kernel
