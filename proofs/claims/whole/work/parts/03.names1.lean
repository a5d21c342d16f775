theorem dX0_init_0 : decode cX0_init 0 = .ok (.aload_n 0, 1) := by decide +kernel
theorem dX0_init_1 : decode cX0_init 1 = .ok (.invokespecial 3, 3) := by decide +kernel
theorem dX0_init_4 : decode cX0_init 4 = .ok (.aload_n 0, 1) := by decide +kernel
theorem dX0_init_5 : decode cX0_init 5 = .ok (.iconst 0, 1) := by decide +kernel
theorem dX0_init_6 : decode cX0_init 6 = .ok (.putfield 9, 3) := by decide +kernel
theorem dX0_init_9 : decode cX0_init 9 = .ok (.aload_n 0, 1) := by decide +kernel
theorem dX0_init_10 : decode cX0_init 10 = .ok (.iconst 0, 1) := by decide +kernel
theorem dX0_init_11 : decode cX0_init 11 = .ok (.putfield 15, 3) := by decide +kernel
theorem dX0_init_14 : decode cX0_init 14 = .ok (.aload_n 0, 1) := by decide +kernel
theorem dX0_init_15 : decode cX0_init 15 = .ok (.iconst 2, 1) := by decide +kernel
theorem dX0_init_16 : decode cX0_init 16 = .ok (.putfield 18, 3) := by decide +kernel
theorem dX0_init_19 : decode cX0_init 19 = .ok (.aload_n 0, 1) := by decide +kernel
theorem dX0_init_20 : decode cX0_init 20 = .ok (.iconst 2, 1) := by decide +kernel
theorem dX0_init_21 : decode cX0_init 21 = .ok (.putfield 21, 3) := by decide +kernel
theorem dX0_init_24 : decode cX0_init 24 = .ok (.return_, 1) := by decide +kernel
theorem dX0_clear_0 : decode cX0_clear 0 = .ok (.aload_n 0, 1) := by decide +kernel
theorem dX0_clear_1 : decode cX0_clear 1 = .ok (.iconst 0, 1) := by decide +kernel
theorem dX0_clear_2 : decode cX0_clear 2 = .ok (.putfield 9, 3) := by decide +kernel
theorem dX0_clear_5 : decode cX0_clear 5 = .ok (.aload_n 0, 1) := by decide +kernel
theorem dX0_clear_6 : decode cX0_clear 6 = .ok (.iconst 0, 1) := by decide +kernel
theorem dX0_clear_7 : decode cX0_clear 7 = .ok (.putfield 15, 3) := by decide +kernel
theorem dX0_clear_10 : decode cX0_clear 10 = .ok (.aload_n 0, 1) := by decide +kernel
theorem dX0_clear_11 : decode cX0_clear 11 = .ok (.iconst 2, 1) := by decide +kernel
theorem dX0_clear_12 : decode cX0_clear 12 = .ok (.putfield 18, 3) := by decide +kernel
theorem dX0_clear_15 : decode cX0_clear 15 = .ok (.aload_n 0, 1) := by decide +kernel
theorem dX0_clear_16 : decode cX0_clear 16 = .ok (.iconst 2, 1) := by decide +kernel
theorem dX0_clear_17 : decode cX0_clear 17 = .ok (.putfield 21, 3) := by decide +kernel
theorem dX0_clear_20 : decode cX0_clear 20 = .ok (.return_, 1) := by decide +kernel
set_option maxRecDepth 20000 in
theorem ggX0_inputStuckAt_X8_bit : GoodIn wsX0_inputStuckAt wsX8_bit := goodIn_r _ [5] (by decide +kernel) (by decide +kernel)
set_option maxRecDepth 20000 in
theorem gX0_inputStuckAt_X8_bit_n24 : GoodIn wsX0_inputStuckAt (wsX8_bit) := ggX0_inputStuckAt_X8_bit
theorem dX0_inputStuckAt_0 : decode cX0_inputStuckAt 0 = .ok (.aload_n 0, 1) := by decide +kernel
theorem dX0_inputStuckAt_1 : decode cX0_inputStuckAt 1 = .ok (.getfield 15, 3) := by decide +kernel
theorem dX0_inputStuckAt_4 : decode cX0_inputStuckAt 4 = .ok (.iload_n 1, 1) := by decide +kernel
theorem dX0_inputStuckAt_5 : decode cX0_inputStuckAt 5 = .ok (.invokestatic 24, 3) := by decide +kernel
theorem dX0_inputStuckAt_8 : decode cX0_inputStuckAt 8 = .ok (.iconst 1, 1) := by decide +kernel
theorem dX0_inputStuckAt_9 : decode cX0_inputStuckAt 9 = .ok (.if_icmp .ne 5, 3) := by decide +kernel
theorem dX0_inputStuckAt_12 : decode cX0_inputStuckAt 12 = .ok (.iconst 1, 1) := by decide +kernel
theorem dX0_inputStuckAt_13 : decode cX0_inputStuckAt 13 = .ok (.ireturn, 1) := by decide +kernel
theorem dX0_inputStuckAt_14 : decode cX0_inputStuckAt 14 = .ok (.aload_n 0, 1) := by decide +kernel
theorem dX0_inputStuckAt_15 : decode cX0_inputStuckAt 15 = .ok (.getfield 9, 3) := by decide +kernel
theorem dX0_inputStuckAt_18 : decode cX0_inputStuckAt 18 = .ok (.iload_n 1, 1) := by decide +kernel
theorem dX0_inputStuckAt_19 : decode cX0_inputStuckAt 19 = .ok (.invokestatic 24, 3) := by decide +kernel
theorem dX0_inputStuckAt_22 : decode cX0_inputStuckAt 22 = .ok (.iconst 1, 1) := by decide +kernel
theorem dX0_inputStuckAt_23 : decode cX0_inputStuckAt 23 = .ok (.if_icmp .ne 7, 3) := by decide +kernel
theorem dX0_inputStuckAt_26 : decode cX0_inputStuckAt 26 = .ok (.iconst 0, 1) := by decide +kernel
theorem dX0_inputStuckAt_27 : decode cX0_inputStuckAt 27 = .ok (.goto 4, 3) := by decide +kernel
theorem dX0_inputStuckAt_30 : decode cX0_inputStuckAt 30 = .ok (.iconst 2, 1) := by decide +kernel
theorem dX0_inputStuckAt_31 : decode cX0_inputStuckAt 31 = .ok (.ireturn, 1) := by decide +kernel
theorem dX0_setInput_0 : decode cX0_setInput 0 = .ok (.iconst 1, 1) := by decide +kernel
theorem dX0_setInput_1 : decode cX0_setInput 1 = .ok (.iload_n 1, 1) := by decide +kernel
theorem dX0_setInput_2 : decode cX0_setInput 2 = .ok (.ishl, 1) := by decide +kernel
theorem dX0_setInput_3 : decode cX0_setInput 3 = .ok (.istore_n 3, 1) := by decide +kernel
theorem dX0_setInput_4 : decode cX0_setInput 4 = .ok (.aload_n 0, 1) := by decide +kernel
theorem dX0_setInput_5 : decode cX0_setInput 5 = .ok (.iload_n 2, 1) := by decide +kernel
theorem dX0_setInput_6 : decode cX0_setInput 6 = .ok (.ifCond .ne 12, 3) := by decide +kernel
theorem dX0_setInput_9 : decode cX0_setInput 9 = .ok (.aload_n 0, 1) := by decide +kernel
theorem dX0_setInput_10 : decode cX0_setInput 10 = .ok (.getfield 9, 3) := by decide +kernel
theorem dX0_setInput_13 : decode cX0_setInput 13 = .ok (.iload_n 3, 1) := by decide +kernel
theorem dX0_setInput_14 : decode cX0_setInput 14 = .ok (.ior, 1) := by decide +kernel
theorem dX0_setInput_15 : decode cX0_setInput 15 = .ok (.goto 11, 3) := by decide +kernel
theorem dX0_setInput_18 : decode cX0_setInput 18 = .ok (.aload_n 0, 1) := by decide +kernel
theorem dX0_setInput_19 : decode cX0_setInput 19 = .ok (.getfield 9, 3) := by decide +kernel
theorem dX0_setInput_22 : decode cX0_setInput 22 = .ok (.iload_n 3, 1) := by decide +kernel
theorem dX0_setInput_23 : decode cX0_setInput 23 = .ok (.iconst (-1), 1) := by decide +kernel
theorem dX0_setInput_24 : decode cX0_setInput 24 = .ok (.ixor, 1) := by decide +kernel
theorem dX0_setInput_25 : decode cX0_setInput 25 = .ok (.iand, 1) := by decide +kernel
theorem dX0_setInput_26 : decode cX0_setInput 26 = .ok (.putfield 9, 3) := by decide +kernel
theorem dX0_setInput_29 : decode cX0_setInput 29 = .ok (.aload_n 0, 1) := by decide +kernel
theorem dX0_setInput_30 : decode cX0_setInput 30 = .ok (.iload_n 2, 1) := by decide +kernel
theorem dX0_setInput_31 : decode cX0_setInput 31 = .ok (.iconst 1, 1) := by decide +kernel
theorem dX0_setInput_32 : decode cX0_setInput 32 = .ok (.if_icmp .ne 12, 3) := by decide +kernel
theorem dX0_setInput_35 : decode cX0_setInput 35 = .ok (.aload_n 0, 1) := by decide +kernel
theorem dX0_setInput_36 : decode cX0_setInput 36 = .ok (.getfield 15, 3) := by decide +kernel
theorem dX0_setInput_39 : decode cX0_setInput 39 = .ok (.iload_n 3, 1) := by decide +kernel
theorem dX0_setInput_40 : decode cX0_setInput 40 = .ok (.ior, 1) := by decide +kernel
theorem dX0_setInput_41 : decode cX0_setInput 41 = .ok (.goto 11, 3) := by decide +kernel
theorem dX0_setInput_44 : decode cX0_setInput 44 = .ok (.aload_n 0, 1) := by decide +kernel
theorem dX0_setInput_45 : decode cX0_setInput 45 = .ok (.getfield 15, 3) := by decide +kernel
theorem dX0_setInput_48 : decode cX0_setInput 48 = .ok (.iload_n 3, 1) := by decide +kernel
theorem dX0_setInput_49 : decode cX0_setInput 49 = .ok (.iconst (-1), 1) := by decide +kernel
theorem dX0_setInput_50 : decode cX0_setInput 50 = .ok (.ixor, 1) := by decide +kernel
theorem dX0_setInput_51 : decode cX0_setInput 51 = .ok (.iand, 1) := by decide +kernel
theorem dX0_setInput_52 : decode cX0_setInput 52 = .ok (.putfield 15, 3) := by decide +kernel
theorem dX0_setInput_55 : decode cX0_setInput 55 = .ok (.return_, 1) := by decide +kernel
theorem dX0_valveStuckAt_0 : decode cX0_valveStuckAt 0 = .ok (.iload_n 1, 1) := by decide +kernel
theorem dX0_valveStuckAt_1 : decode cX0_valveStuckAt 1 = .ok (.ifCond .ne 10, 3) := by decide +kernel
theorem dX0_valveStuckAt_4 : decode cX0_valveStuckAt 4 = .ok (.aload_n 0, 1) := by decide +kernel
theorem dX0_valveStuckAt_5 : decode cX0_valveStuckAt 5 = .ok (.getfield 18, 3) := by decide +kernel
theorem dX0_valveStuckAt_8 : decode cX0_valveStuckAt 8 = .ok (.goto 7, 3) := by decide +kernel
theorem dX0_valveStuckAt_11 : decode cX0_valveStuckAt 11 = .ok (.aload_n 0, 1) := by decide +kernel
theorem dX0_valveStuckAt_12 : decode cX0_valveStuckAt 12 = .ok (.getfield 21, 3) := by decide +kernel
theorem dX0_valveStuckAt_15 : decode cX0_valveStuckAt 15 = .ok (.ireturn, 1) := by decide +kernel
theorem dX0_setValve_0 : decode cX0_setValve 0 = .ok (.iload_n 1, 1) := by decide +kernel
theorem dX0_setValve_1 : decode cX0_setValve 1 = .ok (.ifCond .ne 11, 3) := by decide +kernel
theorem dX0_setValve_4 : decode cX0_setValve 4 = .ok (.aload_n 0, 1) := by decide +kernel
theorem dX0_setValve_5 : decode cX0_setValve 5 = .ok (.iload_n 2, 1) := by decide +kernel
theorem dX0_setValve_6 : decode cX0_setValve 6 = .ok (.putfield 18, 3) := by decide +kernel
theorem dX0_setValve_9 : decode cX0_setValve 9 = .ok (.goto 8, 3) := by decide +kernel
theorem dX0_setValve_12 : decode cX0_setValve 12 = .ok (.aload_n 0, 1) := by decide +kernel
theorem dX0_setValve_13 : decode cX0_setValve 13 = .ok (.iload_n 2, 1) := by decide +kernel
theorem dX0_setValve_14 : decode cX0_setValve 14 = .ok (.putfield 21, 3) := by decide +kernel
theorem dX0_setValve_17 : decode cX0_setValve 17 = .ok (.return_, 1) := by decide +kernel
theorem dX0_valvesStuck_0 : decode cX0_valvesStuck 0 = .ok (.aload_n 0, 1) := by decide +kernel
theorem dX0_valvesStuck_1 : decode cX0_valvesStuck 1 = .ok (.getfield 18, 3) := by decide +kernel
theorem dX0_valvesStuck_4 : decode cX0_valvesStuck 4 = .ok (.iconst 2, 1) := by decide +kernel
theorem dX0_valvesStuck_5 : decode cX0_valvesStuck 5 = .ok (.if_icmp .ne 7, 3) := by decide +kernel
theorem dX0_valvesStuck_8 : decode cX0_valvesStuck 8 = .ok (.iconst 0, 1) := by decide +kernel
theorem dX0_valvesStuck_9 : decode cX0_valvesStuck 9 = .ok (.goto 4, 3) := by decide +kernel
theorem dX0_valvesStuck_12 : decode cX0_valvesStuck 12 = .ok (.iconst 1, 1) := by decide +kernel
theorem dX0_valvesStuck_13 : decode cX0_valvesStuck 13 = .ok (.aload_n 0, 1) := by decide +kernel
theorem dX0_valvesStuck_14 : decode cX0_valvesStuck 14 = .ok (.getfield 21, 3) := by decide +kernel
theorem dX0_valvesStuck_17 : decode cX0_valvesStuck 17 = .ok (.iconst 2, 1) := by decide +kernel
theorem dX0_valvesStuck_18 : decode cX0_valvesStuck 18 = .ok (.if_icmp .ne 7, 3) := by decide +kernel
theorem dX0_valvesStuck_21 : decode cX0_valvesStuck 21 = .ok (.iconst 0, 1) := by decide +kernel
theorem dX0_valvesStuck_22 : decode cX0_valvesStuck 22 = .ok (.goto 4, 3) := by decide +kernel
theorem dX0_valvesStuck_25 : decode cX0_valvesStuck 25 = .ok (.iconst 1, 1) := by decide +kernel
theorem dX0_valvesStuck_26 : decode cX0_valvesStuck 26 = .ok (.iadd, 1) := by decide +kernel
theorem dX0_valvesStuck_27 : decode cX0_valvesStuck 27 = .ok (.ireturn, 1) := by decide +kernel
theorem dX0_seenOf_0 : decode cX0_seenOf 0 = .ok (.iload_n 1, 1) := by decide +kernel
theorem dX0_seenOf_1 : decode cX0_seenOf 1 = .ok (.aload_n 0, 1) := by decide +kernel
theorem dX0_seenOf_2 : decode cX0_seenOf 2 = .ok (.getfield 15, 3) := by decide +kernel
theorem dX0_seenOf_5 : decode cX0_seenOf 5 = .ok (.ior, 1) := by decide +kernel
theorem dX0_seenOf_6 : decode cX0_seenOf 6 = .ok (.aload_n 0, 1) := by decide +kernel
theorem dX0_seenOf_7 : decode cX0_seenOf 7 = .ok (.getfield 9, 3) := by decide +kernel
theorem dX0_seenOf_10 : decode cX0_seenOf 10 = .ok (.iconst (-1), 1) := by decide +kernel
theorem dX0_seenOf_11 : decode cX0_seenOf 11 = .ok (.ixor, 1) := by decide +kernel
theorem dX0_seenOf_12 : decode cX0_seenOf 12 = .ok (.iand, 1) := by decide +kernel
theorem dX0_seenOf_13 : decode cX0_seenOf 13 = .ok (.ireturn, 1) := by decide +kernel
set_option maxRecDepth 20000 in
theorem ggX0_valvesObey_X0_valveIs : GoodIn wsX0_valvesObey wsX0_valveIs := goodIn_r _ [6] (by decide +kernel) (by decide +kernel)
set_option maxRecDepth 20000 in
theorem gX0_valvesObey_X0_valveIs : GoodIn wsX0_valvesObey (va_wsS RX0 28 yX0_valveIs wsX0_valveIs) := goodIn_app (goodIn_of _ (by decide +kernel)) ggX0_valvesObey_X0_valveIs
theorem dX0_valvesObey_0 : decode cX0_valvesObey 0 = .ok (.aload_n 0, 1) := by decide +kernel
theorem dX0_valvesObey_1 : decode cX0_valvesObey 1 = .ok (.getfield 18, 3) := by decide +kernel
theorem dX0_valvesObey_4 : decode cX0_valvesObey 4 = .ok (.iload_n 1, 1) := by decide +kernel
theorem dX0_valvesObey_5 : decode cX0_valvesObey 5 = .ok (.invokestatic 28, 3) := by decide +kernel
theorem dX0_valvesObey_8 : decode cX0_valvesObey 8 = .ok (.iload_n 1, 1) := by decide +kernel
theorem dX0_valvesObey_9 : decode cX0_valvesObey 9 = .ok (.if_icmp .ne 19, 3) := by decide +kernel
theorem dX0_valvesObey_12 : decode cX0_valvesObey 12 = .ok (.aload_n 0, 1) := by decide +kernel
theorem dX0_valvesObey_13 : decode cX0_valvesObey 13 = .ok (.getfield 21, 3) := by decide +kernel
theorem dX0_valvesObey_16 : decode cX0_valvesObey 16 = .ok (.iload_n 1, 1) := by decide +kernel
theorem dX0_valvesObey_17 : decode cX0_valvesObey 17 = .ok (.invokestatic 28, 3) := by decide +kernel
theorem dX0_valvesObey_20 : decode cX0_valvesObey 20 = .ok (.iload_n 1, 1) := by decide +kernel
theorem dX0_valvesObey_21 : decode cX0_valvesObey 21 = .ok (.if_icmp .ne 7, 3) := by decide +kernel
theorem dX0_valvesObey_24 : decode cX0_valvesObey 24 = .ok (.iconst 1, 1) := by decide +kernel
theorem dX0_valvesObey_25 : decode cX0_valvesObey 25 = .ok (.goto 4, 3) := by decide +kernel
theorem dX0_valvesObey_28 : decode cX0_valvesObey 28 = .ok (.iconst 0, 1) := by decide +kernel
theorem dX0_valvesObey_29 : decode cX0_valvesObey 29 = .ok (.ireturn, 1) := by decide +kernel
set_option maxRecDepth 20000 in
theorem ggX0_bothOpen_X0_valveIs : GoodIn wsX0_bothOpen wsX0_valveIs := goodIn_r _ [6] (by decide +kernel) (by decide +kernel)
set_option maxRecDepth 20000 in
theorem gX0_bothOpen_X0_valveIs : GoodIn wsX0_bothOpen (va_wsS RX0 28 yX0_valveIs wsX0_valveIs) := goodIn_app (goodIn_of _ (by decide +kernel)) ggX0_bothOpen_X0_valveIs
theorem dX0_bothOpen_0 : decode cX0_bothOpen 0 = .ok (.aload_n 0, 1) := by decide +kernel
theorem dX0_bothOpen_1 : decode cX0_bothOpen 1 = .ok (.getfield 18, 3) := by decide +kernel
theorem dX0_bothOpen_4 : decode cX0_bothOpen 4 = .ok (.iload_n 1, 1) := by decide +kernel
theorem dX0_bothOpen_5 : decode cX0_bothOpen 5 = .ok (.invokestatic 28, 3) := by decide +kernel
theorem dX0_bothOpen_8 : decode cX0_bothOpen 8 = .ok (.iconst 1, 1) := by decide +kernel
theorem dX0_bothOpen_9 : decode cX0_bothOpen 9 = .ok (.if_icmp .ne 19, 3) := by decide +kernel
theorem dX0_bothOpen_12 : decode cX0_bothOpen 12 = .ok (.aload_n 0, 1) := by decide +kernel
theorem dX0_bothOpen_13 : decode cX0_bothOpen 13 = .ok (.getfield 21, 3) := by decide +kernel
theorem dX0_bothOpen_16 : decode cX0_bothOpen 16 = .ok (.iload_n 1, 1) := by decide +kernel
theorem dX0_bothOpen_17 : decode cX0_bothOpen 17 = .ok (.invokestatic 28, 3) := by decide +kernel
theorem dX0_bothOpen_20 : decode cX0_bothOpen 20 = .ok (.iconst 1, 1) := by decide +kernel
theorem dX0_bothOpen_21 : decode cX0_bothOpen 21 = .ok (.if_icmp .ne 7, 3) := by decide +kernel
theorem dX0_bothOpen_24 : decode cX0_bothOpen 24 = .ok (.iconst 1, 1) := by decide +kernel
theorem dX0_bothOpen_25 : decode cX0_bothOpen 25 = .ok (.goto 4, 3) := by decide +kernel
theorem dX0_bothOpen_28 : decode cX0_bothOpen 28 = .ok (.iconst 0, 1) := by decide +kernel
theorem dX0_bothOpen_29 : decode cX0_bothOpen 29 = .ok (.ireturn, 1) := by decide +kernel
theorem dX0_valveIs_0 : decode cX0_valveIs 0 = .ok (.iload_n 0, 1) := by decide +kernel
theorem dX0_valveIs_1 : decode cX0_valveIs 1 = .ok (.iconst 2, 1) := by decide +kernel
theorem dX0_valveIs_2 : decode cX0_valveIs 2 = .ok (.if_icmp .ne 7, 3) := by decide +kernel
theorem dX0_valveIs_5 : decode cX0_valveIs 5 = .ok (.iload_n 1, 1) := by decide +kernel
theorem dX0_valveIs_6 : decode cX0_valveIs 6 = .ok (.goto 4, 3) := by decide +kernel
theorem dX0_valveIs_9 : decode cX0_valveIs 9 = .ok (.iload_n 0, 1) := by decide +kernel
theorem dX0_valveIs_10 : decode cX0_valveIs 10 = .ok (.ireturn, 1) := by decide +kernel
theorem dX1_init_0 : decode cX1_init 0 = .ok (.aload_n 0, 1) := by decide +kernel
theorem dX1_init_1 : decode cX1_init 1 = .ok (.invokespecial 3, 3) := by decide +kernel
theorem dX1_init_4 : decode cX1_init 4 = .ok (.aload_n 0, 1) := by decide +kernel
theorem dX1_init_5 : decode cX1_init 5 = .ok (.bipush 90, 2) := by decide +kernel
theorem dX1_init_7 : decode cX1_init 7 = .ok (.newarray .int, 2) := by decide +kernel
theorem dX1_init_9 : decode cX1_init 9 = .ok (.putfield 9, 3) := by decide +kernel
theorem dX1_init_12 : decode cX1_init 12 = .ok (.aload_n 0, 1) := by decide +kernel
theorem dX1_init_13 : decode cX1_init 13 = .ok (.iconst 5, 1) := by decide +kernel
theorem dX1_init_14 : decode cX1_init 14 = .ok (.newarray .int, 2) := by decide +kernel
theorem dX1_init_16 : decode cX1_init 16 = .ok (.putfield 15, 3) := by decide +kernel
theorem dX1_init_19 : decode cX1_init 19 = .ok (.aload_n 0, 1) := by decide +kernel
theorem dX1_init_20 : decode cX1_init 20 = .ok (.iconst 5, 1) := by decide +kernel
theorem dX1_init_21 : decode cX1_init 21 = .ok (.newarray .int, 2) := by decide +kernel
theorem dX1_init_23 : decode cX1_init 23 = .ok (.putfield 18, 3) := by decide +kernel
theorem dX1_init_26 : decode cX1_init 26 = .ok (.aload_n 0, 1) := by decide +kernel
theorem dX1_init_27 : decode cX1_init 27 = .ok (.iconst 0, 1) := by decide +kernel
theorem dX1_init_28 : decode cX1_init 28 = .ok (.putfield 21, 3) := by decide +kernel
theorem dX1_init_31 : decode cX1_init 31 = .ok (.aload_n 0, 1) := by decide +kernel
theorem dX1_init_32 : decode cX1_init 32 = .ok (.iconst 0, 1) := by decide +kernel
theorem dX1_init_33 : decode cX1_init 33 = .ok (.putfield 25, 3) := by decide +kernel
theorem dX1_init_36 : decode cX1_init 36 = .ok (.aload_n 0, 1) := by decide +kernel
theorem dX1_init_37 : decode cX1_init 37 = .ok (.iconst 0, 1) := by decide +kernel
theorem dX1_init_38 : decode cX1_init 38 = .ok (.putfield 28, 3) := by decide +kernel
theorem dX1_init_41 : decode cX1_init 41 = .ok (.aload_n 0, 1) := by decide +kernel
theorem dX1_init_42 : decode cX1_init 42 = .ok (.iconst 0, 1) := by decide +kernel
theorem dX1_init_43 : decode cX1_init 43 = .ok (.putfield 31, 3) := by decide +kernel
theorem dX1_init_46 : decode cX1_init 46 = .ok (.return_, 1) := by decide +kernel
set_option maxRecDepth 20000 in
theorem ggX1_clear_J7_fill_53178 : GoodIn wsX1_clear wsJ7_fill_53178 := goodIn_r _ [11] (by decide +kernel) (by decide +kernel)
set_option maxRecDepth 20000 in
theorem gX1_clear_J7_fill_53178 : GoodIn wsX1_clear (va_wsS RX1 34 yJ7_fill_53178 wsJ7_fill_53178) := goodIn_app (goodIn_of _ (by decide +kernel)) ggX1_clear_J7_fill_53178
theorem dX1_clear_0 : decode cX1_clear 0 = .ok (.aload_n 0, 1) := by decide +kernel
theorem dX1_clear_1 : decode cX1_clear 1 = .ok (.getfield 9, 3) := by decide +kernel
theorem dX1_clear_4 : decode cX1_clear 4 = .ok (.iconst 0, 1) := by decide +kernel
theorem dX1_clear_5 : decode cX1_clear 5 = .ok (.invokestatic 34, 3) := by decide +kernel
theorem dX1_clear_8 : decode cX1_clear 8 = .ok (.aload_n 0, 1) := by decide +kernel
theorem dX1_clear_9 : decode cX1_clear 9 = .ok (.getfield 15, 3) := by decide +kernel
theorem dX1_clear_12 : decode cX1_clear 12 = .ok (.iconst 0, 1) := by decide +kernel
theorem dX1_clear_13 : decode cX1_clear 13 = .ok (.invokestatic 34, 3) := by decide +kernel
theorem dX1_clear_16 : decode cX1_clear 16 = .ok (.aload_n 0, 1) := by decide +kernel
theorem dX1_clear_17 : decode cX1_clear 17 = .ok (.getfield 18, 3) := by decide +kernel
theorem dX1_clear_20 : decode cX1_clear 20 = .ok (.iconst 0, 1) := by decide +kernel
theorem dX1_clear_21 : decode cX1_clear 21 = .ok (.invokestatic 34, 3) := by decide +kernel
theorem dX1_clear_24 : decode cX1_clear 24 = .ok (.aload_n 0, 1) := by decide +kernel
theorem dX1_clear_25 : decode cX1_clear 25 = .ok (.iconst 0, 1) := by decide +kernel
theorem dX1_clear_26 : decode cX1_clear 26 = .ok (.putfield 21, 3) := by decide +kernel
theorem dX1_clear_29 : decode cX1_clear 29 = .ok (.aload_n 0, 1) := by decide +kernel
theorem dX1_clear_30 : decode cX1_clear 30 = .ok (.iconst 0, 1) := by decide +kernel
theorem dX1_clear_31 : decode cX1_clear 31 = .ok (.putfield 25, 3) := by decide +kernel
theorem dX1_clear_34 : decode cX1_clear 34 = .ok (.aload_n 0, 1) := by decide +kernel
theorem dX1_clear_35 : decode cX1_clear 35 = .ok (.iconst 0, 1) := by decide +kernel
theorem dX1_clear_36 : decode cX1_clear 36 = .ok (.putfield 28, 3) := by decide +kernel
theorem dX1_clear_39 : decode cX1_clear 39 = .ok (.aload_n 0, 1) := by decide +kernel
theorem dX1_clear_40 : decode cX1_clear 40 = .ok (.iconst 0, 1) := by decide +kernel
theorem dX1_clear_41 : decode cX1_clear 41 = .ok (.putfield 31, 3) := by decide +kernel
theorem dX1_clear_44 : decode cX1_clear 44 = .ok (.return_, 1) := by decide +kernel
set_option maxRecDepth 20000 in
theorem ggX1_addTick_X8_within : GoodIn wsX1_addTick wsX8_within := goodIn_r _ [5] (by decide +kernel) (by decide +kernel)
set_option maxRecDepth 20000 in
theorem gX1_addTick_X8_within_n40 : GoodIn wsX1_addTick (wsX8_within) := ggX1_addTick_X8_within
theorem dX1_addTick_0 : decode cX1_addTick 0 = .ok (.aload_n 0, 1) := by decide +kernel
theorem dX1_addTick_1 : decode cX1_addTick 1 = .ok (.dup, 1) := by decide +kernel
theorem dX1_addTick_2 : decode cX1_addTick 2 = .ok (.getfield 31, 3) := by decide +kernel
theorem dX1_addTick_5 : decode cX1_addTick 5 = .ok (.iconst 1, 1) := by decide +kernel
theorem dX1_addTick_6 : decode cX1_addTick 6 = .ok (.iadd, 1) := by decide +kernel
theorem dX1_addTick_7 : decode cX1_addTick 7 = .ok (.putfield 31, 3) := by decide +kernel
theorem dX1_addTick_10 : decode cX1_addTick 10 = .ok (.iload_n 1, 1) := by decide +kernel
theorem dX1_addTick_11 : decode cX1_addTick 11 = .ok (.iconst 0, 1) := by decide +kernel
theorem dX1_addTick_12 : decode cX1_addTick 12 = .ok (.iconst 4, 1) := by decide +kernel
theorem dX1_addTick_13 : decode cX1_addTick 13 = .ok (.invokestatic 40, 3) := by decide +kernel
theorem dX1_addTick_16 : decode cX1_addTick 16 = .ok (.ifCond .eq 15, 3) := by decide +kernel
theorem dX1_addTick_19 : decode cX1_addTick 19 = .ok (.aload_n 0, 1) := by decide +kernel
theorem dX1_addTick_20 : decode cX1_addTick 20 = .ok (.getfield 18, 3) := by decide +kernel
theorem dX1_addTick_23 : decode cX1_addTick 23 = .ok (.iload_n 1, 1) := by decide +kernel
theorem dX1_addTick_24 : decode cX1_addTick 24 = .ok (.dup2, 1) := by decide +kernel
theorem dX1_addTick_25 : decode cX1_addTick 25 = .ok (.iaload, 1) := by decide +kernel
theorem dX1_addTick_26 : decode cX1_addTick 26 = .ok (.iconst 1, 1) := by decide +kernel
theorem dX1_addTick_27 : decode cX1_addTick 27 = .ok (.iload_n 2, 1) := by decide +kernel
theorem dX1_addTick_28 : decode cX1_addTick 28 = .ok (.ishl, 1) := by decide +kernel
theorem dX1_addTick_29 : decode cX1_addTick 29 = .ok (.ior, 1) := by decide +kernel
theorem dX1_addTick_30 : decode cX1_addTick 30 = .ok (.iastore, 1) := by decide +kernel
theorem dX1_addTick_31 : decode cX1_addTick 31 = .ok (.return_, 1) := by decide +kernel
set_option maxRecDepth 20000 in
theorem ggX1_addLock_X8_within : GoodIn wsX1_addLock wsX8_within := goodIn_r _ [8] (by decide +kernel) (by decide +kernel)
set_option maxRecDepth 20000 in
theorem gX1_addLock_X8_within_n40 : GoodIn wsX1_addLock (wsX8_within) := ggX1_addLock_X8_within
set_option maxRecDepth 20000 in
theorem ggX1_addLock_X1_locksBy : GoodIn wsX1_addLock wsX1_locksBy := goodIn_r _ [13, 14, 15, 16, 12, 17, 3, 6, 7, 8, 18, 19, 20, 21, 22, 23, 24] (by decide +kernel) (by decide +kernel)
set_option maxRecDepth 20000 in
theorem gX1_addLock_X1_locksBy : GoodIn wsX1_addLock (wsV RX1 44 RX1 yX1_locksBy wsX1_locksBy) := goodIn_app (goodIn_of _ (by decide +kernel)) ggX1_addLock_X1_locksBy
theorem dX1_addLock_0 : decode cX1_addLock 0 = .ok (.iload_n 1, 1) := by decide +kernel
theorem dX1_addLock_1 : decode cX1_addLock 1 = .ok (.iconst 1, 1) := by decide +kernel
theorem dX1_addLock_2 : decode cX1_addLock 2 = .ok (.iconst 5, 1) := by decide +kernel
theorem dX1_addLock_3 : decode cX1_addLock 3 = .ok (.invokestatic 40, 3) := by decide +kernel
theorem dX1_addLock_6 : decode cX1_addLock 6 = .ok (.ifCond .eq 13, 3) := by decide +kernel
theorem dX1_addLock_9 : decode cX1_addLock 9 = .ok (.iload_n 2, 1) := by decide +kernel
theorem dX1_addLock_10 : decode cX1_addLock 10 = .ok (.iconst 0, 1) := by decide +kernel
theorem dX1_addLock_11 : decode cX1_addLock 11 = .ok (.bipush 17, 2) := by decide +kernel
theorem dX1_addLock_13 : decode cX1_addLock 13 = .ok (.invokestatic 40, 3) := by decide +kernel
theorem dX1_addLock_16 : decode cX1_addLock 16 = .ok (.ifCond .ne 4, 3) := by decide +kernel
theorem dX1_addLock_19 : decode cX1_addLock 19 = .ok (.return_, 1) := by decide +kernel
theorem dX1_addLock_20 : decode cX1_addLock 20 = .ok (.aload_n 0, 1) := by decide +kernel
theorem dX1_addLock_21 : decode cX1_addLock 21 = .ok (.iload_n 1, 1) := by decide +kernel
theorem dX1_addLock_22 : decode cX1_addLock 22 = .ok (.invokevirtual 44, 3) := by decide +kernel
theorem dX1_addLock_25 : decode cX1_addLock 25 = .ok (.ifCond .ne 31, 3) := by decide +kernel
theorem dX1_addLock_28 : decode cX1_addLock 28 = .ok (.aload_n 0, 1) := by decide +kernel
theorem dX1_addLock_29 : decode cX1_addLock 29 = .ok (.getfield 21, 3) := by decide +kernel
theorem dX1_addLock_32 : decode cX1_addLock 32 = .ok (.iconst 5, 1) := by decide +kernel
theorem dX1_addLock_33 : decode cX1_addLock 33 = .ok (.if_icmp .ge 23, 3) := by decide +kernel
theorem dX1_addLock_36 : decode cX1_addLock 36 = .ok (.aload_n 0, 1) := by decide +kernel
theorem dX1_addLock_37 : decode cX1_addLock 37 = .ok (.getfield 15, 3) := by decide +kernel
theorem dX1_addLock_40 : decode cX1_addLock 40 = .ok (.aload_n 0, 1) := by decide +kernel
theorem dX1_addLock_41 : decode cX1_addLock 41 = .ok (.getfield 21, 3) := by decide +kernel
theorem dX1_addLock_44 : decode cX1_addLock 44 = .ok (.iload_n 1, 1) := by decide +kernel
theorem dX1_addLock_45 : decode cX1_addLock 45 = .ok (.iastore, 1) := by decide +kernel
theorem dX1_addLock_46 : decode cX1_addLock 46 = .ok (.aload_n 0, 1) := by decide +kernel
theorem dX1_addLock_47 : decode cX1_addLock 47 = .ok (.dup, 1) := by decide +kernel
theorem dX1_addLock_48 : decode cX1_addLock 48 = .ok (.getfield 21, 3) := by decide +kernel
theorem dX1_addLock_51 : decode cX1_addLock 51 = .ok (.iconst 1, 1) := by decide +kernel
theorem dX1_addLock_52 : decode cX1_addLock 52 = .ok (.iadd, 1) := by decide +kernel
theorem dX1_addLock_53 : decode cX1_addLock 53 = .ok (.putfield 21, 3) := by decide +kernel
theorem dX1_addLock_56 : decode cX1_addLock 56 = .ok (.aload_n 0, 1) := by decide +kernel
theorem dX1_addLock_57 : decode cX1_addLock 57 = .ok (.getfield 9, 3) := by decide +kernel
theorem dX1_addLock_60 : decode cX1_addLock 60 = .ok (.iload_n 1, 1) := by decide +kernel
theorem dX1_addLock_61 : decode cX1_addLock 61 = .ok (.iconst 1, 1) := by decide +kernel
theorem dX1_addLock_62 : decode cX1_addLock 62 = .ok (.isub, 1) := by decide +kernel
theorem dX1_addLock_63 : decode cX1_addLock 63 = .ok (.bipush 18, 2) := by decide +kernel
theorem dX1_addLock_65 : decode cX1_addLock 65 = .ok (.imul, 1) := by decide +kernel
theorem dX1_addLock_66 : decode cX1_addLock 66 = .ok (.iload_n 2, 1) := by decide +kernel
theorem dX1_addLock_67 : decode cX1_addLock 67 = .ok (.iadd, 1) := by decide +kernel
theorem dX1_addLock_68 : decode cX1_addLock 68 = .ok (.dup2, 1) := by decide +kernel
theorem dX1_addLock_69 : decode cX1_addLock 69 = .ok (.iaload, 1) := by decide +kernel
theorem dX1_addLock_70 : decode cX1_addLock 70 = .ok (.iconst 1, 1) := by decide +kernel
theorem dX1_addLock_71 : decode cX1_addLock 71 = .ok (.iadd, 1) := by decide +kernel
theorem dX1_addLock_72 : decode cX1_addLock 72 = .ok (.iastore, 1) := by decide +kernel
theorem dX1_addLock_73 : decode cX1_addLock 73 = .ok (.aload_n 0, 1) := by decide +kernel
theorem dX1_addLock_74 : decode cX1_addLock 74 = .ok (.dup, 1) := by decide +kernel
theorem dX1_addLock_75 : decode cX1_addLock 75 = .ok (.getfield 25, 3) := by decide +kernel
theorem dX1_addLock_78 : decode cX1_addLock 78 = .ok (.iconst 1, 1) := by decide +kernel
theorem dX1_addLock_79 : decode cX1_addLock 79 = .ok (.iload_n 2, 1) := by decide +kernel
theorem dX1_addLock_80 : decode cX1_addLock 80 = .ok (.ishl, 1) := by decide +kernel
theorem dX1_addLock_81 : decode cX1_addLock 81 = .ok (.ior, 1) := by decide +kernel
theorem dX1_addLock_82 : decode cX1_addLock 82 = .ok (.putfield 25, 3) := by decide +kernel
theorem dX1_addLock_85 : decode cX1_addLock 85 = .ok (.aload_n 0, 1) := by decide +kernel
theorem dX1_addLock_86 : decode cX1_addLock 86 = .ok (.dup, 1) := by decide +kernel
theorem dX1_addLock_87 : decode cX1_addLock 87 = .ok (.getfield 28, 3) := by decide +kernel
theorem dX1_addLock_90 : decode cX1_addLock 90 = .ok (.iconst 1, 1) := by decide +kernel
theorem dX1_addLock_91 : decode cX1_addLock 91 = .ok (.iadd, 1) := by decide +kernel
theorem dX1_addLock_92 : decode cX1_addLock 92 = .ok (.putfield 28, 3) := by decide +kernel
theorem dX1_addLock_95 : decode cX1_addLock 95 = .ok (.return_, 1) := by decide +kernel
set_option maxRecDepth 20000 in
theorem ggX1_locksAt_X8_within : GoodIn wsX1_locksAt wsX8_within := goodIn_r _ [4] (by decide +kernel) (by decide +kernel)
set_option maxRecDepth 20000 in
theorem gX1_locksAt_X8_within_n40 : GoodIn wsX1_locksAt (wsX8_within) := ggX1_locksAt_X8_within
theorem dX1_locksAt_0 : decode cX1_locksAt 0 = .ok (.iload_n 1, 1) := by decide +kernel
theorem dX1_locksAt_1 : decode cX1_locksAt 1 = .ok (.iconst 1, 1) := by decide +kernel
theorem dX1_locksAt_2 : decode cX1_locksAt 2 = .ok (.iconst 5, 1) := by decide +kernel
theorem dX1_locksAt_3 : decode cX1_locksAt 3 = .ok (.invokestatic 40, 3) := by decide +kernel
theorem dX1_locksAt_6 : decode cX1_locksAt 6 = .ok (.ifCond .eq 13, 3) := by decide +kernel
theorem dX1_locksAt_9 : decode cX1_locksAt 9 = .ok (.iload_n 2, 1) := by decide +kernel
theorem dX1_locksAt_10 : decode cX1_locksAt 10 = .ok (.iconst 0, 1) := by decide +kernel
theorem dX1_locksAt_11 : decode cX1_locksAt 11 = .ok (.bipush 17, 2) := by decide +kernel
theorem dX1_locksAt_13 : decode cX1_locksAt 13 = .ok (.invokestatic 40, 3) := by decide +kernel
theorem dX1_locksAt_16 : decode cX1_locksAt 16 = .ok (.ifCond .ne 5, 3) := by decide +kernel
theorem dX1_locksAt_19 : decode cX1_locksAt 19 = .ok (.iconst 0, 1) := by decide +kernel
theorem dX1_locksAt_20 : decode cX1_locksAt 20 = .ok (.ireturn, 1) := by decide +kernel
theorem dX1_locksAt_21 : decode cX1_locksAt 21 = .ok (.aload_n 0, 1) := by decide +kernel
theorem dX1_locksAt_22 : decode cX1_locksAt 22 = .ok (.getfield 9, 3) := by decide +kernel
theorem dX1_locksAt_25 : decode cX1_locksAt 25 = .ok (.iload_n 1, 1) := by decide +kernel
theorem dX1_locksAt_26 : decode cX1_locksAt 26 = .ok (.iconst 1, 1) := by decide +kernel
theorem dX1_locksAt_27 : decode cX1_locksAt 27 = .ok (.isub, 1) := by decide +kernel
theorem dX1_locksAt_28 : decode cX1_locksAt 28 = .ok (.bipush 18, 2) := by decide +kernel
theorem dX1_locksAt_30 : decode cX1_locksAt 30 = .ok (.imul, 1) := by decide +kernel
theorem dX1_locksAt_31 : decode cX1_locksAt 31 = .ok (.iload_n 2, 1) := by decide +kernel
theorem dX1_locksAt_32 : decode cX1_locksAt 32 = .ok (.iadd, 1) := by decide +kernel
theorem dX1_locksAt_33 : decode cX1_locksAt 33 = .ok (.iaload, 1) := by decide +kernel
theorem dX1_locksAt_34 : decode cX1_locksAt 34 = .ok (.ireturn, 1) := by decide +kernel
set_option maxRecDepth 20000 in
theorem ggX1_locksBy_X1_locksAt : GoodIn wsX1_locksBy wsX1_locksAt := goodIn_r _ [5, 6, 7, 8, 9, 10, 11, 12, 13, 14, 15, 16] (by decide +kernel) (by decide +kernel)
set_option maxRecDepth 20000 in
theorem gX1_locksBy_X1_locksAt : GoodIn wsX1_locksBy (wsV RX1 48 RX1 yX1_locksAt wsX1_locksAt) := goodIn_app (goodIn_of _ (by decide +kernel)) ggX1_locksBy_X1_locksAt
theorem dX1_locksBy_0 : decode cX1_locksBy 0 = .ok (.iconst 0, 1) := by decide +kernel
theorem dX1_locksBy_1 : decode cX1_locksBy 1 = .ok (.istore_n 2, 1) := by decide +kernel
theorem dX1_locksBy_2 : decode cX1_locksBy 2 = .ok (.iconst 0, 1) := by decide +kernel
theorem dX1_locksBy_3 : decode cX1_locksBy 3 = .ok (.istore_n 3, 1) := by decide +kernel
theorem dX1_locksBy_4 : decode cX1_locksBy 4 = .ok (.iload_n 3, 1) := by decide +kernel
theorem dX1_locksBy_5 : decode cX1_locksBy 5 = .ok (.bipush 18, 2) := by decide +kernel
theorem dX1_locksBy_7 : decode cX1_locksBy 7 = .ok (.if_icmp .ge 18, 3) := by decide +kernel
theorem dX1_locksBy_10 : decode cX1_locksBy 10 = .ok (.iload_n 2, 1) := by decide +kernel
theorem dX1_locksBy_11 : decode cX1_locksBy 11 = .ok (.aload_n 0, 1) := by decide +kernel
theorem dX1_locksBy_12 : decode cX1_locksBy 12 = .ok (.iload_n 1, 1) := by decide +kernel
theorem dX1_locksBy_13 : decode cX1_locksBy 13 = .ok (.iload_n 3, 1) := by decide +kernel
theorem dX1_locksBy_14 : decode cX1_locksBy 14 = .ok (.invokevirtual 48, 3) := by decide +kernel
theorem dX1_locksBy_17 : decode cX1_locksBy 17 = .ok (.iadd, 1) := by decide +kernel
theorem dX1_locksBy_18 : decode cX1_locksBy 18 = .ok (.istore_n 2, 1) := by decide +kernel
theorem dX1_locksBy_19 : decode cX1_locksBy 19 = .ok (.iinc 3 1, 3) := by decide +kernel
theorem dX1_locksBy_22 : decode cX1_locksBy 22 = .ok (.goto (-18), 3) := by decide +kernel
theorem dX1_locksBy_25 : decode cX1_locksBy 25 = .ok (.iload_n 2, 1) := by decide +kernel
theorem dX1_locksBy_26 : decode cX1_locksBy 26 = .ok (.ireturn, 1) := by decide +kernel
theorem dX1_causeInOrder_0 : decode cX1_causeInOrder 0 = .ok (.iload_n 1, 1) := by decide +kernel
theorem dX1_causeInOrder_1 : decode cX1_causeInOrder 1 = .ok (.ifCond .lt 25, 3) := by decide +kernel
theorem dX1_causeInOrder_4 : decode cX1_causeInOrder 4 = .ok (.iload_n 1, 1) := by decide +kernel
theorem dX1_causeInOrder_5 : decode cX1_causeInOrder 5 = .ok (.aload_n 0, 1) := by decide +kernel
theorem dX1_causeInOrder_6 : decode cX1_causeInOrder 6 = .ok (.getfield 21, 3) := by decide +kernel
theorem dX1_causeInOrder_9 : decode cX1_causeInOrder 9 = .ok (.if_icmp .ge 17, 3) := by decide +kernel
theorem dX1_causeInOrder_12 : decode cX1_causeInOrder 12 = .ok (.iload_n 1, 1) := by decide +kernel
theorem dX1_causeInOrder_13 : decode cX1_causeInOrder 13 = .ok (.iconst 5, 1) := by decide +kernel
theorem dX1_causeInOrder_14 : decode cX1_causeInOrder 14 = .ok (.if_icmp .ge 12, 3) := by decide +kernel
theorem dX1_causeInOrder_17 : decode cX1_causeInOrder 17 = .ok (.aload_n 0, 1) := by decide +kernel
theorem dX1_causeInOrder_18 : decode cX1_causeInOrder 18 = .ok (.getfield 15, 3) := by decide +kernel
theorem dX1_causeInOrder_21 : decode cX1_causeInOrder 21 = .ok (.iload_n 1, 1) := by decide +kernel
theorem dX1_causeInOrder_22 : decode cX1_causeInOrder 22 = .ok (.iaload, 1) := by decide +kernel
theorem dX1_causeInOrder_23 : decode cX1_causeInOrder 23 = .ok (.goto 5, 3) := by decide +kernel
theorem dX1_causeInOrder_26 : decode cX1_causeInOrder 26 = .ok (.bipush (-9), 2) := by decide +kernel
theorem dX1_causeInOrder_28 : decode cX1_causeInOrder 28 = .ok (.ireturn, 1) := by decide +kernel
set_option maxRecDepth 20000 in
theorem ggX1_modesBehind_X8_within : GoodIn wsX1_modesBehind wsX8_within := goodIn_r _ [4] (by decide +kernel) (by decide +kernel)
set_option maxRecDepth 20000 in
theorem gX1_modesBehind_X8_within_n40 : GoodIn wsX1_modesBehind (wsX8_within) := ggX1_modesBehind_X8_within
theorem dX1_modesBehind_0 : decode cX1_modesBehind 0 = .ok (.iload_n 1, 1) := by decide +kernel
theorem dX1_modesBehind_1 : decode cX1_modesBehind 1 = .ok (.iconst 0, 1) := by decide +kernel
theorem dX1_modesBehind_2 : decode cX1_modesBehind 2 = .ok (.iconst 4, 1) := by decide +kernel
theorem dX1_modesBehind_3 : decode cX1_modesBehind 3 = .ok (.invokestatic 40, 3) := by decide +kernel
theorem dX1_modesBehind_6 : decode cX1_modesBehind 6 = .ok (.ifCond .eq 12, 3) := by decide +kernel
theorem dX1_modesBehind_9 : decode cX1_modesBehind 9 = .ok (.aload_n 0, 1) := by decide +kernel
theorem dX1_modesBehind_10 : decode cX1_modesBehind 10 = .ok (.getfield 18, 3) := by decide +kernel
theorem dX1_modesBehind_13 : decode cX1_modesBehind 13 = .ok (.iload_n 1, 1) := by decide +kernel
theorem dX1_modesBehind_14 : decode cX1_modesBehind 14 = .ok (.iaload, 1) := by decide +kernel
theorem dX1_modesBehind_15 : decode cX1_modesBehind 15 = .ok (.goto 4, 3) := by decide +kernel
theorem dX1_modesBehind_18 : decode cX1_modesBehind 18 = .ok (.iconst 0, 1) := by decide +kernel
theorem dX1_modesBehind_19 : decode cX1_modesBehind 19 = .ok (.ireturn, 1) := by decide +kernel
theorem dX2_init_0 : decode cX2_init 0 = .ok (.aload_n 0, 1) := by decide +kernel
theorem dX2_init_1 : decode cX2_init 1 = .ok (.invokespecial 3, 3) := by decide +kernel
theorem dX2_init_4 : decode cX2_init 4 = .ok (.aload_n 0, 1) := by decide +kernel
theorem dX2_init_5 : decode cX2_init 5 = .ok (.iconst 1, 1) := by decide +kernel
theorem dX2_init_6 : decode cX2_init 6 = .ok (.putfield 9, 3) := by decide +kernel
theorem dX2_init_9 : decode cX2_init 9 = .ok (.aload_n 0, 1) := by decide +kernel
theorem dX2_init_10 : decode cX2_init 10 = .ok (.iconst 0, 1) := by decide +kernel
theorem dX2_init_11 : decode cX2_init 11 = .ok (.putfield 15, 3) := by decide +kernel
theorem dX2_init_14 : decode cX2_init 14 = .ok (.aload_n 0, 1) := by decide +kernel
theorem dX2_init_15 : decode cX2_init 15 = .ok (.iconst 0, 1) := by decide +kernel
theorem dX2_init_16 : decode cX2_init 16 = .ok (.putfield 18, 3) := by decide +kernel
theorem dX2_init_19 : decode cX2_init 19 = .ok (.aload_n 0, 1) := by decide +kernel
theorem dX2_init_20 : decode cX2_init 20 = .ok (.iconst 0, 1) := by decide +kernel
theorem dX2_init_21 : decode cX2_init 21 = .ok (.putfield 21, 3) := by decide +kernel
theorem dX2_init_24 : decode cX2_init 24 = .ok (.aload_n 0, 1) := by decide +kernel
theorem dX2_init_25 : decode cX2_init 25 = .ok (.iconst 0, 1) := by decide +kernel
theorem dX2_init_26 : decode cX2_init 26 = .ok (.putfield 24, 3) := by decide +kernel
theorem dX2_init_29 : decode cX2_init 29 = .ok (.aload_n 0, 1) := by decide +kernel
theorem dX2_init_30 : decode cX2_init 30 = .ok (.iconst 0, 1) := by decide +kernel
theorem dX2_init_31 : decode cX2_init 31 = .ok (.putfield 27, 3) := by decide +kernel
theorem dX2_init_34 : decode cX2_init 34 = .ok (.aload_n 0, 1) := by decide +kernel
theorem dX2_init_35 : decode cX2_init 35 = .ok (.iconst 0, 1) := by decide +kernel
theorem dX2_init_36 : decode cX2_init 36 = .ok (.putfield 30, 3) := by decide +kernel
theorem dX2_init_39 : decode cX2_init 39 = .ok (.aload_n 0, 1) := by decide +kernel
theorem dX2_init_40 : decode cX2_init 40 = .ok (.iconst 0, 1) := by decide +kernel
theorem dX2_init_41 : decode cX2_init 41 = .ok (.putfield 33, 3) := by decide +kernel
theorem dX2_init_44 : decode cX2_init 44 = .ok (.aload_n 0, 1) := by decide +kernel
theorem dX2_init_45 : decode cX2_init 45 = .ok (.iconst 0, 1) := by decide +kernel
theorem dX2_init_46 : decode cX2_init 46 = .ok (.putfield 36, 3) := by decide +kernel
theorem dX2_init_49 : decode cX2_init 49 = .ok (.aload_n 0, 1) := by decide +kernel
theorem dX2_init_50 : decode cX2_init 50 = .ok (.iconst 0, 1) := by decide +kernel
theorem dX2_init_51 : decode cX2_init 51 = .ok (.putfield 39, 3) := by decide +kernel
theorem dX2_init_54 : decode cX2_init 54 = .ok (.aload_n 0, 1) := by decide +kernel
theorem dX2_init_55 : decode cX2_init 55 = .ok (.iconst 0, 1) := by decide +kernel
theorem dX2_init_56 : decode cX2_init 56 = .ok (.putfield 42, 3) := by decide +kernel
theorem dX2_init_59 : decode cX2_init 59 = .ok (.aload_n 0, 1) := by decide +kernel
theorem dX2_init_60 : decode cX2_init 60 = .ok (.iconst 0, 1) := by decide +kernel
theorem dX2_init_61 : decode cX2_init 61 = .ok (.putfield 45, 3) := by decide +kernel
theorem dX2_init_64 : decode cX2_init 64 = .ok (.aload_n 0, 1) := by decide +kernel
theorem dX2_init_65 : decode cX2_init 65 = .ok (.iconst 0, 1) := by decide +kernel
theorem dX2_init_66 : decode cX2_init 66 = .ok (.putfield 48, 3) := by decide +kernel
theorem dX2_init_69 : decode cX2_init 69 = .ok (.aload_n 0, 1) := by decide +kernel
theorem dX2_init_70 : decode cX2_init 70 = .ok (.iconst 0, 1) := by decide +kernel
theorem dX2_init_71 : decode cX2_init 71 = .ok (.putfield 51, 3) := by decide +kernel
theorem dX2_init_74 : decode cX2_init 74 = .ok (.aload_n 0, 1) := by decide +kernel
theorem dX2_init_75 : decode cX2_init 75 = .ok (.iconst 0, 1) := by decide +kernel
theorem dX2_init_76 : decode cX2_init 76 = .ok (.putfield 54, 3) := by decide +kernel
theorem dX2_init_79 : decode cX2_init 79 = .ok (.aload_n 0, 1) := by decide +kernel
theorem dX2_init_80 : decode cX2_init 80 = .ok (.iconst 0, 1) := by decide +kernel
theorem dX2_init_81 : decode cX2_init 81 = .ok (.putfield 57, 3) := by decide +kernel
theorem dX2_init_84 : decode cX2_init 84 = .ok (.aload_n 0, 1) := by decide +kernel
theorem dX2_init_85 : decode cX2_init 85 = .ok (.aload_n 1, 1) := by decide +kernel
theorem dX2_init_86 : decode cX2_init 86 = .ok (.putfield 60, 3) := by decide +kernel
theorem dX2_init_89 : decode cX2_init 89 = .ok (.aload_n 0, 1) := by decide +kernel
theorem dX2_init_90 : decode cX2_init 90 = .ok (.aload_n 2, 1) := by decide +kernel
theorem dX2_init_91 : decode cX2_init 91 = .ok (.putfield 64, 3) := by decide +kernel
theorem dX2_init_94 : decode cX2_init 94 = .ok (.return_, 1) := by decide +kernel
theorem dX2_begin_0 : decode cX2_begin 0 = .ok (.aload_n 0, 1) := by decide +kernel
theorem dX2_begin_1 : decode cX2_begin 1 = .ok (.iconst 1, 1) := by decide +kernel
theorem dX2_begin_2 : decode cX2_begin 2 = .ok (.putfield 9, 3) := by decide +kernel
theorem dX2_begin_5 : decode cX2_begin 5 = .ok (.aload_n 0, 1) := by decide +kernel
theorem dX2_begin_6 : decode cX2_begin 6 = .ok (.iconst 0, 1) := by decide +kernel
theorem dX2_begin_7 : decode cX2_begin 7 = .ok (.putfield 15, 3) := by decide +kernel
theorem dX2_begin_10 : decode cX2_begin 10 = .ok (.aload_n 0, 1) := by decide +kernel
theorem dX2_begin_11 : decode cX2_begin 11 = .ok (.iconst 0, 1) := by decide +kernel
theorem dX2_begin_12 : decode cX2_begin 12 = .ok (.putfield 18, 3) := by decide +kernel
theorem dX2_begin_15 : decode cX2_begin 15 = .ok (.aload_n 0, 1) := by decide +kernel
theorem dX2_begin_16 : decode cX2_begin 16 = .ok (.iconst 0, 1) := by decide +kernel
theorem dX2_begin_17 : decode cX2_begin 17 = .ok (.putfield 21, 3) := by decide +kernel
theorem dX2_begin_20 : decode cX2_begin 20 = .ok (.aload_n 0, 1) := by decide +kernel
theorem dX2_begin_21 : decode cX2_begin 21 = .ok (.iconst 0, 1) := by decide +kernel
theorem dX2_begin_22 : decode cX2_begin 22 = .ok (.putfield 24, 3) := by decide +kernel
theorem dX2_begin_25 : decode cX2_begin 25 = .ok (.aload_n 0, 1) := by decide +kernel
theorem dX2_begin_26 : decode cX2_begin 26 = .ok (.iconst 0, 1) := by decide +kernel
theorem dX2_begin_27 : decode cX2_begin 27 = .ok (.putfield 27, 3) := by decide +kernel
theorem dX2_begin_30 : decode cX2_begin 30 = .ok (.aload_n 0, 1) := by decide +kernel
theorem dX2_begin_31 : decode cX2_begin 31 = .ok (.iconst 0, 1) := by decide +kernel
theorem dX2_begin_32 : decode cX2_begin 32 = .ok (.putfield 30, 3) := by decide +kernel
theorem dX2_begin_35 : decode cX2_begin 35 = .ok (.aload_n 0, 1) := by decide +kernel
theorem dX2_begin_36 : decode cX2_begin 36 = .ok (.iconst 0, 1) := by decide +kernel
theorem dX2_begin_37 : decode cX2_begin 37 = .ok (.putfield 33, 3) := by decide +kernel
theorem dX2_begin_40 : decode cX2_begin 40 = .ok (.aload_n 0, 1) := by decide +kernel
theorem dX2_begin_41 : decode cX2_begin 41 = .ok (.iconst 0, 1) := by decide +kernel
theorem dX2_begin_42 : decode cX2_begin 42 = .ok (.putfield 36, 3) := by decide +kernel
theorem dX2_begin_45 : decode cX2_begin 45 = .ok (.aload_n 0, 1) := by decide +kernel
theorem dX2_begin_46 : decode cX2_begin 46 = .ok (.iconst 0, 1) := by decide +kernel
theorem dX2_begin_47 : decode cX2_begin 47 = .ok (.putfield 39, 3) := by decide +kernel
theorem dX2_begin_50 : decode cX2_begin 50 = .ok (.aload_n 0, 1) := by decide +kernel
theorem dX2_begin_51 : decode cX2_begin 51 = .ok (.iconst 0, 1) := by decide +kernel
theorem dX2_begin_52 : decode cX2_begin 52 = .ok (.putfield 42, 3) := by decide +kernel
theorem dX2_begin_55 : decode cX2_begin 55 = .ok (.aload_n 0, 1) := by decide +kernel
theorem dX2_begin_56 : decode cX2_begin 56 = .ok (.iconst 0, 1) := by decide +kernel
theorem dX2_begin_57 : decode cX2_begin 57 = .ok (.putfield 45, 3) := by decide +kernel
theorem dX2_begin_60 : decode cX2_begin 60 = .ok (.aload_n 0, 1) := by decide +kernel
theorem dX2_begin_61 : decode cX2_begin 61 = .ok (.iconst 0, 1) := by decide +kernel
theorem dX2_begin_62 : decode cX2_begin 62 = .ok (.putfield 48, 3) := by decide +kernel
theorem dX2_begin_65 : decode cX2_begin 65 = .ok (.aload_n 0, 1) := by decide +kernel
theorem dX2_begin_66 : decode cX2_begin 66 = .ok (.iconst 0, 1) := by decide +kernel
theorem dX2_begin_67 : decode cX2_begin 67 = .ok (.putfield 51, 3) := by decide +kernel
theorem dX2_begin_70 : decode cX2_begin 70 = .ok (.aload_n 0, 1) := by decide +kernel
theorem dX2_begin_71 : decode cX2_begin 71 = .ok (.iconst 0, 1) := by decide +kernel
theorem dX2_begin_72 : decode cX2_begin 72 = .ok (.putfield 54, 3) := by decide +kernel
theorem dX2_begin_75 : decode cX2_begin 75 = .ok (.aload_n 0, 1) := by decide +kernel
theorem dX2_begin_76 : decode cX2_begin 76 = .ok (.iconst 0, 1) := by decide +kernel
theorem dX2_begin_77 : decode cX2_begin 77 = .ok (.putfield 57, 3) := by decide +kernel
theorem dX2_begin_80 : decode cX2_begin 80 = .ok (.return_, 1) := by decide +kernel
theorem dX2_copyFrom_0 : decode cX2_copyFrom 0 = .ok (.aload_n 0, 1) := by decide +kernel
theorem dX2_copyFrom_1 : decode cX2_copyFrom 1 = .ok (.aload_n 1, 1) := by decide +kernel
theorem dX2_copyFrom_2 : decode cX2_copyFrom 2 = .ok (.getfield 9, 3) := by decide +kernel
theorem dX2_copyFrom_5 : decode cX2_copyFrom 5 = .ok (.putfield 9, 3) := by decide +kernel
theorem dX2_copyFrom_8 : decode cX2_copyFrom 8 = .ok (.aload_n 0, 1) := by decide +kernel
theorem dX2_copyFrom_9 : decode cX2_copyFrom 9 = .ok (.aload_n 1, 1) := by decide +kernel
theorem dX2_copyFrom_10 : decode cX2_copyFrom 10 = .ok (.getfield 15, 3) := by decide +kernel
theorem dX2_copyFrom_13 : decode cX2_copyFrom 13 = .ok (.putfield 15, 3) := by decide +kernel
theorem dX2_copyFrom_16 : decode cX2_copyFrom 16 = .ok (.aload_n 0, 1) := by decide +kernel
theorem dX2_copyFrom_17 : decode cX2_copyFrom 17 = .ok (.aload_n 1, 1) := by decide +kernel
theorem dX2_copyFrom_18 : decode cX2_copyFrom 18 = .ok (.getfield 18, 3) := by decide +kernel
theorem dX2_copyFrom_21 : decode cX2_copyFrom 21 = .ok (.putfield 18, 3) := by decide +kernel
theorem dX2_copyFrom_24 : decode cX2_copyFrom 24 = .ok (.aload_n 0, 1) := by decide +kernel
theorem dX2_copyFrom_25 : decode cX2_copyFrom 25 = .ok (.aload_n 1, 1) := by decide +kernel
theorem dX2_copyFrom_26 : decode cX2_copyFrom 26 = .ok (.getfield 21, 3) := by decide +kernel
theorem dX2_copyFrom_29 : decode cX2_copyFrom 29 = .ok (.putfield 21, 3) := by decide +kernel
theorem dX2_copyFrom_32 : decode cX2_copyFrom 32 = .ok (.aload_n 0, 1) := by decide +kernel
theorem dX2_copyFrom_33 : decode cX2_copyFrom 33 = .ok (.aload_n 1, 1) := by decide +kernel
theorem dX2_copyFrom_34 : decode cX2_copyFrom 34 = .ok (.getfield 24, 3) := by decide +kernel
theorem dX2_copyFrom_37 : decode cX2_copyFrom 37 = .ok (.putfield 24, 3) := by decide +kernel
theorem dX2_copyFrom_40 : decode cX2_copyFrom 40 = .ok (.aload_n 0, 1) := by decide +kernel
theorem dX2_copyFrom_41 : decode cX2_copyFrom 41 = .ok (.aload_n 1, 1) := by decide +kernel
theorem dX2_copyFrom_42 : decode cX2_copyFrom 42 = .ok (.getfield 27, 3) := by decide +kernel
theorem dX2_copyFrom_45 : decode cX2_copyFrom 45 = .ok (.putfield 27, 3) := by decide +kernel
theorem dX2_copyFrom_48 : decode cX2_copyFrom 48 = .ok (.aload_n 0, 1) := by decide +kernel
theorem dX2_copyFrom_49 : decode cX2_copyFrom 49 = .ok (.aload_n 1, 1) := by decide +kernel
theorem dX2_copyFrom_50 : decode cX2_copyFrom 50 = .ok (.getfield 30, 3) := by decide +kernel
theorem dX2_copyFrom_53 : decode cX2_copyFrom 53 = .ok (.putfield 30, 3) := by decide +kernel
theorem dX2_copyFrom_56 : decode cX2_copyFrom 56 = .ok (.aload_n 0, 1) := by decide +kernel
theorem dX2_copyFrom_57 : decode cX2_copyFrom 57 = .ok (.aload_n 1, 1) := by decide +kernel
theorem dX2_copyFrom_58 : decode cX2_copyFrom 58 = .ok (.getfield 33, 3) := by decide +kernel
theorem dX2_copyFrom_61 : decode cX2_copyFrom 61 = .ok (.putfield 33, 3) := by decide +kernel
theorem dX2_copyFrom_64 : decode cX2_copyFrom 64 = .ok (.aload_n 0, 1) := by decide +kernel
theorem dX2_copyFrom_65 : decode cX2_copyFrom 65 = .ok (.aload_n 1, 1) := by decide +kernel
theorem dX2_copyFrom_66 : decode cX2_copyFrom 66 = .ok (.getfield 36, 3) := by decide +kernel
theorem dX2_copyFrom_69 : decode cX2_copyFrom 69 = .ok (.putfield 36, 3) := by decide +kernel
theorem dX2_copyFrom_72 : decode cX2_copyFrom 72 = .ok (.aload_n 0, 1) := by decide +kernel
theorem dX2_copyFrom_73 : decode cX2_copyFrom 73 = .ok (.aload_n 1, 1) := by decide +kernel
theorem dX2_copyFrom_74 : decode cX2_copyFrom 74 = .ok (.getfield 39, 3) := by decide +kernel
theorem dX2_copyFrom_77 : decode cX2_copyFrom 77 = .ok (.putfield 39, 3) := by decide +kernel
theorem dX2_copyFrom_80 : decode cX2_copyFrom 80 = .ok (.aload_n 0, 1) := by decide +kernel
theorem dX2_copyFrom_81 : decode cX2_copyFrom 81 = .ok (.aload_n 1, 1) := by decide +kernel
theorem dX2_copyFrom_82 : decode cX2_copyFrom 82 = .ok (.getfield 42, 3) := by decide +kernel
theorem dX2_copyFrom_85 : decode cX2_copyFrom 85 = .ok (.putfield 42, 3) := by decide +kernel
theorem dX2_copyFrom_88 : decode cX2_copyFrom 88 = .ok (.aload_n 0, 1) := by decide +kernel
theorem dX2_copyFrom_89 : decode cX2_copyFrom 89 = .ok (.aload_n 1, 1) := by decide +kernel
theorem dX2_copyFrom_90 : decode cX2_copyFrom 90 = .ok (.getfield 45, 3) := by decide +kernel
theorem dX2_copyFrom_93 : decode cX2_copyFrom 93 = .ok (.putfield 45, 3) := by decide +kernel
theorem dX2_copyFrom_96 : decode cX2_copyFrom 96 = .ok (.aload_n 0, 1) := by decide +kernel
theorem dX2_copyFrom_97 : decode cX2_copyFrom 97 = .ok (.aload_n 1, 1) := by decide +kernel
theorem dX2_copyFrom_98 : decode cX2_copyFrom 98 = .ok (.getfield 48, 3) := by decide +kernel
theorem dX2_copyFrom_101 : decode cX2_copyFrom 101 = .ok (.putfield 48, 3) := by decide +kernel
theorem dX2_copyFrom_104 : decode cX2_copyFrom 104 = .ok (.aload_n 0, 1) := by decide +kernel
theorem dX2_copyFrom_105 : decode cX2_copyFrom 105 = .ok (.aload_n 1, 1) := by decide +kernel
theorem dX2_copyFrom_106 : decode cX2_copyFrom 106 = .ok (.getfield 51, 3) := by decide +kernel
theorem dX2_copyFrom_109 : decode cX2_copyFrom 109 = .ok (.putfield 51, 3) := by decide +kernel
theorem dX2_copyFrom_112 : decode cX2_copyFrom 112 = .ok (.aload_n 0, 1) := by decide +kernel
theorem dX2_copyFrom_113 : decode cX2_copyFrom 113 = .ok (.aload_n 1, 1) := by decide +kernel
theorem dX2_copyFrom_114 : decode cX2_copyFrom 114 = .ok (.getfield 54, 3) := by decide +kernel
theorem dX2_copyFrom_117 : decode cX2_copyFrom 117 = .ok (.putfield 54, 3) := by decide +kernel
theorem dX2_copyFrom_120 : decode cX2_copyFrom 120 = .ok (.aload_n 0, 1) := by decide +kernel
theorem dX2_copyFrom_121 : decode cX2_copyFrom 121 = .ok (.aload_n 1, 1) := by decide +kernel
theorem dX2_copyFrom_122 : decode cX2_copyFrom 122 = .ok (.getfield 57, 3) := by decide +kernel
theorem dX2_copyFrom_125 : decode cX2_copyFrom 125 = .ok (.putfield 57, 3) := by decide +kernel
theorem dX2_copyFrom_128 : decode cX2_copyFrom 128 = .ok (.return_, 1) := by decide +kernel
theorem dX2_part_0 : decode cX2_part 0 = .ok (.iload_n 1, 1) := by decide +kernel
theorem dX2_part_1 : decode cX2_part 1 = .ok (.tableswitch 153 0 13 #[71, 76, 81, 86, 91, 96, 101, 106, 111, 116, 121, 126, 131, 136], 71) := by decide +kernel
theorem dX2_part_72 : decode cX2_part 72 = .ok (.aload_n 0, 1) := by decide +kernel
theorem dX2_part_73 : decode cX2_part 73 = .ok (.getfield 9, 3) := by decide +kernel
theorem dX2_part_76 : decode cX2_part 76 = .ok (.ireturn, 1) := by decide +kernel
theorem dX2_part_77 : decode cX2_part 77 = .ok (.aload_n 0, 1) := by decide +kernel
theorem dX2_part_78 : decode cX2_part 78 = .ok (.getfield 15, 3) := by decide +kernel
theorem dX2_part_81 : decode cX2_part 81 = .ok (.ireturn, 1) := by decide +kernel
theorem dX2_part_82 : decode cX2_part 82 = .ok (.aload_n 0, 1) := by decide +kernel
theorem dX2_part_83 : decode cX2_part 83 = .ok (.getfield 18, 3) := by decide +kernel
theorem dX2_part_86 : decode cX2_part 86 = .ok (.ireturn, 1) := by decide +kernel
theorem dX2_part_87 : decode cX2_part 87 = .ok (.aload_n 0, 1) := by decide +kernel
theorem dX2_part_88 : decode cX2_part 88 = .ok (.getfield 21, 3) := by decide +kernel
theorem dX2_part_91 : decode cX2_part 91 = .ok (.ireturn, 1) := by decide +kernel
theorem dX2_part_92 : decode cX2_part 92 = .ok (.aload_n 0, 1) := by decide +kernel
theorem dX2_part_93 : decode cX2_part 93 = .ok (.getfield 24, 3) := by decide +kernel
theorem dX2_part_96 : decode cX2_part 96 = .ok (.ireturn, 1) := by decide +kernel
theorem dX2_part_97 : decode cX2_part 97 = .ok (.aload_n 0, 1) := by decide +kernel
theorem dX2_part_98 : decode cX2_part 98 = .ok (.getfield 27, 3) := by decide +kernel
theorem dX2_part_101 : decode cX2_part 101 = .ok (.ireturn, 1) := by decide +kernel
theorem dX2_part_102 : decode cX2_part 102 = .ok (.aload_n 0, 1) := by decide +kernel
theorem dX2_part_103 : decode cX2_part 103 = .ok (.getfield 30, 3) := by decide +kernel
theorem dX2_part_106 : decode cX2_part 106 = .ok (.ireturn, 1) := by decide +kernel
theorem dX2_part_107 : decode cX2_part 107 = .ok (.aload_n 0, 1) := by decide +kernel
theorem dX2_part_108 : decode cX2_part 108 = .ok (.getfield 33, 3) := by decide +kernel
theorem dX2_part_111 : decode cX2_part 111 = .ok (.ireturn, 1) := by decide +kernel
theorem dX2_part_112 : decode cX2_part 112 = .ok (.aload_n 0, 1) := by decide +kernel
theorem dX2_part_113 : decode cX2_part 113 = .ok (.getfield 36, 3) := by decide +kernel
theorem dX2_part_116 : decode cX2_part 116 = .ok (.ireturn, 1) := by decide +kernel
theorem dX2_part_117 : decode cX2_part 117 = .ok (.aload_n 0, 1) := by decide +kernel
theorem dX2_part_118 : decode cX2_part 118 = .ok (.getfield 39, 3) := by decide +kernel
theorem dX2_part_121 : decode cX2_part 121 = .ok (.ireturn, 1) := by decide +kernel
theorem dX2_part_122 : decode cX2_part 122 = .ok (.aload_n 0, 1) := by decide +kernel
theorem dX2_part_123 : decode cX2_part 123 = .ok (.getfield 42, 3) := by decide +kernel
theorem dX2_part_126 : decode cX2_part 126 = .ok (.ireturn, 1) := by decide +kernel
theorem dX2_part_127 : decode cX2_part 127 = .ok (.aload_n 0, 1) := by decide +kernel
theorem dX2_part_128 : decode cX2_part 128 = .ok (.getfield 45, 3) := by decide +kernel
theorem dX2_part_131 : decode cX2_part 131 = .ok (.ireturn, 1) := by decide +kernel
theorem dX2_part_132 : decode cX2_part 132 = .ok (.aload_n 0, 1) := by decide +kernel
theorem dX2_part_133 : decode cX2_part 133 = .ok (.getfield 48, 3) := by decide +kernel
theorem dX2_part_136 : decode cX2_part 136 = .ok (.ireturn, 1) := by decide +kernel
theorem dX2_part_137 : decode cX2_part 137 = .ok (.aload_n 0, 1) := by decide +kernel
theorem dX2_part_138 : decode cX2_part 138 = .ok (.getfield 9, 3) := by decide +kernel
theorem dX2_part_141 : decode cX2_part 141 = .ok (.ifCond .ne 10, 3) := by decide +kernel
theorem dX2_part_144 : decode cX2_part 144 = .ok (.aload_n 0, 1) := by decide +kernel
theorem dX2_part_145 : decode cX2_part 145 = .ok (.getfield 51, 3) := by decide +kernel
theorem dX2_part_148 : decode cX2_part 148 = .ok (.goto 5, 3) := by decide +kernel
theorem dX2_part_151 : decode cX2_part 151 = .ok (.bipush (-9), 2) := by decide +kernel
theorem dX2_part_153 : decode cX2_part 153 = .ok (.ireturn, 1) := by decide +kernel
theorem dX2_part_154 : decode cX2_part 154 = .ok (.bipush (-2), 2) := by decide +kernel
theorem dX2_part_156 : decode cX2_part 156 = .ok (.ireturn, 1) := by decide +kernel
theorem dX2_stateNumber_0 : decode cX2_stateNumber 0 = .ok (.lconst 1, 1) := by decide +kernel
theorem dX2_stateNumber_1 : decode cX2_stateNumber 1 = .ok (.lstore_n 1, 1) := by decide +kernel
theorem dX2_stateNumber_2 : decode cX2_stateNumber 2 = .ok (.lload_n 1, 1) := by decide +kernel
theorem dX2_stateNumber_3 : decode cX2_stateNumber 3 = .ok (.ldc2_w 68, 3) := by decide +kernel
theorem dX2_stateNumber_6 : decode cX2_stateNumber 6 = .ok (.lmul, 1) := by decide +kernel
theorem dX2_stateNumber_7 : decode cX2_stateNumber 7 = .ok (.aload_n 0, 1) := by decide +kernel
theorem dX2_stateNumber_8 : decode cX2_stateNumber 8 = .ok (.getfield 9, 3) := by decide +kernel
theorem dX2_stateNumber_11 : decode cX2_stateNumber 11 = .ok (.i2l, 1) := by decide +kernel
theorem dX2_stateNumber_12 : decode cX2_stateNumber 12 = .ok (.ladd, 1) := by decide +kernel
theorem dX2_stateNumber_13 : decode cX2_stateNumber 13 = .ok (.lstore_n 1, 1) := by decide +kernel
theorem dX2_stateNumber_14 : decode cX2_stateNumber 14 = .ok (.lload_n 1, 1) := by decide +kernel
theorem dX2_stateNumber_15 : decode cX2_stateNumber 15 = .ok (.ldc2_w 70, 3) := by decide +kernel
theorem dX2_stateNumber_18 : decode cX2_stateNumber 18 = .ok (.lmul, 1) := by decide +kernel
theorem dX2_stateNumber_19 : decode cX2_stateNumber 19 = .ok (.aload_n 0, 1) := by decide +kernel
theorem dX2_stateNumber_20 : decode cX2_stateNumber 20 = .ok (.getfield 15, 3) := by decide +kernel
theorem dX2_stateNumber_23 : decode cX2_stateNumber 23 = .ok (.i2l, 1) := by decide +kernel
theorem dX2_stateNumber_24 : decode cX2_stateNumber 24 = .ok (.ladd, 1) := by decide +kernel
theorem dX2_stateNumber_25 : decode cX2_stateNumber 25 = .ok (.lstore_n 1, 1) := by decide +kernel
theorem dX2_stateNumber_26 : decode cX2_stateNumber 26 = .ok (.lload_n 1, 1) := by decide +kernel
theorem dX2_stateNumber_27 : decode cX2_stateNumber 27 = .ok (.ldc2_w 72, 3) := by decide +kernel
theorem dX2_stateNumber_30 : decode cX2_stateNumber 30 = .ok (.lmul, 1) := by decide +kernel
theorem dX2_stateNumber_31 : decode cX2_stateNumber 31 = .ok (.aload_n 0, 1) := by decide +kernel
theorem dX2_stateNumber_32 : decode cX2_stateNumber 32 = .ok (.getfield 18, 3) := by decide +kernel
theorem dX2_stateNumber_35 : decode cX2_stateNumber 35 = .ok (.i2l, 1) := by decide +kernel
theorem dX2_stateNumber_36 : decode cX2_stateNumber 36 = .ok (.ladd, 1) := by decide +kernel
theorem dX2_stateNumber_37 : decode cX2_stateNumber 37 = .ok (.lstore_n 1, 1) := by decide +kernel
theorem dX2_stateNumber_38 : decode cX2_stateNumber 38 = .ok (.lload_n 1, 1) := by decide +kernel
theorem dX2_stateNumber_39 : decode cX2_stateNumber 39 = .ok (.ldc2_w 68, 3) := by decide +kernel
theorem dX2_stateNumber_42 : decode cX2_stateNumber 42 = .ok (.lmul, 1) := by decide +kernel
theorem dX2_stateNumber_43 : decode cX2_stateNumber 43 = .ok (.aload_n 0, 1) := by decide +kernel
theorem dX2_stateNumber_44 : decode cX2_stateNumber 44 = .ok (.getfield 21, 3) := by decide +kernel
theorem dX2_stateNumber_47 : decode cX2_stateNumber 47 = .ok (.i2l, 1) := by decide +kernel
theorem dX2_stateNumber_48 : decode cX2_stateNumber 48 = .ok (.ladd, 1) := by decide +kernel
theorem dX2_stateNumber_49 : decode cX2_stateNumber 49 = .ok (.lstore_n 1, 1) := by decide +kernel
theorem dX2_stateNumber_50 : decode cX2_stateNumber 50 = .ok (.lload_n 1, 1) := by decide +kernel
theorem dX2_stateNumber_51 : decode cX2_stateNumber 51 = .ok (.ldc2_w 74, 3) := by decide +kernel
theorem dX2_stateNumber_54 : decode cX2_stateNumber 54 = .ok (.lmul, 1) := by decide +kernel
theorem dX2_stateNumber_55 : decode cX2_stateNumber 55 = .ok (.aload_n 0, 1) := by decide +kernel
theorem dX2_stateNumber_56 : decode cX2_stateNumber 56 = .ok (.getfield 24, 3) := by decide +kernel
theorem dX2_stateNumber_59 : decode cX2_stateNumber 59 = .ok (.i2l, 1) := by decide +kernel
theorem dX2_stateNumber_60 : decode cX2_stateNumber 60 = .ok (.ladd, 1) := by decide +kernel
theorem dX2_stateNumber_61 : decode cX2_stateNumber 61 = .ok (.lstore_n 1, 1) := by decide +kernel
theorem dX2_stateNumber_62 : decode cX2_stateNumber 62 = .ok (.lload_n 1, 1) := by decide +kernel
theorem dX2_stateNumber_63 : decode cX2_stateNumber 63 = .ok (.ldc2_w 72, 3) := by decide +kernel
theorem dX2_stateNumber_66 : decode cX2_stateNumber 66 = .ok (.lmul, 1) := by decide +kernel
theorem dX2_stateNumber_67 : decode cX2_stateNumber 67 = .ok (.aload_n 0, 1) := by decide +kernel
theorem dX2_stateNumber_68 : decode cX2_stateNumber 68 = .ok (.getfield 27, 3) := by decide +kernel
theorem dX2_stateNumber_71 : decode cX2_stateNumber 71 = .ok (.i2l, 1) := by decide +kernel
theorem dX2_stateNumber_72 : decode cX2_stateNumber 72 = .ok (.ladd, 1) := by decide +kernel
theorem dX2_stateNumber_73 : decode cX2_stateNumber 73 = .ok (.lstore_n 1, 1) := by decide +kernel
theorem dX2_stateNumber_74 : decode cX2_stateNumber 74 = .ok (.lload_n 1, 1) := by decide +kernel
theorem dX2_stateNumber_75 : decode cX2_stateNumber 75 = .ok (.ldc2_w 72, 3) := by decide +kernel
theorem dX2_stateNumber_78 : decode cX2_stateNumber 78 = .ok (.lmul, 1) := by decide +kernel
theorem dX2_stateNumber_79 : decode cX2_stateNumber 79 = .ok (.aload_n 0, 1) := by decide +kernel
theorem dX2_stateNumber_80 : decode cX2_stateNumber 80 = .ok (.getfield 30, 3) := by decide +kernel
theorem dX2_stateNumber_83 : decode cX2_stateNumber 83 = .ok (.i2l, 1) := by decide +kernel
theorem dX2_stateNumber_84 : decode cX2_stateNumber 84 = .ok (.ladd, 1) := by decide +kernel
theorem dX2_stateNumber_85 : decode cX2_stateNumber 85 = .ok (.lstore_n 1, 1) := by decide +kernel
theorem dX2_stateNumber_86 : decode cX2_stateNumber 86 = .ok (.lload_n 1, 1) := by decide +kernel
theorem dX2_stateNumber_87 : decode cX2_stateNumber 87 = .ok (.ldc2_w 72, 3) := by decide +kernel
theorem dX2_stateNumber_90 : decode cX2_stateNumber 90 = .ok (.lmul, 1) := by decide +kernel
theorem dX2_stateNumber_91 : decode cX2_stateNumber 91 = .ok (.aload_n 0, 1) := by decide +kernel
theorem dX2_stateNumber_92 : decode cX2_stateNumber 92 = .ok (.getfield 33, 3) := by decide +kernel
theorem dX2_stateNumber_95 : decode cX2_stateNumber 95 = .ok (.i2l, 1) := by decide +kernel
theorem dX2_stateNumber_96 : decode cX2_stateNumber 96 = .ok (.ladd, 1) := by decide +kernel
theorem dX2_stateNumber_97 : decode cX2_stateNumber 97 = .ok (.lstore_n 1, 1) := by decide +kernel
theorem dX2_stateNumber_98 : decode cX2_stateNumber 98 = .ok (.lload_n 1, 1) := by decide +kernel
theorem dX2_stateNumber_99 : decode cX2_stateNumber 99 = .ok (.ldc2_w 72, 3) := by decide +kernel
theorem dX2_stateNumber_102 : decode cX2_stateNumber 102 = .ok (.lmul, 1) := by decide +kernel
theorem dX2_stateNumber_103 : decode cX2_stateNumber 103 = .ok (.aload_n 0, 1) := by decide +kernel
theorem dX2_stateNumber_104 : decode cX2_stateNumber 104 = .ok (.getfield 36, 3) := by decide +kernel
theorem dX2_stateNumber_107 : decode cX2_stateNumber 107 = .ok (.i2l, 1) := by decide +kernel
theorem dX2_stateNumber_108 : decode cX2_stateNumber 108 = .ok (.ladd, 1) := by decide +kernel
theorem dX2_stateNumber_109 : decode cX2_stateNumber 109 = .ok (.lstore_n 1, 1) := by decide +kernel
theorem dX2_stateNumber_110 : decode cX2_stateNumber 110 = .ok (.lload_n 1, 1) := by decide +kernel
theorem dX2_stateNumber_111 : decode cX2_stateNumber 111 = .ok (.ldc2_w 76, 3) := by decide +kernel
theorem dX2_stateNumber_114 : decode cX2_stateNumber 114 = .ok (.lmul, 1) := by decide +kernel
theorem dX2_stateNumber_115 : decode cX2_stateNumber 115 = .ok (.aload_n 0, 1) := by decide +kernel
theorem dX2_stateNumber_116 : decode cX2_stateNumber 116 = .ok (.getfield 39, 3) := by decide +kernel
theorem dX2_stateNumber_119 : decode cX2_stateNumber 119 = .ok (.i2l, 1) := by decide +kernel
theorem dX2_stateNumber_120 : decode cX2_stateNumber 120 = .ok (.ladd, 1) := by decide +kernel
theorem dX2_stateNumber_121 : decode cX2_stateNumber 121 = .ok (.lstore_n 1, 1) := by decide +kernel
theorem dX2_stateNumber_122 : decode cX2_stateNumber 122 = .ok (.lload_n 1, 1) := by decide +kernel
theorem dX2_stateNumber_123 : decode cX2_stateNumber 123 = .ok (.ldc2_w 78, 3) := by decide +kernel
theorem dX2_stateNumber_126 : decode cX2_stateNumber 126 = .ok (.lmul, 1) := by decide +kernel
theorem dX2_stateNumber_127 : decode cX2_stateNumber 127 = .ok (.aload_n 0, 1) := by decide +kernel
theorem dX2_stateNumber_128 : decode cX2_stateNumber 128 = .ok (.getfield 42, 3) := by decide +kernel
theorem dX2_stateNumber_131 : decode cX2_stateNumber 131 = .ok (.i2l, 1) := by decide +kernel
theorem dX2_stateNumber_132 : decode cX2_stateNumber 132 = .ok (.ladd, 1) := by decide +kernel
theorem dX2_stateNumber_133 : decode cX2_stateNumber 133 = .ok (.lstore_n 1, 1) := by decide +kernel
theorem dX2_stateNumber_134 : decode cX2_stateNumber 134 = .ok (.lload_n 1, 1) := by decide +kernel
theorem dX2_stateNumber_135 : decode cX2_stateNumber 135 = .ok (.ldc2_w 70, 3) := by decide +kernel
theorem dX2_stateNumber_138 : decode cX2_stateNumber 138 = .ok (.lmul, 1) := by decide +kernel
theorem dX2_stateNumber_139 : decode cX2_stateNumber 139 = .ok (.aload_n 0, 1) := by decide +kernel
theorem dX2_stateNumber_140 : decode cX2_stateNumber 140 = .ok (.getfield 45, 3) := by decide +kernel
theorem dX2_stateNumber_143 : decode cX2_stateNumber 143 = .ok (.i2l, 1) := by decide +kernel
theorem dX2_stateNumber_144 : decode cX2_stateNumber 144 = .ok (.ladd, 1) := by decide +kernel
theorem dX2_stateNumber_145 : decode cX2_stateNumber 145 = .ok (.lstore_n 1, 1) := by decide +kernel
theorem dX2_stateNumber_146 : decode cX2_stateNumber 146 = .ok (.lload_n 1, 1) := by decide +kernel
theorem dX2_stateNumber_147 : decode cX2_stateNumber 147 = .ok (.ldc2_w 76, 3) := by decide +kernel
theorem dX2_stateNumber_150 : decode cX2_stateNumber 150 = .ok (.lmul, 1) := by decide +kernel
theorem dX2_stateNumber_151 : decode cX2_stateNumber 151 = .ok (.aload_n 0, 1) := by decide +kernel
theorem dX2_stateNumber_152 : decode cX2_stateNumber 152 = .ok (.getfield 48, 3) := by decide +kernel
theorem dX2_stateNumber_155 : decode cX2_stateNumber 155 = .ok (.i2l, 1) := by decide +kernel
theorem dX2_stateNumber_156 : decode cX2_stateNumber 156 = .ok (.ladd, 1) := by decide +kernel
theorem dX2_stateNumber_157 : decode cX2_stateNumber 157 = .ok (.lreturn, 1) := by decide +kernel
set_option maxRecDepth 20000 in
theorem ggX2_advance_X0_seenOf : GoodIn wsX2_advance wsX0_seenOf := goodIn_r _ [14, 15, 16, 115, 116, 117, 118] (by decide +kernel) (by decide +kernel)
set_option maxRecDepth 20000 in
theorem gX2_advance_X0_seenOf : GoodIn wsX2_advance (wsV RX2 80 RX0 yX0_seenOf wsX0_seenOf) := goodIn_app (goodIn_of _ (by decide +kernel)) ggX2_advance_X0_seenOf
set_option maxRecDepth 20000 in
theorem ggX2_advance_X2_apartThen : GoodIn wsX2_advance wsX2_apartThen := goodIn_r _ [20, 21, 22, 23, 24, 25, 26, 27, 28, 19, 29, 30, 31, 32, 33] (by decide +kernel) (by decide +kernel)
set_option maxRecDepth 20000 in
theorem gX2_advance_X2_apartThen : GoodIn wsX2_advance (va_wsS RX2 86 yX2_apartThen wsX2_apartThen) := goodIn_app (goodIn_of _ (by decide +kernel)) ggX2_advance_X2_apartThen
set_option maxRecDepth 20000 in
theorem ggX2_advance_X2_moveMuting : GoodIn wsX2_advance wsX2_moveMuting := goodIn_r _ [37, 38, 39, 40, 41, 25, 22, 26, 42, 43, 44, 19, 45, 46, 47, 48, 49, 97, 98, 99, 100, 101, 102, 103, 104, 105, 106, 107, 108, 109, 110, 111, 112, 113, 114, 119, 120, 121, 122, 123] (by decide +kernel) (by decide +kernel)
set_option maxRecDepth 20000 in
theorem gX2_advance_X2_moveMuting : GoodIn wsX2_advance (wsV RX2 90 RX2 yX2_moveMuting wsX2_moveMuting) := goodIn_app (goodIn_of _ (by decide +kernel)) ggX2_advance_X2_moveMuting
set_option maxRecDepth 20000 in
theorem ggX2_advance_X2_moveHands : GoodIn wsX2_advance wsX2_moveHands := goodIn_r _ [53, 5, 54, 21, 22, 23, 24, 25, 26, 55, 56, 57, 19, 58, 40, 59, 97, 98, 99, 100, 101, 102, 103, 104, 105, 106, 107, 108, 109, 110, 111, 112, 113, 114, 119, 120, 121, 122, 123] (by decide +kernel) (by decide +kernel)
set_option maxRecDepth 20000 in
theorem gX2_advance_X2_moveHands : GoodIn wsX2_advance (wsV RX2 94 RX2 yX2_moveHands wsX2_moveHands) := goodIn_app (goodIn_of _ (by decide +kernel)) ggX2_advance_X2_moveHands
set_option maxRecDepth 20000 in
theorem ggX2_advance_X0_valvesObey : GoodIn wsX2_advance wsX0_valvesObey := goodIn_r _ [63, 64, 65, 66, 67, 13, 68, 115, 116, 117, 118] (by decide +kernel) (by decide +kernel)
set_option maxRecDepth 20000 in
theorem gX2_advance_X0_valvesObey : GoodIn wsX2_advance (wsV RX2 97 RX0 yX0_valvesObey wsX0_valvesObey) := goodIn_app (goodIn_of _ (by decide +kernel)) ggX2_advance_X0_valvesObey
set_option maxRecDepth 20000 in
theorem ggX2_advance_X2_oneMore : GoodIn wsX2_advance wsX2_oneMore := goodIn_r _ [29, 30, 31, 32, 33] (by decide +kernel) (by decide +kernel)
set_option maxRecDepth 20000 in
theorem gX2_advance_X2_oneMore : GoodIn wsX2_advance (va_wsS RX2 101 yX2_oneMore wsX2_oneMore) := goodIn_app (goodIn_of _ (by decide +kernel)) ggX2_advance_X2_oneMore
set_option maxRecDepth 20000 in
theorem ggX2_advance_X8_pairCount : GoodIn wsX2_advance wsX8_pairCount := goodIn_r _ [23, 24, 25, 22, 26] (by decide +kernel) (by decide +kernel)
set_option maxRecDepth 20000 in
theorem gX2_advance_X8_pairCount_n104 : GoodIn wsX2_advance (wsX8_pairCount) := ggX2_advance_X8_pairCount
set_option maxRecDepth 20000 in
theorem ggX2_advance_X2_isMuted : GoodIn wsX2_advance wsX2_isMuted := goodIn_r _ [49, 38, 97, 98, 99, 100, 101, 102, 103, 104, 105, 106, 107, 108, 109, 110, 111, 112, 113, 114] (by decide +kernel) (by decide +kernel)
set_option maxRecDepth 20000 in
theorem gX2_advance_X2_isMuted : GoodIn wsX2_advance (wsV RX2 108 RX2 yX2_isMuted wsX2_isMuted) := goodIn_app (goodIn_of _ (by decide +kernel)) ggX2_advance_X2_isMuted
set_option maxRecDepth 20000 in
theorem ggX2_advance_X2_changeMode : GoodIn wsX2_advance wsX2_changeMode := goodIn_r _ [72, 8, 9, 5, 73, 74, 40, 75, 76, 77, 78, 19, 79, 2, 80, 3, 4, 7, 38, 25, 22, 26, 97, 98, 99, 100, 101, 102, 103, 104, 105, 106, 107, 108, 109, 110, 111, 112, 113, 114, 119, 120, 121, 122, 123] (by decide +kernel) (by decide +kernel)
set_option maxRecDepth 20000 in
theorem gX2_advance_X2_changeMode : GoodIn wsX2_advance (wsV RX2 112 RX2 yX2_changeMode wsX2_changeMode) := goodIn_app (goodIn_of _ (by decide +kernel)) ggX2_advance_X2_changeMode
set_option maxRecDepth 20000 in
theorem ggX2_advance_X2_moveSlide : GoodIn wsX2_advance wsX2_moveSlide := goodIn_r _ [84, 1, 6, 40, 85, 86, 73, 75, 87, 8, 88, 89, 90, 13, 91, 64, 65, 66, 67, 68, 21, 22, 23, 24, 25, 26, 46, 47, 48, 19, 49, 38, 92, 93, 94, 95, 96, 97, 98, 99, 100, 101, 102, 103, 104, 105, 106, 107, 108, 109, 110, 111, 112, 113, 114, 119, 120, 121, 122, 123, 115, 116, 117, 118] (by decide +kernel) (by decide +kernel)
set_option maxRecDepth 20000 in
theorem gX2_advance_X2_moveSlide : GoodIn wsX2_advance (wsV RX2 116 RX2 yX2_moveSlide wsX2_moveSlide) := goodIn_app (goodIn_of _ (by decide +kernel)) ggX2_advance_X2_moveSlide
set_option maxRecDepth 20000 in
theorem ggX2_advance_X8_bit : GoodIn wsX2_advance wsX8_bit := goodIn_r _ [26] (by decide +kernel) (by decide +kernel)
set_option maxRecDepth 20000 in
theorem gX2_advance_X8_bit_n119 : GoodIn wsX2_advance (wsX8_bit) := ggX2_advance_X8_bit
theorem dX2_advance_0 : decode cX2_advance 0 = .ok (.aload_n 0, 1) := by decide +kernel
theorem dX2_advance_1 : decode cX2_advance 1 = .ok (.getfield 64, 3) := by decide +kernel
theorem dX2_advance_4 : decode cX2_advance 4 = .ok (.iload_n 1, 1) := by decide +kernel
theorem dX2_advance_5 : decode cX2_advance 5 = .ok (.invokevirtual 80, 3) := by decide +kernel
theorem dX2_advance_8 : decode cX2_advance 8 = .ok (.istore_n 2, 1) := by decide +kernel
theorem dX2_advance_9 : decode cX2_advance 9 = .ok (.aload_n 0, 1) := by decide +kernel
theorem dX2_advance_10 : decode cX2_advance 10 = .ok (.aload_n 0, 1) := by decide +kernel
theorem dX2_advance_11 : decode cX2_advance 11 = .ok (.getfield 27, 3) := by decide +kernel
theorem dX2_advance_14 : decode cX2_advance 14 = .ok (.iload_n 2, 1) := by decide +kernel
theorem dX2_advance_15 : decode cX2_advance 15 = .ok (.iconst 0, 1) := by decide +kernel
theorem dX2_advance_16 : decode cX2_advance 16 = .ok (.invokestatic 86, 3) := by decide +kernel
theorem dX2_advance_19 : decode cX2_advance 19 = .ok (.putfield 27, 3) := by decide +kernel
theorem dX2_advance_22 : decode cX2_advance 22 = .ok (.aload_n 0, 1) := by decide +kernel
theorem dX2_advance_23 : decode cX2_advance 23 = .ok (.aload_n 0, 1) := by decide +kernel
theorem dX2_advance_24 : decode cX2_advance 24 = .ok (.getfield 30, 3) := by decide +kernel
theorem dX2_advance_27 : decode cX2_advance 27 = .ok (.iload_n 2, 1) := by decide +kernel
theorem dX2_advance_28 : decode cX2_advance 28 = .ok (.iconst 2, 1) := by decide +kernel
theorem dX2_advance_29 : decode cX2_advance 29 = .ok (.invokestatic 86, 3) := by decide +kernel
theorem dX2_advance_32 : decode cX2_advance 32 = .ok (.putfield 30, 3) := by decide +kernel
theorem dX2_advance_35 : decode cX2_advance 35 = .ok (.aload_n 0, 1) := by decide +kernel
theorem dX2_advance_36 : decode cX2_advance 36 = .ok (.aload_n 0, 1) := by decide +kernel
theorem dX2_advance_37 : decode cX2_advance 37 = .ok (.getfield 33, 3) := by decide +kernel
theorem dX2_advance_40 : decode cX2_advance 40 = .ok (.iload_n 2, 1) := by decide +kernel
theorem dX2_advance_41 : decode cX2_advance 41 = .ok (.iconst 4, 1) := by decide +kernel
theorem dX2_advance_42 : decode cX2_advance 42 = .ok (.invokestatic 86, 3) := by decide +kernel
theorem dX2_advance_45 : decode cX2_advance 45 = .ok (.putfield 33, 3) := by decide +kernel
theorem dX2_advance_48 : decode cX2_advance 48 = .ok (.aload_n 0, 1) := by decide +kernel
theorem dX2_advance_49 : decode cX2_advance 49 = .ok (.iload_n 2, 1) := by decide +kernel
theorem dX2_advance_50 : decode cX2_advance 50 = .ok (.invokevirtual 90, 3) := by decide +kernel
theorem dX2_advance_53 : decode cX2_advance 53 = .ok (.aload_n 0, 1) := by decide +kernel
theorem dX2_advance_54 : decode cX2_advance 54 = .ok (.getfield 15, 3) := by decide +kernel
theorem dX2_advance_57 : decode cX2_advance 57 = .ok (.istore_n 3, 1) := by decide +kernel
theorem dX2_advance_58 : decode cX2_advance 58 = .ok (.aload_n 0, 1) := by decide +kernel
theorem dX2_advance_59 : decode cX2_advance 59 = .ok (.iload_n 2, 1) := by decide +kernel
theorem dX2_advance_60 : decode cX2_advance 60 = .ok (.invokevirtual 94, 3) := by decide +kernel
theorem dX2_advance_63 : decode cX2_advance 63 = .ok (.aload_n 0, 1) := by decide +kernel
theorem dX2_advance_64 : decode cX2_advance 64 = .ok (.getfield 15, 3) := by decide +kernel
theorem dX2_advance_67 : decode cX2_advance 67 = .ok (.iconst 2, 1) := by decide +kernel
theorem dX2_advance_68 : decode cX2_advance 68 = .ok (.if_icmp .ne 12, 3) := by decide +kernel
theorem dX2_advance_71 : decode cX2_advance 71 = .ok (.iload_n 3, 1) := by decide +kernel
theorem dX2_advance_72 : decode cX2_advance 72 = .ok (.iconst 2, 1) := by decide +kernel
theorem dX2_advance_73 : decode cX2_advance 73 = .ok (.if_icmp .eq 7, 3) := by decide +kernel
theorem dX2_advance_76 : decode cX2_advance 76 = .ok (.iconst 1, 1) := by decide +kernel
theorem dX2_advance_77 : decode cX2_advance 77 = .ok (.goto 4, 3) := by decide +kernel
theorem dX2_advance_80 : decode cX2_advance 80 = .ok (.iconst 0, 1) := by decide +kernel
theorem dX2_advance_81 : decode cX2_advance 81 = .ok (.istore 4, 2) := by decide +kernel
theorem dX2_advance_83 : decode cX2_advance 83 = .ok (.aload_n 0, 1) := by decide +kernel
theorem dX2_advance_84 : decode cX2_advance 84 = .ok (.aload_n 0, 1) := by decide +kernel
theorem dX2_advance_85 : decode cX2_advance 85 = .ok (.getfield 64, 3) := by decide +kernel
theorem dX2_advance_88 : decode cX2_advance 88 = .ok (.aload_n 0, 1) := by decide +kernel
theorem dX2_advance_89 : decode cX2_advance 89 = .ok (.getfield 39, 3) := by decide +kernel
theorem dX2_advance_92 : decode cX2_advance 92 = .ok (.invokevirtual 97, 3) := by decide +kernel
theorem dX2_advance_95 : decode cX2_advance 95 = .ok (.ifCond .eq 7, 3) := by decide +kernel
theorem dX2_advance_98 : decode cX2_advance 98 = .ok (.iconst 0, 1) := by decide +kernel
theorem dX2_advance_99 : decode cX2_advance 99 = .ok (.goto 10, 3) := by decide +kernel
theorem dX2_advance_102 : decode cX2_advance 102 = .ok (.aload_n 0, 1) := by decide +kernel
theorem dX2_advance_103 : decode cX2_advance 103 = .ok (.getfield 36, 3) := by decide +kernel
theorem dX2_advance_106 : decode cX2_advance 106 = .ok (.invokestatic 101, 3) := by decide +kernel
theorem dX2_advance_109 : decode cX2_advance 109 = .ok (.putfield 36, 3) := by decide +kernel
theorem dX2_advance_112 : decode cX2_advance 112 = .ok (.iload_n 2, 1) := by decide +kernel
theorem dX2_advance_113 : decode cX2_advance 113 = .ok (.iconst 4, 1) := by decide +kernel
theorem dX2_advance_114 : decode cX2_advance 114 = .ok (.invokestatic 104, 3) := by decide +kernel
theorem dX2_advance_117 : decode cX2_advance 117 = .ok (.iconst 2, 1) := by decide +kernel
theorem dX2_advance_118 : decode cX2_advance 118 = .ok (.if_icmp .eq 14, 3) := by decide +kernel
theorem dX2_advance_121 : decode cX2_advance 121 = .ok (.aload_n 0, 1) := by decide +kernel
theorem dX2_advance_122 : decode cX2_advance 122 = .ok (.invokevirtual 108, 3) := by decide +kernel
theorem dX2_advance_125 : decode cX2_advance 125 = .ok (.ifCond .ne 7, 3) := by decide +kernel
theorem dX2_advance_128 : decode cX2_advance 128 = .ok (.iconst 1, 1) := by decide +kernel
theorem dX2_advance_129 : decode cX2_advance 129 = .ok (.goto 4, 3) := by decide +kernel
theorem dX2_advance_132 : decode cX2_advance 132 = .ok (.iconst 0, 1) := by decide +kernel
theorem dX2_advance_133 : decode cX2_advance 133 = .ok (.istore 5, 2) := by decide +kernel
theorem dX2_advance_135 : decode cX2_advance 135 = .ok (.aload_n 0, 1) := by decide +kernel
theorem dX2_advance_136 : decode cX2_advance 136 = .ok (.iload_n 2, 1) := by decide +kernel
theorem dX2_advance_137 : decode cX2_advance 137 = .ok (.iload 4, 2) := by decide +kernel
theorem dX2_advance_139 : decode cX2_advance 139 = .ok (.iload 5, 2) := by decide +kernel
theorem dX2_advance_141 : decode cX2_advance 141 = .ok (.invokevirtual 112, 3) := by decide +kernel
theorem dX2_advance_144 : decode cX2_advance 144 = .ok (.aload_n 0, 1) := by decide +kernel
theorem dX2_advance_145 : decode cX2_advance 145 = .ok (.aload_n 0, 1) := by decide +kernel
theorem dX2_advance_146 : decode cX2_advance 146 = .ok (.getfield 9, 3) := by decide +kernel
theorem dX2_advance_149 : decode cX2_advance 149 = .ok (.iconst 2, 1) := by decide +kernel
theorem dX2_advance_150 : decode cX2_advance 150 = .ok (.if_icmp .eq 11, 3) := by decide +kernel
theorem dX2_advance_153 : decode cX2_advance 153 = .ok (.aload_n 0, 1) := by decide +kernel
theorem dX2_advance_154 : decode cX2_advance 154 = .ok (.getfield 9, 3) := by decide +kernel
theorem dX2_advance_157 : decode cX2_advance 157 = .ok (.iconst 4, 1) := by decide +kernel
theorem dX2_advance_158 : decode cX2_advance 158 = .ok (.if_icmp .ne 7, 3) := by decide +kernel
theorem dX2_advance_161 : decode cX2_advance 161 = .ok (.iconst 1, 1) := by decide +kernel
theorem dX2_advance_162 : decode cX2_advance 162 = .ok (.goto 4, 3) := by decide +kernel
theorem dX2_advance_165 : decode cX2_advance 165 = .ok (.iconst 0, 1) := by decide +kernel
theorem dX2_advance_166 : decode cX2_advance 166 = .ok (.putfield 39, 3) := by decide +kernel
theorem dX2_advance_169 : decode cX2_advance 169 = .ok (.aload_n 0, 1) := by decide +kernel
theorem dX2_advance_170 : decode cX2_advance 170 = .ok (.iload_n 1, 1) := by decide +kernel
theorem dX2_advance_171 : decode cX2_advance 171 = .ok (.invokevirtual 116, 3) := by decide +kernel
theorem dX2_advance_174 : decode cX2_advance 174 = .ok (.aload_n 0, 1) := by decide +kernel
theorem dX2_advance_175 : decode cX2_advance 175 = .ok (.iload_n 2, 1) := by decide +kernel
theorem dX2_advance_176 : decode cX2_advance 176 = .ok (.bipush 8, 2) := by decide +kernel
theorem dX2_advance_178 : decode cX2_advance 178 = .ok (.invokestatic 119, 3) := by decide +kernel
theorem dX2_advance_181 : decode cX2_advance 181 = .ok (.putfield 48, 3) := by decide +kernel
theorem dX2_advance_184 : decode cX2_advance 184 = .ok (.return_, 1) := by decide +kernel
set_option maxRecDepth 20000 in
theorem ggX2_apartThen_X8_pairCount : GoodIn wsX2_apartThen wsX8_pairCount := goodIn_r _ [3, 4, 5, 2, 6] (by decide +kernel) (by decide +kernel)
set_option maxRecDepth 20000 in
theorem gX2_apartThen_X8_pairCount_n104 : GoodIn wsX2_apartThen (wsX8_pairCount) := ggX2_apartThen_X8_pairCount
set_option maxRecDepth 20000 in
theorem ggX2_apartThen_X2_oneMore : GoodIn wsX2_apartThen wsX2_oneMore := goodIn_r _ [10, 11, 12, 13, 14] (by decide +kernel) (by decide +kernel)
set_option maxRecDepth 20000 in
theorem gX2_apartThen_X2_oneMore : GoodIn wsX2_apartThen (va_wsS RX2 101 yX2_oneMore wsX2_oneMore) := goodIn_app (goodIn_of _ (by decide +kernel)) ggX2_apartThen_X2_oneMore
theorem dX2_apartThen_0 : decode cX2_apartThen 0 = .ok (.iload_n 1, 1) := by decide +kernel
theorem dX2_apartThen_1 : decode cX2_apartThen 1 = .ok (.iload_n 2, 1) := by decide +kernel
theorem dX2_apartThen_2 : decode cX2_apartThen 2 = .ok (.invokestatic 104, 3) := by decide +kernel
theorem dX2_apartThen_5 : decode cX2_apartThen 5 = .ok (.iconst 1, 1) := by decide +kernel
theorem dX2_apartThen_6 : decode cX2_apartThen 6 = .ok (.if_icmp .ne 10, 3) := by decide +kernel
theorem dX2_apartThen_9 : decode cX2_apartThen 9 = .ok (.iload_n 0, 1) := by decide +kernel
theorem dX2_apartThen_10 : decode cX2_apartThen 10 = .ok (.invokestatic 101, 3) := by decide +kernel
theorem dX2_apartThen_13 : decode cX2_apartThen 13 = .ok (.goto 4, 3) := by decide +kernel
theorem dX2_apartThen_16 : decode cX2_apartThen 16 = .ok (.iconst 0, 1) := by decide +kernel
theorem dX2_apartThen_17 : decode cX2_apartThen 17 = .ok (.ireturn, 1) := by decide +kernel
theorem dX2_oneMore_0 : decode cX2_oneMore 0 = .ok (.iload_n 0, 1) := by decide +kernel
theorem dX2_oneMore_1 : decode cX2_oneMore 1 = .ok (.iconst 1, 1) := by decide +kernel
theorem dX2_oneMore_2 : decode cX2_oneMore 2 = .ok (.iadd, 1) := by decide +kernel
theorem dX2_oneMore_3 : decode cX2_oneMore 3 = .ok (.bipush 9, 2) := by decide +kernel
theorem dX2_oneMore_5 : decode cX2_oneMore 5 = .ok (.invokestatic 122, 3) := by decide +kernel
theorem dX2_oneMore_8 : decode cX2_oneMore 8 = .ok (.ireturn, 1) := by decide +kernel
theorem dX2_isMuted_0 : decode cX2_isMuted 0 = .ok (.aload_n 0, 1) := by decide +kernel
theorem dX2_isMuted_1 : decode cX2_isMuted 1 = .ok (.getfield 21, 3) := by decide +kernel
theorem dX2_isMuted_4 : decode cX2_isMuted 4 = .ok (.iconst 2, 1) := by decide +kernel
theorem dX2_isMuted_5 : decode cX2_isMuted 5 = .ok (.if_icmp .eq 11, 3) := by decide +kernel
theorem dX2_isMuted_8 : decode cX2_isMuted 8 = .ok (.aload_n 0, 1) := by decide +kernel
theorem dX2_isMuted_9 : decode cX2_isMuted 9 = .ok (.getfield 21, 3) := by decide +kernel
theorem dX2_isMuted_12 : decode cX2_isMuted 12 = .ok (.iconst 3, 1) := by decide +kernel
theorem dX2_isMuted_13 : decode cX2_isMuted 13 = .ok (.if_icmp .ne 7, 3) := by decide +kernel
theorem dX2_isMuted_16 : decode cX2_isMuted 16 = .ok (.iconst 1, 1) := by decide +kernel
theorem dX2_isMuted_17 : decode cX2_isMuted 17 = .ok (.goto 4, 3) := by decide +kernel
theorem dX2_isMuted_20 : decode cX2_isMuted 20 = .ok (.iconst 0, 1) := by decide +kernel
theorem dX2_isMuted_21 : decode cX2_isMuted 21 = .ok (.ireturn, 1) := by decide +kernel
set_option maxRecDepth 20000 in
theorem ggX2_moveMuting_X8_bit : GoodIn wsX2_moveMuting wsX8_bit := goodIn_r _ [7] (by decide +kernel) (by decide +kernel)
set_option maxRecDepth 20000 in
theorem gX2_moveMuting_X8_bit_n119 : GoodIn wsX2_moveMuting (wsX8_bit) := ggX2_moveMuting_X8_bit
set_option maxRecDepth 20000 in
theorem ggX2_moveMuting_X2_mutingThen : GoodIn wsX2_moveMuting wsX2_mutingThen := goodIn_r _ [12, 1, 13, 14, 15, 11, 16, 17, 18, 19, 20, 21, 22, 23, 24, 25, 26, 27, 28, 29, 30, 31, 32, 33, 34] (by decide +kernel) (by decide +kernel)
set_option maxRecDepth 20000 in
theorem gX2_moveMuting_X2_mutingThen : GoodIn wsX2_moveMuting (wsV RX2 127 RX2 yX2_mutingThen wsX2_mutingThen) := goodIn_app (goodIn_of _ (by decide +kernel)) ggX2_moveMuting_X2_mutingThen
set_option maxRecDepth 20000 in
theorem ggX2_moveMuting_X2_isMuted : GoodIn wsX2_moveMuting wsX2_isMuted := goodIn_r _ [16, 1, 17, 18, 19, 20, 21, 22, 23, 24, 25, 26, 27, 28, 29, 30, 31, 32, 33, 34] (by decide +kernel) (by decide +kernel)
set_option maxRecDepth 20000 in
theorem gX2_moveMuting_X2_isMuted : GoodIn wsX2_moveMuting (wsV RX2 108 RX2 yX2_isMuted wsX2_isMuted) := goodIn_app (goodIn_of _ (by decide +kernel)) ggX2_moveMuting_X2_isMuted
theorem dX2_moveMuting_0 : decode cX2_moveMuting 0 = .ok (.aload_n 0, 1) := by decide +kernel
theorem dX2_moveMuting_1 : decode cX2_moveMuting 1 = .ok (.aload_n 0, 1) := by decide +kernel
theorem dX2_moveMuting_2 : decode cX2_moveMuting 2 = .ok (.iload_n 1, 1) := by decide +kernel
theorem dX2_moveMuting_3 : decode cX2_moveMuting 3 = .ok (.bipush 6, 2) := by decide +kernel
theorem dX2_moveMuting_5 : decode cX2_moveMuting 5 = .ok (.invokestatic 119, 3) := by decide +kernel
theorem dX2_moveMuting_8 : decode cX2_moveMuting 8 = .ok (.iconst 1, 1) := by decide +kernel
theorem dX2_moveMuting_9 : decode cX2_moveMuting 9 = .ok (.if_icmp .ne 7, 3) := by decide +kernel
theorem dX2_moveMuting_12 : decode cX2_moveMuting 12 = .ok (.iconst 1, 1) := by decide +kernel
theorem dX2_moveMuting_13 : decode cX2_moveMuting 13 = .ok (.goto 4, 3) := by decide +kernel
theorem dX2_moveMuting_16 : decode cX2_moveMuting 16 = .ok (.iconst 0, 1) := by decide +kernel
theorem dX2_moveMuting_17 : decode cX2_moveMuting 17 = .ok (.iload_n 1, 1) := by decide +kernel
theorem dX2_moveMuting_18 : decode cX2_moveMuting 18 = .ok (.bipush 7, 2) := by decide +kernel
theorem dX2_moveMuting_20 : decode cX2_moveMuting 20 = .ok (.invokestatic 119, 3) := by decide +kernel
theorem dX2_moveMuting_23 : decode cX2_moveMuting 23 = .ok (.iconst 1, 1) := by decide +kernel
theorem dX2_moveMuting_24 : decode cX2_moveMuting 24 = .ok (.if_icmp .ne 7, 3) := by decide +kernel
theorem dX2_moveMuting_27 : decode cX2_moveMuting 27 = .ok (.iconst 1, 1) := by decide +kernel
theorem dX2_moveMuting_28 : decode cX2_moveMuting 28 = .ok (.goto 4, 3) := by decide +kernel
theorem dX2_moveMuting_31 : decode cX2_moveMuting 31 = .ok (.iconst 0, 1) := by decide +kernel
theorem dX2_moveMuting_32 : decode cX2_moveMuting 32 = .ok (.invokevirtual 127, 3) := by decide +kernel
theorem dX2_moveMuting_35 : decode cX2_moveMuting 35 = .ok (.putfield 21, 3) := by decide +kernel
theorem dX2_moveMuting_38 : decode cX2_moveMuting 38 = .ok (.aload_n 0, 1) := by decide +kernel
theorem dX2_moveMuting_39 : decode cX2_moveMuting 39 = .ok (.aload_n 0, 1) := by decide +kernel
theorem dX2_moveMuting_40 : decode cX2_moveMuting 40 = .ok (.invokevirtual 108, 3) := by decide +kernel
theorem dX2_moveMuting_43 : decode cX2_moveMuting 43 = .ok (.ifCond .eq 12, 3) := by decide +kernel
theorem dX2_moveMuting_46 : decode cX2_moveMuting 46 = .ok (.aload_n 0, 1) := by decide +kernel
theorem dX2_moveMuting_47 : decode cX2_moveMuting 47 = .ok (.getfield 24, 3) := by decide +kernel
theorem dX2_moveMuting_50 : decode cX2_moveMuting 50 = .ok (.iconst 1, 1) := by decide +kernel
theorem dX2_moveMuting_51 : decode cX2_moveMuting 51 = .ok (.iadd, 1) := by decide +kernel
theorem dX2_moveMuting_52 : decode cX2_moveMuting 52 = .ok (.goto 4, 3) := by decide +kernel
theorem dX2_moveMuting_55 : decode cX2_moveMuting 55 = .ok (.iconst 0, 1) := by decide +kernel
theorem dX2_moveMuting_56 : decode cX2_moveMuting 56 = .ok (.putfield 24, 3) := by decide +kernel
theorem dX2_moveMuting_59 : decode cX2_moveMuting 59 = .ok (.aload_n 0, 1) := by decide +kernel
theorem dX2_moveMuting_60 : decode cX2_moveMuting 60 = .ok (.getfield 24, 3) := by decide +kernel
theorem dX2_moveMuting_63 : decode cX2_moveMuting 63 = .ok (.aload_n 0, 1) := by decide +kernel
theorem dX2_moveMuting_64 : decode cX2_moveMuting 64 = .ok (.getfield 60, 3) := by decide +kernel
theorem dX2_moveMuting_67 : decode cX2_moveMuting 67 = .ok (.getfield 131, 3) := by decide +kernel
theorem dX2_moveMuting_70 : decode cX2_moveMuting 70 = .ok (.if_icmp .le 13, 3) := by decide +kernel
theorem dX2_moveMuting_73 : decode cX2_moveMuting 73 = .ok (.aload_n 0, 1) := by decide +kernel
theorem dX2_moveMuting_74 : decode cX2_moveMuting 74 = .ok (.iconst 4, 1) := by decide +kernel
theorem dX2_moveMuting_75 : decode cX2_moveMuting 75 = .ok (.putfield 21, 3) := by decide +kernel
theorem dX2_moveMuting_78 : decode cX2_moveMuting 78 = .ok (.aload_n 0, 1) := by decide +kernel
theorem dX2_moveMuting_79 : decode cX2_moveMuting 79 = .ok (.iconst 0, 1) := by decide +kernel
theorem dX2_moveMuting_80 : decode cX2_moveMuting 80 = .ok (.putfield 24, 3) := by decide +kernel
theorem dX2_moveMuting_83 : decode cX2_moveMuting 83 = .ok (.return_, 1) := by decide +kernel
set_option maxRecDepth 20000 in
theorem ggX2_mutingThen_X2_isMuted : GoodIn wsX2_mutingThen wsX2_isMuted := goodIn_r _ [6, 1, 7, 8, 9, 10, 11, 12, 13, 14, 15, 16, 17, 18, 19, 20, 21, 22, 23, 24] (by decide +kernel) (by decide +kernel)
set_option maxRecDepth 20000 in
theorem gX2_mutingThen_X2_isMuted : GoodIn wsX2_mutingThen (wsV RX2 108 RX2 yX2_isMuted wsX2_isMuted) := goodIn_app (goodIn_of _ (by decide +kernel)) ggX2_mutingThen_X2_isMuted
theorem dX2_mutingThen_0 : decode cX2_mutingThen 0 = .ok (.iload_n 1, 1) := by decide +kernel
theorem dX2_mutingThen_1 : decode cX2_mutingThen 1 = .ok (.ifCond .eq 28, 3) := by decide +kernel
theorem dX2_mutingThen_4 : decode cX2_mutingThen 4 = .ok (.iload_n 2, 1) := by decide +kernel
theorem dX2_mutingThen_5 : decode cX2_mutingThen 5 = .ok (.ifCond .eq 24, 3) := by decide +kernel
theorem dX2_mutingThen_8 : decode cX2_mutingThen 8 = .ok (.aload_n 0, 1) := by decide +kernel
theorem dX2_mutingThen_9 : decode cX2_mutingThen 9 = .ok (.getfield 21, 3) := by decide +kernel
theorem dX2_mutingThen_12 : decode cX2_mutingThen 12 = .ok (.ifCond .eq 11, 3) := by decide +kernel
theorem dX2_mutingThen_15 : decode cX2_mutingThen 15 = .ok (.aload_n 0, 1) := by decide +kernel
theorem dX2_mutingThen_16 : decode cX2_mutingThen 16 = .ok (.getfield 21, 3) := by decide +kernel
theorem dX2_mutingThen_19 : decode cX2_mutingThen 19 = .ok (.iconst 4, 1) := by decide +kernel
theorem dX2_mutingThen_20 : decode cX2_mutingThen 20 = .ok (.if_icmp .ne 7, 3) := by decide +kernel
theorem dX2_mutingThen_23 : decode cX2_mutingThen 23 = .ok (.iconst 4, 1) := by decide +kernel
theorem dX2_mutingThen_24 : decode cX2_mutingThen 24 = .ok (.goto 4, 3) := by decide +kernel
theorem dX2_mutingThen_27 : decode cX2_mutingThen 27 = .ok (.iconst 2, 1) := by decide +kernel
theorem dX2_mutingThen_28 : decode cX2_mutingThen 28 = .ok (.ireturn, 1) := by decide +kernel
theorem dX2_mutingThen_29 : decode cX2_mutingThen 29 = .ok (.iload_n 1, 1) := by decide +kernel
theorem dX2_mutingThen_30 : decode cX2_mutingThen 30 = .ok (.ifCond .eq 25, 3) := by decide +kernel
theorem dX2_mutingThen_33 : decode cX2_mutingThen 33 = .ok (.aload_n 0, 1) := by decide +kernel
theorem dX2_mutingThen_34 : decode cX2_mutingThen 34 = .ok (.getfield 21, 3) := by decide +kernel
theorem dX2_mutingThen_37 : decode cX2_mutingThen 37 = .ok (.iconst 3, 1) := by decide +kernel
theorem dX2_mutingThen_38 : decode cX2_mutingThen 38 = .ok (.if_icmp .eq 11, 3) := by decide +kernel
theorem dX2_mutingThen_41 : decode cX2_mutingThen 41 = .ok (.aload_n 0, 1) := by decide +kernel
theorem dX2_mutingThen_42 : decode cX2_mutingThen 42 = .ok (.getfield 21, 3) := by decide +kernel
theorem dX2_mutingThen_45 : decode cX2_mutingThen 45 = .ok (.iconst 4, 1) := by decide +kernel
theorem dX2_mutingThen_46 : decode cX2_mutingThen 46 = .ok (.if_icmp .ne 7, 3) := by decide +kernel
theorem dX2_mutingThen_49 : decode cX2_mutingThen 49 = .ok (.iconst 4, 1) := by decide +kernel
theorem dX2_mutingThen_50 : decode cX2_mutingThen 50 = .ok (.goto 4, 3) := by decide +kernel
theorem dX2_mutingThen_53 : decode cX2_mutingThen 53 = .ok (.iconst 1, 1) := by decide +kernel
theorem dX2_mutingThen_54 : decode cX2_mutingThen 54 = .ok (.ireturn, 1) := by decide +kernel
theorem dX2_mutingThen_55 : decode cX2_mutingThen 55 = .ok (.iload_n 2, 1) := by decide +kernel
theorem dX2_mutingThen_56 : decode cX2_mutingThen 56 = .ok (.ifCond .eq 16, 3) := by decide +kernel
theorem dX2_mutingThen_59 : decode cX2_mutingThen 59 = .ok (.aload_n 0, 1) := by decide +kernel
theorem dX2_mutingThen_60 : decode cX2_mutingThen 60 = .ok (.invokevirtual 108, 3) := by decide +kernel
theorem dX2_mutingThen_63 : decode cX2_mutingThen 63 = .ok (.ifCond .eq 7, 3) := by decide +kernel
theorem dX2_mutingThen_66 : decode cX2_mutingThen 66 = .ok (.iconst 3, 1) := by decide +kernel
theorem dX2_mutingThen_67 : decode cX2_mutingThen 67 = .ok (.goto 4, 3) := by decide +kernel
theorem dX2_mutingThen_70 : decode cX2_mutingThen 70 = .ok (.iconst 4, 1) := by decide +kernel
theorem dX2_mutingThen_71 : decode cX2_mutingThen 71 = .ok (.ireturn, 1) := by decide +kernel
theorem dX2_mutingThen_72 : decode cX2_mutingThen 72 = .ok (.aload_n 0, 1) := by decide +kernel
theorem dX2_mutingThen_73 : decode cX2_mutingThen 73 = .ok (.getfield 21, 3) := by decide +kernel
theorem dX2_mutingThen_76 : decode cX2_mutingThen 76 = .ok (.iconst 2, 1) := by decide +kernel
theorem dX2_mutingThen_77 : decode cX2_mutingThen 77 = .ok (.if_icmp .ne 7, 3) := by decide +kernel
theorem dX2_mutingThen_80 : decode cX2_mutingThen 80 = .ok (.iconst 4, 1) := by decide +kernel
theorem dX2_mutingThen_81 : decode cX2_mutingThen 81 = .ok (.goto 4, 3) := by decide +kernel
theorem dX2_mutingThen_84 : decode cX2_mutingThen 84 = .ok (.iconst 0, 1) := by decide +kernel
theorem dX2_mutingThen_85 : decode cX2_mutingThen 85 = .ok (.ireturn, 1) := by decide +kernel
set_option maxRecDepth 20000 in
theorem ggX2_moveHands_X8_pairCount : GoodIn wsX2_moveHands wsX8_pairCount := goodIn_r _ [5, 6, 7, 4, 8] (by decide +kernel) (by decide +kernel)
set_option maxRecDepth 20000 in
theorem gX2_moveHands_X8_pairCount_n104 : GoodIn wsX2_moveHands (wsX8_pairCount) := ggX2_moveHands_X8_pairCount
set_option maxRecDepth 20000 in
theorem ggX2_moveHands_X2_handsThen : GoodIn wsX2_moveHands wsX2_handsThen := goodIn_r _ [13, 1, 14, 15, 16, 17, 18, 19, 20, 21, 22, 23, 24, 25, 26, 27, 28, 29, 30, 31, 32, 33, 34, 35, 36, 37, 38] (by decide +kernel) (by decide +kernel)
set_option maxRecDepth 20000 in
theorem gX2_moveHands_X2_handsThen : GoodIn wsX2_moveHands (wsV RX2 136 RX2 yX2_handsThen wsX2_handsThen) := goodIn_app (goodIn_of _ (by decide +kernel)) ggX2_moveHands_X2_handsThen
theorem dX2_moveHands_0 : decode cX2_moveHands 0 = .ok (.iload_n 1, 1) := by decide +kernel
theorem dX2_moveHands_1 : decode cX2_moveHands 1 = .ok (.iconst 0, 1) := by decide +kernel
theorem dX2_moveHands_2 : decode cX2_moveHands 2 = .ok (.invokestatic 104, 3) := by decide +kernel
theorem dX2_moveHands_5 : decode cX2_moveHands 5 = .ok (.iconst 2, 1) := by decide +kernel
theorem dX2_moveHands_6 : decode cX2_moveHands 6 = .ok (.idiv, 1) := by decide +kernel
theorem dX2_moveHands_7 : decode cX2_moveHands 7 = .ok (.iload_n 1, 1) := by decide +kernel
theorem dX2_moveHands_8 : decode cX2_moveHands 8 = .ok (.iconst 2, 1) := by decide +kernel
theorem dX2_moveHands_9 : decode cX2_moveHands 9 = .ok (.invokestatic 104, 3) := by decide +kernel
theorem dX2_moveHands_12 : decode cX2_moveHands 12 = .ok (.iconst 2, 1) := by decide +kernel
theorem dX2_moveHands_13 : decode cX2_moveHands 13 = .ok (.idiv, 1) := by decide +kernel
theorem dX2_moveHands_14 : decode cX2_moveHands 14 = .ok (.iadd, 1) := by decide +kernel
theorem dX2_moveHands_15 : decode cX2_moveHands 15 = .ok (.istore_n 2, 1) := by decide +kernel
theorem dX2_moveHands_16 : decode cX2_moveHands 16 = .ok (.aload_n 0, 1) := by decide +kernel
theorem dX2_moveHands_17 : decode cX2_moveHands 17 = .ok (.getfield 15, 3) := by decide +kernel
theorem dX2_moveHands_20 : decode cX2_moveHands 20 = .ok (.iconst 1, 1) := by decide +kernel
theorem dX2_moveHands_21 : decode cX2_moveHands 21 = .ok (.if_icmp .ne 12, 3) := by decide +kernel
theorem dX2_moveHands_24 : decode cX2_moveHands 24 = .ok (.aload_n 0, 1) := by decide +kernel
theorem dX2_moveHands_25 : decode cX2_moveHands 25 = .ok (.getfield 18, 3) := by decide +kernel
theorem dX2_moveHands_28 : decode cX2_moveHands 28 = .ok (.iconst 1, 1) := by decide +kernel
theorem dX2_moveHands_29 : decode cX2_moveHands 29 = .ok (.iadd, 1) := by decide +kernel
theorem dX2_moveHands_30 : decode cX2_moveHands 30 = .ok (.goto 4, 3) := by decide +kernel
theorem dX2_moveHands_33 : decode cX2_moveHands 33 = .ok (.iconst 1, 1) := by decide +kernel
theorem dX2_moveHands_34 : decode cX2_moveHands 34 = .ok (.istore_n 3, 1) := by decide +kernel
theorem dX2_moveHands_35 : decode cX2_moveHands 35 = .ok (.aload_n 0, 1) := by decide +kernel
theorem dX2_moveHands_36 : decode cX2_moveHands 36 = .ok (.aload_n 0, 1) := by decide +kernel
theorem dX2_moveHands_37 : decode cX2_moveHands 37 = .ok (.iload_n 2, 1) := by decide +kernel
theorem dX2_moveHands_38 : decode cX2_moveHands 38 = .ok (.iload_n 3, 1) := by decide +kernel
theorem dX2_moveHands_39 : decode cX2_moveHands 39 = .ok (.invokevirtual 136, 3) := by decide +kernel
theorem dX2_moveHands_42 : decode cX2_moveHands 42 = .ok (.putfield 15, 3) := by decide +kernel
theorem dX2_moveHands_45 : decode cX2_moveHands 45 = .ok (.aload_n 0, 1) := by decide +kernel
theorem dX2_moveHands_46 : decode cX2_moveHands 46 = .ok (.aload_n 0, 1) := by decide +kernel
theorem dX2_moveHands_47 : decode cX2_moveHands 47 = .ok (.getfield 15, 3) := by decide +kernel
theorem dX2_moveHands_50 : decode cX2_moveHands 50 = .ok (.iconst 1, 1) := by decide +kernel
theorem dX2_moveHands_51 : decode cX2_moveHands 51 = .ok (.if_icmp .ne 7, 3) := by decide +kernel
theorem dX2_moveHands_54 : decode cX2_moveHands 54 = .ok (.iload_n 3, 1) := by decide +kernel
theorem dX2_moveHands_55 : decode cX2_moveHands 55 = .ok (.goto 4, 3) := by decide +kernel
theorem dX2_moveHands_58 : decode cX2_moveHands 58 = .ok (.iconst 0, 1) := by decide +kernel
theorem dX2_moveHands_59 : decode cX2_moveHands 59 = .ok (.putfield 18, 3) := by decide +kernel
theorem dX2_moveHands_62 : decode cX2_moveHands 62 = .ok (.return_, 1) := by decide +kernel
theorem dX2_handsThen_0 : decode cX2_handsThen 0 = .ok (.iload_n 1, 1) := by decide +kernel
theorem dX2_handsThen_1 : decode cX2_handsThen 1 = .ok (.ifCond .ne 5, 3) := by decide +kernel
theorem dX2_handsThen_4 : decode cX2_handsThen 4 = .ok (.iconst 0, 1) := by decide +kernel
theorem dX2_handsThen_5 : decode cX2_handsThen 5 = .ok (.ireturn, 1) := by decide +kernel
theorem dX2_handsThen_6 : decode cX2_handsThen 6 = .ok (.aload_n 0, 1) := by decide +kernel
theorem dX2_handsThen_7 : decode cX2_handsThen 7 = .ok (.getfield 15, 3) := by decide +kernel
theorem dX2_handsThen_10 : decode cX2_handsThen 10 = .ok (.iconst 3, 1) := by decide +kernel
theorem dX2_handsThen_11 : decode cX2_handsThen 11 = .ok (.if_icmp .ne 5, 3) := by decide +kernel
theorem dX2_handsThen_14 : decode cX2_handsThen 14 = .ok (.iconst 3, 1) := by decide +kernel
theorem dX2_handsThen_15 : decode cX2_handsThen 15 = .ok (.ireturn, 1) := by decide +kernel
theorem dX2_handsThen_16 : decode cX2_handsThen 16 = .ok (.iload_n 1, 1) := by decide +kernel
theorem dX2_handsThen_17 : decode cX2_handsThen 17 = .ok (.iconst 2, 1) := by decide +kernel
theorem dX2_handsThen_18 : decode cX2_handsThen 18 = .ok (.if_icmp .ne 5, 3) := by decide +kernel
theorem dX2_handsThen_21 : decode cX2_handsThen 21 = .ok (.iconst 2, 1) := by decide +kernel
theorem dX2_handsThen_22 : decode cX2_handsThen 22 = .ok (.ireturn, 1) := by decide +kernel
theorem dX2_handsThen_23 : decode cX2_handsThen 23 = .ok (.aload_n 0, 1) := by decide +kernel
theorem dX2_handsThen_24 : decode cX2_handsThen 24 = .ok (.getfield 15, 3) := by decide +kernel
theorem dX2_handsThen_27 : decode cX2_handsThen 27 = .ok (.iconst 2, 1) := by decide +kernel
theorem dX2_handsThen_28 : decode cX2_handsThen 28 = .ok (.if_icmp .eq 14, 3) := by decide +kernel
theorem dX2_handsThen_31 : decode cX2_handsThen 31 = .ok (.iload_n 2, 1) := by decide +kernel
theorem dX2_handsThen_32 : decode cX2_handsThen 32 = .ok (.aload_n 0, 1) := by decide +kernel
theorem dX2_handsThen_33 : decode cX2_handsThen 33 = .ok (.getfield 60, 3) := by decide +kernel
theorem dX2_handsThen_36 : decode cX2_handsThen 36 = .ok (.getfield 139, 3) := by decide +kernel
theorem dX2_handsThen_39 : decode cX2_handsThen 39 = .ok (.if_icmp .le 7, 3) := by decide +kernel
theorem dX2_handsThen_42 : decode cX2_handsThen 42 = .ok (.iconst 3, 1) := by decide +kernel
theorem dX2_handsThen_43 : decode cX2_handsThen 43 = .ok (.goto 4, 3) := by decide +kernel
theorem dX2_handsThen_46 : decode cX2_handsThen 46 = .ok (.iconst 1, 1) := by decide +kernel
theorem dX2_handsThen_47 : decode cX2_handsThen 47 = .ok (.ireturn, 1) := by decide +kernel
