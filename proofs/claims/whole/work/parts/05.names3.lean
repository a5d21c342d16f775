theorem dX8_anew_0 : decode cX8_anew 0 = .ok (.iload_n 1, 1) := by decide +kernel
theorem dX8_anew_1 : decode cX8_anew 1 = .ok (.iconst 0, 1) := by decide +kernel
theorem dX8_anew_2 : decode cX8_anew 2 = .ok (.iconst 5, 1) := by decide +kernel
theorem dX8_anew_3 : decode cX8_anew 3 = .ok (.invokestatic 76, 3) := by decide +kernel
theorem dX8_anew_6 : decode cX8_anew 6 = .ok (.ifCond .eq 48, 3) := by decide +kernel
theorem dX8_anew_9 : decode cX8_anew 9 = .ok (.iload_n 2, 1) := by decide +kernel
theorem dX8_anew_10 : decode cX8_anew 10 = .ok (.iconst 1, 1) := by decide +kernel
theorem dX8_anew_11 : decode cX8_anew 11 = .ok (.bipush 9, 2) := by decide +kernel
theorem dX8_anew_13 : decode cX8_anew 13 = .ok (.invokestatic 76, 3) := by decide +kernel
theorem dX8_anew_16 : decode cX8_anew 16 = .ok (.ifCond .eq 38, 3) := by decide +kernel
theorem dX8_anew_19 : decode cX8_anew 19 = .ok (.iload_n 3, 1) := by decide +kernel
theorem dX8_anew_20 : decode cX8_anew 20 = .ok (.iconst 1, 1) := by decide +kernel
theorem dX8_anew_21 : decode cX8_anew 21 = .ok (.bipush 30, 2) := by decide +kernel
theorem dX8_anew_23 : decode cX8_anew 23 = .ok (.invokestatic 76, 3) := by decide +kernel
theorem dX8_anew_26 : decode cX8_anew 26 = .ok (.ifCond .eq 28, 3) := by decide +kernel
theorem dX8_anew_29 : decode cX8_anew 29 = .ok (.iload 4, 2) := by decide +kernel
theorem dX8_anew_31 : decode cX8_anew 31 = .ok (.iconst 0, 1) := by decide +kernel
theorem dX8_anew_32 : decode cX8_anew 32 = .ok (.iconst 3, 1) := by decide +kernel
theorem dX8_anew_33 : decode cX8_anew 33 = .ok (.invokestatic 76, 3) := by decide +kernel
theorem dX8_anew_36 : decode cX8_anew 36 = .ok (.ifCond .eq 18, 3) := by decide +kernel
theorem dX8_anew_39 : decode cX8_anew 39 = .ok (.iload 5, 2) := by decide +kernel
theorem dX8_anew_41 : decode cX8_anew 41 = .ok (.iconst 2, 1) := by decide +kernel
theorem dX8_anew_42 : decode cX8_anew 42 = .ok (.bipush 9, 2) := by decide +kernel
theorem dX8_anew_44 : decode cX8_anew 44 = .ok (.invokestatic 76, 3) := by decide +kernel
theorem dX8_anew_47 : decode cX8_anew 47 = .ok (.ifCond .eq 7, 3) := by decide +kernel
theorem dX8_anew_50 : decode cX8_anew 50 = .ok (.iconst 1, 1) := by decide +kernel
theorem dX8_anew_51 : decode cX8_anew 51 = .ok (.goto 4, 3) := by decide +kernel
theorem dX8_anew_54 : decode cX8_anew 54 = .ok (.iconst 0, 1) := by decide +kernel
theorem dX8_anew_55 : decode cX8_anew 55 = .ok (.istore 6, 2) := by decide +kernel
theorem dX8_anew_57 : decode cX8_anew 57 = .ok (.iload 6, 2) := by decide +kernel
theorem dX8_anew_59 : decode cX8_anew 59 = .ok (.ifCond .ne 6, 3) := by decide +kernel
theorem dX8_anew_62 : decode cX8_anew 62 = .ok (.bipush (-2), 2) := by decide +kernel
theorem dX8_anew_64 : decode cX8_anew 64 = .ok (.ireturn, 1) := by decide +kernel
theorem dX8_anew_65 : decode cX8_anew 65 = .ok (.aload_n 0, 1) := by decide +kernel
theorem dX8_anew_66 : decode cX8_anew 66 = .ok (.getfield 10, 3) := by decide +kernel
theorem dX8_anew_69 : decode cX8_anew 69 = .ok (.iload_n 1, 1) := by decide +kernel
theorem dX8_anew_70 : decode cX8_anew 70 = .ok (.iload_n 2, 1) := by decide +kernel
theorem dX8_anew_71 : decode cX8_anew 71 = .ok (.iload_n 3, 1) := by decide +kernel
theorem dX8_anew_72 : decode cX8_anew 72 = .ok (.iload 4, 2) := by decide +kernel
theorem dX8_anew_74 : decode cX8_anew 74 = .ok (.iload 5, 2) := by decide +kernel
theorem dX8_anew_76 : decode cX8_anew 76 = .ok (.invokevirtual 80, 3) := by decide +kernel
theorem dX8_anew_79 : decode cX8_anew 79 = .ok (.aload_n 0, 1) := by decide +kernel
theorem dX8_anew_80 : decode cX8_anew 80 = .ok (.getfield 19, 3) := by decide +kernel
theorem dX8_anew_83 : decode cX8_anew 83 = .ok (.invokevirtual 84, 3) := by decide +kernel
theorem dX8_anew_86 : decode cX8_anew 86 = .ok (.aload_n 0, 1) := by decide +kernel
theorem dX8_anew_87 : decode cX8_anew 87 = .ok (.getfield 28, 3) := by decide +kernel
theorem dX8_anew_90 : decode cX8_anew 90 = .ok (.invokevirtual 87, 3) := by decide +kernel
theorem dX8_anew_93 : decode cX8_anew 93 = .ok (.aload_n 0, 1) := by decide +kernel
theorem dX8_anew_94 : decode cX8_anew 94 = .ok (.getfield 38, 3) := by decide +kernel
theorem dX8_anew_97 : decode cX8_anew 97 = .ok (.invokevirtual 90, 3) := by decide +kernel
theorem dX8_anew_100 : decode cX8_anew 100 = .ok (.aload_n 0, 1) := by decide +kernel
theorem dX8_anew_101 : decode cX8_anew 101 = .ok (.iconst 0, 1) := by decide +kernel
theorem dX8_anew_102 : decode cX8_anew 102 = .ok (.putfield 72, 3) := by decide +kernel
theorem dX8_anew_105 : decode cX8_anew 105 = .ok (.iconst 1, 1) := by decide +kernel
theorem dX8_anew_106 : decode cX8_anew 106 = .ok (.ireturn, 1) := by decide +kernel
set_option maxRecDepth 20000 in
theorem ggX8_stick_X8_within : GoodIn wsX8_stick wsX8_within := goodIn_r _ [5] (by decide +kernel) (by decide +kernel)
set_option maxRecDepth 20000 in
theorem gX8_stick_X8_within : GoodIn wsX8_stick (va_wsS RX8 76 yX8_within wsX8_within) := goodIn_app (goodIn_of _ (by decide +kernel)) ggX8_stick_X8_within
set_option maxRecDepth 20000 in
theorem ggX8_stick_X0_inputStuckAt : GoodIn wsX8_stick wsX0_inputStuckAt := goodIn_r _ [10, 11, 12, 13, 4, 14, 29, 30, 31, 32] (by decide +kernel) (by decide +kernel)
set_option maxRecDepth 20000 in
theorem gX8_stick_X0_inputStuckAt : GoodIn wsX8_stick (wsV RX8 91 RX0 yX0_inputStuckAt wsX0_inputStuckAt) := goodIn_app (goodIn_of _ (by decide +kernel)) ggX8_stick_X0_inputStuckAt
set_option maxRecDepth 20000 in
theorem ggX8_stick_X0_setInput : GoodIn wsX8_stick wsX0_setInput := goodIn_r _ [18, 12, 11, 29, 30, 31, 32] (by decide +kernel) (by decide +kernel)
set_option maxRecDepth 20000 in
theorem gX8_stick_X0_setInput : GoodIn wsX8_stick (wsV RX8 95 RX0 yX0_setInput wsX0_setInput) := goodIn_app (goodIn_of _ (by decide +kernel)) ggX8_stick_X0_setInput
theorem dX8_stick_0 : decode cX8_stick 0 = .ok (.iload_n 1, 1) := by decide +kernel
theorem dX8_stick_1 : decode cX8_stick 1 = .ok (.iconst 0, 1) := by decide +kernel
theorem dX8_stick_2 : decode cX8_stick 2 = .ok (.bipush 8, 2) := by decide +kernel
theorem dX8_stick_4 : decode cX8_stick 4 = .ok (.invokestatic 76, 3) := by decide +kernel
theorem dX8_stick_7 : decode cX8_stick 7 = .ok (.ifCond .ne 5, 3) := by decide +kernel
theorem dX8_stick_10 : decode cX8_stick 10 = .ok (.iconst (-1), 1) := by decide +kernel
theorem dX8_stick_11 : decode cX8_stick 11 = .ok (.ireturn, 1) := by decide +kernel
theorem dX8_stick_12 : decode cX8_stick 12 = .ok (.iload_n 2, 1) := by decide +kernel
theorem dX8_stick_13 : decode cX8_stick 13 = .ok (.iconst 0, 1) := by decide +kernel
theorem dX8_stick_14 : decode cX8_stick 14 = .ok (.iconst 2, 1) := by decide +kernel
theorem dX8_stick_15 : decode cX8_stick 15 = .ok (.invokestatic 76, 3) := by decide +kernel
theorem dX8_stick_18 : decode cX8_stick 18 = .ok (.ifCond .ne 6, 3) := by decide +kernel
theorem dX8_stick_21 : decode cX8_stick 21 = .ok (.bipush (-2), 2) := by decide +kernel
theorem dX8_stick_23 : decode cX8_stick 23 = .ok (.ireturn, 1) := by decide +kernel
theorem dX8_stick_24 : decode cX8_stick 24 = .ok (.aload_n 0, 1) := by decide +kernel
theorem dX8_stick_25 : decode cX8_stick 25 = .ok (.getfield 19, 3) := by decide +kernel
theorem dX8_stick_28 : decode cX8_stick 28 = .ok (.iload_n 1, 1) := by decide +kernel
theorem dX8_stick_29 : decode cX8_stick 29 = .ok (.invokevirtual 91, 3) := by decide +kernel
theorem dX8_stick_32 : decode cX8_stick 32 = .ok (.istore_n 3, 1) := by decide +kernel
theorem dX8_stick_33 : decode cX8_stick 33 = .ok (.aload_n 0, 1) := by decide +kernel
theorem dX8_stick_34 : decode cX8_stick 34 = .ok (.getfield 19, 3) := by decide +kernel
theorem dX8_stick_37 : decode cX8_stick 37 = .ok (.iload_n 1, 1) := by decide +kernel
theorem dX8_stick_38 : decode cX8_stick 38 = .ok (.iload_n 2, 1) := by decide +kernel
theorem dX8_stick_39 : decode cX8_stick 39 = .ok (.invokevirtual 95, 3) := by decide +kernel
theorem dX8_stick_42 : decode cX8_stick 42 = .ok (.iload_n 3, 1) := by decide +kernel
theorem dX8_stick_43 : decode cX8_stick 43 = .ok (.ireturn, 1) := by decide +kernel
set_option maxRecDepth 20000 in
theorem ggX8_valve_X8_within : GoodIn wsX8_valve wsX8_within := goodIn_r _ [5] (by decide +kernel) (by decide +kernel)
set_option maxRecDepth 20000 in
theorem gX8_valve_X8_within : GoodIn wsX8_valve (va_wsS RX8 76 yX8_within wsX8_within) := goodIn_app (goodIn_of _ (by decide +kernel)) ggX8_valve_X8_within
set_option maxRecDepth 20000 in
theorem ggX8_valve_X0_valveStuckAt : GoodIn wsX8_valve wsX0_valveStuckAt := goodIn_r _ [10, 11, 12, 27, 28, 29, 30] (by decide +kernel) (by decide +kernel)
set_option maxRecDepth 20000 in
theorem gX8_valve_X0_valveStuckAt : GoodIn wsX8_valve (wsV RX8 99 RX0 yX0_valveStuckAt wsX0_valveStuckAt) := goodIn_app (goodIn_of _ (by decide +kernel)) ggX8_valve_X0_valveStuckAt
set_option maxRecDepth 20000 in
theorem ggX8_valve_X0_setValve : GoodIn wsX8_valve wsX0_setValve := goodIn_r _ [16, 11, 12, 27, 28, 29, 30] (by decide +kernel) (by decide +kernel)
set_option maxRecDepth 20000 in
theorem gX8_valve_X0_setValve : GoodIn wsX8_valve (wsV RX8 102 RX0 yX0_setValve wsX0_setValve) := goodIn_app (goodIn_of _ (by decide +kernel)) ggX8_valve_X0_setValve
theorem dX8_valve_0 : decode cX8_valve 0 = .ok (.iload_n 1, 1) := by decide +kernel
theorem dX8_valve_1 : decode cX8_valve 1 = .ok (.iconst 0, 1) := by decide +kernel
theorem dX8_valve_2 : decode cX8_valve 2 = .ok (.iconst 1, 1) := by decide +kernel
theorem dX8_valve_3 : decode cX8_valve 3 = .ok (.invokestatic 76, 3) := by decide +kernel
theorem dX8_valve_6 : decode cX8_valve 6 = .ok (.ifCond .ne 5, 3) := by decide +kernel
theorem dX8_valve_9 : decode cX8_valve 9 = .ok (.iconst (-1), 1) := by decide +kernel
theorem dX8_valve_10 : decode cX8_valve 10 = .ok (.ireturn, 1) := by decide +kernel
theorem dX8_valve_11 : decode cX8_valve 11 = .ok (.iload_n 2, 1) := by decide +kernel
theorem dX8_valve_12 : decode cX8_valve 12 = .ok (.iconst 0, 1) := by decide +kernel
theorem dX8_valve_13 : decode cX8_valve 13 = .ok (.iconst 2, 1) := by decide +kernel
theorem dX8_valve_14 : decode cX8_valve 14 = .ok (.invokestatic 76, 3) := by decide +kernel
theorem dX8_valve_17 : decode cX8_valve 17 = .ok (.ifCond .ne 6, 3) := by decide +kernel
theorem dX8_valve_20 : decode cX8_valve 20 = .ok (.bipush (-2), 2) := by decide +kernel
theorem dX8_valve_22 : decode cX8_valve 22 = .ok (.ireturn, 1) := by decide +kernel
theorem dX8_valve_23 : decode cX8_valve 23 = .ok (.aload_n 0, 1) := by decide +kernel
theorem dX8_valve_24 : decode cX8_valve 24 = .ok (.getfield 19, 3) := by decide +kernel
theorem dX8_valve_27 : decode cX8_valve 27 = .ok (.iload_n 1, 1) := by decide +kernel
theorem dX8_valve_28 : decode cX8_valve 28 = .ok (.invokevirtual 99, 3) := by decide +kernel
theorem dX8_valve_31 : decode cX8_valve 31 = .ok (.istore_n 3, 1) := by decide +kernel
theorem dX8_valve_32 : decode cX8_valve 32 = .ok (.aload_n 0, 1) := by decide +kernel
theorem dX8_valve_33 : decode cX8_valve 33 = .ok (.getfield 19, 3) := by decide +kernel
theorem dX8_valve_36 : decode cX8_valve 36 = .ok (.iload_n 1, 1) := by decide +kernel
theorem dX8_valve_37 : decode cX8_valve 37 = .ok (.iload_n 2, 1) := by decide +kernel
theorem dX8_valve_38 : decode cX8_valve 38 = .ok (.invokevirtual 102, 3) := by decide +kernel
theorem dX8_valve_41 : decode cX8_valve 41 = .ok (.iload_n 3, 1) := by decide +kernel
theorem dX8_valve_42 : decode cX8_valve 42 = .ok (.ireturn, 1) := by decide +kernel
set_option maxRecDepth 20000 in
theorem ggX8_tick_X8_isSet : GoodIn wsX8_tick wsX8_isSet := goodIn_r _ [6, 7, 8, 5, 9] (by decide +kernel) (by decide +kernel)
set_option maxRecDepth 20000 in
theorem gX8_tick_X8_isSet : GoodIn wsX8_tick (va_wsS RX8 105 yX8_isSet wsX8_isSet) := goodIn_app (goodIn_of _ (by decide +kernel)) ggX8_tick_X8_isSet
set_option maxRecDepth 20000 in
theorem ggX8_tick_X8_advanceNoted : GoodIn wsX8_tick wsX8_advanceNoted := goodIn_r _ [13, 1, 2, 14, 15, 16, 17, 18, 19, 20, 21, 22, 23, 24, 25, 26, 27, 28, 29, 30, 31, 32, 33, 34, 35, 36, 37, 38, 39, 40, 41, 5, 42, 43, 44, 45, 46, 47, 48, 49, 50, 51, 52, 53, 54, 55, 56, 57, 58, 59, 60, 61, 62, 63, 64, 65, 66, 67, 68, 69, 70, 71, 72, 73, 74, 75, 76, 77, 78, 79, 80, 81, 82, 83, 84, 85, 86, 87, 88, 89, 90, 91, 92, 93, 94, 95, 96, 97, 98, 99, 100, 101, 102, 103, 104, 105, 106, 107, 108, 109, 110, 111, 112, 113, 114, 115, 116, 117, 118, 119, 120, 121, 122, 8, 9, 123, 124, 125, 126, 127, 128, 129, 130, 131, 132, 133, 134, 135, 136, 137, 138, 139, 140, 141, 142, 143, 144, 145, 146, 147, 148, 149, 150, 151, 152, 153, 154, 155, 156, 157, 158, 159, 160, 161, 162, 163, 164, 165, 166, 167, 168, 169, 170, 171, 172, 173, 174, 175, 176, 177, 178, 179, 180, 181, 182, 183] (by decide +kernel) (by decide +kernel)
set_option maxRecDepth 20000 in
theorem gX8_tick_X8_advanceNoted : GoodIn wsX8_tick (wsV RX8 109 RX8 yX8_advanceNoted wsX8_advanceNoted) := goodIn_app (goodIn_of _ (by decide +kernel)) ggX8_tick_X8_advanceNoted
theorem dX8_tick_0 : decode cX8_tick 0 = .ok (.iload_n 1, 1) := by decide +kernel
theorem dX8_tick_1 : decode cX8_tick 1 = .ok (.invokestatic 105, 3) := by decide +kernel
theorem dX8_tick_4 : decode cX8_tick 4 = .ok (.ifCond .ne 6, 3) := by decide +kernel
theorem dX8_tick_7 : decode cX8_tick 7 = .ok (.bipush (-2), 2) := by decide +kernel
theorem dX8_tick_9 : decode cX8_tick 9 = .ok (.ireturn, 1) := by decide +kernel
theorem dX8_tick_10 : decode cX8_tick 10 = .ok (.aload_n 0, 1) := by decide +kernel
theorem dX8_tick_11 : decode cX8_tick 11 = .ok (.iload_n 1, 1) := by decide +kernel
theorem dX8_tick_12 : decode cX8_tick 12 = .ok (.invokevirtual 109, 3) := by decide +kernel
theorem dX8_tick_15 : decode cX8_tick 15 = .ok (.aload_n 0, 1) := by decide +kernel
theorem dX8_tick_16 : decode cX8_tick 16 = .ok (.getfield 28, 3) := by decide +kernel
theorem dX8_tick_19 : decode cX8_tick 19 = .ok (.getfield 113, 3) := by decide +kernel
theorem dX8_tick_22 : decode cX8_tick 22 = .ok (.ireturn, 1) := by decide +kernel
set_option maxRecDepth 20000 in
theorem ggX8_ticks_X8_isSet : GoodIn wsX8_ticks wsX8_isSet := goodIn_r _ [6, 7, 8, 5, 9] (by decide +kernel) (by decide +kernel)
set_option maxRecDepth 20000 in
theorem gX8_ticks_X8_isSet : GoodIn wsX8_ticks (va_wsS RX8 105 yX8_isSet wsX8_isSet) := goodIn_app (goodIn_of _ (by decide +kernel)) ggX8_ticks_X8_isSet
set_option maxRecDepth 20000 in
theorem ggX8_ticks_X8_within : GoodIn wsX8_ticks wsX8_within := goodIn_r _ [9] (by decide +kernel) (by decide +kernel)
set_option maxRecDepth 20000 in
theorem gX8_ticks_X8_within : GoodIn wsX8_ticks (va_wsS RX8 76 yX8_within wsX8_within) := goodIn_app (goodIn_of _ (by decide +kernel)) ggX8_ticks_X8_within
set_option maxRecDepth 20000 in
theorem ggX8_ticks_X8_advanceNoted : GoodIn wsX8_ticks wsX8_advanceNoted := goodIn_r _ [13, 1, 2, 14, 15, 16, 17, 18, 19, 20, 21, 22, 23, 24, 25, 26, 27, 28, 29, 30, 31, 32, 33, 34, 35, 36, 37, 38, 39, 40, 41, 5, 42, 43, 44, 45, 46, 47, 48, 49, 50, 51, 52, 53, 54, 55, 56, 57, 58, 59, 60, 61, 62, 63, 64, 65, 66, 67, 68, 69, 70, 71, 72, 73, 74, 75, 76, 77, 78, 79, 80, 81, 82, 83, 84, 85, 86, 87, 88, 89, 90, 91, 92, 93, 94, 95, 96, 97, 98, 99, 100, 101, 102, 103, 104, 105, 106, 107, 108, 109, 110, 111, 112, 113, 114, 115, 116, 117, 118, 119, 120, 121, 122, 8, 9, 123, 124, 125, 126, 127, 128, 129, 130, 131, 132, 133, 134, 135, 136, 137, 138, 139, 140, 141, 142, 143, 144, 145, 146, 147, 148, 149, 150, 151, 152, 153, 154, 155, 156, 157, 158, 159, 160, 161, 162, 163, 164, 165, 166, 167, 168, 169, 170, 171, 172, 173, 174, 175, 176, 177, 178, 179, 180, 181, 182, 183] (by decide +kernel) (by decide +kernel)
set_option maxRecDepth 20000 in
theorem gX8_ticks_X8_advanceNoted : GoodIn wsX8_ticks (wsV RX8 109 RX8 yX8_advanceNoted wsX8_advanceNoted) := goodIn_app (goodIn_of _ (by decide +kernel)) ggX8_ticks_X8_advanceNoted
theorem dX8_ticks_0 : decode cX8_ticks 0 = .ok (.iload_n 1, 1) := by decide +kernel
theorem dX8_ticks_1 : decode cX8_ticks 1 = .ok (.invokestatic 105, 3) := by decide +kernel
theorem dX8_ticks_4 : decode cX8_ticks 4 = .ok (.ifCond .eq 13, 3) := by decide +kernel
theorem dX8_ticks_7 : decode cX8_ticks 7 = .ok (.iload_n 2, 1) := by decide +kernel
theorem dX8_ticks_8 : decode cX8_ticks 8 = .ok (.iconst 0, 1) := by decide +kernel
theorem dX8_ticks_9 : decode cX8_ticks 9 = .ok (.bipush 60, 2) := by decide +kernel
theorem dX8_ticks_11 : decode cX8_ticks 11 = .ok (.invokestatic 76, 3) := by decide +kernel
theorem dX8_ticks_14 : decode cX8_ticks 14 = .ok (.ifCond .ne 6, 3) := by decide +kernel
theorem dX8_ticks_17 : decode cX8_ticks 17 = .ok (.bipush (-2), 2) := by decide +kernel
theorem dX8_ticks_19 : decode cX8_ticks 19 = .ok (.ireturn, 1) := by decide +kernel
theorem dX8_ticks_20 : decode cX8_ticks 20 = .ok (.iconst 0, 1) := by decide +kernel
theorem dX8_ticks_21 : decode cX8_ticks 21 = .ok (.istore_n 3, 1) := by decide +kernel
theorem dX8_ticks_22 : decode cX8_ticks 22 = .ok (.iload_n 3, 1) := by decide +kernel
theorem dX8_ticks_23 : decode cX8_ticks 23 = .ok (.iload_n 2, 1) := by decide +kernel
theorem dX8_ticks_24 : decode cX8_ticks 24 = .ok (.if_icmp .ge 14, 3) := by decide +kernel
theorem dX8_ticks_27 : decode cX8_ticks 27 = .ok (.aload_n 0, 1) := by decide +kernel
theorem dX8_ticks_28 : decode cX8_ticks 28 = .ok (.iload_n 1, 1) := by decide +kernel
theorem dX8_ticks_29 : decode cX8_ticks 29 = .ok (.invokevirtual 109, 3) := by decide +kernel
theorem dX8_ticks_32 : decode cX8_ticks 32 = .ok (.iinc 3 1, 3) := by decide +kernel
theorem dX8_ticks_35 : decode cX8_ticks 35 = .ok (.goto (-13), 3) := by decide +kernel
theorem dX8_ticks_38 : decode cX8_ticks 38 = .ok (.aload_n 0, 1) := by decide +kernel
theorem dX8_ticks_39 : decode cX8_ticks 39 = .ok (.getfield 28, 3) := by decide +kernel
theorem dX8_ticks_42 : decode cX8_ticks 42 = .ok (.getfield 113, 3) := by decide +kernel
theorem dX8_ticks_45 : decode cX8_ticks 45 = .ok (.ireturn, 1) := by decide +kernel
set_option maxRecDepth 20000 in
theorem ggX8_now_X2_part : GoodIn wsX8_now wsX2_part := goodIn_r _ [6, 7, 8, 9, 10, 11, 12, 13, 14, 15, 16, 17, 18, 19, 20, 31, 32, 33, 34, 35, 36, 37, 38, 39, 40, 41, 42, 43, 44, 45, 46, 47, 48] (by decide +kernel) (by decide +kernel)
set_option maxRecDepth 20000 in
theorem gX8_now_X2_part : GoodIn wsX8_now (wsV RX8 117 RX2 yX2_part wsX2_part) := goodIn_app (goodIn_of _ (by decide +kernel)) ggX8_now_X2_part
theorem dX8_now_0 : decode cX8_now 0 = .ok (.aload_n 0, 1) := by decide +kernel
theorem dX8_now_1 : decode cX8_now 1 = .ok (.getfield 28, 3) := by decide +kernel
theorem dX8_now_4 : decode cX8_now 4 = .ok (.iload_n 1, 1) := by decide +kernel
theorem dX8_now_5 : decode cX8_now 5 = .ok (.invokevirtual 117, 3) := by decide +kernel
theorem dX8_now_8 : decode cX8_now 8 = .ok (.ireturn, 1) := by decide +kernel
set_option maxRecDepth 20000 in
theorem ggX8_setting_X5_part : GoodIn wsX8_setting wsX5_part := goodIn_r _ [6, 7, 8, 9, 10, 11, 22, 23, 24, 25, 26] (by decide +kernel) (by decide +kernel)
set_option maxRecDepth 20000 in
theorem gX8_setting_X5_part : GoodIn wsX8_setting (wsV RX8 120 RX5 yX5_part wsX5_part) := goodIn_app (goodIn_of _ (by decide +kernel)) ggX8_setting_X5_part
theorem dX8_setting_0 : decode cX8_setting 0 = .ok (.aload_n 0, 1) := by decide +kernel
theorem dX8_setting_1 : decode cX8_setting 1 = .ok (.getfield 10, 3) := by decide +kernel
theorem dX8_setting_4 : decode cX8_setting 4 = .ok (.iload_n 1, 1) := by decide +kernel
theorem dX8_setting_5 : decode cX8_setting 5 = .ok (.invokevirtual 120, 3) := by decide +kernel
theorem dX8_setting_8 : decode cX8_setting 8 = .ok (.ireturn, 1) := by decide +kernel
set_option maxRecDepth 20000 in
theorem ggX8_leadsTo_X8_within : GoodIn wsX8_leadsTo wsX8_within := goodIn_r _ [7] (by decide +kernel) (by decide +kernel)
set_option maxRecDepth 20000 in
theorem gX8_leadsTo_X8_within : GoodIn wsX8_leadsTo (va_wsS RX8 76 yX8_within wsX8_within) := goodIn_app (goodIn_of _ (by decide +kernel)) ggX8_leadsTo_X8_within
set_option maxRecDepth 20000 in
theorem ggX8_leadsTo_X2_copyFrom : GoodIn wsX8_leadsTo wsX2_copyFrom := goodIn_r _ [12, 13, 14, 15, 16, 17, 18, 19, 20, 21, 22, 23, 24, 25, 26, 27, 28, 121, 122, 123, 124, 125, 126, 127, 128, 129, 130, 131, 132, 133, 134, 135, 136, 137, 138] (by decide +kernel) (by decide +kernel)
set_option maxRecDepth 20000 in
theorem gX8_leadsTo_X2_copyFrom : GoodIn wsX8_leadsTo (wsV RX8 121 RX2 yX2_copyFrom wsX2_copyFrom) := goodIn_app (goodIn_of _ (by decide +kernel)) ggX8_leadsTo_X2_copyFrom
set_option maxRecDepth 20000 in
theorem ggX8_leadsTo_X2_advance : GoodIn wsX8_leadsTo wsX2_advance := goodIn_r _ [32, 33, 18, 19, 20, 14, 22, 21, 13, 25, 34, 35, 36, 37, 38, 39, 40, 41, 42, 11, 43, 44, 6, 45, 46, 47, 48, 49, 50, 51, 52, 53, 54, 55, 56, 57, 58, 59, 16, 17, 60, 61, 62, 63, 64, 65, 66, 67, 68, 69, 70, 71, 72, 73, 15, 74, 75, 76, 77, 78, 79, 80, 81, 82, 83, 84, 85, 86, 87, 88, 89, 90, 91, 23, 26, 92, 93, 94, 95, 96, 97, 98, 99, 100, 101, 102, 24, 27, 103, 104, 105, 106, 107, 108, 109, 110, 28, 121, 122, 123, 124, 125, 126, 127, 128, 129, 130, 131, 132, 133, 134, 135, 136, 137, 138, 139, 140, 141, 142, 143, 144, 145, 146, 147] (by decide +kernel) (by decide +kernel)
set_option maxRecDepth 20000 in
theorem gX8_leadsTo_X2_advance : GoodIn wsX8_leadsTo (wsV RX8 125 RX2 yX2_advance wsX2_advance) := goodIn_app (goodIn_of _ (by decide +kernel)) ggX8_leadsTo_X2_advance
theorem dX8_leadsTo_0 : decode cX8_leadsTo 0 = .ok (.iload_n 1, 1) := by decide +kernel
theorem dX8_leadsTo_1 : decode cX8_leadsTo 1 = .ok (.iconst 0, 1) := by decide +kernel
theorem dX8_leadsTo_2 : decode cX8_leadsTo 2 = .ok (.iconst 4, 1) := by decide +kernel
theorem dX8_leadsTo_3 : decode cX8_leadsTo 3 = .ok (.invokestatic 76, 3) := by decide +kernel
theorem dX8_leadsTo_6 : decode cX8_leadsTo 6 = .ok (.ifCond .ne 6, 3) := by decide +kernel
theorem dX8_leadsTo_9 : decode cX8_leadsTo 9 = .ok (.bipush (-2), 2) := by decide +kernel
theorem dX8_leadsTo_11 : decode cX8_leadsTo 11 = .ok (.ireturn, 1) := by decide +kernel
theorem dX8_leadsTo_12 : decode cX8_leadsTo 12 = .ok (.iconst 0, 1) := by decide +kernel
theorem dX8_leadsTo_13 : decode cX8_leadsTo 13 = .ok (.istore_n 2, 1) := by decide +kernel
theorem dX8_leadsTo_14 : decode cX8_leadsTo 14 = .ok (.iload_n 2, 1) := by decide +kernel
theorem dX8_leadsTo_15 : decode cX8_leadsTo 15 = .ok (.sipush 511, 3) := by decide +kernel
theorem dX8_leadsTo_18 : decode cX8_leadsTo 18 = .ok (.if_icmp .gt 41, 3) := by decide +kernel
theorem dX8_leadsTo_21 : decode cX8_leadsTo 21 = .ok (.aload_n 0, 1) := by decide +kernel
theorem dX8_leadsTo_22 : decode cX8_leadsTo 22 = .ok (.getfield 32, 3) := by decide +kernel
theorem dX8_leadsTo_25 : decode cX8_leadsTo 25 = .ok (.aload_n 0, 1) := by decide +kernel
theorem dX8_leadsTo_26 : decode cX8_leadsTo 26 = .ok (.getfield 28, 3) := by decide +kernel
theorem dX8_leadsTo_29 : decode cX8_leadsTo 29 = .ok (.invokevirtual 121, 3) := by decide +kernel
theorem dX8_leadsTo_32 : decode cX8_leadsTo 32 = .ok (.aload_n 0, 1) := by decide +kernel
theorem dX8_leadsTo_33 : decode cX8_leadsTo 33 = .ok (.getfield 32, 3) := by decide +kernel
theorem dX8_leadsTo_36 : decode cX8_leadsTo 36 = .ok (.iload_n 2, 1) := by decide +kernel
theorem dX8_leadsTo_37 : decode cX8_leadsTo 37 = .ok (.invokevirtual 125, 3) := by decide +kernel
theorem dX8_leadsTo_40 : decode cX8_leadsTo 40 = .ok (.aload_n 0, 1) := by decide +kernel
theorem dX8_leadsTo_41 : decode cX8_leadsTo 41 = .ok (.getfield 32, 3) := by decide +kernel
theorem dX8_leadsTo_44 : decode cX8_leadsTo 44 = .ok (.getfield 113, 3) := by decide +kernel
theorem dX8_leadsTo_47 : decode cX8_leadsTo 47 = .ok (.iload_n 1, 1) := by decide +kernel
theorem dX8_leadsTo_48 : decode cX8_leadsTo 48 = .ok (.if_icmp .ne 5, 3) := by decide +kernel
theorem dX8_leadsTo_51 : decode cX8_leadsTo 51 = .ok (.iload_n 2, 1) := by decide +kernel
theorem dX8_leadsTo_52 : decode cX8_leadsTo 52 = .ok (.ireturn, 1) := by decide +kernel
theorem dX8_leadsTo_53 : decode cX8_leadsTo 53 = .ok (.iinc 2 1, 3) := by decide +kernel
theorem dX8_leadsTo_56 : decode cX8_leadsTo 56 = .ok (.goto (-42), 3) := by decide +kernel
theorem dX8_leadsTo_59 : decode cX8_leadsTo 59 = .ok (.bipush (-9), 2) := by decide +kernel
theorem dX8_leadsTo_61 : decode cX8_leadsTo 61 = .ok (.ireturn, 1) := by decide +kernel
set_option maxRecDepth 20000 in
theorem ggX8_locked_X8_within : GoodIn wsX8_locked wsX8_within := goodIn_r _ [5] (by decide +kernel) (by decide +kernel)
set_option maxRecDepth 20000 in
theorem gX8_locked_X8_within : GoodIn wsX8_locked (va_wsS RX8 76 yX8_within wsX8_within) := goodIn_app (goodIn_of _ (by decide +kernel)) ggX8_locked_X8_within
set_option maxRecDepth 20000 in
theorem ggX8_locked_X1_locksBy : GoodIn wsX8_locked wsX1_locksBy := goodIn_r _ [10, 11, 12, 13, 9, 14, 15, 3, 4, 5, 27, 28, 29, 30, 31, 32, 33] (by decide +kernel) (by decide +kernel)
set_option maxRecDepth 20000 in
theorem gX8_locked_X1_locksBy : GoodIn wsX8_locked (wsV RX8 128 RX1 yX1_locksBy wsX1_locksBy) := goodIn_app (goodIn_of _ (by decide +kernel)) ggX8_locked_X1_locksBy
set_option maxRecDepth 20000 in
theorem ggX8_locked_X1_locksAt : GoodIn wsX8_locked wsX1_locksAt := goodIn_r _ [14, 15, 3, 4, 5, 27, 28, 29, 30, 31, 32, 33] (by decide +kernel) (by decide +kernel)
set_option maxRecDepth 20000 in
theorem gX8_locked_X1_locksAt : GoodIn wsX8_locked (wsV RX8 131 RX1 yX1_locksAt wsX1_locksAt) := goodIn_app (goodIn_of _ (by decide +kernel)) ggX8_locked_X1_locksAt
theorem dX8_locked_0 : decode cX8_locked 0 = .ok (.iload_n 1, 1) := by decide +kernel
theorem dX8_locked_1 : decode cX8_locked 1 = .ok (.iconst 1, 1) := by decide +kernel
theorem dX8_locked_2 : decode cX8_locked 2 = .ok (.iconst 5, 1) := by decide +kernel
theorem dX8_locked_3 : decode cX8_locked 3 = .ok (.invokestatic 76, 3) := by decide +kernel
theorem dX8_locked_6 : decode cX8_locked 6 = .ok (.ifCond .ne 5, 3) := by decide +kernel
theorem dX8_locked_9 : decode cX8_locked 9 = .ok (.iconst (-1), 1) := by decide +kernel
theorem dX8_locked_10 : decode cX8_locked 10 = .ok (.ireturn, 1) := by decide +kernel
theorem dX8_locked_11 : decode cX8_locked 11 = .ok (.iload_n 2, 1) := by decide +kernel
theorem dX8_locked_12 : decode cX8_locked 12 = .ok (.bipush (-9), 2) := by decide +kernel
theorem dX8_locked_14 : decode cX8_locked 14 = .ok (.if_icmp .ne 12, 3) := by decide +kernel
theorem dX8_locked_17 : decode cX8_locked 17 = .ok (.aload_n 0, 1) := by decide +kernel
theorem dX8_locked_18 : decode cX8_locked 18 = .ok (.getfield 38, 3) := by decide +kernel
theorem dX8_locked_21 : decode cX8_locked 21 = .ok (.iload_n 1, 1) := by decide +kernel
theorem dX8_locked_22 : decode cX8_locked 22 = .ok (.invokevirtual 128, 3) := by decide +kernel
theorem dX8_locked_25 : decode cX8_locked 25 = .ok (.ireturn, 1) := by decide +kernel
theorem dX8_locked_26 : decode cX8_locked 26 = .ok (.iload_n 2, 1) := by decide +kernel
theorem dX8_locked_27 : decode cX8_locked 27 = .ok (.iconst 0, 1) := by decide +kernel
theorem dX8_locked_28 : decode cX8_locked 28 = .ok (.bipush 17, 2) := by decide +kernel
theorem dX8_locked_30 : decode cX8_locked 30 = .ok (.invokestatic 76, 3) := by decide +kernel
theorem dX8_locked_33 : decode cX8_locked 33 = .ok (.ifCond .ne 6, 3) := by decide +kernel
theorem dX8_locked_36 : decode cX8_locked 36 = .ok (.bipush (-2), 2) := by decide +kernel
theorem dX8_locked_38 : decode cX8_locked 38 = .ok (.ireturn, 1) := by decide +kernel
theorem dX8_locked_39 : decode cX8_locked 39 = .ok (.aload_n 0, 1) := by decide +kernel
theorem dX8_locked_40 : decode cX8_locked 40 = .ok (.getfield 38, 3) := by decide +kernel
theorem dX8_locked_43 : decode cX8_locked 43 = .ok (.iload_n 1, 1) := by decide +kernel
theorem dX8_locked_44 : decode cX8_locked 44 = .ok (.iload_n 2, 1) := by decide +kernel
theorem dX8_locked_45 : decode cX8_locked 45 = .ok (.invokevirtual 131, 3) := by decide +kernel
theorem dX8_locked_48 : decode cX8_locked 48 = .ok (.ireturn, 1) := by decide +kernel
set_option maxRecDepth 20000 in
theorem ggX8_cause_X8_within : GoodIn wsX8_cause wsX8_within := goodIn_r _ [5] (by decide +kernel) (by decide +kernel)
set_option maxRecDepth 20000 in
theorem gX8_cause_X8_within : GoodIn wsX8_cause (va_wsS RX8 76 yX8_within wsX8_within) := goodIn_app (goodIn_of _ (by decide +kernel)) ggX8_cause_X8_within
set_option maxRecDepth 20000 in
theorem ggX8_cause_X1_causeInOrder : GoodIn wsX8_cause wsX1_causeInOrder := goodIn_r _ [10, 11, 12, 23, 24, 25, 26, 27, 28, 29] (by decide +kernel) (by decide +kernel)
set_option maxRecDepth 20000 in
theorem gX8_cause_X1_causeInOrder : GoodIn wsX8_cause (wsV RX8 135 RX1 yX1_causeInOrder wsX1_causeInOrder) := goodIn_app (goodIn_of _ (by decide +kernel)) ggX8_cause_X1_causeInOrder
theorem dX8_cause_0 : decode cX8_cause 0 = .ok (.iload_n 1, 1) := by decide +kernel
theorem dX8_cause_1 : decode cX8_cause 1 = .ok (.iconst 0, 1) := by decide +kernel
theorem dX8_cause_2 : decode cX8_cause 2 = .ok (.iconst 4, 1) := by decide +kernel
theorem dX8_cause_3 : decode cX8_cause 3 = .ok (.invokestatic 76, 3) := by decide +kernel
theorem dX8_cause_6 : decode cX8_cause 6 = .ok (.ifCond .ne 6, 3) := by decide +kernel
theorem dX8_cause_9 : decode cX8_cause 9 = .ok (.bipush (-2), 2) := by decide +kernel
theorem dX8_cause_11 : decode cX8_cause 11 = .ok (.ireturn, 1) := by decide +kernel
theorem dX8_cause_12 : decode cX8_cause 12 = .ok (.aload_n 0, 1) := by decide +kernel
theorem dX8_cause_13 : decode cX8_cause 13 = .ok (.getfield 38, 3) := by decide +kernel
theorem dX8_cause_16 : decode cX8_cause 16 = .ok (.iload_n 1, 1) := by decide +kernel
theorem dX8_cause_17 : decode cX8_cause 17 = .ok (.invokevirtual 135, 3) := by decide +kernel
theorem dX8_cause_20 : decode cX8_cause 20 = .ok (.ireturn, 1) := by decide +kernel
set_option maxRecDepth 20000 in
theorem ggX8_followed_X8_within : GoodIn wsX8_followed wsX8_within := goodIn_r _ [5] (by decide +kernel) (by decide +kernel)
set_option maxRecDepth 20000 in
theorem gX8_followed_X8_within : GoodIn wsX8_followed (va_wsS RX8 76 yX8_within wsX8_within) := goodIn_app (goodIn_of _ (by decide +kernel)) ggX8_followed_X8_within
set_option maxRecDepth 20000 in
theorem ggX8_followed_X1_modesBehind : GoodIn wsX8_followed wsX1_modesBehind := goodIn_r _ [10, 11, 3, 4, 5, 22, 23, 24, 25, 26, 27, 28] (by decide +kernel) (by decide +kernel)
set_option maxRecDepth 20000 in
theorem gX8_followed_X1_modesBehind : GoodIn wsX8_followed (wsV RX8 138 RX1 yX1_modesBehind wsX1_modesBehind) := goodIn_app (goodIn_of _ (by decide +kernel)) ggX8_followed_X1_modesBehind
theorem dX8_followed_0 : decode cX8_followed 0 = .ok (.iload_n 1, 1) := by decide +kernel
theorem dX8_followed_1 : decode cX8_followed 1 = .ok (.iconst 0, 1) := by decide +kernel
theorem dX8_followed_2 : decode cX8_followed 2 = .ok (.iconst 4, 1) := by decide +kernel
theorem dX8_followed_3 : decode cX8_followed 3 = .ok (.invokestatic 76, 3) := by decide +kernel
theorem dX8_followed_6 : decode cX8_followed 6 = .ok (.ifCond .ne 6, 3) := by decide +kernel
theorem dX8_followed_9 : decode cX8_followed 9 = .ok (.bipush (-2), 2) := by decide +kernel
theorem dX8_followed_11 : decode cX8_followed 11 = .ok (.ireturn, 1) := by decide +kernel
theorem dX8_followed_12 : decode cX8_followed 12 = .ok (.aload_n 0, 1) := by decide +kernel
theorem dX8_followed_13 : decode cX8_followed 13 = .ok (.getfield 38, 3) := by decide +kernel
theorem dX8_followed_16 : decode cX8_followed 16 = .ok (.iload_n 1, 1) := by decide +kernel
theorem dX8_followed_17 : decode cX8_followed 17 = .ok (.invokevirtual 138, 3) := by decide +kernel
theorem dX8_followed_20 : decode cX8_followed 20 = .ok (.ireturn, 1) := by decide +kernel
set_option maxRecDepth 20000 in
theorem ggX8_places_J6_bitCount_0f7a4 : GoodIn wsX8_places wsJ6_bitCount_0f7a4 := goodIn_r _ [6, 7, 8, 9] (by decide +kernel) (by decide +kernel)
set_option maxRecDepth 20000 in
theorem gX8_places_J6_bitCount_0f7a4 : GoodIn wsX8_places (va_wsS RX8 144 yJ6_bitCount_0f7a4 wsJ6_bitCount_0f7a4) := goodIn_app (goodIn_of _ (by decide +kernel)) ggX8_places_J6_bitCount_0f7a4
theorem dX8_places_0 : decode cX8_places 0 = .ok (.aload_n 0, 1) := by decide +kernel
theorem dX8_places_1 : decode cX8_places 1 = .ok (.getfield 38, 3) := by decide +kernel
theorem dX8_places_4 : decode cX8_places 4 = .ok (.getfield 141, 3) := by decide +kernel
theorem dX8_places_7 : decode cX8_places 7 = .ok (.invokestatic 144, 3) := by decide +kernel
theorem dX8_places_10 : decode cX8_places 10 = .ok (.ireturn, 1) := by decide +kernel
set_option maxRecDepth 20000 in
theorem ggX8_step_X8_isSet : GoodIn wsX8_step wsX8_isSet := goodIn_r _ [7, 8, 9, 6, 10] (by decide +kernel) (by decide +kernel)
set_option maxRecDepth 20000 in
theorem gX8_step_X8_isSet : GoodIn wsX8_step (va_wsS RX8 105 yX8_isSet wsX8_isSet) := goodIn_app (goodIn_of _ (by decide +kernel)) ggX8_step_X8_isSet
set_option maxRecDepth 20000 in
theorem ggX8_step_X3_append : GoodIn wsX8_step wsX3_append := goodIn_r _ [15, 16, 17, 9, 6, 10, 28, 29] (by decide +kernel) (by decide +kernel)
set_option maxRecDepth 20000 in
theorem gX8_step_X3_append : GoodIn wsX8_step (wsV RX8 152 RX3 yX3_append wsX3_append) := goodIn_app (goodIn_of _ (by decide +kernel)) ggX8_step_X3_append
theorem dX8_step_0 : decode cX8_step 0 = .ok (.iload_n 1, 1) := by decide +kernel
theorem dX8_step_1 : decode cX8_step 1 = .ok (.invokestatic 105, 3) := by decide +kernel
theorem dX8_step_4 : decode cX8_step 4 = .ok (.ifCond .ne 6, 3) := by decide +kernel
theorem dX8_step_7 : decode cX8_step 7 = .ok (.bipush (-2), 2) := by decide +kernel
theorem dX8_step_9 : decode cX8_step 9 = .ok (.ireturn, 1) := by decide +kernel
theorem dX8_step_10 : decode cX8_step 10 = .ok (.aload_n 0, 1) := by decide +kernel
theorem dX8_step_11 : decode cX8_step 11 = .ok (.getfield 45, 3) := by decide +kernel
theorem dX8_step_14 : decode cX8_step 14 = .ok (.getfield 149, 3) := by decide +kernel
theorem dX8_step_17 : decode cX8_step 17 = .ok (.bipush 32, 2) := by decide +kernel
theorem dX8_step_19 : decode cX8_step 19 = .ok (.if_icmp .lt 6, 3) := by decide +kernel
theorem dX8_step_22 : decode cX8_step 22 = .ok (.bipush (-4), 2) := by decide +kernel
theorem dX8_step_24 : decode cX8_step 24 = .ok (.ireturn, 1) := by decide +kernel
theorem dX8_step_25 : decode cX8_step 25 = .ok (.aload_n 0, 1) := by decide +kernel
theorem dX8_step_26 : decode cX8_step 26 = .ok (.getfield 45, 3) := by decide +kernel
theorem dX8_step_29 : decode cX8_step 29 = .ok (.iload_n 1, 1) := by decide +kernel
theorem dX8_step_30 : decode cX8_step 30 = .ok (.invokevirtual 152, 3) := by decide +kernel
theorem dX8_step_33 : decode cX8_step 33 = .ok (.aload_n 0, 1) := by decide +kernel
theorem dX8_step_34 : decode cX8_step 34 = .ok (.iconst 0, 1) := by decide +kernel
theorem dX8_step_35 : decode cX8_step 35 = .ok (.putfield 72, 3) := by decide +kernel
theorem dX8_step_38 : decode cX8_step 38 = .ok (.aload_n 0, 1) := by decide +kernel
theorem dX8_step_39 : decode cX8_step 39 = .ok (.getfield 45, 3) := by decide +kernel
theorem dX8_step_42 : decode cX8_step 42 = .ok (.getfield 149, 3) := by decide +kernel
theorem dX8_step_45 : decode cX8_step 45 = .ok (.ireturn, 1) := by decide +kernel
theorem dX8_wipe_0 : decode cX8_wipe 0 = .ok (.aload_n 0, 1) := by decide +kernel
theorem dX8_wipe_1 : decode cX8_wipe 1 = .ok (.getfield 45, 3) := by decide +kernel
theorem dX8_wipe_4 : decode cX8_wipe 4 = .ok (.getfield 149, 3) := by decide +kernel
theorem dX8_wipe_7 : decode cX8_wipe 7 = .ok (.istore_n 1, 1) := by decide +kernel
theorem dX8_wipe_8 : decode cX8_wipe 8 = .ok (.aload_n 0, 1) := by decide +kernel
theorem dX8_wipe_9 : decode cX8_wipe 9 = .ok (.getfield 45, 3) := by decide +kernel
theorem dX8_wipe_12 : decode cX8_wipe 12 = .ok (.iconst 0, 1) := by decide +kernel
theorem dX8_wipe_13 : decode cX8_wipe 13 = .ok (.putfield 149, 3) := by decide +kernel
theorem dX8_wipe_16 : decode cX8_wipe 16 = .ok (.aload_n 0, 1) := by decide +kernel
theorem dX8_wipe_17 : decode cX8_wipe 17 = .ok (.iconst 0, 1) := by decide +kernel
theorem dX8_wipe_18 : decode cX8_wipe 18 = .ok (.putfield 72, 3) := by decide +kernel
theorem dX8_wipe_21 : decode cX8_wipe 21 = .ok (.iload_n 1, 1) := by decide +kernel
theorem dX8_wipe_22 : decode cX8_wipe 22 = .ok (.ireturn, 1) := by decide +kernel
set_option maxRecDepth 20000 in
theorem ggX8_stepAt_X8_within : GoodIn wsX8_stepAt wsX8_within := goodIn_r _ [6] (by decide +kernel) (by decide +kernel)
set_option maxRecDepth 20000 in
theorem gX8_stepAt_X8_within : GoodIn wsX8_stepAt (va_wsS RX8 76 yX8_within wsX8_within) := goodIn_app (goodIn_of _ (by decide +kernel)) ggX8_stepAt_X8_within
set_option maxRecDepth 20000 in
theorem ggX8_stepAt_X3_setAt : GoodIn wsX8_stepAt wsX3_setAt := goodIn_r _ [11, 12, 4, 5, 6, 23, 24] (by decide +kernel) (by decide +kernel)
set_option maxRecDepth 20000 in
theorem gX8_stepAt_X3_setAt : GoodIn wsX8_stepAt (wsV RX8 155 RX3 yX3_setAt wsX3_setAt) := goodIn_app (goodIn_of _ (by decide +kernel)) ggX8_stepAt_X3_setAt
theorem dX8_stepAt_0 : decode cX8_stepAt 0 = .ok (.iload_n 1, 1) := by decide +kernel
theorem dX8_stepAt_1 : decode cX8_stepAt 1 = .ok (.iconst 0, 1) := by decide +kernel
theorem dX8_stepAt_2 : decode cX8_stepAt 2 = .ok (.aload_n 0, 1) := by decide +kernel
theorem dX8_stepAt_3 : decode cX8_stepAt 3 = .ok (.getfield 45, 3) := by decide +kernel
theorem dX8_stepAt_6 : decode cX8_stepAt 6 = .ok (.getfield 149, 3) := by decide +kernel
theorem dX8_stepAt_9 : decode cX8_stepAt 9 = .ok (.iconst 1, 1) := by decide +kernel
theorem dX8_stepAt_10 : decode cX8_stepAt 10 = .ok (.isub, 1) := by decide +kernel
theorem dX8_stepAt_11 : decode cX8_stepAt 11 = .ok (.invokestatic 76, 3) := by decide +kernel
theorem dX8_stepAt_14 : decode cX8_stepAt 14 = .ok (.ifCond .ne 5, 3) := by decide +kernel
theorem dX8_stepAt_17 : decode cX8_stepAt 17 = .ok (.iconst (-1), 1) := by decide +kernel
theorem dX8_stepAt_18 : decode cX8_stepAt 18 = .ok (.ireturn, 1) := by decide +kernel
theorem dX8_stepAt_19 : decode cX8_stepAt 19 = .ok (.aload_n 0, 1) := by decide +kernel
theorem dX8_stepAt_20 : decode cX8_stepAt 20 = .ok (.getfield 45, 3) := by decide +kernel
theorem dX8_stepAt_23 : decode cX8_stepAt 23 = .ok (.iload_n 1, 1) := by decide +kernel
theorem dX8_stepAt_24 : decode cX8_stepAt 24 = .ok (.invokevirtual 155, 3) := by decide +kernel
theorem dX8_stepAt_27 : decode cX8_stepAt 27 = .ok (.ireturn, 1) := by decide +kernel
set_option maxRecDepth 20000 in
theorem ggX8_trial_X8_within : GoodIn wsX8_trial wsX8_within := goodIn_r _ [7] (by decide +kernel) (by decide +kernel)
set_option maxRecDepth 20000 in
theorem gX8_trial_X8_within : GoodIn wsX8_trial (va_wsS RX8 76 yX8_within wsX8_within) := goodIn_app (goodIn_of _ (by decide +kernel)) ggX8_trial_X8_within
set_option maxRecDepth 20000 in
theorem ggX8_trial_X6_run : GoodIn wsX8_trial wsX6_run := goodIn_r _ [12, 13, 14, 15, 16, 17, 18, 19, 20, 21, 22, 23, 24, 25, 26, 27, 28, 29, 30, 31, 32, 33, 34, 35, 36, 37, 38, 39, 40, 41, 42, 43, 44, 45, 46, 47, 48, 49, 50, 51, 52, 53, 54, 55, 56, 57, 58, 59, 5, 6, 7, 60, 61, 62, 63, 64, 65, 66, 67, 68, 69, 70, 71, 72, 73, 74, 75, 76, 77, 78, 79, 80, 81, 82, 83, 84, 85, 86, 87, 88, 89, 90, 91, 92, 93, 94, 95, 96, 97, 98, 99, 100, 101, 102, 103, 104, 105, 106, 107, 108, 109, 110, 111, 112, 113, 114, 115, 116, 117, 118, 119, 120, 121, 122, 123, 124, 125, 126, 127, 128, 129, 130, 131, 132, 133, 134, 135, 136, 155, 156, 157, 158, 153, 154, 159, 160, 161, 162, 163, 164, 165, 166, 167, 168, 169, 170, 171, 172, 173, 174, 175, 176, 177, 178, 179, 180, 181, 182, 183, 184, 185] (by decide +kernel) (by decide +kernel)
set_option maxRecDepth 20000 in
theorem gX8_trial_X6_run : GoodIn wsX8_trial (wsV RX8 158 RX6 yX6_run wsX6_run) := goodIn_app (goodIn_of _ (by decide +kernel)) ggX8_trial_X6_run
set_option maxRecDepth 20000 in
theorem ggX8_trial_X6_part : GoodIn wsX8_trial wsX6_part := goodIn_r _ [140, 14, 141, 15, 16, 18, 142, 155, 156, 157, 158, 159, 160, 161, 162, 163, 164, 165, 166, 167, 168, 169, 170, 171, 172, 173, 174, 175, 176] (by decide +kernel) (by decide +kernel)
set_option maxRecDepth 20000 in
theorem gX8_trial_X6_part : GoodIn wsX8_trial (wsV RX8 162 RX6 yX6_part wsX6_part) := goodIn_app (goodIn_of _ (by decide +kernel)) ggX8_trial_X6_part
theorem dX8_trial_0 : decode cX8_trial 0 = .ok (.iload_n 1, 1) := by decide +kernel
theorem dX8_trial_1 : decode cX8_trial 1 = .ok (.iconst 0, 1) := by decide +kernel
theorem dX8_trial_2 : decode cX8_trial 2 = .ok (.bipush 8, 2) := by decide +kernel
theorem dX8_trial_4 : decode cX8_trial 4 = .ok (.invokestatic 76, 3) := by decide +kernel
theorem dX8_trial_7 : decode cX8_trial 7 = .ok (.ifCond .ne 5, 3) := by decide +kernel
theorem dX8_trial_10 : decode cX8_trial 10 = .ok (.iconst (-1), 1) := by decide +kernel
theorem dX8_trial_11 : decode cX8_trial 11 = .ok (.ireturn, 1) := by decide +kernel
theorem dX8_trial_12 : decode cX8_trial 12 = .ok (.iload_n 2, 1) := by decide +kernel
theorem dX8_trial_13 : decode cX8_trial 13 = .ok (.iconst 0, 1) := by decide +kernel
theorem dX8_trial_14 : decode cX8_trial 14 = .ok (.iconst 1, 1) := by decide +kernel
theorem dX8_trial_15 : decode cX8_trial 15 = .ok (.invokestatic 76, 3) := by decide +kernel
theorem dX8_trial_18 : decode cX8_trial 18 = .ok (.ifCond .eq 28, 3) := by decide +kernel
theorem dX8_trial_21 : decode cX8_trial 21 = .ok (.iload_n 3, 1) := by decide +kernel
theorem dX8_trial_22 : decode cX8_trial 22 = .ok (.iconst 0, 1) := by decide +kernel
theorem dX8_trial_23 : decode cX8_trial 23 = .ok (.aload_n 0, 1) := by decide +kernel
theorem dX8_trial_24 : decode cX8_trial 24 = .ok (.getfield 45, 3) := by decide +kernel
theorem dX8_trial_27 : decode cX8_trial 27 = .ok (.getfield 149, 3) := by decide +kernel
theorem dX8_trial_30 : decode cX8_trial 30 = .ok (.invokestatic 76, 3) := by decide +kernel
theorem dX8_trial_33 : decode cX8_trial 33 = .ok (.ifCond .eq 13, 3) := by decide +kernel
theorem dX8_trial_36 : decode cX8_trial 36 = .ok (.iload 4, 2) := by decide +kernel
theorem dX8_trial_38 : decode cX8_trial 38 = .ok (.iconst 0, 1) := by decide +kernel
theorem dX8_trial_39 : decode cX8_trial 39 = .ok (.iconst 4, 1) := by decide +kernel
theorem dX8_trial_40 : decode cX8_trial 40 = .ok (.invokestatic 76, 3) := by decide +kernel
theorem dX8_trial_43 : decode cX8_trial 43 = .ok (.ifCond .ne 6, 3) := by decide +kernel
theorem dX8_trial_46 : decode cX8_trial 46 = .ok (.bipush (-2), 2) := by decide +kernel
theorem dX8_trial_48 : decode cX8_trial 48 = .ok (.ireturn, 1) := by decide +kernel
theorem dX8_trial_49 : decode cX8_trial 49 = .ok (.aload_n 0, 1) := by decide +kernel
theorem dX8_trial_50 : decode cX8_trial 50 = .ok (.getfield 54, 3) := by decide +kernel
theorem dX8_trial_53 : decode cX8_trial 53 = .ok (.aload_n 0, 1) := by decide +kernel
theorem dX8_trial_54 : decode cX8_trial 54 = .ok (.getfield 45, 3) := by decide +kernel
theorem dX8_trial_57 : decode cX8_trial 57 = .ok (.iload_n 1, 1) := by decide +kernel
theorem dX8_trial_58 : decode cX8_trial 58 = .ok (.iload_n 2, 1) := by decide +kernel
theorem dX8_trial_59 : decode cX8_trial 59 = .ok (.iload_n 3, 1) := by decide +kernel
theorem dX8_trial_60 : decode cX8_trial 60 = .ok (.invokevirtual 158, 3) := by decide +kernel
theorem dX8_trial_63 : decode cX8_trial 63 = .ok (.aload_n 0, 1) := by decide +kernel
theorem dX8_trial_64 : decode cX8_trial 64 = .ok (.getfield 54, 3) := by decide +kernel
theorem dX8_trial_67 : decode cX8_trial 67 = .ok (.iload 4, 2) := by decide +kernel
theorem dX8_trial_69 : decode cX8_trial 69 = .ok (.invokevirtual 162, 3) := by decide +kernel
theorem dX8_trial_72 : decode cX8_trial 72 = .ok (.ireturn, 1) := by decide +kernel
set_option maxRecDepth 20000 in
theorem ggX8_trials_X8_within : GoodIn wsX8_trials wsX8_within := goodIn_r _ [6] (by decide +kernel) (by decide +kernel)
set_option maxRecDepth 20000 in
theorem gX8_trials_X8_within : GoodIn wsX8_trials (va_wsS RX8 76 yX8_within wsX8_within) := goodIn_app (goodIn_of _ (by decide +kernel)) ggX8_trials_X8_within
set_option maxRecDepth 20000 in
theorem ggX8_trials_X8_sumUpTrials : GoodIn wsX8_trials wsX8_sumUpTrials := goodIn_r _ [10, 11, 12, 13, 2, 14, 15, 16, 17, 18, 19, 20, 21, 22, 23, 24, 25, 26, 27, 28, 29, 30, 31, 32, 33, 34, 35, 36, 37, 38, 39, 40, 41, 42, 43, 44, 45, 46, 47, 48, 49, 50, 51, 52, 53, 54, 55, 56, 57, 58, 59, 60, 61, 62, 63, 64, 65, 66, 67, 4, 5, 6, 68, 69, 70, 71, 72, 73, 74, 75, 76, 77, 78, 79, 80, 81, 82, 83, 84, 85, 86, 87, 88, 89, 90, 91, 92, 93, 94, 95, 96, 97, 98, 99, 100, 101, 102, 103, 104, 105, 106, 107, 108, 109, 110, 111, 112, 113, 114, 115, 116, 117, 118, 119, 120, 121, 122, 123, 124, 125, 126, 127, 128, 129, 130, 131, 132, 133, 134, 135, 136, 137, 138, 139, 140, 141, 142, 143, 144, 145, 146, 147, 148, 149, 150, 151, 152, 153, 154, 155, 156, 157, 158, 159, 160, 161, 162, 163, 164, 165, 166, 167, 168, 169, 170, 171, 172, 177, 178, 179, 180, 181, 182, 183, 184, 185, 186, 187, 188, 189, 190, 191, 192, 193, 194, 195, 196, 197, 198, 199, 200, 201, 202, 203, 204, 205, 206, 207, 208, 209, 210, 211, 212, 213, 214, 215, 216, 217, 218, 219, 220, 221, 222, 223, 224, 225, 226] (by decide +kernel) (by decide +kernel)
set_option maxRecDepth 20000 in
theorem gX8_trials_X8_sumUpTrials : GoodIn wsX8_trials (wsV RX8 163 RX8 yX8_sumUpTrials wsX8_sumUpTrials) := goodIn_app (goodIn_of _ (by decide +kernel)) ggX8_trials_X8_sumUpTrials
set_option maxRecDepth 20000 in
theorem ggX8_trials_X7_part : GoodIn wsX8_trials wsX7_part := goodIn_r _ [176, 151, 152, 153, 154, 155, 156, 220, 221, 222, 223, 224, 225, 226] (by decide +kernel) (by decide +kernel)
set_option maxRecDepth 20000 in
theorem gX8_trials_X7_part : GoodIn wsX8_trials (wsV RX8 166 RX7 yX7_part wsX7_part) := goodIn_app (goodIn_of _ (by decide +kernel)) ggX8_trials_X7_part
theorem dX8_trials_0 : decode cX8_trials 0 = .ok (.iload_n 1, 1) := by decide +kernel
theorem dX8_trials_1 : decode cX8_trials 1 = .ok (.iconst 0, 1) := by decide +kernel
theorem dX8_trials_2 : decode cX8_trials 2 = .ok (.iconst 5, 1) := by decide +kernel
theorem dX8_trials_3 : decode cX8_trials 3 = .ok (.invokestatic 76, 3) := by decide +kernel
theorem dX8_trials_6 : decode cX8_trials 6 = .ok (.ifCond .ne 6, 3) := by decide +kernel
theorem dX8_trials_9 : decode cX8_trials 9 = .ok (.bipush (-2), 2) := by decide +kernel
theorem dX8_trials_11 : decode cX8_trials 11 = .ok (.ireturn, 1) := by decide +kernel
theorem dX8_trials_12 : decode cX8_trials 12 = .ok (.aload_n 0, 1) := by decide +kernel
theorem dX8_trials_13 : decode cX8_trials 13 = .ok (.getfield 72, 3) := by decide +kernel
theorem dX8_trials_16 : decode cX8_trials 16 = .ok (.ifCond .ne 12, 3) := by decide +kernel
theorem dX8_trials_19 : decode cX8_trials 19 = .ok (.aload_n 0, 1) := by decide +kernel
theorem dX8_trials_20 : decode cX8_trials 20 = .ok (.invokevirtual 163, 3) := by decide +kernel
theorem dX8_trials_23 : decode cX8_trials 23 = .ok (.aload_n 0, 1) := by decide +kernel
theorem dX8_trials_24 : decode cX8_trials 24 = .ok (.iconst 1, 1) := by decide +kernel
theorem dX8_trials_25 : decode cX8_trials 25 = .ok (.putfield 72, 3) := by decide +kernel
theorem dX8_trials_28 : decode cX8_trials 28 = .ok (.aload_n 0, 1) := by decide +kernel
theorem dX8_trials_29 : decode cX8_trials 29 = .ok (.getfield 61, 3) := by decide +kernel
theorem dX8_trials_32 : decode cX8_trials 32 = .ok (.iload_n 1, 1) := by decide +kernel
theorem dX8_trials_33 : decode cX8_trials 33 = .ok (.invokevirtual 166, 3) := by decide +kernel
theorem dX8_trials_36 : decode cX8_trials 36 = .ok (.ireturn, 1) := by decide +kernel
set_option maxRecDepth 20000 in
theorem ggX8_reach_X8_isSet : GoodIn wsX8_reach wsX8_isSet := goodIn_r _ [6, 7, 8, 5, 9] (by decide +kernel) (by decide +kernel)
set_option maxRecDepth 20000 in
theorem gX8_reach_X8_isSet : GoodIn wsX8_reach (va_wsS RX8 105 yX8_isSet wsX8_isSet) := goodIn_app (goodIn_of _ (by decide +kernel)) ggX8_reach_X8_isSet
set_option maxRecDepth 20000 in
theorem ggX8_reach_J6_bitCount_0f7a4 : GoodIn wsX8_reach wsJ6_bitCount_0f7a4 := goodIn_r _ [13, 14, 15, 16] (by decide +kernel) (by decide +kernel)
set_option maxRecDepth 20000 in
theorem gX8_reach_J6_bitCount_0f7a4 : GoodIn wsX8_reach (va_wsS RX8 144 yJ6_bitCount_0f7a4 wsJ6_bitCount_0f7a4) := goodIn_app (goodIn_of _ (by decide +kernel)) ggX8_reach_J6_bitCount_0f7a4
set_option maxRecDepth 20000 in
theorem ggX8_reach_X8_within : GoodIn wsX8_reach wsX8_within := goodIn_r _ [9] (by decide +kernel) (by decide +kernel)
set_option maxRecDepth 20000 in
theorem gX8_reach_X8_within : GoodIn wsX8_reach (va_wsS RX8 76 yX8_within wsX8_within) := goodIn_app (goodIn_of _ (by decide +kernel)) ggX8_reach_X8_within
set_option maxRecDepth 20000 in
theorem ggX8_reach_X4_run : GoodIn wsX8_reach wsX4_run := goodIn_r _ [21, 22, 23, 24, 25, 26, 27, 28, 29, 30, 31, 32, 33, 34, 35, 36, 37, 20, 38, 39, 40, 41, 42, 43, 44, 45, 11, 12, 13, 14, 15, 16, 46, 47, 48, 49, 50, 51, 52, 53, 54, 55, 56, 57, 58, 59, 60, 61, 62, 63, 64, 65, 66, 67, 68, 69, 8, 5, 9, 70, 71, 72, 73, 74, 75, 76, 77, 78, 79, 80, 81, 82, 83, 84, 85, 86, 87, 88, 89, 90, 91, 92, 93, 94, 95, 96, 97, 98, 99, 100, 101, 102, 103, 104, 105, 106, 107, 108, 109, 110, 111, 112, 113, 114, 115, 116, 117, 118, 119, 120, 121, 122, 123, 124, 125, 126, 127, 128, 129, 130, 131, 132, 133, 134, 135, 136, 137, 138, 139, 140, 141, 142, 143, 144, 145, 146, 147, 148, 149, 150, 151, 152, 153, 154, 155, 156, 157, 158, 159, 160, 161, 162, 163, 164, 165, 166, 167, 168, 169, 170, 171, 186, 187, 188, 189, 190, 191, 192, 193, 194, 195, 196, 197, 198, 199, 200, 201, 202, 203, 204, 205, 206, 207, 208, 209, 210, 211, 212, 213, 214, 215, 216, 217, 218, 219] (by decide +kernel) (by decide +kernel)
set_option maxRecDepth 20000 in
theorem gX8_reach_X4_run : GoodIn wsX8_reach (wsV RX8 167 RX4 yX4_run wsX4_run) := goodIn_app (goodIn_of _ (by decide +kernel)) ggX8_reach_X4_run
set_option maxRecDepth 20000 in
theorem ggX8_reach_X4_part : GoodIn wsX8_reach wsX4_part := goodIn_r _ [175, 24, 25, 23, 8, 5, 9, 186, 187, 188, 189, 190, 191, 192] (by decide +kernel) (by decide +kernel)
set_option maxRecDepth 20000 in
theorem gX8_reach_X4_part : GoodIn wsX8_reach (wsV RX8 170 RX4 yX4_part wsX4_part) := goodIn_app (goodIn_of _ (by decide +kernel)) ggX8_reach_X4_part
theorem dX8_reach_0 : decode cX8_reach 0 = .ok (.iload_n 1, 1) := by decide +kernel
theorem dX8_reach_1 : decode cX8_reach 1 = .ok (.invokestatic 105, 3) := by decide +kernel
theorem dX8_reach_4 : decode cX8_reach 4 = .ok (.ifCond .eq 27, 3) := by decide +kernel
theorem dX8_reach_7 : decode cX8_reach 7 = .ok (.iload_n 2, 1) := by decide +kernel
theorem dX8_reach_8 : decode cX8_reach 8 = .ok (.invokestatic 105, 3) := by decide +kernel
theorem dX8_reach_11 : decode cX8_reach 11 = .ok (.ifCond .eq 20, 3) := by decide +kernel
theorem dX8_reach_14 : decode cX8_reach 14 = .ok (.iload_n 2, 1) := by decide +kernel
theorem dX8_reach_15 : decode cX8_reach 15 = .ok (.invokestatic 144, 3) := by decide +kernel
theorem dX8_reach_18 : decode cX8_reach 18 = .ok (.iconst 2, 1) := by decide +kernel
theorem dX8_reach_19 : decode cX8_reach 19 = .ok (.if_icmp .gt 12, 3) := by decide +kernel
theorem dX8_reach_22 : decode cX8_reach 22 = .ok (.iload_n 3, 1) := by decide +kernel
theorem dX8_reach_23 : decode cX8_reach 23 = .ok (.iconst 0, 1) := by decide +kernel
theorem dX8_reach_24 : decode cX8_reach 24 = .ok (.iconst 5, 1) := by decide +kernel
theorem dX8_reach_25 : decode cX8_reach 25 = .ok (.invokestatic 76, 3) := by decide +kernel
theorem dX8_reach_28 : decode cX8_reach 28 = .ok (.ifCond .ne 6, 3) := by decide +kernel
theorem dX8_reach_31 : decode cX8_reach 31 = .ok (.bipush (-2), 2) := by decide +kernel
theorem dX8_reach_33 : decode cX8_reach 33 = .ok (.ireturn, 1) := by decide +kernel
theorem dX8_reach_34 : decode cX8_reach 34 = .ok (.iload 4, 2) := by decide +kernel
theorem dX8_reach_36 : decode cX8_reach 36 = .ok (.iconst 0, 1) := by decide +kernel
theorem dX8_reach_37 : decode cX8_reach 37 = .ok (.iconst 1, 1) := by decide +kernel
theorem dX8_reach_38 : decode cX8_reach 38 = .ok (.invokestatic 76, 3) := by decide +kernel
theorem dX8_reach_41 : decode cX8_reach 41 = .ok (.ifCond .ne 18, 3) := by decide +kernel
theorem dX8_reach_44 : decode cX8_reach 44 = .ok (.iload 4, 2) := by decide +kernel
theorem dX8_reach_46 : decode cX8_reach 46 = .ok (.bipush 10, 2) := by decide +kernel
theorem dX8_reach_48 : decode cX8_reach 48 = .ok (.bipush 14, 2) := by decide +kernel
theorem dX8_reach_50 : decode cX8_reach 50 = .ok (.invokestatic 76, 3) := by decide +kernel
theorem dX8_reach_53 : decode cX8_reach 53 = .ok (.ifCond .ne 6, 3) := by decide +kernel
theorem dX8_reach_56 : decode cX8_reach 56 = .ok (.bipush (-2), 2) := by decide +kernel
theorem dX8_reach_58 : decode cX8_reach 58 = .ok (.ireturn, 1) := by decide +kernel
theorem dX8_reach_59 : decode cX8_reach 59 = .ok (.aload_n 0, 1) := by decide +kernel
theorem dX8_reach_60 : decode cX8_reach 60 = .ok (.getfield 68, 3) := by decide +kernel
theorem dX8_reach_63 : decode cX8_reach 63 = .ok (.aload_n 0, 1) := by decide +kernel
theorem dX8_reach_64 : decode cX8_reach 64 = .ok (.getfield 28, 3) := by decide +kernel
theorem dX8_reach_67 : decode cX8_reach 67 = .ok (.iload_n 1, 1) := by decide +kernel
theorem dX8_reach_68 : decode cX8_reach 68 = .ok (.iload_n 2, 1) := by decide +kernel
theorem dX8_reach_69 : decode cX8_reach 69 = .ok (.iload_n 3, 1) := by decide +kernel
theorem dX8_reach_70 : decode cX8_reach 70 = .ok (.invokevirtual 167, 3) := by decide +kernel
theorem dX8_reach_73 : decode cX8_reach 73 = .ok (.aload_n 0, 1) := by decide +kernel
theorem dX8_reach_74 : decode cX8_reach 74 = .ok (.getfield 68, 3) := by decide +kernel
theorem dX8_reach_77 : decode cX8_reach 77 = .ok (.iload 4, 2) := by decide +kernel
theorem dX8_reach_79 : decode cX8_reach 79 = .ok (.invokevirtual 170, 3) := by decide +kernel
theorem dX8_reach_82 : decode cX8_reach 82 = .ok (.ireturn, 1) := by decide +kernel
set_option maxRecDepth 20000 in
theorem ggX8_many_J6_bitCount_0f7a4 : GoodIn wsX8_many wsJ6_bitCount_0f7a4 := goodIn_r _ [15, 16, 17, 18] (by decide +kernel) (by decide +kernel)
set_option maxRecDepth 20000 in
theorem gX8_many_J6_bitCount_0f7a4 : GoodIn wsX8_many (va_wsS RX8 144 yJ6_bitCount_0f7a4 wsJ6_bitCount_0f7a4) := goodIn_app (goodIn_of _ (by decide +kernel)) ggX8_many_J6_bitCount_0f7a4
set_option maxRecDepth 20000 in
theorem ggX8_many_X0_valvesStuck : GoodIn wsX8_many wsX0_valvesStuck := goodIn_r _ [23, 24, 25, 63, 64, 65, 66] (by decide +kernel) (by decide +kernel)
set_option maxRecDepth 20000 in
theorem gX8_many_X0_valvesStuck : GoodIn wsX8_many (wsV RX8 186 RX0 yX0_valvesStuck wsX0_valvesStuck) := goodIn_app (goodIn_of _ (by decide +kernel)) ggX8_many_X0_valvesStuck
theorem dX8_many_0 : decode cX8_many 0 = .ok (.iload_n 1, 1) := by decide +kernel
theorem dX8_many_1 : decode cX8_many 1 = .ok (.tableswitch 110 0 6 #[43, 51, 59, 67, 75, 94, 102], 43) := by decide +kernel
theorem dX8_many_44 : decode cX8_many 44 = .ok (.aload_n 0, 1) := by decide +kernel
theorem dX8_many_45 : decode cX8_many 45 = .ok (.getfield 38, 3) := by decide +kernel
theorem dX8_many_48 : decode cX8_many 48 = .ok (.getfield 171, 3) := by decide +kernel
theorem dX8_many_51 : decode cX8_many 51 = .ok (.ireturn, 1) := by decide +kernel
theorem dX8_many_52 : decode cX8_many 52 = .ok (.aload_n 0, 1) := by decide +kernel
theorem dX8_many_53 : decode cX8_many 53 = .ok (.getfield 28, 3) := by decide +kernel
theorem dX8_many_56 : decode cX8_many 56 = .ok (.getfield 174, 3) := by decide +kernel
theorem dX8_many_59 : decode cX8_many 59 = .ok (.ireturn, 1) := by decide +kernel
theorem dX8_many_60 : decode cX8_many 60 = .ok (.aload_n 0, 1) := by decide +kernel
theorem dX8_many_61 : decode cX8_many 61 = .ok (.getfield 28, 3) := by decide +kernel
theorem dX8_many_64 : decode cX8_many 64 = .ok (.getfield 177, 3) := by decide +kernel
theorem dX8_many_67 : decode cX8_many 67 = .ok (.ireturn, 1) := by decide +kernel
theorem dX8_many_68 : decode cX8_many 68 = .ok (.aload_n 0, 1) := by decide +kernel
theorem dX8_many_69 : decode cX8_many 69 = .ok (.getfield 45, 3) := by decide +kernel
theorem dX8_many_72 : decode cX8_many 72 = .ok (.getfield 149, 3) := by decide +kernel
theorem dX8_many_75 : decode cX8_many 75 = .ok (.ireturn, 1) := by decide +kernel
theorem dX8_many_76 : decode cX8_many 76 = .ok (.aload_n 0, 1) := by decide +kernel
theorem dX8_many_77 : decode cX8_many 77 = .ok (.getfield 19, 3) := by decide +kernel
theorem dX8_many_80 : decode cX8_many 80 = .ok (.getfield 180, 3) := by decide +kernel
theorem dX8_many_83 : decode cX8_many 83 = .ok (.aload_n 0, 1) := by decide +kernel
theorem dX8_many_84 : decode cX8_many 84 = .ok (.getfield 19, 3) := by decide +kernel
theorem dX8_many_87 : decode cX8_many 87 = .ok (.getfield 183, 3) := by decide +kernel
theorem dX8_many_90 : decode cX8_many 90 = .ok (.ior, 1) := by decide +kernel
theorem dX8_many_91 : decode cX8_many 91 = .ok (.invokestatic 144, 3) := by decide +kernel
theorem dX8_many_94 : decode cX8_many 94 = .ok (.ireturn, 1) := by decide +kernel
theorem dX8_many_95 : decode cX8_many 95 = .ok (.aload_n 0, 1) := by decide +kernel
theorem dX8_many_96 : decode cX8_many 96 = .ok (.getfield 19, 3) := by decide +kernel
theorem dX8_many_99 : decode cX8_many 99 = .ok (.invokevirtual 186, 3) := by decide +kernel
theorem dX8_many_102 : decode cX8_many 102 = .ok (.ireturn, 1) := by decide +kernel
theorem dX8_many_103 : decode cX8_many 103 = .ok (.aload_n 0, 1) := by decide +kernel
theorem dX8_many_104 : decode cX8_many 104 = .ok (.getfield 38, 3) := by decide +kernel
theorem dX8_many_107 : decode cX8_many 107 = .ok (.getfield 190, 3) := by decide +kernel
theorem dX8_many_110 : decode cX8_many 110 = .ok (.ireturn, 1) := by decide +kernel
theorem dX8_many_111 : decode cX8_many 111 = .ok (.bipush (-2), 2) := by decide +kernel
theorem dX8_many_113 : decode cX8_many 113 = .ok (.ireturn, 1) := by decide +kernel
set_option maxRecDepth 20000 in
theorem ggX8_advanceNoted_X2_advance : GoodIn wsX8_advanceNoted wsX2_advance := goodIn_r _ [10, 11, 12, 13, 14, 15, 16, 17, 18, 19, 20, 21, 22, 23, 24, 25, 26, 27, 28, 9, 29, 30, 31, 32, 33, 34, 35, 36, 37, 38, 39, 40, 41, 42, 43, 44, 45, 46, 47, 48, 49, 50, 51, 52, 53, 54, 55, 56, 57, 58, 59, 60, 61, 62, 63, 64, 65, 66, 67, 68, 69, 70, 71, 72, 73, 74, 75, 76, 77, 78, 79, 80, 81, 82, 83, 84, 85, 86, 87, 88, 89, 90, 91, 92, 93, 94, 95, 96, 97, 98, 99, 100, 101, 102, 103, 104, 105, 142, 143, 144, 145, 146, 147, 148, 149, 150, 151, 152, 153, 154, 155, 156, 157, 158, 159, 160, 161, 162, 163, 164, 165, 166, 167, 168] (by decide +kernel) (by decide +kernel)
set_option maxRecDepth 20000 in
theorem gX8_advanceNoted_X2_advance : GoodIn wsX8_advanceNoted (wsV RX8 125 RX2 yX2_advance wsX2_advance) := goodIn_app (goodIn_of _ (by decide +kernel)) ggX8_advanceNoted_X2_advance
set_option maxRecDepth 20000 in
theorem ggX8_advanceNoted_X1_addTick : GoodIn wsX8_advanceNoted wsX1_addTick := goodIn_r _ [110, 111, 112, 113, 31, 114, 169, 170, 171, 172, 173, 174, 175] (by decide +kernel) (by decide +kernel)
set_option maxRecDepth 20000 in
theorem gX8_advanceNoted_X1_addTick : GoodIn wsX8_advanceNoted (wsV RX8 196 RX1 yX1_addTick wsX1_addTick) := goodIn_app (goodIn_of _ (by decide +kernel)) ggX8_advanceNoted_X1_addTick
set_option maxRecDepth 20000 in
theorem ggX8_advanceNoted_X1_addLock : GoodIn wsX8_advanceNoted wsX1_addLock := goodIn_r _ [118, 119, 120, 121, 122, 123, 113, 31, 114, 124, 125, 126, 109, 127, 128, 129, 130, 131, 169, 170, 171, 172, 173, 174, 175] (by decide +kernel) (by decide +kernel)
set_option maxRecDepth 20000 in
theorem gX8_advanceNoted_X1_addLock : GoodIn wsX8_advanceNoted (wsV RX8 202 RX1 yX1_addLock wsX1_addLock) := goodIn_app (goodIn_of _ (by decide +kernel)) ggX8_advanceNoted_X1_addLock
theorem dX8_advanceNoted_0 : decode cX8_advanceNoted 0 = .ok (.aload_n 0, 1) := by decide +kernel
theorem dX8_advanceNoted_1 : decode cX8_advanceNoted 1 = .ok (.getfield 28, 3) := by decide +kernel
theorem dX8_advanceNoted_4 : decode cX8_advanceNoted 4 = .ok (.getfield 113, 3) := by decide +kernel
theorem dX8_advanceNoted_7 : decode cX8_advanceNoted 7 = .ok (.istore_n 2, 1) := by decide +kernel
theorem dX8_advanceNoted_8 : decode cX8_advanceNoted 8 = .ok (.aload_n 0, 1) := by decide +kernel
theorem dX8_advanceNoted_9 : decode cX8_advanceNoted 9 = .ok (.getfield 28, 3) := by decide +kernel
theorem dX8_advanceNoted_12 : decode cX8_advanceNoted 12 = .ok (.getfield 193, 3) := by decide +kernel
theorem dX8_advanceNoted_15 : decode cX8_advanceNoted 15 = .ok (.istore_n 3, 1) := by decide +kernel
theorem dX8_advanceNoted_16 : decode cX8_advanceNoted 16 = .ok (.aload_n 0, 1) := by decide +kernel
theorem dX8_advanceNoted_17 : decode cX8_advanceNoted 17 = .ok (.getfield 28, 3) := by decide +kernel
theorem dX8_advanceNoted_20 : decode cX8_advanceNoted 20 = .ok (.iload_n 1, 1) := by decide +kernel
theorem dX8_advanceNoted_21 : decode cX8_advanceNoted 21 = .ok (.invokevirtual 125, 3) := by decide +kernel
theorem dX8_advanceNoted_24 : decode cX8_advanceNoted 24 = .ok (.aload_n 0, 1) := by decide +kernel
theorem dX8_advanceNoted_25 : decode cX8_advanceNoted 25 = .ok (.getfield 38, 3) := by decide +kernel
theorem dX8_advanceNoted_28 : decode cX8_advanceNoted 28 = .ok (.iload_n 2, 1) := by decide +kernel
theorem dX8_advanceNoted_29 : decode cX8_advanceNoted 29 = .ok (.aload_n 0, 1) := by decide +kernel
theorem dX8_advanceNoted_30 : decode cX8_advanceNoted 30 = .ok (.getfield 28, 3) := by decide +kernel
theorem dX8_advanceNoted_33 : decode cX8_advanceNoted 33 = .ok (.getfield 113, 3) := by decide +kernel
theorem dX8_advanceNoted_36 : decode cX8_advanceNoted 36 = .ok (.invokevirtual 196, 3) := by decide +kernel
theorem dX8_advanceNoted_39 : decode cX8_advanceNoted 39 = .ok (.iload_n 2, 1) := by decide +kernel
theorem dX8_advanceNoted_40 : decode cX8_advanceNoted 40 = .ok (.ifCond .eq 28, 3) := by decide +kernel
theorem dX8_advanceNoted_43 : decode cX8_advanceNoted 43 = .ok (.aload_n 0, 1) := by decide +kernel
theorem dX8_advanceNoted_44 : decode cX8_advanceNoted 44 = .ok (.getfield 28, 3) := by decide +kernel
theorem dX8_advanceNoted_47 : decode cX8_advanceNoted 47 = .ok (.getfield 113, 3) := by decide +kernel
theorem dX8_advanceNoted_50 : decode cX8_advanceNoted 50 = .ok (.ifCond .ne 18, 3) := by decide +kernel
theorem dX8_advanceNoted_53 : decode cX8_advanceNoted 53 = .ok (.aload_n 0, 1) := by decide +kernel
theorem dX8_advanceNoted_54 : decode cX8_advanceNoted 54 = .ok (.getfield 38, 3) := by decide +kernel
theorem dX8_advanceNoted_57 : decode cX8_advanceNoted 57 = .ok (.aload_n 0, 1) := by decide +kernel
theorem dX8_advanceNoted_58 : decode cX8_advanceNoted 58 = .ok (.getfield 28, 3) := by decide +kernel
theorem dX8_advanceNoted_61 : decode cX8_advanceNoted 61 = .ok (.getfield 199, 3) := by decide +kernel
theorem dX8_advanceNoted_64 : decode cX8_advanceNoted 64 = .ok (.iload_n 3, 1) := by decide +kernel
theorem dX8_advanceNoted_65 : decode cX8_advanceNoted 65 = .ok (.invokevirtual 202, 3) := by decide +kernel
theorem dX8_advanceNoted_68 : decode cX8_advanceNoted 68 = .ok (.return_, 1) := by decide +kernel
set_option maxRecDepth 20000 in
theorem ggX8_sumUpTrials_X6_run : GoodIn wsX8_sumUpTrials wsX6_run := goodIn_r _ [11, 12, 13, 14, 15, 16, 17, 18, 19, 20, 21, 22, 23, 24, 25, 26, 27, 28, 29, 30, 31, 32, 33, 34, 35, 36, 37, 38, 39, 40, 41, 42, 43, 44, 45, 46, 47, 48, 49, 50, 51, 52, 53, 54, 55, 56, 57, 58, 59, 60, 61, 62, 63, 64, 65, 66, 67, 68, 69, 70, 71, 72, 73, 74, 75, 76, 77, 78, 79, 80, 81, 82, 83, 84, 85, 86, 87, 88, 89, 90, 91, 92, 93, 94, 95, 96, 97, 98, 99, 100, 101, 102, 103, 104, 105, 106, 107, 108, 109, 110, 111, 112, 113, 114, 115, 116, 117, 118, 119, 120, 121, 122, 123, 124, 125, 126, 127, 128, 129, 130, 131, 132, 133, 134, 135, 136, 137, 138, 179, 180, 181, 182, 177, 178, 183, 184, 185, 186, 187, 188, 189, 190, 191, 192, 193, 194, 195, 196, 197, 198, 199, 200, 201, 202, 203, 204, 205, 206, 207, 208, 209] (by decide +kernel) (by decide +kernel)
set_option maxRecDepth 20000 in
theorem gX8_sumUpTrials_X6_run : GoodIn wsX8_sumUpTrials (wsV RX8 158 RX6 yX6_run wsX6_run) := goodIn_app (goodIn_of _ (by decide +kernel)) ggX8_sumUpTrials_X6_run
set_option maxRecDepth 20000 in
theorem ggX8_sumUpTrials_X7_begin : GoodIn wsX8_sumUpTrials wsX7_begin := goodIn_r _ [143, 144, 145, 146, 147, 148, 149, 150, 210, 211, 212, 213, 214, 215, 216] (by decide +kernel) (by decide +kernel)
set_option maxRecDepth 20000 in
theorem gX8_sumUpTrials_X7_begin : GoodIn wsX8_sumUpTrials (wsV RX8 206 RX7 yX7_begin wsX7_begin) := goodIn_app (goodIn_of _ (by decide +kernel)) ggX8_sumUpTrials_X7_begin
set_option maxRecDepth 20000 in
theorem ggX8_sumUpTrials_X8_sumUpTrialsOf : GoodIn wsX8_sumUpTrials wsX8_sumUpTrialsOf := goodIn_r _ [154, 1, 2, 3, 4, 7, 8, 9, 10, 11, 12, 13, 14, 15, 16, 17, 18, 19, 20, 21, 22, 23, 24, 25, 26, 27, 28, 29, 30, 31, 32, 33, 34, 35, 36, 37, 38, 39, 40, 41, 42, 43, 44, 45, 46, 47, 48, 49, 50, 51, 52, 53, 54, 55, 56, 57, 58, 59, 60, 61, 62, 63, 64, 65, 66, 67, 68, 69, 70, 71, 72, 73, 74, 75, 76, 77, 78, 79, 80, 81, 82, 83, 84, 85, 86, 87, 88, 89, 90, 91, 92, 93, 94, 95, 96, 97, 98, 99, 100, 101, 102, 103, 104, 105, 106, 107, 108, 109, 110, 111, 112, 113, 114, 115, 116, 117, 118, 119, 120, 121, 122, 123, 124, 125, 126, 127, 128, 129, 130, 131, 132, 133, 134, 135, 136, 137, 138, 155, 156, 157, 158, 142, 159, 145, 160, 161, 146, 162, 147, 148, 163, 164, 165, 149, 166, 144, 150, 167, 168, 169, 170, 171, 172, 173, 174, 175, 176, 177, 178, 179, 180, 181, 182, 183, 184, 185, 186, 187, 188, 189, 190, 191, 192, 193, 194, 195, 196, 197, 198, 199, 200, 201, 202, 203, 204, 205, 206, 207, 208, 209, 210, 211, 212, 213, 214, 215, 216] (by decide +kernel) (by decide +kernel)
set_option maxRecDepth 20000 in
theorem gX8_sumUpTrials_X8_sumUpTrialsOf : GoodIn wsX8_sumUpTrials (wsV RX8 208 RX8 yX8_sumUpTrialsOf wsX8_sumUpTrialsOf) := goodIn_app (goodIn_of _ (by decide +kernel)) ggX8_sumUpTrials_X8_sumUpTrialsOf
theorem dX8_sumUpTrials_0 : decode cX8_sumUpTrials 0 = .ok (.aload_n 0, 1) := by decide +kernel
theorem dX8_sumUpTrials_1 : decode cX8_sumUpTrials 1 = .ok (.getfield 54, 3) := by decide +kernel
theorem dX8_sumUpTrials_4 : decode cX8_sumUpTrials 4 = .ok (.aload_n 0, 1) := by decide +kernel
theorem dX8_sumUpTrials_5 : decode cX8_sumUpTrials 5 = .ok (.getfield 45, 3) := by decide +kernel
theorem dX8_sumUpTrials_8 : decode cX8_sumUpTrials 8 = .ok (.iconst 0, 1) := by decide +kernel
theorem dX8_sumUpTrials_9 : decode cX8_sumUpTrials 9 = .ok (.iconst 0, 1) := by decide +kernel
theorem dX8_sumUpTrials_10 : decode cX8_sumUpTrials 10 = .ok (.aload_n 0, 1) := by decide +kernel
theorem dX8_sumUpTrials_11 : decode cX8_sumUpTrials 11 = .ok (.getfield 45, 3) := by decide +kernel
theorem dX8_sumUpTrials_14 : decode cX8_sumUpTrials 14 = .ok (.getfield 149, 3) := by decide +kernel
theorem dX8_sumUpTrials_17 : decode cX8_sumUpTrials 17 = .ok (.invokevirtual 158, 3) := by decide +kernel
theorem dX8_sumUpTrials_20 : decode cX8_sumUpTrials 20 = .ok (.aload_n 0, 1) := by decide +kernel
theorem dX8_sumUpTrials_21 : decode cX8_sumUpTrials 21 = .ok (.getfield 61, 3) := by decide +kernel
theorem dX8_sumUpTrials_24 : decode cX8_sumUpTrials 24 = .ok (.aload_n 0, 1) := by decide +kernel
theorem dX8_sumUpTrials_25 : decode cX8_sumUpTrials 25 = .ok (.getfield 54, 3) := by decide +kernel
theorem dX8_sumUpTrials_28 : decode cX8_sumUpTrials 28 = .ok (.getfield 205, 3) := by decide +kernel
theorem dX8_sumUpTrials_31 : decode cX8_sumUpTrials 31 = .ok (.getfield 177, 3) := by decide +kernel
theorem dX8_sumUpTrials_34 : decode cX8_sumUpTrials 34 = .ok (.invokevirtual 206, 3) := by decide +kernel
theorem dX8_sumUpTrials_37 : decode cX8_sumUpTrials 37 = .ok (.iconst 0, 1) := by decide +kernel
theorem dX8_sumUpTrials_38 : decode cX8_sumUpTrials 38 = .ok (.istore_n 1, 1) := by decide +kernel
theorem dX8_sumUpTrials_39 : decode cX8_sumUpTrials 39 = .ok (.iload_n 1, 1) := by decide +kernel
theorem dX8_sumUpTrials_40 : decode cX8_sumUpTrials 40 = .ok (.bipush 9, 2) := by decide +kernel
theorem dX8_sumUpTrials_42 : decode cX8_sumUpTrials 42 = .ok (.if_icmp .ge 21, 3) := by decide +kernel
theorem dX8_sumUpTrials_45 : decode cX8_sumUpTrials 45 = .ok (.aload_n 0, 1) := by decide +kernel
theorem dX8_sumUpTrials_46 : decode cX8_sumUpTrials 46 = .ok (.iload_n 1, 1) := by decide +kernel
theorem dX8_sumUpTrials_47 : decode cX8_sumUpTrials 47 = .ok (.iconst 0, 1) := by decide +kernel
theorem dX8_sumUpTrials_48 : decode cX8_sumUpTrials 48 = .ok (.invokevirtual 208, 3) := by decide +kernel
theorem dX8_sumUpTrials_51 : decode cX8_sumUpTrials 51 = .ok (.aload_n 0, 1) := by decide +kernel
theorem dX8_sumUpTrials_52 : decode cX8_sumUpTrials 52 = .ok (.iload_n 1, 1) := by decide +kernel
theorem dX8_sumUpTrials_53 : decode cX8_sumUpTrials 53 = .ok (.iconst 1, 1) := by decide +kernel
theorem dX8_sumUpTrials_54 : decode cX8_sumUpTrials 54 = .ok (.invokevirtual 208, 3) := by decide +kernel
theorem dX8_sumUpTrials_57 : decode cX8_sumUpTrials 57 = .ok (.iinc 1 1, 3) := by decide +kernel
theorem dX8_sumUpTrials_60 : decode cX8_sumUpTrials 60 = .ok (.goto (-21), 3) := by decide +kernel
theorem dX8_sumUpTrials_63 : decode cX8_sumUpTrials 63 = .ok (.return_, 1) := by decide +kernel
set_option maxRecDepth 20000 in
theorem ggX8_sumUpTrialsOf_X6_run : GoodIn wsX8_sumUpTrialsOf wsX6_run := goodIn_r _ [9, 10, 11, 12, 13, 14, 15, 16, 17, 18, 19, 20, 21, 22, 23, 24, 25, 26, 27, 28, 29, 30, 31, 32, 33, 34, 35, 36, 37, 38, 39, 40, 41, 42, 43, 44, 45, 46, 47, 48, 49, 50, 51, 52, 53, 54, 55, 56, 57, 58, 59, 60, 61, 62, 63, 64, 65, 66, 67, 68, 69, 70, 71, 72, 73, 74, 75, 76, 77, 78, 79, 80, 81, 82, 83, 84, 85, 86, 87, 88, 89, 90, 91, 92, 93, 94, 95, 96, 97, 98, 99, 100, 101, 102, 103, 104, 105, 106, 107, 108, 109, 110, 111, 112, 113, 114, 115, 116, 117, 118, 119, 120, 121, 122, 123, 124, 125, 126, 127, 128, 129, 130, 131, 132, 133, 134, 135, 136, 169, 170, 171, 172, 167, 168, 173, 174, 175, 176, 177, 178, 179, 180, 181, 182, 183, 184, 185, 186, 187, 188, 189, 190, 191, 192, 193, 194, 195, 196, 197, 198, 199] (by decide +kernel) (by decide +kernel)
set_option maxRecDepth 20000 in
theorem gX8_sumUpTrialsOf_X6_run : GoodIn wsX8_sumUpTrialsOf (wsV RX8 158 RX6 yX6_run wsX6_run) := goodIn_app (goodIn_of _ (by decide +kernel)) ggX8_sumUpTrialsOf_X6_run
set_option maxRecDepth 20000 in
theorem ggX8_sumUpTrialsOf_X3_setAt : GoodIn wsX8_sumUpTrialsOf wsX3_setAt := goodIn_r _ [55, 56, 57, 58, 59, 167, 168] (by decide +kernel) (by decide +kernel)
set_option maxRecDepth 20000 in
theorem gX8_sumUpTrialsOf_X3_setAt : GoodIn wsX8_sumUpTrialsOf (wsV RX8 155 RX3 yX3_setAt wsX3_setAt) := goodIn_app (goodIn_of _ (by decide +kernel)) ggX8_sumUpTrialsOf_X3_setAt
set_option maxRecDepth 20000 in
theorem ggX8_sumUpTrialsOf_X8_bit : GoodIn wsX8_sumUpTrialsOf wsX8_bit := goodIn_r _ [76] (by decide +kernel) (by decide +kernel)
set_option maxRecDepth 20000 in
theorem gX8_sumUpTrialsOf_X8_bit : GoodIn wsX8_sumUpTrialsOf (va_wsS RX8 211 yX8_bit wsX8_bit) := goodIn_app (goodIn_of _ (by decide +kernel)) ggX8_sumUpTrialsOf_X8_bit
set_option maxRecDepth 20000 in
theorem ggX8_sumUpTrialsOf_X7_add : GoodIn wsX8_sumUpTrialsOf wsX7_add := goodIn_r _ [142, 143, 144, 145, 146, 147, 148, 149, 150, 151, 82, 152, 153, 154, 155, 156, 200, 201, 202, 203, 204, 205, 206, 169, 170, 171, 172, 173, 174, 175, 176, 177, 178, 179, 180, 181, 182, 183, 184, 185, 186, 187, 188, 189, 190] (by decide +kernel) (by decide +kernel)
set_option maxRecDepth 20000 in
theorem gX8_sumUpTrialsOf_X7_add : GoodIn wsX8_sumUpTrialsOf (wsV RX8 214 RX7 yX7_add wsX7_add) := goodIn_app (goodIn_of _ (by decide +kernel)) ggX8_sumUpTrialsOf_X7_add
theorem dX8_sumUpTrialsOf_0 : decode cX8_sumUpTrialsOf 0 = .ok (.aload_n 0, 1) := by decide +kernel
theorem dX8_sumUpTrialsOf_1 : decode cX8_sumUpTrialsOf 1 = .ok (.getfield 54, 3) := by decide +kernel
theorem dX8_sumUpTrialsOf_4 : decode cX8_sumUpTrialsOf 4 = .ok (.aload_n 0, 1) := by decide +kernel
theorem dX8_sumUpTrialsOf_5 : decode cX8_sumUpTrialsOf 5 = .ok (.getfield 45, 3) := by decide +kernel
theorem dX8_sumUpTrialsOf_8 : decode cX8_sumUpTrialsOf 8 = .ok (.iload_n 1, 1) := by decide +kernel
theorem dX8_sumUpTrialsOf_9 : decode cX8_sumUpTrialsOf 9 = .ok (.iload_n 2, 1) := by decide +kernel
theorem dX8_sumUpTrialsOf_10 : decode cX8_sumUpTrialsOf 10 = .ok (.aload_n 0, 1) := by decide +kernel
theorem dX8_sumUpTrialsOf_11 : decode cX8_sumUpTrialsOf 11 = .ok (.getfield 45, 3) := by decide +kernel
theorem dX8_sumUpTrialsOf_14 : decode cX8_sumUpTrialsOf 14 = .ok (.getfield 149, 3) := by decide +kernel
theorem dX8_sumUpTrialsOf_17 : decode cX8_sumUpTrialsOf 17 = .ok (.invokevirtual 158, 3) := by decide +kernel
theorem dX8_sumUpTrialsOf_20 : decode cX8_sumUpTrialsOf 20 = .ok (.aload_n 0, 1) := by decide +kernel
theorem dX8_sumUpTrialsOf_21 : decode cX8_sumUpTrialsOf 21 = .ok (.getfield 45, 3) := by decide +kernel
theorem dX8_sumUpTrialsOf_24 : decode cX8_sumUpTrialsOf 24 = .ok (.getfield 149, 3) := by decide +kernel
theorem dX8_sumUpTrialsOf_27 : decode cX8_sumUpTrialsOf 27 = .ok (.iconst 1, 1) := by decide +kernel
theorem dX8_sumUpTrialsOf_28 : decode cX8_sumUpTrialsOf 28 = .ok (.isub, 1) := by decide +kernel
theorem dX8_sumUpTrialsOf_29 : decode cX8_sumUpTrialsOf 29 = .ok (.istore_n 3, 1) := by decide +kernel
theorem dX8_sumUpTrialsOf_30 : decode cX8_sumUpTrialsOf 30 = .ok (.iload_n 3, 1) := by decide +kernel
theorem dX8_sumUpTrialsOf_31 : decode cX8_sumUpTrialsOf 31 = .ok (.ifCond .lt 51, 3) := by decide +kernel
theorem dX8_sumUpTrialsOf_34 : decode cX8_sumUpTrialsOf 34 = .ok (.aload_n 0, 1) := by decide +kernel
theorem dX8_sumUpTrialsOf_35 : decode cX8_sumUpTrialsOf 35 = .ok (.getfield 45, 3) := by decide +kernel
theorem dX8_sumUpTrialsOf_38 : decode cX8_sumUpTrialsOf 38 = .ok (.iload_n 3, 1) := by decide +kernel
theorem dX8_sumUpTrialsOf_39 : decode cX8_sumUpTrialsOf 39 = .ok (.invokevirtual 155, 3) := by decide +kernel
theorem dX8_sumUpTrialsOf_42 : decode cX8_sumUpTrialsOf 42 = .ok (.iload_n 1, 1) := by decide +kernel
theorem dX8_sumUpTrialsOf_43 : decode cX8_sumUpTrialsOf 43 = .ok (.invokestatic 211, 3) := by decide +kernel
theorem dX8_sumUpTrialsOf_46 : decode cX8_sumUpTrialsOf 46 = .ok (.iload_n 2, 1) := by decide +kernel
theorem dX8_sumUpTrialsOf_47 : decode cX8_sumUpTrialsOf 47 = .ok (.if_icmp .eq 17, 3) := by decide +kernel
theorem dX8_sumUpTrialsOf_50 : decode cX8_sumUpTrialsOf 50 = .ok (.aload_n 0, 1) := by decide +kernel
theorem dX8_sumUpTrialsOf_51 : decode cX8_sumUpTrialsOf 51 = .ok (.getfield 54, 3) := by decide +kernel
theorem dX8_sumUpTrialsOf_54 : decode cX8_sumUpTrialsOf 54 = .ok (.aload_n 0, 1) := by decide +kernel
theorem dX8_sumUpTrialsOf_55 : decode cX8_sumUpTrialsOf 55 = .ok (.getfield 45, 3) := by decide +kernel
theorem dX8_sumUpTrialsOf_58 : decode cX8_sumUpTrialsOf 58 = .ok (.iload_n 1, 1) := by decide +kernel
theorem dX8_sumUpTrialsOf_59 : decode cX8_sumUpTrialsOf 59 = .ok (.iload_n 2, 1) := by decide +kernel
theorem dX8_sumUpTrialsOf_60 : decode cX8_sumUpTrialsOf 60 = .ok (.iload_n 3, 1) := by decide +kernel
theorem dX8_sumUpTrialsOf_61 : decode cX8_sumUpTrialsOf 61 = .ok (.invokevirtual 158, 3) := by decide +kernel
theorem dX8_sumUpTrialsOf_64 : decode cX8_sumUpTrialsOf 64 = .ok (.aload_n 0, 1) := by decide +kernel
theorem dX8_sumUpTrialsOf_65 : decode cX8_sumUpTrialsOf 65 = .ok (.getfield 61, 3) := by decide +kernel
theorem dX8_sumUpTrialsOf_68 : decode cX8_sumUpTrialsOf 68 = .ok (.aload_n 0, 1) := by decide +kernel
theorem dX8_sumUpTrialsOf_69 : decode cX8_sumUpTrialsOf 69 = .ok (.getfield 54, 3) := by decide +kernel
theorem dX8_sumUpTrialsOf_72 : decode cX8_sumUpTrialsOf 72 = .ok (.iload_n 3, 1) := by decide +kernel
theorem dX8_sumUpTrialsOf_73 : decode cX8_sumUpTrialsOf 73 = .ok (.invokevirtual 214, 3) := by decide +kernel
theorem dX8_sumUpTrialsOf_76 : decode cX8_sumUpTrialsOf 76 = .ok (.iinc 3 (-1), 3) := by decide +kernel
theorem dX8_sumUpTrialsOf_79 : decode cX8_sumUpTrialsOf 79 = .ok (.goto (-49), 3) := by decide +kernel
theorem dX8_sumUpTrialsOf_82 : decode cX8_sumUpTrialsOf 82 = .ok (.return_, 1) := by decide +kernel
theorem dX8_within_0 : decode cX8_within 0 = .ok (.iload_n 0, 1) := by decide +kernel
theorem dX8_within_1 : decode cX8_within 1 = .ok (.iload_n 1, 1) := by decide +kernel
theorem dX8_within_2 : decode cX8_within 2 = .ok (.if_icmp .lt 12, 3) := by decide +kernel
theorem dX8_within_5 : decode cX8_within 5 = .ok (.iload_n 0, 1) := by decide +kernel
theorem dX8_within_6 : decode cX8_within 6 = .ok (.iload_n 2, 1) := by decide +kernel
theorem dX8_within_7 : decode cX8_within 7 = .ok (.if_icmp .gt 7, 3) := by decide +kernel
theorem dX8_within_10 : decode cX8_within 10 = .ok (.iconst 1, 1) := by decide +kernel
theorem dX8_within_11 : decode cX8_within 11 = .ok (.goto 4, 3) := by decide +kernel
theorem dX8_within_14 : decode cX8_within 14 = .ok (.iconst 0, 1) := by decide +kernel
theorem dX8_within_15 : decode cX8_within 15 = .ok (.ireturn, 1) := by decide +kernel
set_option maxRecDepth 20000 in
theorem ggX8_isSet_X8_within : GoodIn wsX8_isSet wsX8_within := goodIn_r _ [4] (by decide +kernel) (by decide +kernel)
set_option maxRecDepth 20000 in
theorem gX8_isSet_X8_within : GoodIn wsX8_isSet (va_wsS RX8 76 yX8_within wsX8_within) := goodIn_app (goodIn_of _ (by decide +kernel)) ggX8_isSet_X8_within
theorem dX8_isSet_0 : decode cX8_isSet 0 = .ok (.iload_n 0, 1) := by decide +kernel
theorem dX8_isSet_1 : decode cX8_isSet 1 = .ok (.iconst 0, 1) := by decide +kernel
theorem dX8_isSet_2 : decode cX8_isSet 2 = .ok (.sipush 511, 3) := by decide +kernel
theorem dX8_isSet_5 : decode cX8_isSet 5 = .ok (.invokestatic 76, 3) := by decide +kernel
theorem dX8_isSet_8 : decode cX8_isSet 8 = .ok (.ireturn, 1) := by decide +kernel
theorem dX8_bit_0 : decode cX8_bit 0 = .ok (.iload_n 0, 1) := by decide +kernel
theorem dX8_bit_1 : decode cX8_bit 1 = .ok (.iload_n 1, 1) := by decide +kernel
theorem dX8_bit_2 : decode cX8_bit 2 = .ok (.ishr, 1) := by decide +kernel
theorem dX8_bit_3 : decode cX8_bit 3 = .ok (.iconst 1, 1) := by decide +kernel
theorem dX8_bit_4 : decode cX8_bit 4 = .ok (.iand, 1) := by decide +kernel
theorem dX8_bit_5 : decode cX8_bit 5 = .ok (.ireturn, 1) := by decide +kernel
set_option maxRecDepth 20000 in
theorem ggX8_pairCount_X8_bit : GoodIn wsX8_pairCount wsX8_bit := goodIn_r _ [4] (by decide +kernel) (by decide +kernel)
set_option maxRecDepth 20000 in
theorem gX8_pairCount_X8_bit : GoodIn wsX8_pairCount (va_wsS RX8 211 yX8_bit wsX8_bit) := goodIn_app (goodIn_of _ (by decide +kernel)) ggX8_pairCount_X8_bit
theorem dX8_pairCount_0 : decode cX8_pairCount 0 = .ok (.iload_n 0, 1) := by decide +kernel
theorem dX8_pairCount_1 : decode cX8_pairCount 1 = .ok (.iload_n 1, 1) := by decide +kernel
theorem dX8_pairCount_2 : decode cX8_pairCount 2 = .ok (.invokestatic 211, 3) := by decide +kernel
theorem dX8_pairCount_5 : decode cX8_pairCount 5 = .ok (.iload_n 0, 1) := by decide +kernel
theorem dX8_pairCount_6 : decode cX8_pairCount 6 = .ok (.iload_n 1, 1) := by decide +kernel
theorem dX8_pairCount_7 : decode cX8_pairCount 7 = .ok (.iconst 1, 1) := by decide +kernel
theorem dX8_pairCount_8 : decode cX8_pairCount 8 = .ok (.iadd, 1) := by decide +kernel
theorem dX8_pairCount_9 : decode cX8_pairCount 9 = .ok (.invokestatic 211, 3) := by decide +kernel
theorem dX8_pairCount_12 : decode cX8_pairCount 12 = .ok (.iadd, 1) := by decide +kernel
theorem dX8_pairCount_13 : decode cX8_pairCount 13 = .ok (.ireturn, 1) := by decide +kernel
theorem dX9_init_0 : decode cX9_init 0 = .ok (.aload_n 0, 1) := by decide +kernel
theorem dX9_init_1 : decode cX9_init 1 = .ok (.invokespecial 1, 3) := by decide +kernel
theorem dX9_init_4 : decode cX9_init 4 = .ok (.aload_n 0, 1) := by decide +kernel
theorem dX9_init_5 : decode cX9_init 5 = .ok (.iconst 2, 1) := by decide +kernel
theorem dX9_init_6 : decode cX9_init 6 = .ok (.putfield 7, 3) := by decide +kernel
theorem dX9_init_9 : decode cX9_init 9 = .ok (.aload_n 0, 1) := by decide +kernel
theorem dX9_init_10 : decode cX9_init 10 = .ok (.iconst 3, 1) := by decide +kernel
theorem dX9_init_11 : decode cX9_init 11 = .ok (.putfield 13, 3) := by decide +kernel
theorem dX9_init_14 : decode cX9_init 14 = .ok (.aload_n 0, 1) := by decide +kernel
theorem dX9_init_15 : decode cX9_init 15 = .ok (.bipush 12, 2) := by decide +kernel
theorem dX9_init_17 : decode cX9_init 17 = .ok (.putfield 16, 3) := by decide +kernel
theorem dX9_init_20 : decode cX9_init 20 = .ok (.aload_n 0, 1) := by decide +kernel
theorem dX9_init_21 : decode cX9_init 21 = .ok (.iconst 1, 1) := by decide +kernel
theorem dX9_init_22 : decode cX9_init 22 = .ok (.putfield 19, 3) := by decide +kernel
theorem dX9_init_25 : decode cX9_init 25 = .ok (.aload_n 0, 1) := by decide +kernel
theorem dX9_init_26 : decode cX9_init 26 = .ok (.iconst 4, 1) := by decide +kernel
theorem dX9_init_27 : decode cX9_init 27 = .ok (.putfield 22, 3) := by decide +kernel
theorem dX9_init_30 : decode cX9_init 30 = .ok (.aload_n 0, 1) := by decide +kernel
theorem dX9_init_31 : decode cX9_init 31 = .ok (.bipush 9, 2) := by decide +kernel
theorem dX9_init_33 : decode cX9_init 33 = .ok (.newarray .int, 2) := by decide +kernel
theorem dX9_init_35 : decode cX9_init 35 = .ok (.putfield 25, 3) := by decide +kernel
theorem dX9_init_38 : decode cX9_init 38 = .ok (.aload_n 0, 1) := by decide +kernel
theorem dX9_init_39 : decode cX9_init 39 = .ok (.iconst 2, 1) := by decide +kernel
theorem dX9_init_40 : decode cX9_init 40 = .ok (.newarray .int, 2) := by decide +kernel
theorem dX9_init_42 : decode cX9_init 42 = .ok (.putfield 29, 3) := by decide +kernel
theorem dX9_init_45 : decode cX9_init 45 = .ok (.aload_n 0, 1) := by decide +kernel
theorem dX9_init_46 : decode cX9_init 46 = .ok (.iconst 1, 1) := by decide +kernel
theorem dX9_init_47 : decode cX9_init 47 = .ok (.putfield 32, 3) := by decide +kernel
theorem dX9_init_50 : decode cX9_init 50 = .ok (.aload_n 0, 1) := by decide +kernel
theorem dX9_init_51 : decode cX9_init 51 = .ok (.iconst 3, 1) := by decide +kernel
theorem dX9_init_52 : decode cX9_init 52 = .ok (.newarray .int, 2) := by decide +kernel
theorem dX9_init_54 : decode cX9_init 54 = .ok (.putfield 35, 3) := by decide +kernel
theorem dX9_init_57 : decode cX9_init 57 = .ok (.aload_n 0, 1) := by decide +kernel
theorem dX9_init_58 : decode cX9_init 58 = .ok (.bipush (-9), 2) := by decide +kernel
theorem dX9_init_60 : decode cX9_init 60 = .ok (.putfield 38, 3) := by decide +kernel
theorem dX9_init_63 : decode cX9_init 63 = .ok (.aload_n 0, 1) := by decide +kernel
theorem dX9_init_64 : decode cX9_init 64 = .ok (.bipush 90, 2) := by decide +kernel
theorem dX9_init_66 : decode cX9_init 66 = .ok (.newarray .int, 2) := by decide +kernel
theorem dX9_init_68 : decode cX9_init 68 = .ok (.putfield 41, 3) := by decide +kernel
theorem dX9_init_71 : decode cX9_init 71 = .ok (.aload_n 0, 1) := by decide +kernel
theorem dX9_init_72 : decode cX9_init 72 = .ok (.iconst 5, 1) := by decide +kernel
theorem dX9_init_73 : decode cX9_init 73 = .ok (.newarray .int, 2) := by decide +kernel
theorem dX9_init_75 : decode cX9_init 75 = .ok (.putfield 44, 3) := by decide +kernel
theorem dX9_init_78 : decode cX9_init 78 = .ok (.aload_n 0, 1) := by decide +kernel
theorem dX9_init_79 : decode cX9_init 79 = .ok (.iconst 5, 1) := by decide +kernel
theorem dX9_init_80 : decode cX9_init 80 = .ok (.newarray .int, 2) := by decide +kernel
theorem dX9_init_82 : decode cX9_init 82 = .ok (.putfield 47, 3) := by decide +kernel
theorem dX9_init_85 : decode cX9_init 85 = .ok (.aload_n 0, 1) := by decide +kernel
theorem dX9_init_86 : decode cX9_init 86 = .ok (.bipush 32, 2) := by decide +kernel
theorem dX9_init_88 : decode cX9_init 88 = .ok (.newarray .int, 2) := by decide +kernel
theorem dX9_init_90 : decode cX9_init 90 = .ok (.putfield 50, 3) := by decide +kernel
theorem dX9_init_93 : decode cX9_init 93 = .ok (.aload_n 0, 1) := by decide +kernel
theorem dX9_init_94 : decode cX9_init 94 = .ok (.iconst 5, 1) := by decide +kernel
theorem dX9_init_95 : decode cX9_init 95 = .ok (.newarray .int, 2) := by decide +kernel
theorem dX9_init_97 : decode cX9_init 97 = .ok (.putfield 53, 3) := by decide +kernel
theorem dX9_init_100 : decode cX9_init 100 = .ok (.aload_n 0, 1) := by decide +kernel
theorem dX9_init_101 : decode cX9_init 101 = .ok (.bipush 11, 2) := by decide +kernel
theorem dX9_init_103 : decode cX9_init 103 = .ok (.newarray .int, 2) := by decide +kernel
theorem dX9_init_105 : decode cX9_init 105 = .ok (.putfield 56, 3) := by decide +kernel
theorem dX9_init_108 : decode cX9_init 108 = .ok (.aload_n 0, 1) := by decide +kernel
theorem dX9_init_109 : decode cX9_init 109 = .ok (.sipush 1400, 3) := by decide +kernel
theorem dX9_init_112 : decode cX9_init 112 = .ok (.newarray .long, 2) := by decide +kernel
theorem dX9_init_114 : decode cX9_init 114 = .ok (.putfield 59, 3) := by decide +kernel
theorem dX9_init_117 : decode cX9_init 117 = .ok (.aload_n 0, 1) := by decide +kernel
theorem dX9_init_118 : decode cX9_init 118 = .ok (.sipush 1400, 3) := by decide +kernel
theorem dX9_init_121 : decode cX9_init 121 = .ok (.newarray .int, 2) := by decide +kernel
theorem dX9_init_123 : decode cX9_init 123 = .ok (.putfield 63, 3) := by decide +kernel
theorem dX9_init_126 : decode cX9_init 126 = .ok (.iconst 0, 1) := by decide +kernel
theorem dX9_init_127 : decode cX9_init 127 = .ok (.istore_n 1, 1) := by decide +kernel
theorem dX9_init_128 : decode cX9_init 128 = .ok (.iload_n 1, 1) := by decide +kernel
theorem dX9_init_129 : decode cX9_init 129 = .ok (.bipush 9, 2) := by decide +kernel
theorem dX9_init_131 : decode cX9_init 131 = .ok (.if_icmp .ge 16, 3) := by decide +kernel
theorem dX9_init_134 : decode cX9_init 134 = .ok (.aload_n 0, 1) := by decide +kernel
theorem dX9_init_135 : decode cX9_init 135 = .ok (.getfield 25, 3) := by decide +kernel
theorem dX9_init_138 : decode cX9_init 138 = .ok (.iload_n 1, 1) := by decide +kernel
theorem dX9_init_139 : decode cX9_init 139 = .ok (.iconst 2, 1) := by decide +kernel
theorem dX9_init_140 : decode cX9_init 140 = .ok (.iastore, 1) := by decide +kernel
theorem dX9_init_141 : decode cX9_init 141 = .ok (.iinc 1 1, 3) := by decide +kernel
theorem dX9_init_144 : decode cX9_init 144 = .ok (.goto (-16), 3) := by decide +kernel
theorem dX9_init_147 : decode cX9_init 147 = .ok (.aload_n 0, 1) := by decide +kernel
theorem dX9_init_148 : decode cX9_init 148 = .ok (.getfield 29, 3) := by decide +kernel
theorem dX9_init_151 : decode cX9_init 151 = .ok (.iconst 0, 1) := by decide +kernel
theorem dX9_init_152 : decode cX9_init 152 = .ok (.iconst 2, 1) := by decide +kernel
theorem dX9_init_153 : decode cX9_init 153 = .ok (.iastore, 1) := by decide +kernel
theorem dX9_init_154 : decode cX9_init 154 = .ok (.aload_n 0, 1) := by decide +kernel
theorem dX9_init_155 : decode cX9_init 155 = .ok (.getfield 29, 3) := by decide +kernel
theorem dX9_init_158 : decode cX9_init 158 = .ok (.iconst 1, 1) := by decide +kernel
theorem dX9_init_159 : decode cX9_init 159 = .ok (.iconst 2, 1) := by decide +kernel
theorem dX9_init_160 : decode cX9_init 160 = .ok (.iastore, 1) := by decide +kernel
theorem dX9_init_161 : decode cX9_init 161 = .ok (.return_, 1) := by decide +kernel
theorem dX9_within_0 : decode cX9_within 0 = .ok (.iload_n 0, 1) := by decide +kernel
theorem dX9_within_1 : decode cX9_within 1 = .ok (.iload_n 1, 1) := by decide +kernel
theorem dX9_within_2 : decode cX9_within 2 = .ok (.if_icmp .lt 12, 3) := by decide +kernel
theorem dX9_within_5 : decode cX9_within 5 = .ok (.iload_n 0, 1) := by decide +kernel
theorem dX9_within_6 : decode cX9_within 6 = .ok (.iload_n 2, 1) := by decide +kernel
theorem dX9_within_7 : decode cX9_within 7 = .ok (.if_icmp .gt 7, 3) := by decide +kernel
theorem dX9_within_10 : decode cX9_within 10 = .ok (.iconst 1, 1) := by decide +kernel
theorem dX9_within_11 : decode cX9_within 11 = .ok (.goto 4, 3) := by decide +kernel
theorem dX9_within_14 : decode cX9_within 14 = .ok (.iconst 0, 1) := by decide +kernel
theorem dX9_within_15 : decode cX9_within 15 = .ok (.ireturn, 1) := by decide +kernel
set_option maxRecDepth 20000 in
theorem ggX9_isSet_X9_within : GoodIn wsX9_isSet wsX9_within := goodIn_r _ [4] (by decide +kernel) (by decide +kernel)
set_option maxRecDepth 20000 in
theorem gX9_isSet_X9_within : GoodIn wsX9_isSet (va_wsS RX9 66 yX9_within wsX9_within) := goodIn_app (goodIn_of _ (by decide +kernel)) ggX9_isSet_X9_within
theorem dX9_isSet_0 : decode cX9_isSet 0 = .ok (.iload_n 0, 1) := by decide +kernel
theorem dX9_isSet_1 : decode cX9_isSet 1 = .ok (.iconst 0, 1) := by decide +kernel
theorem dX9_isSet_2 : decode cX9_isSet 2 = .ok (.sipush 511, 3) := by decide +kernel
theorem dX9_isSet_5 : decode cX9_isSet 5 = .ok (.invokestatic 66, 3) := by decide +kernel
theorem dX9_isSet_8 : decode cX9_isSet 8 = .ok (.ireturn, 1) := by decide +kernel
theorem dX9_bit_0 : decode cX9_bit 0 = .ok (.iload_n 0, 1) := by decide +kernel
theorem dX9_bit_1 : decode cX9_bit 1 = .ok (.iload_n 1, 1) := by decide +kernel
theorem dX9_bit_2 : decode cX9_bit 2 = .ok (.ishr, 1) := by decide +kernel
theorem dX9_bit_3 : decode cX9_bit 3 = .ok (.iconst 1, 1) := by decide +kernel
theorem dX9_bit_4 : decode cX9_bit 4 = .ok (.iand, 1) := by decide +kernel
theorem dX9_bit_5 : decode cX9_bit 5 = .ok (.ireturn, 1) := by decide +kernel
set_option maxRecDepth 20000 in
theorem ggX9_seen_X9_bit : GoodIn wsX9_seen wsX9_bit := goodIn_r _ [5] (by decide +kernel) (by decide +kernel)
set_option maxRecDepth 20000 in
theorem gX9_seen_X9_bit : GoodIn wsX9_seen (va_wsS RX9 70 yX9_bit wsX9_bit) := goodIn_app (goodIn_of _ (by decide +kernel)) ggX9_seen_X9_bit
theorem dX9_seen_0 : decode cX9_seen 0 = .ok (.iconst 0, 1) := by decide +kernel
theorem dX9_seen_1 : decode cX9_seen 1 = .ok (.istore_n 2, 1) := by decide +kernel
theorem dX9_seen_2 : decode cX9_seen 2 = .ok (.iconst 0, 1) := by decide +kernel
theorem dX9_seen_3 : decode cX9_seen 3 = .ok (.istore_n 3, 1) := by decide +kernel
theorem dX9_seen_4 : decode cX9_seen 4 = .ok (.iload_n 3, 1) := by decide +kernel
theorem dX9_seen_5 : decode cX9_seen 5 = .ok (.bipush 9, 2) := by decide +kernel
theorem dX9_seen_7 : decode cX9_seen 7 = .ok (.if_icmp .ge 38, 3) := by decide +kernel
theorem dX9_seen_10 : decode cX9_seen 10 = .ok (.iload_n 2, 1) := by decide +kernel
theorem dX9_seen_11 : decode cX9_seen 11 = .ok (.aload_n 0, 1) := by decide +kernel
theorem dX9_seen_12 : decode cX9_seen 12 = .ok (.getfield 25, 3) := by decide +kernel
theorem dX9_seen_15 : decode cX9_seen 15 = .ok (.iload_n 3, 1) := by decide +kernel
theorem dX9_seen_16 : decode cX9_seen 16 = .ok (.iaload, 1) := by decide +kernel
theorem dX9_seen_17 : decode cX9_seen 17 = .ok (.iconst 2, 1) := by decide +kernel
theorem dX9_seen_18 : decode cX9_seen 18 = .ok (.if_icmp .ne 11, 3) := by decide +kernel
theorem dX9_seen_21 : decode cX9_seen 21 = .ok (.iload_n 1, 1) := by decide +kernel
theorem dX9_seen_22 : decode cX9_seen 22 = .ok (.iload_n 3, 1) := by decide +kernel
theorem dX9_seen_23 : decode cX9_seen 23 = .ok (.invokestatic 70, 3) := by decide +kernel
theorem dX9_seen_26 : decode cX9_seen 26 = .ok (.goto 9, 3) := by decide +kernel
theorem dX9_seen_29 : decode cX9_seen 29 = .ok (.aload_n 0, 1) := by decide +kernel
theorem dX9_seen_30 : decode cX9_seen 30 = .ok (.getfield 25, 3) := by decide +kernel
theorem dX9_seen_33 : decode cX9_seen 33 = .ok (.iload_n 3, 1) := by decide +kernel
theorem dX9_seen_34 : decode cX9_seen 34 = .ok (.iaload, 1) := by decide +kernel
theorem dX9_seen_35 : decode cX9_seen 35 = .ok (.iload_n 3, 1) := by decide +kernel
theorem dX9_seen_36 : decode cX9_seen 36 = .ok (.ishl, 1) := by decide +kernel
theorem dX9_seen_37 : decode cX9_seen 37 = .ok (.ior, 1) := by decide +kernel
theorem dX9_seen_38 : decode cX9_seen 38 = .ok (.istore_n 2, 1) := by decide +kernel
theorem dX9_seen_39 : decode cX9_seen 39 = .ok (.iinc 3 1, 3) := by decide +kernel
theorem dX9_seen_42 : decode cX9_seen 42 = .ok (.goto (-38), 3) := by decide +kernel
theorem dX9_seen_45 : decode cX9_seen 45 = .ok (.iload_n 2, 1) := by decide +kernel
theorem dX9_seen_46 : decode cX9_seen 46 = .ok (.ireturn, 1) := by decide +kernel
theorem dX9_isOn_0 : decode cX9_isOn 0 = .ok (.iload_n 0, 1) := by decide +kernel
theorem dX9_isOn_1 : decode cX9_isOn 1 = .ok (.iconst 2, 1) := by decide +kernel
theorem dX9_isOn_2 : decode cX9_isOn 2 = .ok (.iload_n 1, 1) := by decide +kernel
theorem dX9_isOn_3 : decode cX9_isOn 3 = .ok (.imul, 1) := by decide +kernel
theorem dX9_isOn_4 : decode cX9_isOn 4 = .ok (.ishr, 1) := by decide +kernel
theorem dX9_isOn_5 : decode cX9_isOn 5 = .ok (.iconst 3, 1) := by decide +kernel
theorem dX9_isOn_6 : decode cX9_isOn 6 = .ok (.iand, 1) := by decide +kernel
theorem dX9_isOn_7 : decode cX9_isOn 7 = .ok (.iconst 3, 1) := by decide +kernel
theorem dX9_isOn_8 : decode cX9_isOn 8 = .ok (.if_icmp .ne 7, 3) := by decide +kernel
theorem dX9_isOn_11 : decode cX9_isOn 11 = .ok (.iconst 1, 1) := by decide +kernel
theorem dX9_isOn_12 : decode cX9_isOn 12 = .ok (.goto 4, 3) := by decide +kernel
theorem dX9_isOn_15 : decode cX9_isOn 15 = .ok (.iconst 0, 1) := by decide +kernel
theorem dX9_isOn_16 : decode cX9_isOn 16 = .ok (.ireturn, 1) := by decide +kernel
theorem dX9_mutingBy_0 : decode cX9_mutingBy 0 = .ok (.iload_n 0, 1) := by decide +kernel
theorem dX9_mutingBy_1 : decode cX9_mutingBy 1 = .ok (.iconst 4, 1) := by decide +kernel
theorem dX9_mutingBy_2 : decode cX9_mutingBy 2 = .ok (.if_icmp .ne 15, 3) := by decide +kernel
theorem dX9_mutingBy_5 : decode cX9_mutingBy 5 = .ok (.iload_n 1, 1) := by decide +kernel
theorem dX9_mutingBy_6 : decode cX9_mutingBy 6 = .ok (.iload_n 2, 1) := by decide +kernel
theorem dX9_mutingBy_7 : decode cX9_mutingBy 7 = .ok (.iadd, 1) := by decide +kernel
theorem dX9_mutingBy_8 : decode cX9_mutingBy 8 = .ok (.ifCond .ne 7, 3) := by decide +kernel
theorem dX9_mutingBy_11 : decode cX9_mutingBy 11 = .ok (.iconst 0, 1) := by decide +kernel
theorem dX9_mutingBy_12 : decode cX9_mutingBy 12 = .ok (.goto 4, 3) := by decide +kernel
theorem dX9_mutingBy_15 : decode cX9_mutingBy 15 = .ok (.iconst 4, 1) := by decide +kernel
theorem dX9_mutingBy_16 : decode cX9_mutingBy 16 = .ok (.ireturn, 1) := by decide +kernel
theorem dX9_mutingBy_17 : decode cX9_mutingBy 17 = .ok (.iload_n 1, 1) := by decide +kernel
theorem dX9_mutingBy_18 : decode cX9_mutingBy 18 = .ok (.iload_n 2, 1) := by decide +kernel
theorem dX9_mutingBy_19 : decode cX9_mutingBy 19 = .ok (.iadd, 1) := by decide +kernel
theorem dX9_mutingBy_20 : decode cX9_mutingBy 20 = .ok (.ifCond .ne 14, 3) := by decide +kernel
theorem dX9_mutingBy_23 : decode cX9_mutingBy 23 = .ok (.iload_n 0, 1) := by decide +kernel
theorem dX9_mutingBy_24 : decode cX9_mutingBy 24 = .ok (.iconst 2, 1) := by decide +kernel
theorem dX9_mutingBy_25 : decode cX9_mutingBy 25 = .ok (.if_icmp .ne 7, 3) := by decide +kernel
theorem dX9_mutingBy_28 : decode cX9_mutingBy 28 = .ok (.iconst 4, 1) := by decide +kernel
theorem dX9_mutingBy_29 : decode cX9_mutingBy 29 = .ok (.goto 4, 3) := by decide +kernel
theorem dX9_mutingBy_32 : decode cX9_mutingBy 32 = .ok (.iconst 0, 1) := by decide +kernel
theorem dX9_mutingBy_33 : decode cX9_mutingBy 33 = .ok (.ireturn, 1) := by decide +kernel
theorem dX9_mutingBy_34 : decode cX9_mutingBy 34 = .ok (.iload_n 1, 1) := by decide +kernel
theorem dX9_mutingBy_35 : decode cX9_mutingBy 35 = .ok (.iload_n 2, 1) := by decide +kernel
theorem dX9_mutingBy_36 : decode cX9_mutingBy 36 = .ok (.iadd, 1) := by decide +kernel
theorem dX9_mutingBy_37 : decode cX9_mutingBy 37 = .ok (.iconst 2, 1) := by decide +kernel
theorem dX9_mutingBy_38 : decode cX9_mutingBy 38 = .ok (.if_icmp .ne 13, 3) := by decide +kernel
theorem dX9_mutingBy_41 : decode cX9_mutingBy 41 = .ok (.iload_n 0, 1) := by decide +kernel
theorem dX9_mutingBy_42 : decode cX9_mutingBy 42 = .ok (.ifCond .ne 7, 3) := by decide +kernel
theorem dX9_mutingBy_45 : decode cX9_mutingBy 45 = .ok (.iconst 4, 1) := by decide +kernel
theorem dX9_mutingBy_46 : decode cX9_mutingBy 46 = .ok (.goto 4, 3) := by decide +kernel
theorem dX9_mutingBy_49 : decode cX9_mutingBy 49 = .ok (.iconst 2, 1) := by decide +kernel
theorem dX9_mutingBy_50 : decode cX9_mutingBy 50 = .ok (.ireturn, 1) := by decide +kernel
theorem dX9_mutingBy_51 : decode cX9_mutingBy 51 = .ok (.iload_n 1, 1) := by decide +kernel
theorem dX9_mutingBy_52 : decode cX9_mutingBy 52 = .ok (.iconst 1, 1) := by decide +kernel
theorem dX9_mutingBy_53 : decode cX9_mutingBy 53 = .ok (.if_icmp .ne 14, 3) := by decide +kernel
theorem dX9_mutingBy_56 : decode cX9_mutingBy 56 = .ok (.iload_n 0, 1) := by decide +kernel
theorem dX9_mutingBy_57 : decode cX9_mutingBy 57 = .ok (.iconst 3, 1) := by decide +kernel
theorem dX9_mutingBy_58 : decode cX9_mutingBy 58 = .ok (.if_icmp .ne 7, 3) := by decide +kernel
theorem dX9_mutingBy_61 : decode cX9_mutingBy 61 = .ok (.iconst 4, 1) := by decide +kernel
theorem dX9_mutingBy_62 : decode cX9_mutingBy 62 = .ok (.goto 4, 3) := by decide +kernel
theorem dX9_mutingBy_65 : decode cX9_mutingBy 65 = .ok (.iconst 1, 1) := by decide +kernel
theorem dX9_mutingBy_66 : decode cX9_mutingBy 66 = .ok (.ireturn, 1) := by decide +kernel
theorem dX9_mutingBy_67 : decode cX9_mutingBy 67 = .ok (.iload_n 0, 1) := by decide +kernel
theorem dX9_mutingBy_68 : decode cX9_mutingBy 68 = .ok (.iconst 2, 1) := by decide +kernel
theorem dX9_mutingBy_69 : decode cX9_mutingBy 69 = .ok (.if_icmp .lt 7, 3) := by decide +kernel
theorem dX9_mutingBy_72 : decode cX9_mutingBy 72 = .ok (.iconst 3, 1) := by decide +kernel
theorem dX9_mutingBy_73 : decode cX9_mutingBy 73 = .ok (.goto 4, 3) := by decide +kernel
theorem dX9_mutingBy_76 : decode cX9_mutingBy 76 = .ok (.iconst 4, 1) := by decide +kernel
theorem dX9_mutingBy_77 : decode cX9_mutingBy 77 = .ok (.ireturn, 1) := by decide +kernel
theorem dX9_handsBy_0 : decode cX9_handsBy 0 = .ok (.iload_n 1, 1) := by decide +kernel
theorem dX9_handsBy_1 : decode cX9_handsBy 1 = .ok (.ifCond .ne 5, 3) := by decide +kernel
theorem dX9_handsBy_4 : decode cX9_handsBy 4 = .ok (.iconst 0, 1) := by decide +kernel
theorem dX9_handsBy_5 : decode cX9_handsBy 5 = .ok (.ireturn, 1) := by decide +kernel
theorem dX9_handsBy_6 : decode cX9_handsBy 6 = .ok (.aload_n 0, 1) := by decide +kernel
theorem dX9_handsBy_7 : decode cX9_handsBy 7 = .ok (.getfield 74, 3) := by decide +kernel
theorem dX9_handsBy_10 : decode cX9_handsBy 10 = .ok (.iconst 3, 1) := by decide +kernel
theorem dX9_handsBy_11 : decode cX9_handsBy 11 = .ok (.if_icmp .ne 5, 3) := by decide +kernel
theorem dX9_handsBy_14 : decode cX9_handsBy 14 = .ok (.iconst 3, 1) := by decide +kernel
theorem dX9_handsBy_15 : decode cX9_handsBy 15 = .ok (.ireturn, 1) := by decide +kernel
theorem dX9_handsBy_16 : decode cX9_handsBy 16 = .ok (.iload_n 1, 1) := by decide +kernel
theorem dX9_handsBy_17 : decode cX9_handsBy 17 = .ok (.iconst 2, 1) := by decide +kernel
theorem dX9_handsBy_18 : decode cX9_handsBy 18 = .ok (.if_icmp .ne 5, 3) := by decide +kernel
theorem dX9_handsBy_21 : decode cX9_handsBy 21 = .ok (.iconst 2, 1) := by decide +kernel
theorem dX9_handsBy_22 : decode cX9_handsBy 22 = .ok (.ireturn, 1) := by decide +kernel
theorem dX9_handsBy_23 : decode cX9_handsBy 23 = .ok (.aload_n 0, 1) := by decide +kernel
theorem dX9_handsBy_24 : decode cX9_handsBy 24 = .ok (.getfield 74, 3) := by decide +kernel
theorem dX9_handsBy_27 : decode cX9_handsBy 27 = .ok (.iconst 2, 1) := by decide +kernel
theorem dX9_handsBy_28 : decode cX9_handsBy 28 = .ok (.if_icmp .ne 5, 3) := by decide +kernel
theorem dX9_handsBy_31 : decode cX9_handsBy 31 = .ok (.iconst 3, 1) := by decide +kernel
theorem dX9_handsBy_32 : decode cX9_handsBy 32 = .ok (.ireturn, 1) := by decide +kernel
theorem dX9_handsBy_33 : decode cX9_handsBy 33 = .ok (.aload_n 0, 1) := by decide +kernel
theorem dX9_handsBy_34 : decode cX9_handsBy 34 = .ok (.getfield 74, 3) := by decide +kernel
theorem dX9_handsBy_37 : decode cX9_handsBy 37 = .ok (.iconst 1, 1) := by decide +kernel
theorem dX9_handsBy_38 : decode cX9_handsBy 38 = .ok (.if_icmp .ne 20, 3) := by decide +kernel
theorem dX9_handsBy_41 : decode cX9_handsBy 41 = .ok (.aload_n 0, 1) := by decide +kernel
theorem dX9_handsBy_42 : decode cX9_handsBy 42 = .ok (.getfield 77, 3) := by decide +kernel
theorem dX9_handsBy_45 : decode cX9_handsBy 45 = .ok (.iconst 1, 1) := by decide +kernel
theorem dX9_handsBy_46 : decode cX9_handsBy 46 = .ok (.iadd, 1) := by decide +kernel
theorem dX9_handsBy_47 : decode cX9_handsBy 47 = .ok (.aload_n 0, 1) := by decide +kernel
theorem dX9_handsBy_48 : decode cX9_handsBy 48 = .ok (.getfield 13, 3) := by decide +kernel
theorem dX9_handsBy_51 : decode cX9_handsBy 51 = .ok (.if_icmp .le 7, 3) := by decide +kernel
theorem dX9_handsBy_54 : decode cX9_handsBy 54 = .ok (.iconst 3, 1) := by decide +kernel
theorem dX9_handsBy_55 : decode cX9_handsBy 55 = .ok (.goto 4, 3) := by decide +kernel
theorem dX9_handsBy_58 : decode cX9_handsBy 58 = .ok (.iconst 1, 1) := by decide +kernel
theorem dX9_handsBy_59 : decode cX9_handsBy 59 = .ok (.ireturn, 1) := by decide +kernel
theorem dX9_valveAt_0 : decode cX9_valveAt 0 = .ok (.aload_n 0, 1) := by decide +kernel
theorem dX9_valveAt_1 : decode cX9_valveAt 1 = .ok (.getfield 29, 3) := by decide +kernel
theorem dX9_valveAt_4 : decode cX9_valveAt 4 = .ok (.iload_n 1, 1) := by decide +kernel
theorem dX9_valveAt_5 : decode cX9_valveAt 5 = .ok (.iaload, 1) := by decide +kernel
theorem dX9_valveAt_6 : decode cX9_valveAt 6 = .ok (.iconst 2, 1) := by decide +kernel
theorem dX9_valveAt_7 : decode cX9_valveAt 7 = .ok (.if_icmp .ne 10, 3) := by decide +kernel
theorem dX9_valveAt_10 : decode cX9_valveAt 10 = .ok (.aload_n 0, 1) := by decide +kernel
theorem dX9_valveAt_11 : decode cX9_valveAt 11 = .ok (.getfield 80, 3) := by decide +kernel
theorem dX9_valveAt_14 : decode cX9_valveAt 14 = .ok (.goto 9, 3) := by decide +kernel
theorem dX9_valveAt_17 : decode cX9_valveAt 17 = .ok (.aload_n 0, 1) := by decide +kernel
theorem dX9_valveAt_18 : decode cX9_valveAt 18 = .ok (.getfield 29, 3) := by decide +kernel
theorem dX9_valveAt_21 : decode cX9_valveAt 21 = .ok (.iload_n 1, 1) := by decide +kernel
theorem dX9_valveAt_22 : decode cX9_valveAt 22 = .ok (.iaload, 1) := by decide +kernel
theorem dX9_valveAt_23 : decode cX9_valveAt 23 = .ok (.ireturn, 1) := by decide +kernel
theorem dX9_more_0 : decode cX9_more 0 = .ok (.iload_n 0, 1) := by decide +kernel
theorem dX9_more_1 : decode cX9_more 1 = .ok (.bipush 9, 2) := by decide +kernel
theorem dX9_more_3 : decode cX9_more 3 = .ok (.if_icmp .ge 9, 3) := by decide +kernel
theorem dX9_more_6 : decode cX9_more 6 = .ok (.iload_n 0, 1) := by decide +kernel
theorem dX9_more_7 : decode cX9_more 7 = .ok (.iconst 1, 1) := by decide +kernel
theorem dX9_more_8 : decode cX9_more 8 = .ok (.iadd, 1) := by decide +kernel
theorem dX9_more_9 : decode cX9_more 9 = .ok (.goto 5, 3) := by decide +kernel
theorem dX9_more_12 : decode cX9_more 12 = .ok (.bipush 9, 2) := by decide +kernel
theorem dX9_more_14 : decode cX9_more 14 = .ok (.ireturn, 1) := by decide +kernel
theorem dX9_leastCause_0 : decode cX9_leastCause 0 = .ok (.iconst 0, 1) := by decide +kernel
theorem dX9_leastCause_1 : decode cX9_leastCause 1 = .ok (.istore_n 2, 1) := by decide +kernel
theorem dX9_leastCause_2 : decode cX9_leastCause 2 = .ok (.iload_n 2, 1) := by decide +kernel
theorem dX9_leastCause_3 : decode cX9_leastCause 3 = .ok (.iconst 3, 1) := by decide +kernel
theorem dX9_leastCause_4 : decode cX9_leastCause 4 = .ok (.if_icmp .ge 26, 3) := by decide +kernel
theorem dX9_leastCause_7 : decode cX9_leastCause 7 = .ok (.aload_n 0, 1) := by decide +kernel
theorem dX9_leastCause_8 : decode cX9_leastCause 8 = .ok (.getfield 35, 3) := by decide +kernel
theorem dX9_leastCause_11 : decode cX9_leastCause 11 = .ok (.iload_n 2, 1) := by decide +kernel
theorem dX9_leastCause_12 : decode cX9_leastCause 12 = .ok (.iaload, 1) := by decide +kernel
theorem dX9_leastCause_13 : decode cX9_leastCause 13 = .ok (.aload_n 0, 1) := by decide +kernel
theorem dX9_leastCause_14 : decode cX9_leastCause 14 = .ok (.getfield 7, 3) := by decide +kernel
theorem dX9_leastCause_17 : decode cX9_leastCause 17 = .ok (.if_icmp .le 7, 3) := by decide +kernel
theorem dX9_leastCause_20 : decode cX9_leastCause 20 = .ok (.iload_n 2, 1) := by decide +kernel
theorem dX9_leastCause_21 : decode cX9_leastCause 21 = .ok (.iconst 1, 1) := by decide +kernel
theorem dX9_leastCause_22 : decode cX9_leastCause 22 = .ok (.iadd, 1) := by decide +kernel
theorem dX9_leastCause_23 : decode cX9_leastCause 23 = .ok (.ireturn, 1) := by decide +kernel
theorem dX9_leastCause_24 : decode cX9_leastCause 24 = .ok (.iinc 2 1, 3) := by decide +kernel
theorem dX9_leastCause_27 : decode cX9_leastCause 27 = .ok (.goto (-25), 3) := by decide +kernel
theorem dX9_leastCause_30 : decode cX9_leastCause 30 = .ok (.aload_n 0, 1) := by decide +kernel
theorem dX9_leastCause_31 : decode cX9_leastCause 31 = .ok (.getfield 83, 3) := by decide +kernel
theorem dX9_leastCause_34 : decode cX9_leastCause 34 = .ok (.iconst 1, 1) := by decide +kernel
theorem dX9_leastCause_35 : decode cX9_leastCause 35 = .ok (.if_icmp .le 5, 3) := by decide +kernel
theorem dX9_leastCause_38 : decode cX9_leastCause 38 = .ok (.iconst 4, 1) := by decide +kernel
theorem dX9_leastCause_39 : decode cX9_leastCause 39 = .ok (.ireturn, 1) := by decide +kernel
theorem dX9_leastCause_40 : decode cX9_leastCause 40 = .ok (.aload_n 0, 1) := by decide +kernel
theorem dX9_leastCause_41 : decode cX9_leastCause 41 = .ok (.getfield 86, 3) := by decide +kernel
theorem dX9_leastCause_44 : decode cX9_leastCause 44 = .ok (.iconst 4, 1) := by decide +kernel
theorem dX9_leastCause_45 : decode cX9_leastCause 45 = .ok (.if_icmp .ne 12, 3) := by decide +kernel
theorem dX9_leastCause_48 : decode cX9_leastCause 48 = .ok (.iload_n 1, 1) := by decide +kernel
theorem dX9_leastCause_49 : decode cX9_leastCause 49 = .ok (.iconst 2, 1) := by decide +kernel
theorem dX9_leastCause_50 : decode cX9_leastCause 50 = .ok (.if_icmp .ne 7, 3) := by decide +kernel
theorem dX9_leastCause_53 : decode cX9_leastCause 53 = .ok (.iconst 5, 1) := by decide +kernel
theorem dX9_leastCause_54 : decode cX9_leastCause 54 = .ok (.goto 5, 3) := by decide +kernel
theorem dX9_leastCause_57 : decode cX9_leastCause 57 = .ok (.bipush (-9), 2) := by decide +kernel
theorem dX9_leastCause_59 : decode cX9_leastCause 59 = .ok (.ireturn, 1) := by decide +kernel
set_option maxRecDepth 20000 in
theorem ggX9_tickBy_X9_seen : GoodIn wsX9_tickBy wsX9_seen := goodIn_r _ [15, 16, 17, 18, 14, 19, 61, 62, 63, 64, 65, 66, 67, 68, 69, 70, 71, 72, 73, 74, 75, 76, 77, 78, 79, 80, 81, 82, 83, 84, 85, 86, 87, 88, 89, 90, 91, 92, 93, 94, 95, 96, 97, 98, 99, 100] (by decide +kernel) (by decide +kernel)
set_option maxRecDepth 20000 in
theorem gX9_tickBy_X9_seen : GoodIn wsX9_tickBy (wsV RX9 89 RX9 yX9_seen wsX9_seen) := goodIn_app (goodIn_of _ (by decide +kernel)) ggX9_tickBy_X9_seen
set_option maxRecDepth 20000 in
theorem ggX9_tickBy_X9_bit : GoodIn wsX9_tickBy wsX9_bit := goodIn_r _ [19] (by decide +kernel) (by decide +kernel)
set_option maxRecDepth 20000 in
theorem gX9_tickBy_X9_bit : GoodIn wsX9_tickBy (va_wsS RX9 70 yX9_bit wsX9_bit) := goodIn_app (goodIn_of _ (by decide +kernel)) ggX9_tickBy_X9_bit
set_option maxRecDepth 20000 in
theorem ggX9_tickBy_X9_more : GoodIn wsX9_tickBy wsX9_more := goodIn_r _ [22] (by decide +kernel) (by decide +kernel)
set_option maxRecDepth 20000 in
theorem gX9_tickBy_X9_more : GoodIn wsX9_tickBy (va_wsS RX9 93 yX9_more wsX9_more) := goodIn_app (goodIn_of _ (by decide +kernel)) ggX9_tickBy_X9_more
set_option maxRecDepth 20000 in
theorem ggX9_tickBy_X9_mutingBy : GoodIn wsX9_tickBy wsX9_mutingBy := goodIn_r _ [25] (by decide +kernel) (by decide +kernel)
set_option maxRecDepth 20000 in
theorem gX9_tickBy_X9_mutingBy : GoodIn wsX9_tickBy (va_wsS RX9 96 yX9_mutingBy wsX9_mutingBy) := goodIn_app (goodIn_of _ (by decide +kernel)) ggX9_tickBy_X9_mutingBy
set_option maxRecDepth 20000 in
theorem ggX9_tickBy_X9_isOn : GoodIn wsX9_tickBy wsX9_isOn := goodIn_r _ [28] (by decide +kernel) (by decide +kernel)
set_option maxRecDepth 20000 in
theorem gX9_tickBy_X9_isOn : GoodIn wsX9_tickBy (va_wsS RX9 103 yX9_isOn wsX9_isOn) := goodIn_app (goodIn_of _ (by decide +kernel)) ggX9_tickBy_X9_isOn
set_option maxRecDepth 20000 in
theorem ggX9_tickBy_X9_handsBy : GoodIn wsX9_tickBy wsX9_handsBy := goodIn_r _ [32, 5, 6, 33, 61, 62, 63, 64, 65, 66, 67, 68, 69, 70, 71, 72, 73, 74, 75, 76, 77, 78, 79, 80, 81, 82, 83, 84, 85, 86, 87, 88, 89, 90, 91, 92, 93, 94, 95, 96, 97, 98, 99, 100] (by decide +kernel) (by decide +kernel)
set_option maxRecDepth 20000 in
theorem gX9_tickBy_X9_handsBy : GoodIn wsX9_tickBy (wsV RX9 107 RX9 yX9_handsBy wsX9_handsBy) := goodIn_app (goodIn_of _ (by decide +kernel)) ggX9_tickBy_X9_handsBy
set_option maxRecDepth 20000 in
theorem ggX9_tickBy_X9_valveAt : GoodIn wsX9_tickBy wsX9_valveAt := goodIn_r _ [37, 38, 7, 61, 62, 63, 64, 65, 66, 67, 68, 69, 70, 71, 72, 73, 74, 75, 76, 77, 78, 79, 80, 81, 82, 83, 84, 85, 86, 87, 88, 89, 90, 91, 92, 93, 94, 95, 96, 97, 98, 99, 100] (by decide +kernel) (by decide +kernel)
set_option maxRecDepth 20000 in
theorem gX9_tickBy_X9_valveAt : GoodIn wsX9_tickBy (wsV RX9 110 RX9 yX9_valveAt wsX9_valveAt) := goodIn_app (goodIn_of _ (by decide +kernel)) ggX9_tickBy_X9_valveAt
set_option maxRecDepth 20000 in
theorem ggX9_tickBy_X9_goesOn : GoodIn wsX9_tickBy wsX9_goesOn := goodIn_r _ [42, 10, 43, 44, 45, 46, 5, 47, 48, 49, 50, 14, 51, 1, 52, 8, 2, 61, 62, 63, 64, 65, 66, 67, 68, 69, 70, 71, 72, 73, 74, 75, 76, 77, 78, 79, 80, 81, 82, 83, 84, 85, 86, 87, 88, 89, 90, 91, 92, 93, 94, 95, 96, 97, 98, 99, 100] (by decide +kernel) (by decide +kernel)
set_option maxRecDepth 20000 in
theorem gX9_tickBy_X9_goesOn : GoodIn wsX9_tickBy (wsV RX9 116 RX9 yX9_goesOn wsX9_goesOn) := goodIn_app (goodIn_of _ (by decide +kernel)) ggX9_tickBy_X9_goesOn
set_option maxRecDepth 20000 in
theorem ggX9_tickBy_X9_slides : GoodIn wsX9_tickBy wsX9_slides := goodIn_r _ [56, 57, 58, 59, 60, 45, 47, 10, 34, 35, 36, 14, 37, 38, 7, 61, 62, 63, 64, 65, 66, 67, 68, 69, 70, 71, 72, 73, 74, 75, 76, 77, 78, 79, 80, 81, 82, 83, 84, 85, 86, 87, 88, 89, 90, 91, 92, 93, 94, 95, 96, 97, 98, 99, 100] (by decide +kernel) (by decide +kernel)
set_option maxRecDepth 20000 in
theorem gX9_tickBy_X9_slides : GoodIn wsX9_tickBy (wsV RX9 120 RX9 yX9_slides wsX9_slides) := goodIn_app (goodIn_of _ (by decide +kernel)) ggX9_tickBy_X9_slides
