theorem dX9_locked_0 : decode cX9_locked 0 = .ok (.iload_n 1, 1) := by decide +kernel
theorem dX9_locked_1 : decode cX9_locked 1 = .ok (.iconst 1, 1) := by decide +kernel
theorem dX9_locked_2 : decode cX9_locked 2 = .ok (.iconst 5, 1) := by decide +kernel
theorem dX9_locked_3 : decode cX9_locked 3 = .ok (.invokestatic 66, 3) := by decide +kernel
theorem dX9_locked_6 : decode cX9_locked 6 = .ok (.ifCond .ne 5, 3) := by decide +kernel
theorem dX9_locked_9 : decode cX9_locked 9 = .ok (.iconst (-1), 1) := by decide +kernel
theorem dX9_locked_10 : decode cX9_locked 10 = .ok (.ireturn, 1) := by decide +kernel
theorem dX9_locked_11 : decode cX9_locked 11 = .ok (.iload_n 2, 1) := by decide +kernel
theorem dX9_locked_12 : decode cX9_locked 12 = .ok (.bipush (-9), 2) := by decide +kernel
theorem dX9_locked_14 : decode cX9_locked 14 = .ok (.if_icmp .eq 16, 3) := by decide +kernel
theorem dX9_locked_17 : decode cX9_locked 17 = .ok (.iload_n 2, 1) := by decide +kernel
theorem dX9_locked_18 : decode cX9_locked 18 = .ok (.iconst 0, 1) := by decide +kernel
theorem dX9_locked_19 : decode cX9_locked 19 = .ok (.bipush 17, 2) := by decide +kernel
theorem dX9_locked_21 : decode cX9_locked 21 = .ok (.invokestatic 66, 3) := by decide +kernel
theorem dX9_locked_24 : decode cX9_locked 24 = .ok (.ifCond .ne 6, 3) := by decide +kernel
theorem dX9_locked_27 : decode cX9_locked 27 = .ok (.bipush (-2), 2) := by decide +kernel
theorem dX9_locked_29 : decode cX9_locked 29 = .ok (.ireturn, 1) := by decide +kernel
theorem dX9_locked_30 : decode cX9_locked 30 = .ok (.iconst 0, 1) := by decide +kernel
theorem dX9_locked_31 : decode cX9_locked 31 = .ok (.istore_n 3, 1) := by decide +kernel
theorem dX9_locked_32 : decode cX9_locked 32 = .ok (.iconst 0, 1) := by decide +kernel
theorem dX9_locked_33 : decode cX9_locked 33 = .ok (.istore 4, 2) := by decide +kernel
theorem dX9_locked_35 : decode cX9_locked 35 = .ok (.iload 4, 2) := by decide +kernel
theorem dX9_locked_37 : decode cX9_locked 37 = .ok (.bipush 18, 2) := by decide +kernel
theorem dX9_locked_39 : decode cX9_locked 39 = .ok (.if_icmp .ge 42, 3) := by decide +kernel
theorem dX9_locked_42 : decode cX9_locked 42 = .ok (.iload_n 3, 1) := by decide +kernel
theorem dX9_locked_43 : decode cX9_locked 43 = .ok (.iload_n 2, 1) := by decide +kernel
theorem dX9_locked_44 : decode cX9_locked 44 = .ok (.bipush (-9), 2) := by decide +kernel
theorem dX9_locked_46 : decode cX9_locked 46 = .ok (.if_icmp .eq 9, 3) := by decide +kernel
theorem dX9_locked_49 : decode cX9_locked 49 = .ok (.iload_n 2, 1) := by decide +kernel
theorem dX9_locked_50 : decode cX9_locked 50 = .ok (.iload 4, 2) := by decide +kernel
theorem dX9_locked_52 : decode cX9_locked 52 = .ok (.if_icmp .ne 20, 3) := by decide +kernel
theorem dX9_locked_55 : decode cX9_locked 55 = .ok (.aload_n 0, 1) := by decide +kernel
theorem dX9_locked_56 : decode cX9_locked 56 = .ok (.getfield 41, 3) := by decide +kernel
theorem dX9_locked_59 : decode cX9_locked 59 = .ok (.bipush 18, 2) := by decide +kernel
theorem dX9_locked_61 : decode cX9_locked 61 = .ok (.iload_n 1, 1) := by decide +kernel
theorem dX9_locked_62 : decode cX9_locked 62 = .ok (.iconst 1, 1) := by decide +kernel
theorem dX9_locked_63 : decode cX9_locked 63 = .ok (.isub, 1) := by decide +kernel
theorem dX9_locked_64 : decode cX9_locked 64 = .ok (.imul, 1) := by decide +kernel
theorem dX9_locked_65 : decode cX9_locked 65 = .ok (.iload 4, 2) := by decide +kernel
theorem dX9_locked_67 : decode cX9_locked 67 = .ok (.iadd, 1) := by decide +kernel
theorem dX9_locked_68 : decode cX9_locked 68 = .ok (.iaload, 1) := by decide +kernel
theorem dX9_locked_69 : decode cX9_locked 69 = .ok (.goto 4, 3) := by decide +kernel
theorem dX9_locked_72 : decode cX9_locked 72 = .ok (.iconst 0, 1) := by decide +kernel
theorem dX9_locked_73 : decode cX9_locked 73 = .ok (.iadd, 1) := by decide +kernel
theorem dX9_locked_74 : decode cX9_locked 74 = .ok (.istore_n 3, 1) := by decide +kernel
theorem dX9_locked_75 : decode cX9_locked 75 = .ok (.iinc 4 1, 3) := by decide +kernel
theorem dX9_locked_78 : decode cX9_locked 78 = .ok (.goto (-43), 3) := by decide +kernel
theorem dX9_locked_81 : decode cX9_locked 81 = .ok (.iload_n 3, 1) := by decide +kernel
theorem dX9_locked_82 : decode cX9_locked 82 = .ok (.ireturn, 1) := by decide +kernel
set_option maxRecDepth 20000 in
theorem ggX9_cause_X9_within : GoodIn wsX9_cause wsX9_within := goodIn_r _ [6] (by decide +kernel) (by decide +kernel)
set_option maxRecDepth 20000 in
theorem gX9_cause_X9_within : GoodIn wsX9_cause (va_wsS RX9 66 yX9_within wsX9_within) := goodIn_app (goodIn_of _ (by decide +kernel)) ggX9_cause_X9_within
theorem dX9_cause_0 : decode cX9_cause 0 = .ok (.iload_n 1, 1) := by decide +kernel
theorem dX9_cause_1 : decode cX9_cause 1 = .ok (.iconst 0, 1) := by decide +kernel
theorem dX9_cause_2 : decode cX9_cause 2 = .ok (.iconst 4, 1) := by decide +kernel
theorem dX9_cause_3 : decode cX9_cause 3 = .ok (.invokestatic 66, 3) := by decide +kernel
theorem dX9_cause_6 : decode cX9_cause 6 = .ok (.ifCond .ne 6, 3) := by decide +kernel
theorem dX9_cause_9 : decode cX9_cause 9 = .ok (.bipush (-2), 2) := by decide +kernel
theorem dX9_cause_11 : decode cX9_cause 11 = .ok (.ireturn, 1) := by decide +kernel
theorem dX9_cause_12 : decode cX9_cause 12 = .ok (.iload_n 1, 1) := by decide +kernel
theorem dX9_cause_13 : decode cX9_cause 13 = .ok (.aload_n 0, 1) := by decide +kernel
theorem dX9_cause_14 : decode cX9_cause 14 = .ok (.getfield 182, 3) := by decide +kernel
theorem dX9_cause_17 : decode cX9_cause 17 = .ok (.if_icmp .ge 12, 3) := by decide +kernel
theorem dX9_cause_20 : decode cX9_cause 20 = .ok (.aload_n 0, 1) := by decide +kernel
theorem dX9_cause_21 : decode cX9_cause 21 = .ok (.getfield 44, 3) := by decide +kernel
theorem dX9_cause_24 : decode cX9_cause 24 = .ok (.iload_n 1, 1) := by decide +kernel
theorem dX9_cause_25 : decode cX9_cause 25 = .ok (.iaload, 1) := by decide +kernel
theorem dX9_cause_26 : decode cX9_cause 26 = .ok (.goto 5, 3) := by decide +kernel
theorem dX9_cause_29 : decode cX9_cause 29 = .ok (.bipush (-9), 2) := by decide +kernel
theorem dX9_cause_31 : decode cX9_cause 31 = .ok (.ireturn, 1) := by decide +kernel
set_option maxRecDepth 20000 in
theorem ggX9_followed_X9_within : GoodIn wsX9_followed wsX9_within := goodIn_r _ [5] (by decide +kernel) (by decide +kernel)
set_option maxRecDepth 20000 in
theorem gX9_followed_X9_within : GoodIn wsX9_followed (va_wsS RX9 66 yX9_within wsX9_within) := goodIn_app (goodIn_of _ (by decide +kernel)) ggX9_followed_X9_within
theorem dX9_followed_0 : decode cX9_followed 0 = .ok (.iload_n 1, 1) := by decide +kernel
theorem dX9_followed_1 : decode cX9_followed 1 = .ok (.iconst 0, 1) := by decide +kernel
theorem dX9_followed_2 : decode cX9_followed 2 = .ok (.iconst 4, 1) := by decide +kernel
theorem dX9_followed_3 : decode cX9_followed 3 = .ok (.invokestatic 66, 3) := by decide +kernel
theorem dX9_followed_6 : decode cX9_followed 6 = .ok (.ifCond .eq 12, 3) := by decide +kernel
theorem dX9_followed_9 : decode cX9_followed 9 = .ok (.aload_n 0, 1) := by decide +kernel
theorem dX9_followed_10 : decode cX9_followed 10 = .ok (.getfield 47, 3) := by decide +kernel
theorem dX9_followed_13 : decode cX9_followed 13 = .ok (.iload_n 1, 1) := by decide +kernel
theorem dX9_followed_14 : decode cX9_followed 14 = .ok (.iaload, 1) := by decide +kernel
theorem dX9_followed_15 : decode cX9_followed 15 = .ok (.goto 5, 3) := by decide +kernel
theorem dX9_followed_18 : decode cX9_followed 18 = .ok (.bipush (-2), 2) := by decide +kernel
theorem dX9_followed_20 : decode cX9_followed 20 = .ok (.ireturn, 1) := by decide +kernel
theorem dX9_places_0 : decode cX9_places 0 = .ok (.iconst 0, 1) := by decide +kernel
theorem dX9_places_1 : decode cX9_places 1 = .ok (.istore_n 1, 1) := by decide +kernel
theorem dX9_places_2 : decode cX9_places 2 = .ok (.iconst 0, 1) := by decide +kernel
theorem dX9_places_3 : decode cX9_places 3 = .ok (.istore_n 2, 1) := by decide +kernel
theorem dX9_places_4 : decode cX9_places 4 = .ok (.iload_n 2, 1) := by decide +kernel
theorem dX9_places_5 : decode cX9_places 5 = .ok (.bipush 18, 2) := by decide +kernel
theorem dX9_places_7 : decode cX9_places 7 = .ok (.if_icmp .ge 53, 3) := by decide +kernel
theorem dX9_places_10 : decode cX9_places 10 = .ok (.iconst 0, 1) := by decide +kernel
theorem dX9_places_11 : decode cX9_places 11 = .ok (.istore_n 3, 1) := by decide +kernel
theorem dX9_places_12 : decode cX9_places 12 = .ok (.iconst 0, 1) := by decide +kernel
theorem dX9_places_13 : decode cX9_places 13 = .ok (.istore 4, 2) := by decide +kernel
theorem dX9_places_15 : decode cX9_places 15 = .ok (.iload 4, 2) := by decide +kernel
theorem dX9_places_17 : decode cX9_places 17 = .ok (.iconst 5, 1) := by decide +kernel
theorem dX9_places_18 : decode cX9_places 18 = .ok (.if_icmp .ge 24, 3) := by decide +kernel
theorem dX9_places_21 : decode cX9_places 21 = .ok (.iload_n 3, 1) := by decide +kernel
theorem dX9_places_22 : decode cX9_places 22 = .ok (.aload_n 0, 1) := by decide +kernel
theorem dX9_places_23 : decode cX9_places 23 = .ok (.getfield 41, 3) := by decide +kernel
theorem dX9_places_26 : decode cX9_places 26 = .ok (.bipush 18, 2) := by decide +kernel
theorem dX9_places_28 : decode cX9_places 28 = .ok (.iload 4, 2) := by decide +kernel
theorem dX9_places_30 : decode cX9_places 30 = .ok (.imul, 1) := by decide +kernel
theorem dX9_places_31 : decode cX9_places 31 = .ok (.iload_n 2, 1) := by decide +kernel
theorem dX9_places_32 : decode cX9_places 32 = .ok (.iadd, 1) := by decide +kernel
theorem dX9_places_33 : decode cX9_places 33 = .ok (.iaload, 1) := by decide +kernel
theorem dX9_places_34 : decode cX9_places 34 = .ok (.iadd, 1) := by decide +kernel
theorem dX9_places_35 : decode cX9_places 35 = .ok (.istore_n 3, 1) := by decide +kernel
theorem dX9_places_36 : decode cX9_places 36 = .ok (.iinc 4 1, 3) := by decide +kernel
theorem dX9_places_39 : decode cX9_places 39 = .ok (.goto (-24), 3) := by decide +kernel
theorem dX9_places_42 : decode cX9_places 42 = .ok (.iload_n 1, 1) := by decide +kernel
theorem dX9_places_43 : decode cX9_places 43 = .ok (.iload_n 3, 1) := by decide +kernel
theorem dX9_places_44 : decode cX9_places 44 = .ok (.ifCond .le 7, 3) := by decide +kernel
theorem dX9_places_47 : decode cX9_places 47 = .ok (.iconst 1, 1) := by decide +kernel
theorem dX9_places_48 : decode cX9_places 48 = .ok (.goto 4, 3) := by decide +kernel
theorem dX9_places_51 : decode cX9_places 51 = .ok (.iconst 0, 1) := by decide +kernel
theorem dX9_places_52 : decode cX9_places 52 = .ok (.iadd, 1) := by decide +kernel
theorem dX9_places_53 : decode cX9_places 53 = .ok (.istore_n 1, 1) := by decide +kernel
theorem dX9_places_54 : decode cX9_places 54 = .ok (.iinc 2 1, 3) := by decide +kernel
theorem dX9_places_57 : decode cX9_places 57 = .ok (.goto (-53), 3) := by decide +kernel
theorem dX9_places_60 : decode cX9_places 60 = .ok (.iload_n 1, 1) := by decide +kernel
theorem dX9_places_61 : decode cX9_places 61 = .ok (.ireturn, 1) := by decide +kernel
set_option maxRecDepth 20000 in
theorem ggX9_step_X9_isSet : GoodIn wsX9_step wsX9_isSet := goodIn_r _ [6, 7, 8, 5, 9] (by decide +kernel) (by decide +kernel)
set_option maxRecDepth 20000 in
theorem gX9_step_X9_isSet : GoodIn wsX9_step (va_wsS RX9 187 yX9_isSet wsX9_isSet) := goodIn_app (goodIn_of _ (by decide +kernel)) ggX9_step_X9_isSet
theorem dX9_step_0 : decode cX9_step 0 = .ok (.iload_n 1, 1) := by decide +kernel
theorem dX9_step_1 : decode cX9_step 1 = .ok (.invokestatic 187, 3) := by decide +kernel
theorem dX9_step_4 : decode cX9_step 4 = .ok (.ifCond .ne 6, 3) := by decide +kernel
theorem dX9_step_7 : decode cX9_step 7 = .ok (.bipush (-2), 2) := by decide +kernel
theorem dX9_step_9 : decode cX9_step 9 = .ok (.ireturn, 1) := by decide +kernel
theorem dX9_step_10 : decode cX9_step 10 = .ok (.aload_n 0, 1) := by decide +kernel
theorem dX9_step_11 : decode cX9_step 11 = .ok (.getfield 202, 3) := by decide +kernel
theorem dX9_step_14 : decode cX9_step 14 = .ok (.bipush 32, 2) := by decide +kernel
theorem dX9_step_16 : decode cX9_step 16 = .ok (.if_icmp .ne 6, 3) := by decide +kernel
theorem dX9_step_19 : decode cX9_step 19 = .ok (.bipush (-4), 2) := by decide +kernel
theorem dX9_step_21 : decode cX9_step 21 = .ok (.ireturn, 1) := by decide +kernel
theorem dX9_step_22 : decode cX9_step 22 = .ok (.aload_n 0, 1) := by decide +kernel
theorem dX9_step_23 : decode cX9_step 23 = .ok (.getfield 50, 3) := by decide +kernel
theorem dX9_step_26 : decode cX9_step 26 = .ok (.aload_n 0, 1) := by decide +kernel
theorem dX9_step_27 : decode cX9_step 27 = .ok (.getfield 202, 3) := by decide +kernel
theorem dX9_step_30 : decode cX9_step 30 = .ok (.iload_n 1, 1) := by decide +kernel
theorem dX9_step_31 : decode cX9_step 31 = .ok (.iastore, 1) := by decide +kernel
theorem dX9_step_32 : decode cX9_step 32 = .ok (.aload_n 0, 1) := by decide +kernel
theorem dX9_step_33 : decode cX9_step 33 = .ok (.dup, 1) := by decide +kernel
theorem dX9_step_34 : decode cX9_step 34 = .ok (.getfield 202, 3) := by decide +kernel
theorem dX9_step_37 : decode cX9_step 37 = .ok (.iconst 1, 1) := by decide +kernel
theorem dX9_step_38 : decode cX9_step 38 = .ok (.iadd, 1) := by decide +kernel
theorem dX9_step_39 : decode cX9_step 39 = .ok (.putfield 202, 3) := by decide +kernel
theorem dX9_step_42 : decode cX9_step 42 = .ok (.aload_n 0, 1) := by decide +kernel
theorem dX9_step_43 : decode cX9_step 43 = .ok (.getfield 202, 3) := by decide +kernel
theorem dX9_step_46 : decode cX9_step 46 = .ok (.ireturn, 1) := by decide +kernel
theorem dX9_wipe_0 : decode cX9_wipe 0 = .ok (.aload_n 0, 1) := by decide +kernel
theorem dX9_wipe_1 : decode cX9_wipe 1 = .ok (.getfield 202, 3) := by decide +kernel
theorem dX9_wipe_4 : decode cX9_wipe 4 = .ok (.istore_n 1, 1) := by decide +kernel
theorem dX9_wipe_5 : decode cX9_wipe 5 = .ok (.aload_n 0, 1) := by decide +kernel
theorem dX9_wipe_6 : decode cX9_wipe 6 = .ok (.iconst 0, 1) := by decide +kernel
theorem dX9_wipe_7 : decode cX9_wipe 7 = .ok (.putfield 202, 3) := by decide +kernel
theorem dX9_wipe_10 : decode cX9_wipe 10 = .ok (.iload_n 1, 1) := by decide +kernel
theorem dX9_wipe_11 : decode cX9_wipe 11 = .ok (.ireturn, 1) := by decide +kernel
set_option maxRecDepth 20000 in
theorem ggX9_stepAt_X9_within : GoodIn wsX9_stepAt wsX9_within := goodIn_r _ [6] (by decide +kernel) (by decide +kernel)
set_option maxRecDepth 20000 in
theorem gX9_stepAt_X9_within : GoodIn wsX9_stepAt (va_wsS RX9 66 yX9_within wsX9_within) := goodIn_app (goodIn_of _ (by decide +kernel)) ggX9_stepAt_X9_within
theorem dX9_stepAt_0 : decode cX9_stepAt 0 = .ok (.iload_n 1, 1) := by decide +kernel
theorem dX9_stepAt_1 : decode cX9_stepAt 1 = .ok (.iconst 0, 1) := by decide +kernel
theorem dX9_stepAt_2 : decode cX9_stepAt 2 = .ok (.aload_n 0, 1) := by decide +kernel
theorem dX9_stepAt_3 : decode cX9_stepAt 3 = .ok (.getfield 202, 3) := by decide +kernel
theorem dX9_stepAt_6 : decode cX9_stepAt 6 = .ok (.iconst 1, 1) := by decide +kernel
theorem dX9_stepAt_7 : decode cX9_stepAt 7 = .ok (.isub, 1) := by decide +kernel
theorem dX9_stepAt_8 : decode cX9_stepAt 8 = .ok (.invokestatic 66, 3) := by decide +kernel
theorem dX9_stepAt_11 : decode cX9_stepAt 11 = .ok (.ifCond .eq 12, 3) := by decide +kernel
theorem dX9_stepAt_14 : decode cX9_stepAt 14 = .ok (.aload_n 0, 1) := by decide +kernel
theorem dX9_stepAt_15 : decode cX9_stepAt 15 = .ok (.getfield 50, 3) := by decide +kernel
theorem dX9_stepAt_18 : decode cX9_stepAt 18 = .ok (.iload_n 1, 1) := by decide +kernel
theorem dX9_stepAt_19 : decode cX9_stepAt 19 = .ok (.iaload, 1) := by decide +kernel
theorem dX9_stepAt_20 : decode cX9_stepAt 20 = .ok (.goto 4, 3) := by decide +kernel
theorem dX9_stepAt_23 : decode cX9_stepAt 23 = .ok (.iconst (-1), 1) := by decide +kernel
theorem dX9_stepAt_24 : decode cX9_stepAt 24 = .ok (.ireturn, 1) := by decide +kernel
theorem dX9_keeps_0 : decode cX9_keeps 0 = .ok (.iconst 0, 1) := by decide +kernel
theorem dX9_keeps_1 : decode cX9_keeps 1 = .ok (.istore_n 1, 1) := by decide +kernel
theorem dX9_keeps_2 : decode cX9_keeps 2 = .ok (.iload_n 1, 1) := by decide +kernel
theorem dX9_keeps_3 : decode cX9_keeps 3 = .ok (.bipush 9, 2) := by decide +kernel
theorem dX9_keeps_5 : decode cX9_keeps 5 = .ok (.if_icmp .ge 28, 3) := by decide +kernel
theorem dX9_keeps_8 : decode cX9_keeps 8 = .ok (.aload_n 0, 1) := by decide +kernel
theorem dX9_keeps_9 : decode cX9_keeps 9 = .ok (.getfield 56, 3) := by decide +kernel
theorem dX9_keeps_12 : decode cX9_keeps 12 = .ok (.iload_n 1, 1) := by decide +kernel
theorem dX9_keeps_13 : decode cX9_keeps 13 = .ok (.aload_n 0, 1) := by decide +kernel
theorem dX9_keeps_14 : decode cX9_keeps 14 = .ok (.getfield 25, 3) := by decide +kernel
theorem dX9_keeps_17 : decode cX9_keeps 17 = .ok (.iload_n 1, 1) := by decide +kernel
theorem dX9_keeps_18 : decode cX9_keeps 18 = .ok (.iaload, 1) := by decide +kernel
theorem dX9_keeps_19 : decode cX9_keeps 19 = .ok (.iastore, 1) := by decide +kernel
theorem dX9_keeps_20 : decode cX9_keeps 20 = .ok (.aload_n 0, 1) := by decide +kernel
theorem dX9_keeps_21 : decode cX9_keeps 21 = .ok (.getfield 25, 3) := by decide +kernel
theorem dX9_keeps_24 : decode cX9_keeps 24 = .ok (.iload_n 1, 1) := by decide +kernel
theorem dX9_keeps_25 : decode cX9_keeps 25 = .ok (.iconst 2, 1) := by decide +kernel
theorem dX9_keeps_26 : decode cX9_keeps 26 = .ok (.iastore, 1) := by decide +kernel
theorem dX9_keeps_27 : decode cX9_keeps 27 = .ok (.iinc 1 1, 3) := by decide +kernel
theorem dX9_keeps_30 : decode cX9_keeps 30 = .ok (.goto (-28), 3) := by decide +kernel
theorem dX9_keeps_33 : decode cX9_keeps 33 = .ok (.iconst 0, 1) := by decide +kernel
theorem dX9_keeps_34 : decode cX9_keeps 34 = .ok (.istore_n 1, 1) := by decide +kernel
theorem dX9_keeps_35 : decode cX9_keeps 35 = .ok (.iload_n 1, 1) := by decide +kernel
theorem dX9_keeps_36 : decode cX9_keeps 36 = .ok (.iconst 2, 1) := by decide +kernel
theorem dX9_keeps_37 : decode cX9_keeps 37 = .ok (.if_icmp .ge 31, 3) := by decide +kernel
theorem dX9_keeps_40 : decode cX9_keeps 40 = .ok (.aload_n 0, 1) := by decide +kernel
theorem dX9_keeps_41 : decode cX9_keeps 41 = .ok (.getfield 56, 3) := by decide +kernel
theorem dX9_keeps_44 : decode cX9_keeps 44 = .ok (.bipush 9, 2) := by decide +kernel
theorem dX9_keeps_46 : decode cX9_keeps 46 = .ok (.iload_n 1, 1) := by decide +kernel
theorem dX9_keeps_47 : decode cX9_keeps 47 = .ok (.iadd, 1) := by decide +kernel
theorem dX9_keeps_48 : decode cX9_keeps 48 = .ok (.aload_n 0, 1) := by decide +kernel
theorem dX9_keeps_49 : decode cX9_keeps 49 = .ok (.getfield 29, 3) := by decide +kernel
theorem dX9_keeps_52 : decode cX9_keeps 52 = .ok (.iload_n 1, 1) := by decide +kernel
theorem dX9_keeps_53 : decode cX9_keeps 53 = .ok (.iaload, 1) := by decide +kernel
theorem dX9_keeps_54 : decode cX9_keeps 54 = .ok (.iastore, 1) := by decide +kernel
theorem dX9_keeps_55 : decode cX9_keeps 55 = .ok (.aload_n 0, 1) := by decide +kernel
theorem dX9_keeps_56 : decode cX9_keeps 56 = .ok (.getfield 29, 3) := by decide +kernel
theorem dX9_keeps_59 : decode cX9_keeps 59 = .ok (.iload_n 1, 1) := by decide +kernel
theorem dX9_keeps_60 : decode cX9_keeps 60 = .ok (.iconst 2, 1) := by decide +kernel
theorem dX9_keeps_61 : decode cX9_keeps 61 = .ok (.iastore, 1) := by decide +kernel
theorem dX9_keeps_62 : decode cX9_keeps 62 = .ok (.iinc 1 1, 3) := by decide +kernel
theorem dX9_keeps_65 : decode cX9_keeps 65 = .ok (.goto (-30), 3) := by decide +kernel
theorem dX9_keeps_68 : decode cX9_keeps 68 = .ok (.return_, 1) := by decide +kernel
theorem dX9_restores_0 : decode cX9_restores 0 = .ok (.iconst 0, 1) := by decide +kernel
theorem dX9_restores_1 : decode cX9_restores 1 = .ok (.istore_n 1, 1) := by decide +kernel
theorem dX9_restores_2 : decode cX9_restores 2 = .ok (.iload_n 1, 1) := by decide +kernel
theorem dX9_restores_3 : decode cX9_restores 3 = .ok (.bipush 9, 2) := by decide +kernel
theorem dX9_restores_5 : decode cX9_restores 5 = .ok (.if_icmp .ge 21, 3) := by decide +kernel
theorem dX9_restores_8 : decode cX9_restores 8 = .ok (.aload_n 0, 1) := by decide +kernel
theorem dX9_restores_9 : decode cX9_restores 9 = .ok (.getfield 25, 3) := by decide +kernel
theorem dX9_restores_12 : decode cX9_restores 12 = .ok (.iload_n 1, 1) := by decide +kernel
theorem dX9_restores_13 : decode cX9_restores 13 = .ok (.aload_n 0, 1) := by decide +kernel
theorem dX9_restores_14 : decode cX9_restores 14 = .ok (.getfield 56, 3) := by decide +kernel
theorem dX9_restores_17 : decode cX9_restores 17 = .ok (.iload_n 1, 1) := by decide +kernel
theorem dX9_restores_18 : decode cX9_restores 18 = .ok (.iaload, 1) := by decide +kernel
theorem dX9_restores_19 : decode cX9_restores 19 = .ok (.iastore, 1) := by decide +kernel
theorem dX9_restores_20 : decode cX9_restores 20 = .ok (.iinc 1 1, 3) := by decide +kernel
theorem dX9_restores_23 : decode cX9_restores 23 = .ok (.goto (-21), 3) := by decide +kernel
theorem dX9_restores_26 : decode cX9_restores 26 = .ok (.iconst 0, 1) := by decide +kernel
theorem dX9_restores_27 : decode cX9_restores 27 = .ok (.istore_n 1, 1) := by decide +kernel
theorem dX9_restores_28 : decode cX9_restores 28 = .ok (.iload_n 1, 1) := by decide +kernel
theorem dX9_restores_29 : decode cX9_restores 29 = .ok (.iconst 2, 1) := by decide +kernel
theorem dX9_restores_30 : decode cX9_restores 30 = .ok (.if_icmp .ge 24, 3) := by decide +kernel
theorem dX9_restores_33 : decode cX9_restores 33 = .ok (.aload_n 0, 1) := by decide +kernel
theorem dX9_restores_34 : decode cX9_restores 34 = .ok (.getfield 29, 3) := by decide +kernel
theorem dX9_restores_37 : decode cX9_restores 37 = .ok (.iload_n 1, 1) := by decide +kernel
theorem dX9_restores_38 : decode cX9_restores 38 = .ok (.aload_n 0, 1) := by decide +kernel
theorem dX9_restores_39 : decode cX9_restores 39 = .ok (.getfield 56, 3) := by decide +kernel
theorem dX9_restores_42 : decode cX9_restores 42 = .ok (.bipush 9, 2) := by decide +kernel
theorem dX9_restores_44 : decode cX9_restores 44 = .ok (.iload_n 1, 1) := by decide +kernel
theorem dX9_restores_45 : decode cX9_restores 45 = .ok (.iadd, 1) := by decide +kernel
theorem dX9_restores_46 : decode cX9_restores 46 = .ok (.iaload, 1) := by decide +kernel
theorem dX9_restores_47 : decode cX9_restores 47 = .ok (.iastore, 1) := by decide +kernel
theorem dX9_restores_48 : decode cX9_restores 48 = .ok (.iinc 1 1, 3) := by decide +kernel
theorem dX9_restores_51 : decode cX9_restores 51 = .ok (.goto (-23), 3) := by decide +kernel
theorem dX9_restores_54 : decode cX9_restores 54 = .ok (.return_, 1) := by decide +kernel
set_option maxRecDepth 20000 in
theorem ggX9_tries_X9_stateOf : GoodIn wsX9_tries wsX9_stateOf := goodIn_r _ [14, 9, 15, 16, 17, 18, 19, 20, 21, 22, 23, 24, 25, 26, 27, 28, 29, 99, 100, 101, 102, 103, 104, 105, 106, 107, 108, 109, 110, 111, 112, 113, 114, 115, 116, 117, 118, 119, 120, 121, 122, 123, 124, 125, 126, 127, 128, 129, 130, 131, 132, 133, 134, 135, 136, 137, 138] (by decide +kernel) (by decide +kernel)
set_option maxRecDepth 20000 in
theorem gX9_tries_X9_stateOf : GoodIn wsX9_tries (wsV RX9 198 RX9 yX9_stateOf wsX9_stateOf) := goodIn_app (goodIn_of _ (by decide +kernel)) ggX9_tries_X9_stateOf
set_option maxRecDepth 20000 in
theorem ggX9_tries_X9_keeps : GoodIn wsX9_tries wsX9_keeps := goodIn_r _ [33, 34, 4, 35, 99, 100, 101, 102, 103, 104, 105, 106, 107, 108, 109, 110, 111, 112, 113, 114, 115, 116, 117, 118, 119, 120, 121, 122, 123, 124, 125, 126, 127, 128, 129, 130, 131, 132, 133, 134, 135, 136, 137, 138] (by decide +kernel) (by decide +kernel)
set_option maxRecDepth 20000 in
theorem gX9_tries_X9_keeps : GoodIn wsX9_tries (wsV RX9 205 RX9 yX9_keeps wsX9_keeps) := goodIn_app (goodIn_of _ (by decide +kernel)) ggX9_tries_X9_keeps
set_option maxRecDepth 20000 in
theorem ggX9_tries_X9_begins : GoodIn wsX9_tries wsX9_begins := goodIn_r _ [39, 9, 40, 41, 42, 13, 43, 44, 25, 29, 15, 28, 21, 27, 26, 17, 24, 23, 22, 19, 20, 18, 16, 1, 45, 46, 47, 48, 99, 100, 101, 102, 103, 104, 105, 106, 107, 108, 109, 110, 111, 112, 113, 114, 115, 116, 117, 118, 119, 120, 121, 122, 123, 124, 125, 126, 127, 128, 129, 130, 131, 132, 133, 134, 135, 136, 137, 138] (by decide +kernel) (by decide +kernel)
set_option maxRecDepth 20000 in
theorem gX9_tries_X9_begins : GoodIn wsX9_tries (wsV RX9 167 RX9 yX9_begins wsX9_begins) := goodIn_app (goodIn_of _ (by decide +kernel)) ggX9_tries_X9_begins
set_option maxRecDepth 20000 in
theorem ggX9_tries_X9_tickBy : GoodIn wsX9_tries wsX9_tickBy := goodIn_r _ [52, 23, 20, 22, 53, 16, 18, 26, 24, 29, 9, 54, 55, 56, 13, 57, 4, 58, 59, 60, 61, 62, 63, 64, 65, 66, 67, 68, 69, 70, 71, 72, 73, 74, 75, 76, 77, 78, 35, 79, 80, 81, 82, 8, 1, 27, 83, 84, 85, 86, 87, 88, 89, 90, 91, 92, 93, 6, 7, 94, 28, 99, 100, 101, 102, 103, 104, 105, 106, 107, 108, 109, 110, 111, 112, 113, 114, 115, 116, 117, 118, 119, 120, 121, 122, 123, 124, 125, 126, 127, 128, 129, 130, 131, 132, 133, 134, 135, 136, 137, 138] (by decide +kernel) (by decide +kernel)
set_option maxRecDepth 20000 in
theorem gX9_tries_X9_tickBy : GoodIn wsX9_tries (wsV RX9 191 RX9 yX9_tickBy wsX9_tickBy) := goodIn_app (goodIn_of _ (by decide +kernel)) ggX9_tries_X9_tickBy
set_option maxRecDepth 20000 in
theorem ggX9_tries_X9_restores : GoodIn wsX9_tries wsX9_restores := goodIn_r _ [98, 4, 34, 35, 99, 100, 101, 102, 103, 104, 105, 106, 107, 108, 109, 110, 111, 112, 113, 114, 115, 116, 117, 118, 119, 120, 121, 122, 123, 124, 125, 126, 127, 128, 129, 130, 131, 132, 133, 134, 135, 136, 137, 138] (by decide +kernel) (by decide +kernel)
set_option maxRecDepth 20000 in
theorem gX9_tries_X9_restores : GoodIn wsX9_tries (wsV RX9 208 RX9 yX9_restores wsX9_restores) := goodIn_app (goodIn_of _ (by decide +kernel)) ggX9_tries_X9_restores
set_option maxRecDepth 20000 in
theorem ggX9_tries_X9_becomes : GoodIn wsX9_tries wsX9_becomes := goodIn_r _ [43, 44, 25, 29, 15, 28, 21, 27, 26, 17, 24, 23, 22, 19, 20, 18, 16, 9, 1, 45, 46, 47, 13, 48, 99, 100, 101, 102, 103, 104, 105, 106, 107, 108, 109, 110, 111, 112, 113, 114, 115, 116, 117, 118, 119, 120, 121, 122, 123, 124, 125, 126, 127, 128, 129, 130, 131, 132, 133, 134, 135, 136, 137, 138] (by decide +kernel) (by decide +kernel)
set_option maxRecDepth 20000 in
theorem gX9_tries_X9_becomes : GoodIn wsX9_tries (wsV RX9 163 RX9 yX9_becomes wsX9_becomes) := goodIn_app (goodIn_of _ (by decide +kernel)) ggX9_tries_X9_becomes
theorem dX9_tries_0 : decode cX9_tries 0 = .ok (.aload_n 0, 1) := by decide +kernel
theorem dX9_tries_1 : decode cX9_tries 1 = .ok (.invokevirtual 198, 3) := by decide +kernel
theorem dX9_tries_4 : decode cX9_tries 4 = .ok (.lstore 4, 2) := by decide +kernel
theorem dX9_tries_6 : decode cX9_tries 6 = .ok (.aload_n 0, 1) := by decide +kernel
theorem dX9_tries_7 : decode cX9_tries 7 = .ok (.getfield 38, 3) := by decide +kernel
theorem dX9_tries_10 : decode cX9_tries 10 = .ok (.istore 6, 2) := by decide +kernel
theorem dX9_tries_12 : decode cX9_tries 12 = .ok (.aload_n 0, 1) := by decide +kernel
theorem dX9_tries_13 : decode cX9_tries 13 = .ok (.invokevirtual 205, 3) := by decide +kernel
theorem dX9_tries_16 : decode cX9_tries 16 = .ok (.aload_n 0, 1) := by decide +kernel
theorem dX9_tries_17 : decode cX9_tries 17 = .ok (.invokevirtual 167, 3) := by decide +kernel
theorem dX9_tries_20 : decode cX9_tries 20 = .ok (.aload_n 0, 1) := by decide +kernel
theorem dX9_tries_21 : decode cX9_tries 21 = .ok (.getfield 53, 3) := by decide +kernel
theorem dX9_tries_24 : decode cX9_tries 24 = .ok (.iconst 0, 1) := by decide +kernel
theorem dX9_tries_25 : decode cX9_tries 25 = .ok (.iconst 0, 1) := by decide +kernel
theorem dX9_tries_26 : decode cX9_tries 26 = .ok (.iastore, 1) := by decide +kernel
theorem dX9_tries_27 : decode cX9_tries 27 = .ok (.aload_n 0, 1) := by decide +kernel
theorem dX9_tries_28 : decode cX9_tries 28 = .ok (.getfield 53, 3) := by decide +kernel
theorem dX9_tries_31 : decode cX9_tries 31 = .ok (.iconst 1, 1) := by decide +kernel
theorem dX9_tries_32 : decode cX9_tries 32 = .ok (.bipush (-9), 2) := by decide +kernel
theorem dX9_tries_34 : decode cX9_tries 34 = .ok (.iastore, 1) := by decide +kernel
theorem dX9_tries_35 : decode cX9_tries 35 = .ok (.aload_n 0, 1) := by decide +kernel
theorem dX9_tries_36 : decode cX9_tries 36 = .ok (.getfield 53, 3) := by decide +kernel
theorem dX9_tries_39 : decode cX9_tries 39 = .ok (.iconst 2, 1) := by decide +kernel
theorem dX9_tries_40 : decode cX9_tries 40 = .ok (.bipush (-9), 2) := by decide +kernel
theorem dX9_tries_42 : decode cX9_tries 42 = .ok (.iastore, 1) := by decide +kernel
theorem dX9_tries_43 : decode cX9_tries 43 = .ok (.aload_n 0, 1) := by decide +kernel
theorem dX9_tries_44 : decode cX9_tries 44 = .ok (.getfield 53, 3) := by decide +kernel
theorem dX9_tries_47 : decode cX9_tries 47 = .ok (.iconst 4, 1) := by decide +kernel
theorem dX9_tries_48 : decode cX9_tries 48 = .ok (.iconst 0, 1) := by decide +kernel
theorem dX9_tries_49 : decode cX9_tries 49 = .ok (.iastore, 1) := by decide +kernel
theorem dX9_tries_50 : decode cX9_tries 50 = .ok (.iconst 0, 1) := by decide +kernel
theorem dX9_tries_51 : decode cX9_tries 51 = .ok (.istore 7, 2) := by decide +kernel
theorem dX9_tries_53 : decode cX9_tries 53 = .ok (.iload 7, 2) := by decide +kernel
theorem dX9_tries_55 : decode cX9_tries 55 = .ok (.aload_n 0, 1) := by decide +kernel
theorem dX9_tries_56 : decode cX9_tries 56 = .ok (.getfield 202, 3) := by decide +kernel
theorem dX9_tries_59 : decode cX9_tries 59 = .ok (.if_icmp .ge 103, 3) := by decide +kernel
theorem dX9_tries_62 : decode cX9_tries 62 = .ok (.aload_n 0, 1) := by decide +kernel
theorem dX9_tries_63 : decode cX9_tries 63 = .ok (.getfield 25, 3) := by decide +kernel
theorem dX9_tries_66 : decode cX9_tries 66 = .ok (.iload_n 1, 1) := by decide +kernel
theorem dX9_tries_67 : decode cX9_tries 67 = .ok (.iload 7, 2) := by decide +kernel
theorem dX9_tries_69 : decode cX9_tries 69 = .ok (.iload_n 3, 1) := by decide +kernel
theorem dX9_tries_70 : decode cX9_tries 70 = .ok (.if_icmp .lt 7, 3) := by decide +kernel
theorem dX9_tries_73 : decode cX9_tries 73 = .ok (.iload_n 2, 1) := by decide +kernel
theorem dX9_tries_74 : decode cX9_tries 74 = .ok (.goto 4, 3) := by decide +kernel
theorem dX9_tries_77 : decode cX9_tries 77 = .ok (.iconst 2, 1) := by decide +kernel
theorem dX9_tries_78 : decode cX9_tries 78 = .ok (.iastore, 1) := by decide +kernel
theorem dX9_tries_79 : decode cX9_tries 79 = .ok (.aload_n 0, 1) := by decide +kernel
theorem dX9_tries_80 : decode cX9_tries 80 = .ok (.aload_n 0, 1) := by decide +kernel
theorem dX9_tries_81 : decode cX9_tries 81 = .ok (.getfield 50, 3) := by decide +kernel
theorem dX9_tries_84 : decode cX9_tries 84 = .ok (.iload 7, 2) := by decide +kernel
theorem dX9_tries_86 : decode cX9_tries 86 = .ok (.iaload, 1) := by decide +kernel
theorem dX9_tries_87 : decode cX9_tries 87 = .ok (.invokevirtual 191, 3) := by decide +kernel
theorem dX9_tries_90 : decode cX9_tries 90 = .ok (.aload_n 0, 1) := by decide +kernel
theorem dX9_tries_91 : decode cX9_tries 91 = .ok (.getfield 53, 3) := by decide +kernel
theorem dX9_tries_94 : decode cX9_tries 94 = .ok (.iconst 0, 1) := by decide +kernel
theorem dX9_tries_95 : decode cX9_tries 95 = .ok (.dup2, 1) := by decide +kernel
theorem dX9_tries_96 : decode cX9_tries 96 = .ok (.iaload, 1) := by decide +kernel
theorem dX9_tries_97 : decode cX9_tries 97 = .ok (.aload_n 0, 1) := by decide +kernel
theorem dX9_tries_98 : decode cX9_tries 98 = .ok (.getfield 136, 3) := by decide +kernel
theorem dX9_tries_101 : decode cX9_tries 101 = .ok (.iadd, 1) := by decide +kernel
theorem dX9_tries_102 : decode cX9_tries 102 = .ok (.iastore, 1) := by decide +kernel
theorem dX9_tries_103 : decode cX9_tries 103 = .ok (.aload_n 0, 1) := by decide +kernel
theorem dX9_tries_104 : decode cX9_tries 104 = .ok (.getfield 53, 3) := by decide +kernel
theorem dX9_tries_107 : decode cX9_tries 107 = .ok (.iconst 4, 1) := by decide +kernel
theorem dX9_tries_108 : decode cX9_tries 108 = .ok (.dup2, 1) := by decide +kernel
theorem dX9_tries_109 : decode cX9_tries 109 = .ok (.iaload, 1) := by decide +kernel
theorem dX9_tries_110 : decode cX9_tries 110 = .ok (.aload_n 0, 1) := by decide +kernel
theorem dX9_tries_111 : decode cX9_tries 111 = .ok (.getfield 139, 3) := by decide +kernel
theorem dX9_tries_114 : decode cX9_tries 114 = .ok (.iadd, 1) := by decide +kernel
theorem dX9_tries_115 : decode cX9_tries 115 = .ok (.iastore, 1) := by decide +kernel
theorem dX9_tries_116 : decode cX9_tries 116 = .ok (.aload_n 0, 1) := by decide +kernel
theorem dX9_tries_117 : decode cX9_tries 117 = .ok (.getfield 127, 3) := by decide +kernel
theorem dX9_tries_120 : decode cX9_tries 120 = .ok (.bipush (-9), 2) := by decide +kernel
theorem dX9_tries_122 : decode cX9_tries 122 = .ok (.if_icmp .eq 34, 3) := by decide +kernel
theorem dX9_tries_125 : decode cX9_tries 125 = .ok (.aload_n 0, 1) := by decide +kernel
theorem dX9_tries_126 : decode cX9_tries 126 = .ok (.getfield 53, 3) := by decide +kernel
theorem dX9_tries_129 : decode cX9_tries 129 = .ok (.iconst 1, 1) := by decide +kernel
theorem dX9_tries_130 : decode cX9_tries 130 = .ok (.iaload, 1) := by decide +kernel
theorem dX9_tries_131 : decode cX9_tries 131 = .ok (.bipush (-9), 2) := by decide +kernel
theorem dX9_tries_133 : decode cX9_tries 133 = .ok (.if_icmp .ne 23, 3) := by decide +kernel
theorem dX9_tries_136 : decode cX9_tries 136 = .ok (.aload_n 0, 1) := by decide +kernel
theorem dX9_tries_137 : decode cX9_tries 137 = .ok (.getfield 53, 3) := by decide +kernel
theorem dX9_tries_140 : decode cX9_tries 140 = .ok (.iconst 1, 1) := by decide +kernel
theorem dX9_tries_141 : decode cX9_tries 141 = .ok (.iload 7, 2) := by decide +kernel
theorem dX9_tries_143 : decode cX9_tries 143 = .ok (.iconst 1, 1) := by decide +kernel
theorem dX9_tries_144 : decode cX9_tries 144 = .ok (.iadd, 1) := by decide +kernel
theorem dX9_tries_145 : decode cX9_tries 145 = .ok (.iastore, 1) := by decide +kernel
theorem dX9_tries_146 : decode cX9_tries 146 = .ok (.aload_n 0, 1) := by decide +kernel
theorem dX9_tries_147 : decode cX9_tries 147 = .ok (.getfield 53, 3) := by decide +kernel
theorem dX9_tries_150 : decode cX9_tries 150 = .ok (.iconst 2, 1) := by decide +kernel
theorem dX9_tries_151 : decode cX9_tries 151 = .ok (.aload_n 0, 1) := by decide +kernel
theorem dX9_tries_152 : decode cX9_tries 152 = .ok (.getfield 127, 3) := by decide +kernel
theorem dX9_tries_155 : decode cX9_tries 155 = .ok (.iastore, 1) := by decide +kernel
theorem dX9_tries_156 : decode cX9_tries 156 = .ok (.iinc 7 1, 3) := by decide +kernel
theorem dX9_tries_159 : decode cX9_tries 159 = .ok (.goto (-106), 3) := by decide +kernel
theorem dX9_tries_162 : decode cX9_tries 162 = .ok (.aload_n 0, 1) := by decide +kernel
theorem dX9_tries_163 : decode cX9_tries 163 = .ok (.getfield 53, 3) := by decide +kernel
theorem dX9_tries_166 : decode cX9_tries 166 = .ok (.iconst 3, 1) := by decide +kernel
theorem dX9_tries_167 : decode cX9_tries 167 = .ok (.aload_n 0, 1) := by decide +kernel
theorem dX9_tries_168 : decode cX9_tries 168 = .ok (.getfield 32, 3) := by decide +kernel
theorem dX9_tries_171 : decode cX9_tries 171 = .ok (.iastore, 1) := by decide +kernel
theorem dX9_tries_172 : decode cX9_tries 172 = .ok (.aload_n 0, 1) := by decide +kernel
theorem dX9_tries_173 : decode cX9_tries 173 = .ok (.invokevirtual 208, 3) := by decide +kernel
theorem dX9_tries_176 : decode cX9_tries 176 = .ok (.aload_n 0, 1) := by decide +kernel
theorem dX9_tries_177 : decode cX9_tries 177 = .ok (.lload 4, 2) := by decide +kernel
theorem dX9_tries_179 : decode cX9_tries 179 = .ok (.iload 6, 2) := by decide +kernel
theorem dX9_tries_181 : decode cX9_tries 181 = .ok (.invokevirtual 163, 3) := by decide +kernel
theorem dX9_tries_184 : decode cX9_tries 184 = .ok (.return_, 1) := by decide +kernel
set_option maxRecDepth 20000 in
theorem ggX9_trial_X9_within : GoodIn wsX9_trial wsX9_within := goodIn_r _ [6] (by decide +kernel) (by decide +kernel)
set_option maxRecDepth 20000 in
theorem gX9_trial_X9_within : GoodIn wsX9_trial (va_wsS RX9 66 yX9_within wsX9_within) := goodIn_app (goodIn_of _ (by decide +kernel)) ggX9_trial_X9_within
set_option maxRecDepth 20000 in
theorem ggX9_trial_X9_tries : GoodIn wsX9_trial wsX9_tries := goodIn_r _ [10, 11, 2, 1, 12, 13, 14, 15, 16, 17, 18, 19, 20, 5, 21, 22, 23, 24, 25, 26, 27, 28, 29, 30, 31, 32, 33, 34, 35, 36, 37, 38, 39, 40, 41, 42, 43, 44, 45, 46, 47, 48, 49, 50, 51, 52, 53, 54, 55, 56, 57, 58, 59, 60, 61, 62, 63, 64, 65, 66, 67, 68, 69, 70, 71, 72, 73, 74, 75, 76, 77, 78, 79, 80, 81, 82, 83, 84, 85, 86, 87, 88, 89, 90, 91, 92, 93, 94, 95, 96, 97, 98, 99, 100, 101, 102, 103, 104, 105, 106, 107, 108, 109, 110, 111, 112, 113, 114, 115, 116, 117, 118, 119, 120, 121, 122, 123, 124, 125, 126, 127, 128, 129, 130, 131, 132, 133, 134, 135, 136, 137, 138, 139, 140, 141, 142, 143, 144, 145] (by decide +kernel) (by decide +kernel)
set_option maxRecDepth 20000 in
theorem gX9_trial_X9_tries : GoodIn wsX9_trial (wsV RX9 211 RX9 yX9_tries wsX9_tries) := goodIn_app (goodIn_of _ (by decide +kernel)) ggX9_trial_X9_tries
theorem dX9_trial_0 : decode cX9_trial 0 = .ok (.iload_n 1, 1) := by decide +kernel
theorem dX9_trial_1 : decode cX9_trial 1 = .ok (.iconst 0, 1) := by decide +kernel
theorem dX9_trial_2 : decode cX9_trial 2 = .ok (.bipush 8, 2) := by decide +kernel
theorem dX9_trial_4 : decode cX9_trial 4 = .ok (.invokestatic 66, 3) := by decide +kernel
theorem dX9_trial_7 : decode cX9_trial 7 = .ok (.ifCond .ne 5, 3) := by decide +kernel
theorem dX9_trial_10 : decode cX9_trial 10 = .ok (.iconst (-1), 1) := by decide +kernel
theorem dX9_trial_11 : decode cX9_trial 11 = .ok (.ireturn, 1) := by decide +kernel
theorem dX9_trial_12 : decode cX9_trial 12 = .ok (.iload_n 2, 1) := by decide +kernel
theorem dX9_trial_13 : decode cX9_trial 13 = .ok (.iconst 0, 1) := by decide +kernel
theorem dX9_trial_14 : decode cX9_trial 14 = .ok (.iconst 1, 1) := by decide +kernel
theorem dX9_trial_15 : decode cX9_trial 15 = .ok (.invokestatic 66, 3) := by decide +kernel
theorem dX9_trial_18 : decode cX9_trial 18 = .ok (.ifCond .eq 25, 3) := by decide +kernel
theorem dX9_trial_21 : decode cX9_trial 21 = .ok (.iload_n 3, 1) := by decide +kernel
theorem dX9_trial_22 : decode cX9_trial 22 = .ok (.iconst 0, 1) := by decide +kernel
theorem dX9_trial_23 : decode cX9_trial 23 = .ok (.aload_n 0, 1) := by decide +kernel
theorem dX9_trial_24 : decode cX9_trial 24 = .ok (.getfield 202, 3) := by decide +kernel
theorem dX9_trial_27 : decode cX9_trial 27 = .ok (.invokestatic 66, 3) := by decide +kernel
theorem dX9_trial_30 : decode cX9_trial 30 = .ok (.ifCond .eq 13, 3) := by decide +kernel
theorem dX9_trial_33 : decode cX9_trial 33 = .ok (.iload 4, 2) := by decide +kernel
theorem dX9_trial_35 : decode cX9_trial 35 = .ok (.iconst 0, 1) := by decide +kernel
theorem dX9_trial_36 : decode cX9_trial 36 = .ok (.iconst 4, 1) := by decide +kernel
theorem dX9_trial_37 : decode cX9_trial 37 = .ok (.invokestatic 66, 3) := by decide +kernel
theorem dX9_trial_40 : decode cX9_trial 40 = .ok (.ifCond .ne 6, 3) := by decide +kernel
theorem dX9_trial_43 : decode cX9_trial 43 = .ok (.bipush (-2), 2) := by decide +kernel
theorem dX9_trial_45 : decode cX9_trial 45 = .ok (.ireturn, 1) := by decide +kernel
theorem dX9_trial_46 : decode cX9_trial 46 = .ok (.aload_n 0, 1) := by decide +kernel
theorem dX9_trial_47 : decode cX9_trial 47 = .ok (.iload_n 1, 1) := by decide +kernel
theorem dX9_trial_48 : decode cX9_trial 48 = .ok (.iload_n 2, 1) := by decide +kernel
theorem dX9_trial_49 : decode cX9_trial 49 = .ok (.iload_n 3, 1) := by decide +kernel
theorem dX9_trial_50 : decode cX9_trial 50 = .ok (.invokevirtual 211, 3) := by decide +kernel
theorem dX9_trial_53 : decode cX9_trial 53 = .ok (.aload_n 0, 1) := by decide +kernel
theorem dX9_trial_54 : decode cX9_trial 54 = .ok (.getfield 53, 3) := by decide +kernel
theorem dX9_trial_57 : decode cX9_trial 57 = .ok (.iload 4, 2) := by decide +kernel
theorem dX9_trial_59 : decode cX9_trial 59 = .ok (.iaload, 1) := by decide +kernel
theorem dX9_trial_60 : decode cX9_trial 60 = .ok (.ireturn, 1) := by decide +kernel
set_option maxRecDepth 20000 in
theorem ggX9_trials_X9_within : GoodIn wsX9_trials wsX9_within := goodIn_r _ [6] (by decide +kernel) (by decide +kernel)
set_option maxRecDepth 20000 in
theorem gX9_trials_X9_within : GoodIn wsX9_trials (va_wsS RX9 66 yX9_within wsX9_within) := goodIn_app (goodIn_of _ (by decide +kernel)) ggX9_trials_X9_within
set_option maxRecDepth 20000 in
theorem ggX9_trials_X9_tries : GoodIn wsX9_trials wsX9_tries := goodIn_r _ [10, 11, 2, 1, 12, 13, 14, 15, 16, 17, 18, 19, 20, 5, 21, 22, 23, 24, 25, 26, 27, 28, 29, 30, 31, 32, 33, 34, 35, 36, 37, 38, 39, 40, 41, 42, 43, 44, 45, 46, 47, 48, 49, 50, 51, 52, 53, 54, 55, 56, 57, 58, 59, 60, 61, 62, 63, 64, 65, 66, 67, 68, 69, 70, 71, 72, 73, 74, 75, 76, 77, 78, 79, 80, 81, 82, 83, 84, 85, 86, 87, 88, 89, 90, 91, 92, 93, 94, 95, 96, 97, 98, 99, 100, 101, 102, 103, 104, 105, 106, 107, 108, 109, 110, 111, 112, 113, 114, 115, 116, 117, 118, 119, 120, 121, 122, 123, 124, 125, 126, 127, 128, 129, 130, 131, 132, 133, 134, 135, 136, 137, 138, 139, 140, 141, 142, 143, 144, 145] (by decide +kernel) (by decide +kernel)
set_option maxRecDepth 20000 in
theorem gX9_trials_X9_tries : GoodIn wsX9_trials (wsV RX9 211 RX9 yX9_tries wsX9_tries) := goodIn_app (goodIn_of _ (by decide +kernel)) ggX9_trials_X9_tries
theorem dX9_trials_0 : decode cX9_trials 0 = .ok (.iload_n 1, 1) := by decide +kernel
theorem dX9_trials_1 : decode cX9_trials 1 = .ok (.iconst 0, 1) := by decide +kernel
theorem dX9_trials_2 : decode cX9_trials 2 = .ok (.iconst 5, 1) := by decide +kernel
theorem dX9_trials_3 : decode cX9_trials 3 = .ok (.invokestatic 66, 3) := by decide +kernel
theorem dX9_trials_6 : decode cX9_trials 6 = .ok (.ifCond .ne 6, 3) := by decide +kernel
theorem dX9_trials_9 : decode cX9_trials 9 = .ok (.bipush (-2), 2) := by decide +kernel
theorem dX9_trials_11 : decode cX9_trials 11 = .ok (.ireturn, 1) := by decide +kernel
theorem dX9_trials_12 : decode cX9_trials 12 = .ok (.aload_n 0, 1) := by decide +kernel
theorem dX9_trials_13 : decode cX9_trials 13 = .ok (.iconst 0, 1) := by decide +kernel
theorem dX9_trials_14 : decode cX9_trials 14 = .ok (.iconst 0, 1) := by decide +kernel
theorem dX9_trials_15 : decode cX9_trials 15 = .ok (.aload_n 0, 1) := by decide +kernel
theorem dX9_trials_16 : decode cX9_trials 16 = .ok (.getfield 202, 3) := by decide +kernel
theorem dX9_trials_19 : decode cX9_trials 19 = .ok (.invokevirtual 211, 3) := by decide +kernel
theorem dX9_trials_22 : decode cX9_trials 22 = .ok (.aload_n 0, 1) := by decide +kernel
theorem dX9_trials_23 : decode cX9_trials 23 = .ok (.getfield 53, 3) := by decide +kernel
theorem dX9_trials_26 : decode cX9_trials 26 = .ok (.iconst 4, 1) := by decide +kernel
theorem dX9_trials_27 : decode cX9_trials 27 = .ok (.iaload, 1) := by decide +kernel
theorem dX9_trials_28 : decode cX9_trials 28 = .ok (.istore_n 2, 1) := by decide +kernel
theorem dX9_trials_29 : decode cX9_trials 29 = .ok (.iconst 0, 1) := by decide +kernel
theorem dX9_trials_30 : decode cX9_trials 30 = .ok (.istore_n 3, 1) := by decide +kernel
theorem dX9_trials_31 : decode cX9_trials 31 = .ok (.iconst 0, 1) := by decide +kernel
theorem dX9_trials_32 : decode cX9_trials 32 = .ok (.istore 4, 2) := by decide +kernel
theorem dX9_trials_34 : decode cX9_trials 34 = .ok (.bipush (-9), 2) := by decide +kernel
theorem dX9_trials_36 : decode cX9_trials 36 = .ok (.istore 5, 2) := by decide +kernel
theorem dX9_trials_38 : decode cX9_trials 38 = .ok (.iconst 0, 1) := by decide +kernel
theorem dX9_trials_39 : decode cX9_trials 39 = .ok (.istore 6, 2) := by decide +kernel
theorem dX9_trials_41 : decode cX9_trials 41 = .ok (.iconst 0, 1) := by decide +kernel
theorem dX9_trials_42 : decode cX9_trials 42 = .ok (.istore 7, 2) := by decide +kernel
theorem dX9_trials_44 : decode cX9_trials 44 = .ok (.iconst 0, 1) := by decide +kernel
theorem dX9_trials_45 : decode cX9_trials 45 = .ok (.istore 8, 2) := by decide +kernel
theorem dX9_trials_47 : decode cX9_trials 47 = .ok (.iload 8, 2) := by decide +kernel
theorem dX9_trials_49 : decode cX9_trials 49 = .ok (.bipush 18, 2) := by decide +kernel
theorem dX9_trials_51 : decode cX9_trials 51 = .ok (.aload_n 0, 1) := by decide +kernel
theorem dX9_trials_52 : decode cX9_trials 52 = .ok (.getfield 202, 3) := by decide +kernel
theorem dX9_trials_55 : decode cX9_trials 55 = .ok (.imul, 1) := by decide +kernel
theorem dX9_trials_56 : decode cX9_trials 56 = .ok (.if_icmp .ge 156, 3) := by decide +kernel
theorem dX9_trials_59 : decode cX9_trials 59 = .ok (.iload 8, 2) := by decide +kernel
theorem dX9_trials_61 : decode cX9_trials 61 = .ok (.bipush 18, 2) := by decide +kernel
theorem dX9_trials_63 : decode cX9_trials 63 = .ok (.idiv, 1) := by decide +kernel
theorem dX9_trials_64 : decode cX9_trials 64 = .ok (.istore 9, 2) := by decide +kernel
theorem dX9_trials_66 : decode cX9_trials 66 = .ok (.aload_n 0, 1) := by decide +kernel
theorem dX9_trials_67 : decode cX9_trials 67 = .ok (.iload 8, 2) := by decide +kernel
theorem dX9_trials_69 : decode cX9_trials 69 = .ok (.iconst 2, 1) := by decide +kernel
theorem dX9_trials_70 : decode cX9_trials 70 = .ok (.idiv, 1) := by decide +kernel
theorem dX9_trials_71 : decode cX9_trials 71 = .ok (.bipush 9, 2) := by decide +kernel
theorem dX9_trials_73 : decode cX9_trials 73 = .ok (.irem, 1) := by decide +kernel
theorem dX9_trials_74 : decode cX9_trials 74 = .ok (.iload 8, 2) := by decide +kernel
theorem dX9_trials_76 : decode cX9_trials 76 = .ok (.iconst 2, 1) := by decide +kernel
theorem dX9_trials_77 : decode cX9_trials 77 = .ok (.irem, 1) := by decide +kernel
theorem dX9_trials_78 : decode cX9_trials 78 = .ok (.iload 9, 2) := by decide +kernel
theorem dX9_trials_80 : decode cX9_trials 80 = .ok (.invokevirtual 211, 3) := by decide +kernel
theorem dX9_trials_83 : decode cX9_trials 83 = .ok (.iload_n 3, 1) := by decide +kernel
theorem dX9_trials_84 : decode cX9_trials 84 = .ok (.aload_n 0, 1) := by decide +kernel
theorem dX9_trials_85 : decode cX9_trials 85 = .ok (.getfield 53, 3) := by decide +kernel
theorem dX9_trials_88 : decode cX9_trials 88 = .ok (.iconst 0, 1) := by decide +kernel
theorem dX9_trials_89 : decode cX9_trials 89 = .ok (.iaload, 1) := by decide +kernel
theorem dX9_trials_90 : decode cX9_trials 90 = .ok (.ifCond .le 7, 3) := by decide +kernel
theorem dX9_trials_93 : decode cX9_trials 93 = .ok (.iconst 1, 1) := by decide +kernel
theorem dX9_trials_94 : decode cX9_trials 94 = .ok (.goto 4, 3) := by decide +kernel
theorem dX9_trials_97 : decode cX9_trials 97 = .ok (.iconst 0, 1) := by decide +kernel
theorem dX9_trials_98 : decode cX9_trials 98 = .ok (.iadd, 1) := by decide +kernel
theorem dX9_trials_99 : decode cX9_trials 99 = .ok (.istore_n 3, 1) := by decide +kernel
theorem dX9_trials_100 : decode cX9_trials 100 = .ok (.iload 4, 2) := by decide +kernel
theorem dX9_trials_102 : decode cX9_trials 102 = .ok (.aload_n 0, 1) := by decide +kernel
theorem dX9_trials_103 : decode cX9_trials 103 = .ok (.getfield 53, 3) := by decide +kernel
theorem dX9_trials_106 : decode cX9_trials 106 = .ok (.iconst 1, 1) := by decide +kernel
theorem dX9_trials_107 : decode cX9_trials 107 = .ok (.iaload, 1) := by decide +kernel
theorem dX9_trials_108 : decode cX9_trials 108 = .ok (.bipush (-9), 2) := by decide +kernel
theorem dX9_trials_110 : decode cX9_trials 110 = .ok (.if_icmp .eq 7, 3) := by decide +kernel
theorem dX9_trials_113 : decode cX9_trials 113 = .ok (.iconst 1, 1) := by decide +kernel
theorem dX9_trials_114 : decode cX9_trials 114 = .ok (.goto 4, 3) := by decide +kernel
theorem dX9_trials_117 : decode cX9_trials 117 = .ok (.iconst 0, 1) := by decide +kernel
theorem dX9_trials_118 : decode cX9_trials 118 = .ok (.iadd, 1) := by decide +kernel
theorem dX9_trials_119 : decode cX9_trials 119 = .ok (.istore 4, 2) := by decide +kernel
theorem dX9_trials_121 : decode cX9_trials 121 = .ok (.aload_n 0, 1) := by decide +kernel
theorem dX9_trials_122 : decode cX9_trials 122 = .ok (.getfield 53, 3) := by decide +kernel
theorem dX9_trials_125 : decode cX9_trials 125 = .ok (.iconst 1, 1) := by decide +kernel
theorem dX9_trials_126 : decode cX9_trials 126 = .ok (.iaload, 1) := by decide +kernel
theorem dX9_trials_127 : decode cX9_trials 127 = .ok (.iload 9, 2) := by decide +kernel
theorem dX9_trials_129 : decode cX9_trials 129 = .ok (.if_icmp .le 29, 3) := by decide +kernel
theorem dX9_trials_132 : decode cX9_trials 132 = .ok (.aload_n 0, 1) := by decide +kernel
theorem dX9_trials_133 : decode cX9_trials 133 = .ok (.getfield 53, 3) := by decide +kernel
theorem dX9_trials_136 : decode cX9_trials 136 = .ok (.iconst 1, 1) := by decide +kernel
theorem dX9_trials_137 : decode cX9_trials 137 = .ok (.iaload, 1) := by decide +kernel
theorem dX9_trials_138 : decode cX9_trials 138 = .ok (.iload 9, 2) := by decide +kernel
theorem dX9_trials_140 : decode cX9_trials 140 = .ok (.isub, 1) := by decide +kernel
theorem dX9_trials_141 : decode cX9_trials 141 = .ok (.iload 5, 2) := by decide +kernel
theorem dX9_trials_143 : decode cX9_trials 143 = .ok (.if_icmp .le 15, 3) := by decide +kernel
theorem dX9_trials_146 : decode cX9_trials 146 = .ok (.aload_n 0, 1) := by decide +kernel
theorem dX9_trials_147 : decode cX9_trials 147 = .ok (.getfield 53, 3) := by decide +kernel
theorem dX9_trials_150 : decode cX9_trials 150 = .ok (.iconst 1, 1) := by decide +kernel
theorem dX9_trials_151 : decode cX9_trials 151 = .ok (.iaload, 1) := by decide +kernel
theorem dX9_trials_152 : decode cX9_trials 152 = .ok (.iload 9, 2) := by decide +kernel
theorem dX9_trials_154 : decode cX9_trials 154 = .ok (.isub, 1) := by decide +kernel
theorem dX9_trials_155 : decode cX9_trials 155 = .ok (.goto 5, 3) := by decide +kernel
theorem dX9_trials_158 : decode cX9_trials 158 = .ok (.iload 5, 2) := by decide +kernel
theorem dX9_trials_160 : decode cX9_trials 160 = .ok (.istore 5, 2) := by decide +kernel
theorem dX9_trials_162 : decode cX9_trials 162 = .ok (.aload_n 0, 1) := by decide +kernel
theorem dX9_trials_163 : decode cX9_trials 163 = .ok (.getfield 53, 3) := by decide +kernel
theorem dX9_trials_166 : decode cX9_trials 166 = .ok (.iconst 0, 1) := by decide +kernel
theorem dX9_trials_167 : decode cX9_trials 167 = .ok (.iaload, 1) := by decide +kernel
theorem dX9_trials_168 : decode cX9_trials 168 = .ok (.iload 6, 2) := by decide +kernel
theorem dX9_trials_170 : decode cX9_trials 170 = .ok (.if_icmp .le 12, 3) := by decide +kernel
theorem dX9_trials_173 : decode cX9_trials 173 = .ok (.aload_n 0, 1) := by decide +kernel
theorem dX9_trials_174 : decode cX9_trials 174 = .ok (.getfield 53, 3) := by decide +kernel
theorem dX9_trials_177 : decode cX9_trials 177 = .ok (.iconst 0, 1) := by decide +kernel
theorem dX9_trials_178 : decode cX9_trials 178 = .ok (.iaload, 1) := by decide +kernel
theorem dX9_trials_179 : decode cX9_trials 179 = .ok (.goto 5, 3) := by decide +kernel
theorem dX9_trials_182 : decode cX9_trials 182 = .ok (.iload 6, 2) := by decide +kernel
theorem dX9_trials_184 : decode cX9_trials 184 = .ok (.istore 6, 2) := by decide +kernel
theorem dX9_trials_186 : decode cX9_trials 186 = .ok (.iload 7, 2) := by decide +kernel
theorem dX9_trials_188 : decode cX9_trials 188 = .ok (.aload_n 0, 1) := by decide +kernel
theorem dX9_trials_189 : decode cX9_trials 189 = .ok (.getfield 53, 3) := by decide +kernel
theorem dX9_trials_192 : decode cX9_trials 192 = .ok (.iconst 4, 1) := by decide +kernel
theorem dX9_trials_193 : decode cX9_trials 193 = .ok (.iaload, 1) := by decide +kernel
theorem dX9_trials_194 : decode cX9_trials 194 = .ok (.iload_n 2, 1) := by decide +kernel
theorem dX9_trials_195 : decode cX9_trials 195 = .ok (.if_icmp .ge 7, 3) := by decide +kernel
theorem dX9_trials_198 : decode cX9_trials 198 = .ok (.iconst 1, 1) := by decide +kernel
theorem dX9_trials_199 : decode cX9_trials 199 = .ok (.goto 4, 3) := by decide +kernel
theorem dX9_trials_202 : decode cX9_trials 202 = .ok (.iconst 0, 1) := by decide +kernel
theorem dX9_trials_203 : decode cX9_trials 203 = .ok (.iadd, 1) := by decide +kernel
theorem dX9_trials_204 : decode cX9_trials 204 = .ok (.istore 7, 2) := by decide +kernel
theorem dX9_trials_206 : decode cX9_trials 206 = .ok (.iinc 8 1, 3) := by decide +kernel
theorem dX9_trials_209 : decode cX9_trials 209 = .ok (.goto (-162), 3) := by decide +kernel
theorem dX9_trials_212 : decode cX9_trials 212 = .ok (.iload_n 1, 1) := by decide +kernel
theorem dX9_trials_213 : decode cX9_trials 213 = .ok (.tableswitch 54 0 4 #[35, 43, 45, 48, 51], 35) := by decide +kernel
theorem dX9_trials_248 : decode cX9_trials 248 = .ok (.bipush 18, 2) := by decide +kernel
theorem dX9_trials_250 : decode cX9_trials 250 = .ok (.aload_n 0, 1) := by decide +kernel
theorem dX9_trials_251 : decode cX9_trials 251 = .ok (.getfield 202, 3) := by decide +kernel
theorem dX9_trials_254 : decode cX9_trials 254 = .ok (.imul, 1) := by decide +kernel
theorem dX9_trials_255 : decode cX9_trials 255 = .ok (.ireturn, 1) := by decide +kernel
theorem dX9_trials_256 : decode cX9_trials 256 = .ok (.iload_n 3, 1) := by decide +kernel
theorem dX9_trials_257 : decode cX9_trials 257 = .ok (.ireturn, 1) := by decide +kernel
theorem dX9_trials_258 : decode cX9_trials 258 = .ok (.iload 4, 2) := by decide +kernel
theorem dX9_trials_260 : decode cX9_trials 260 = .ok (.ireturn, 1) := by decide +kernel
theorem dX9_trials_261 : decode cX9_trials 261 = .ok (.iload 5, 2) := by decide +kernel
theorem dX9_trials_263 : decode cX9_trials 263 = .ok (.ireturn, 1) := by decide +kernel
theorem dX9_trials_264 : decode cX9_trials 264 = .ok (.iload 6, 2) := by decide +kernel
theorem dX9_trials_266 : decode cX9_trials 266 = .ok (.ireturn, 1) := by decide +kernel
theorem dX9_trials_267 : decode cX9_trials 267 = .ok (.iload 7, 2) := by decide +kernel
theorem dX9_trials_269 : decode cX9_trials 269 = .ok (.ireturn, 1) := by decide +kernel
set_option maxRecDepth 20000 in
theorem ggX9_isMay_X9_bit : GoodIn wsX9_isMay wsX9_bit := goodIn_r _ [4] (by decide +kernel) (by decide +kernel)
set_option maxRecDepth 20000 in
theorem gX9_isMay_X9_bit : GoodIn wsX9_isMay (va_wsS RX9 70 yX9_bit wsX9_bit) := goodIn_app (goodIn_of _ (by decide +kernel)) ggX9_isMay_X9_bit
set_option maxRecDepth 20000 in
theorem ggX9_isMay_X9_isSet : GoodIn wsX9_isMay wsX9_isSet := goodIn_r _ [7, 8, 9, 3, 10] (by decide +kernel) (by decide +kernel)
set_option maxRecDepth 20000 in
theorem gX9_isMay_X9_isSet : GoodIn wsX9_isMay (va_wsS RX9 187 yX9_isSet wsX9_isSet) := goodIn_app (goodIn_of _ (by decide +kernel)) ggX9_isMay_X9_isSet
theorem dX9_isMay_0 : decode cX9_isMay 0 = .ok (.iconst 0, 1) := by decide +kernel
theorem dX9_isMay_1 : decode cX9_isMay 1 = .ok (.istore_n 2, 1) := by decide +kernel
theorem dX9_isMay_2 : decode cX9_isMay 2 = .ok (.iconst 0, 1) := by decide +kernel
theorem dX9_isMay_3 : decode cX9_isMay 3 = .ok (.istore_n 3, 1) := by decide +kernel
theorem dX9_isMay_4 : decode cX9_isMay 4 = .ok (.iload_n 3, 1) := by decide +kernel
theorem dX9_isMay_5 : decode cX9_isMay 5 = .ok (.bipush 9, 2) := by decide +kernel
theorem dX9_isMay_7 : decode cX9_isMay 7 = .ok (.if_icmp .ge 17, 3) := by decide +kernel
theorem dX9_isMay_10 : decode cX9_isMay 10 = .ok (.iload_n 2, 1) := by decide +kernel
theorem dX9_isMay_11 : decode cX9_isMay 11 = .ok (.iload_n 1, 1) := by decide +kernel
theorem dX9_isMay_12 : decode cX9_isMay 12 = .ok (.iload_n 3, 1) := by decide +kernel
theorem dX9_isMay_13 : decode cX9_isMay 13 = .ok (.invokestatic 70, 3) := by decide +kernel
theorem dX9_isMay_16 : decode cX9_isMay 16 = .ok (.iadd, 1) := by decide +kernel
theorem dX9_isMay_17 : decode cX9_isMay 17 = .ok (.istore_n 2, 1) := by decide +kernel
theorem dX9_isMay_18 : decode cX9_isMay 18 = .ok (.iinc 3 1, 3) := by decide +kernel
theorem dX9_isMay_21 : decode cX9_isMay 21 = .ok (.goto (-17), 3) := by decide +kernel
theorem dX9_isMay_24 : decode cX9_isMay 24 = .ok (.iload_n 1, 1) := by decide +kernel
theorem dX9_isMay_25 : decode cX9_isMay 25 = .ok (.invokestatic 187, 3) := by decide +kernel
theorem dX9_isMay_28 : decode cX9_isMay 28 = .ok (.ifCond .eq 12, 3) := by decide +kernel
theorem dX9_isMay_31 : decode cX9_isMay 31 = .ok (.iload_n 2, 1) := by decide +kernel
theorem dX9_isMay_32 : decode cX9_isMay 32 = .ok (.iconst 2, 1) := by decide +kernel
theorem dX9_isMay_33 : decode cX9_isMay 33 = .ok (.if_icmp .gt 7, 3) := by decide +kernel
theorem dX9_isMay_36 : decode cX9_isMay 36 = .ok (.iconst 1, 1) := by decide +kernel
theorem dX9_isMay_37 : decode cX9_isMay 37 = .ok (.goto 4, 3) := by decide +kernel
theorem dX9_isMay_40 : decode cX9_isMay 40 = .ok (.iconst 0, 1) := by decide +kernel
theorem dX9_isMay_41 : decode cX9_isMay 41 = .ok (.ireturn, 1) := by decide +kernel
set_option maxRecDepth 20000 in
theorem ggX9_comes_X9_stateOf : GoodIn wsX9_comes wsX9_stateOf := goodIn_r _ [8, 9, 10, 11, 12, 13, 14, 15, 16, 17, 18, 19, 20, 21, 22, 23, 24, 25, 26, 27, 28, 29, 30, 31, 32, 33, 34, 35, 36, 37, 38, 39, 40, 41, 42, 43, 44, 45, 46, 47, 48, 49, 50, 51, 52, 53, 54, 55, 56, 57, 58, 59, 60, 61, 62, 63, 64] (by decide +kernel) (by decide +kernel)
set_option maxRecDepth 20000 in
theorem gX9_comes_X9_stateOf : GoodIn wsX9_comes (wsV RX9 198 RX9 yX9_stateOf wsX9_stateOf) := goodIn_app (goodIn_of _ (by decide +kernel)) ggX9_comes_X9_stateOf
theorem dX9_comes_0 : decode cX9_comes 0 = .ok (.aload_n 0, 1) := by decide +kernel
theorem dX9_comes_1 : decode cX9_comes 1 = .ok (.invokevirtual 198, 3) := by decide +kernel
theorem dX9_comes_4 : decode cX9_comes 4 = .ok (.lstore_n 2, 1) := by decide +kernel
theorem dX9_comes_5 : decode cX9_comes 5 = .ok (.iconst 0, 1) := by decide +kernel
theorem dX9_comes_6 : decode cX9_comes 6 = .ok (.istore 4, 2) := by decide +kernel
theorem dX9_comes_8 : decode cX9_comes 8 = .ok (.iload 4, 2) := by decide +kernel
theorem dX9_comes_10 : decode cX9_comes 10 = .ok (.aload_n 0, 1) := by decide +kernel
theorem dX9_comes_11 : decode cX9_comes 11 = .ok (.getfield 215, 3) := by decide +kernel
theorem dX9_comes_14 : decode cX9_comes 14 = .ok (.if_icmp .ge 51, 3) := by decide +kernel
theorem dX9_comes_17 : decode cX9_comes 17 = .ok (.aload_n 0, 1) := by decide +kernel
theorem dX9_comes_18 : decode cX9_comes 18 = .ok (.getfield 59, 3) := by decide +kernel
theorem dX9_comes_21 : decode cX9_comes 21 = .ok (.iload 4, 2) := by decide +kernel
theorem dX9_comes_23 : decode cX9_comes 23 = .ok (.laload, 1) := by decide +kernel
theorem dX9_comes_24 : decode cX9_comes 24 = .ok (.lload_n 2, 1) := by decide +kernel
theorem dX9_comes_25 : decode cX9_comes 25 = .ok (.lcmp, 1) := by decide +kernel
theorem dX9_comes_26 : decode cX9_comes 26 = .ok (.ifCond .ne 33, 3) := by decide +kernel
theorem dX9_comes_29 : decode cX9_comes 29 = .ok (.aload_n 0, 1) := by decide +kernel
theorem dX9_comes_30 : decode cX9_comes 30 = .ok (.getfield 63, 3) := by decide +kernel
theorem dX9_comes_33 : decode cX9_comes 33 = .ok (.iload 4, 2) := by decide +kernel
theorem dX9_comes_35 : decode cX9_comes 35 = .ok (.iload_n 1, 1) := by decide +kernel
theorem dX9_comes_36 : decode cX9_comes 36 = .ok (.aload_n 0, 1) := by decide +kernel
theorem dX9_comes_37 : decode cX9_comes 37 = .ok (.getfield 63, 3) := by decide +kernel
theorem dX9_comes_40 : decode cX9_comes 40 = .ok (.iload 4, 2) := by decide +kernel
theorem dX9_comes_42 : decode cX9_comes 42 = .ok (.iaload, 1) := by decide +kernel
theorem dX9_comes_43 : decode cX9_comes 43 = .ok (.if_icmp .ge 7, 3) := by decide +kernel
theorem dX9_comes_46 : decode cX9_comes 46 = .ok (.iload_n 1, 1) := by decide +kernel
theorem dX9_comes_47 : decode cX9_comes 47 = .ok (.goto 10, 3) := by decide +kernel
theorem dX9_comes_50 : decode cX9_comes 50 = .ok (.aload_n 0, 1) := by decide +kernel
theorem dX9_comes_51 : decode cX9_comes 51 = .ok (.getfield 63, 3) := by decide +kernel
theorem dX9_comes_54 : decode cX9_comes 54 = .ok (.iload 4, 2) := by decide +kernel
theorem dX9_comes_56 : decode cX9_comes 56 = .ok (.iaload, 1) := by decide +kernel
theorem dX9_comes_57 : decode cX9_comes 57 = .ok (.iastore, 1) := by decide +kernel
theorem dX9_comes_58 : decode cX9_comes 58 = .ok (.return_, 1) := by decide +kernel
theorem dX9_comes_59 : decode cX9_comes 59 = .ok (.iinc 4 1, 3) := by decide +kernel
theorem dX9_comes_62 : decode cX9_comes 62 = .ok (.goto (-54), 3) := by decide +kernel
theorem dX9_comes_65 : decode cX9_comes 65 = .ok (.aload_n 0, 1) := by decide +kernel
theorem dX9_comes_66 : decode cX9_comes 66 = .ok (.getfield 59, 3) := by decide +kernel
theorem dX9_comes_69 : decode cX9_comes 69 = .ok (.aload_n 0, 1) := by decide +kernel
theorem dX9_comes_70 : decode cX9_comes 70 = .ok (.getfield 215, 3) := by decide +kernel
theorem dX9_comes_73 : decode cX9_comes 73 = .ok (.lload_n 2, 1) := by decide +kernel
theorem dX9_comes_74 : decode cX9_comes 74 = .ok (.lastore, 1) := by decide +kernel
theorem dX9_comes_75 : decode cX9_comes 75 = .ok (.aload_n 0, 1) := by decide +kernel
theorem dX9_comes_76 : decode cX9_comes 76 = .ok (.getfield 63, 3) := by decide +kernel
theorem dX9_comes_79 : decode cX9_comes 79 = .ok (.aload_n 0, 1) := by decide +kernel
theorem dX9_comes_80 : decode cX9_comes 80 = .ok (.getfield 215, 3) := by decide +kernel
theorem dX9_comes_83 : decode cX9_comes 83 = .ok (.iload_n 1, 1) := by decide +kernel
theorem dX9_comes_84 : decode cX9_comes 84 = .ok (.iastore, 1) := by decide +kernel
theorem dX9_comes_85 : decode cX9_comes 85 = .ok (.aload_n 0, 1) := by decide +kernel
theorem dX9_comes_86 : decode cX9_comes 86 = .ok (.dup, 1) := by decide +kernel
theorem dX9_comes_87 : decode cX9_comes 87 = .ok (.getfield 215, 3) := by decide +kernel
theorem dX9_comes_90 : decode cX9_comes 90 = .ok (.iconst 1, 1) := by decide +kernel
theorem dX9_comes_91 : decode cX9_comes 91 = .ok (.iadd, 1) := by decide +kernel
theorem dX9_comes_92 : decode cX9_comes 92 = .ok (.putfield 215, 3) := by decide +kernel
theorem dX9_comes_95 : decode cX9_comes 95 = .ok (.return_, 1) := by decide +kernel
set_option maxRecDepth 20000 in
theorem ggX9_chosen_X9_bit : GoodIn wsX9_chosen wsX9_bit := goodIn_r _ [4] (by decide +kernel) (by decide +kernel)
set_option maxRecDepth 20000 in
theorem gX9_chosen_X9_bit : GoodIn wsX9_chosen (va_wsS RX9 70 yX9_bit wsX9_bit) := goodIn_app (goodIn_of _ (by decide +kernel)) ggX9_chosen_X9_bit
theorem dX9_chosen_0 : decode cX9_chosen 0 = .ok (.iload_n 0, 1) := by decide +kernel
theorem dX9_chosen_1 : decode cX9_chosen 1 = .ok (.iload_n 1, 1) := by decide +kernel
theorem dX9_chosen_2 : decode cX9_chosen 2 = .ok (.iconst (-1), 1) := by decide +kernel
theorem dX9_chosen_3 : decode cX9_chosen 3 = .ok (.ixor, 1) := by decide +kernel
theorem dX9_chosen_4 : decode cX9_chosen 4 = .ok (.iand, 1) := by decide +kernel
theorem dX9_chosen_5 : decode cX9_chosen 5 = .ok (.istore_n 3, 1) := by decide +kernel
theorem dX9_chosen_6 : decode cX9_chosen 6 = .ok (.iconst 0, 1) := by decide +kernel
theorem dX9_chosen_7 : decode cX9_chosen 7 = .ok (.istore 4, 2) := by decide +kernel
theorem dX9_chosen_9 : decode cX9_chosen 9 = .ok (.iconst 0, 1) := by decide +kernel
theorem dX9_chosen_10 : decode cX9_chosen 10 = .ok (.istore 5, 2) := by decide +kernel
theorem dX9_chosen_12 : decode cX9_chosen 12 = .ok (.iload 5, 2) := by decide +kernel
theorem dX9_chosen_14 : decode cX9_chosen 14 = .ok (.bipush 9, 2) := by decide +kernel
theorem dX9_chosen_16 : decode cX9_chosen 16 = .ok (.if_icmp .ge 34, 3) := by decide +kernel
theorem dX9_chosen_19 : decode cX9_chosen 19 = .ok (.iload_n 1, 1) := by decide +kernel
theorem dX9_chosen_20 : decode cX9_chosen 20 = .ok (.iload 5, 2) := by decide +kernel
theorem dX9_chosen_22 : decode cX9_chosen 22 = .ok (.invokestatic 70, 3) := by decide +kernel
theorem dX9_chosen_25 : decode cX9_chosen 25 = .ok (.iconst 1, 1) := by decide +kernel
theorem dX9_chosen_26 : decode cX9_chosen 26 = .ok (.if_icmp .ne 18, 3) := by decide +kernel
theorem dX9_chosen_29 : decode cX9_chosen 29 = .ok (.iload_n 3, 1) := by decide +kernel
theorem dX9_chosen_30 : decode cX9_chosen 30 = .ok (.iload_n 2, 1) := by decide +kernel
theorem dX9_chosen_31 : decode cX9_chosen 31 = .ok (.iload 4, 2) := by decide +kernel
theorem dX9_chosen_33 : decode cX9_chosen 33 = .ok (.invokestatic 70, 3) := by decide +kernel
theorem dX9_chosen_36 : decode cX9_chosen 36 = .ok (.iload 5, 2) := by decide +kernel
theorem dX9_chosen_38 : decode cX9_chosen 38 = .ok (.ishl, 1) := by decide +kernel
theorem dX9_chosen_39 : decode cX9_chosen 39 = .ok (.ior, 1) := by decide +kernel
theorem dX9_chosen_40 : decode cX9_chosen 40 = .ok (.istore_n 3, 1) := by decide +kernel
theorem dX9_chosen_41 : decode cX9_chosen 41 = .ok (.iinc 4 1, 3) := by decide +kernel
theorem dX9_chosen_44 : decode cX9_chosen 44 = .ok (.iinc 5 1, 3) := by decide +kernel
theorem dX9_chosen_47 : decode cX9_chosen 47 = .ok (.goto (-35), 3) := by decide +kernel
theorem dX9_chosen_50 : decode cX9_chosen 50 = .ok (.iload_n 3, 1) := by decide +kernel
theorem dX9_chosen_51 : decode cX9_chosen 51 = .ok (.ireturn, 1) := by decide +kernel
set_option maxRecDepth 20000 in
theorem ggX9_goesAll_X9_stateOf : GoodIn wsX9_goesAll wsX9_stateOf := goodIn_r _ [9, 10, 11, 12, 13, 14, 15, 16, 17, 18, 19, 20, 21, 22, 23, 24, 25, 94, 95, 96, 97, 98, 99, 100, 101, 102, 103, 104, 105, 106, 107, 108, 109, 110, 111, 112, 113, 114, 115, 116, 117, 118, 119, 120, 121, 122, 123, 124, 125, 126, 127, 128, 129, 130, 131, 132, 133] (by decide +kernel) (by decide +kernel)
set_option maxRecDepth 20000 in
theorem gX9_goesAll_X9_stateOf : GoodIn wsX9_goesAll (wsV RX9 198 RX9 yX9_stateOf wsX9_stateOf) := goodIn_app (goodIn_of _ (by decide +kernel)) ggX9_goesAll_X9_stateOf
set_option maxRecDepth 20000 in
theorem ggX9_goesAll_X9_comes : GoodIn wsX9_goesAll wsX9_comes := goodIn_r _ [29, 2, 30, 31, 5, 6, 7, 8, 9, 10, 11, 12, 13, 14, 15, 16, 17, 18, 19, 20, 21, 22, 23, 24, 25, 94, 95, 96, 97, 98, 99, 100, 101, 102, 103, 104, 105, 106, 107, 108, 109, 110, 111, 112, 113, 114, 115, 116, 117, 118, 119, 120, 121, 122, 123, 124, 125, 126, 127, 128, 129, 130, 131, 132, 133] (by decide +kernel) (by decide +kernel)
set_option maxRecDepth 20000 in
theorem gX9_goesAll_X9_comes : GoodIn wsX9_goesAll (wsV RX9 221 RX9 yX9_comes wsX9_comes) := goodIn_app (goodIn_of _ (by decide +kernel)) ggX9_goesAll_X9_comes
set_option maxRecDepth 20000 in
theorem ggX9_goesAll_X9_chosen : GoodIn wsX9_goesAll wsX9_chosen := goodIn_r _ [34, 35, 36, 8, 37] (by decide +kernel) (by decide +kernel)
set_option maxRecDepth 20000 in
theorem gX9_goesAll_X9_chosen : GoodIn wsX9_goesAll (va_wsS RX9 224 yX9_chosen wsX9_chosen) := goodIn_app (goodIn_of _ (by decide +kernel)) ggX9_goesAll_X9_chosen
set_option maxRecDepth 20000 in
theorem ggX9_goesAll_X9_tickBy : GoodIn wsX9_goesAll wsX9_tickBy := goodIn_r _ [41, 19, 16, 18, 42, 12, 14, 22, 20, 25, 10, 43, 44, 45, 8, 46, 47, 35, 36, 37, 48, 49, 50, 51, 52, 53, 54, 55, 56, 57, 58, 59, 60, 61, 62, 63, 64, 65, 66, 67, 68, 69, 70, 71, 1, 23, 72, 73, 74, 75, 76, 77, 78, 79, 80, 81, 82, 4, 83, 84, 24, 94, 95, 96, 97, 98, 99, 100, 101, 102, 103, 104, 105, 106, 107, 108, 109, 110, 111, 112, 113, 114, 115, 116, 117, 118, 119, 120, 121, 122, 123, 124, 125, 126, 127, 128, 129, 130, 131, 132, 133] (by decide +kernel) (by decide +kernel)
set_option maxRecDepth 20000 in
theorem gX9_goesAll_X9_tickBy : GoodIn wsX9_goesAll (wsV RX9 191 RX9 yX9_tickBy wsX9_tickBy) := goodIn_app (goodIn_of _ (by decide +kernel)) ggX9_goesAll_X9_tickBy
set_option maxRecDepth 20000 in
theorem ggX9_goesAll_X9_becomes : GoodIn wsX9_goesAll wsX9_becomes := goodIn_r _ [88, 89, 21, 25, 11, 24, 17, 23, 22, 13, 20, 19, 18, 15, 16, 14, 12, 10, 1, 90, 91, 92, 8, 93, 94, 95, 96, 97, 98, 99, 100, 101, 102, 103, 104, 105, 106, 107, 108, 109, 110, 111, 112, 113, 114, 115, 116, 117, 118, 119, 120, 121, 122, 123, 124, 125, 126, 127, 128, 129, 130, 131, 132, 133] (by decide +kernel) (by decide +kernel)
set_option maxRecDepth 20000 in
theorem gX9_goesAll_X9_becomes : GoodIn wsX9_goesAll (wsV RX9 163 RX9 yX9_becomes wsX9_becomes) := goodIn_app (goodIn_of _ (by decide +kernel)) ggX9_goesAll_X9_becomes
theorem dX9_goesAll_0 : decode cX9_goesAll 0 = .ok (.aload_n 0, 1) := by decide +kernel
theorem dX9_goesAll_1 : decode cX9_goesAll 1 = .ok (.invokevirtual 198, 3) := by decide +kernel
theorem dX9_goesAll_4 : decode cX9_goesAll 4 = .ok (.lstore 4, 2) := by decide +kernel
theorem dX9_goesAll_6 : decode cX9_goesAll 6 = .ok (.aload_n 0, 1) := by decide +kernel
theorem dX9_goesAll_7 : decode cX9_goesAll 7 = .ok (.getfield 38, 3) := by decide +kernel
theorem dX9_goesAll_10 : decode cX9_goesAll 10 = .ok (.istore 6, 2) := by decide +kernel
theorem dX9_goesAll_12 : decode cX9_goesAll 12 = .ok (.aload_n 0, 1) := by decide +kernel
theorem dX9_goesAll_13 : decode cX9_goesAll 13 = .ok (.iconst 0, 1) := by decide +kernel
theorem dX9_goesAll_14 : decode cX9_goesAll 14 = .ok (.putfield 215, 3) := by decide +kernel
theorem dX9_goesAll_17 : decode cX9_goesAll 17 = .ok (.aload_n 0, 1) := by decide +kernel
theorem dX9_goesAll_18 : decode cX9_goesAll 18 = .ok (.iconst 0, 1) := by decide +kernel
theorem dX9_goesAll_19 : decode cX9_goesAll 19 = .ok (.putfield 218, 3) := by decide +kernel
theorem dX9_goesAll_22 : decode cX9_goesAll 22 = .ok (.iconst 0, 1) := by decide +kernel
theorem dX9_goesAll_23 : decode cX9_goesAll 23 = .ok (.istore 7, 2) := by decide +kernel
theorem dX9_goesAll_25 : decode cX9_goesAll 25 = .ok (.iload 7, 2) := by decide +kernel
theorem dX9_goesAll_27 : decode cX9_goesAll 27 = .ok (.iconst 1, 1) := by decide +kernel
theorem dX9_goesAll_28 : decode cX9_goesAll 28 = .ok (.iconst 2, 1) := by decide +kernel
theorem dX9_goesAll_29 : decode cX9_goesAll 29 = .ok (.iload_n 3, 1) := by decide +kernel
theorem dX9_goesAll_30 : decode cX9_goesAll 30 = .ok (.imul, 1) := by decide +kernel
theorem dX9_goesAll_31 : decode cX9_goesAll 31 = .ok (.ishl, 1) := by decide +kernel
theorem dX9_goesAll_32 : decode cX9_goesAll 32 = .ok (.if_icmp .ge 97, 3) := by decide +kernel
theorem dX9_goesAll_35 : decode cX9_goesAll 35 = .ok (.iconst 0, 1) := by decide +kernel
theorem dX9_goesAll_36 : decode cX9_goesAll 36 = .ok (.istore 8, 2) := by decide +kernel
theorem dX9_goesAll_38 : decode cX9_goesAll 38 = .ok (.aload_n 0, 1) := by decide +kernel
theorem dX9_goesAll_39 : decode cX9_goesAll 39 = .ok (.iconst 0, 1) := by decide +kernel
theorem dX9_goesAll_40 : decode cX9_goesAll 40 = .ok (.invokevirtual 221, 3) := by decide +kernel
theorem dX9_goesAll_43 : decode cX9_goesAll 43 = .ok (.iconst 0, 1) := by decide +kernel
theorem dX9_goesAll_44 : decode cX9_goesAll 44 = .ok (.istore 9, 2) := by decide +kernel
theorem dX9_goesAll_46 : decode cX9_goesAll 46 = .ok (.iload 9, 2) := by decide +kernel
theorem dX9_goesAll_48 : decode cX9_goesAll 48 = .ok (.iload_n 3, 1) := by decide +kernel
theorem dX9_goesAll_49 : decode cX9_goesAll 49 = .ok (.if_icmp .ge 44, 3) := by decide +kernel
theorem dX9_goesAll_52 : decode cX9_goesAll 52 = .ok (.aload_n 0, 1) := by decide +kernel
theorem dX9_goesAll_53 : decode cX9_goesAll 53 = .ok (.iload_n 1, 1) := by decide +kernel
theorem dX9_goesAll_54 : decode cX9_goesAll 54 = .ok (.iload_n 2, 1) := by decide +kernel
theorem dX9_goesAll_55 : decode cX9_goesAll 55 = .ok (.iload 7, 2) := by decide +kernel
theorem dX9_goesAll_57 : decode cX9_goesAll 57 = .ok (.iconst 2, 1) := by decide +kernel
theorem dX9_goesAll_58 : decode cX9_goesAll 58 = .ok (.iload 9, 2) := by decide +kernel
theorem dX9_goesAll_60 : decode cX9_goesAll 60 = .ok (.imul, 1) := by decide +kernel
theorem dX9_goesAll_61 : decode cX9_goesAll 61 = .ok (.ishr, 1) := by decide +kernel
theorem dX9_goesAll_62 : decode cX9_goesAll 62 = .ok (.iconst 3, 1) := by decide +kernel
theorem dX9_goesAll_63 : decode cX9_goesAll 63 = .ok (.iand, 1) := by decide +kernel
theorem dX9_goesAll_64 : decode cX9_goesAll 64 = .ok (.invokestatic 224, 3) := by decide +kernel
theorem dX9_goesAll_67 : decode cX9_goesAll 67 = .ok (.invokevirtual 191, 3) := by decide +kernel
theorem dX9_goesAll_70 : decode cX9_goesAll 70 = .ok (.iload 8, 2) := by decide +kernel
theorem dX9_goesAll_72 : decode cX9_goesAll 72 = .ok (.aload_n 0, 1) := by decide +kernel
theorem dX9_goesAll_73 : decode cX9_goesAll 73 = .ok (.getfield 136, 3) := by decide +kernel
theorem dX9_goesAll_76 : decode cX9_goesAll 76 = .ok (.iadd, 1) := by decide +kernel
theorem dX9_goesAll_77 : decode cX9_goesAll 77 = .ok (.istore 8, 2) := by decide +kernel
theorem dX9_goesAll_79 : decode cX9_goesAll 79 = .ok (.aload_n 0, 1) := by decide +kernel
theorem dX9_goesAll_80 : decode cX9_goesAll 80 = .ok (.iload 9, 2) := by decide +kernel
theorem dX9_goesAll_82 : decode cX9_goesAll 82 = .ok (.iconst 1, 1) := by decide +kernel
theorem dX9_goesAll_83 : decode cX9_goesAll 83 = .ok (.iadd, 1) := by decide +kernel
theorem dX9_goesAll_84 : decode cX9_goesAll 84 = .ok (.invokevirtual 221, 3) := by decide +kernel
theorem dX9_goesAll_87 : decode cX9_goesAll 87 = .ok (.iinc 9 1, 3) := by decide +kernel
theorem dX9_goesAll_90 : decode cX9_goesAll 90 = .ok (.goto (-44), 3) := by decide +kernel
theorem dX9_goesAll_93 : decode cX9_goesAll 93 = .ok (.aload_n 0, 1) := by decide +kernel
theorem dX9_goesAll_94 : decode cX9_goesAll 94 = .ok (.iload 8, 2) := by decide +kernel
theorem dX9_goesAll_96 : decode cX9_goesAll 96 = .ok (.aload_n 0, 1) := by decide +kernel
theorem dX9_goesAll_97 : decode cX9_goesAll 97 = .ok (.getfield 218, 3) := by decide +kernel
theorem dX9_goesAll_100 : decode cX9_goesAll 100 = .ok (.if_icmp .le 8, 3) := by decide +kernel
theorem dX9_goesAll_103 : decode cX9_goesAll 103 = .ok (.iload 8, 2) := by decide +kernel
theorem dX9_goesAll_105 : decode cX9_goesAll 105 = .ok (.goto 7, 3) := by decide +kernel
theorem dX9_goesAll_108 : decode cX9_goesAll 108 = .ok (.aload_n 0, 1) := by decide +kernel
theorem dX9_goesAll_109 : decode cX9_goesAll 109 = .ok (.getfield 218, 3) := by decide +kernel
theorem dX9_goesAll_112 : decode cX9_goesAll 112 = .ok (.putfield 218, 3) := by decide +kernel
theorem dX9_goesAll_115 : decode cX9_goesAll 115 = .ok (.aload_n 0, 1) := by decide +kernel
theorem dX9_goesAll_116 : decode cX9_goesAll 116 = .ok (.lload 4, 2) := by decide +kernel
theorem dX9_goesAll_118 : decode cX9_goesAll 118 = .ok (.iload 6, 2) := by decide +kernel
theorem dX9_goesAll_120 : decode cX9_goesAll 120 = .ok (.invokevirtual 163, 3) := by decide +kernel
theorem dX9_goesAll_123 : decode cX9_goesAll 123 = .ok (.iinc 7 1, 3) := by decide +kernel
theorem dX9_goesAll_126 : decode cX9_goesAll 126 = .ok (.goto (-101), 3) := by decide +kernel
theorem dX9_goesAll_129 : decode cX9_goesAll 129 = .ok (.return_, 1) := by decide +kernel
theorem dX9_modeOf_0 : decode cX9_modeOf 0 = .ok (.lload_n 1, 1) := by decide +kernel
theorem dX9_modeOf_1 : decode cX9_modeOf 1 = .ok (.bipush 39, 2) := by decide +kernel
theorem dX9_modeOf_3 : decode cX9_modeOf 3 = .ok (.lshr, 1) := by decide +kernel
theorem dX9_modeOf_4 : decode cX9_modeOf 4 = .ok (.l2i, 1) := by decide +kernel
theorem dX9_modeOf_5 : decode cX9_modeOf 5 = .ok (.ireturn, 1) := by decide +kernel
set_option maxRecDepth 20000 in
theorem ggX9_reach_X9_isSet : GoodIn wsX9_reach wsX9_isSet := goodIn_r _ [8, 9, 10, 7, 11] (by decide +kernel) (by decide +kernel)
set_option maxRecDepth 20000 in
theorem gX9_reach_X9_isSet : GoodIn wsX9_reach (va_wsS RX9 187 yX9_isSet wsX9_isSet) := goodIn_app (goodIn_of _ (by decide +kernel)) ggX9_reach_X9_isSet
set_option maxRecDepth 20000 in
theorem ggX9_reach_X9_isMay : GoodIn wsX9_reach wsX9_isMay := goodIn_r _ [15, 16, 17, 7, 18, 5, 6, 8, 9, 10, 11] (by decide +kernel) (by decide +kernel)
set_option maxRecDepth 20000 in
theorem gX9_reach_X9_isMay : GoodIn wsX9_reach (wsV RX9 227 RX9 yX9_isMay wsX9_isMay) := goodIn_app (goodIn_of _ (by decide +kernel)) ggX9_reach_X9_isMay
set_option maxRecDepth 20000 in
theorem ggX9_reach_X9_within : GoodIn wsX9_reach wsX9_within := goodIn_r _ [11] (by decide +kernel) (by decide +kernel)
set_option maxRecDepth 20000 in
theorem gX9_reach_X9_within : GoodIn wsX9_reach (va_wsS RX9 66 yX9_within wsX9_within) := goodIn_app (goodIn_of _ (by decide +kernel)) ggX9_reach_X9_within
set_option maxRecDepth 20000 in
theorem ggX9_reach_X9_goesAll : GoodIn wsX9_reach wsX9_goesAll := goodIn_r _ [22, 23, 1, 2, 24, 25, 26, 27, 7, 28, 29, 30, 31, 32, 33, 34, 35, 36, 37, 38, 39, 40, 41, 42, 43, 44, 45, 46, 47, 48, 3, 4, 49, 50, 51, 16, 17, 18, 52, 53, 54, 55, 56, 57, 58, 59, 60, 61, 62, 63, 64, 65, 66, 67, 68, 69, 70, 71, 72, 73, 74, 75, 76, 77, 78, 79, 80, 81, 82, 83, 84, 85, 86, 87, 88, 89, 90, 91, 92, 93, 94, 95, 96, 97, 98, 99, 100, 101, 102, 103, 104, 105, 106, 107, 112, 113, 114, 115, 116, 117, 118, 119, 120, 121, 122, 123, 124, 125, 126, 127, 128, 129, 130, 131, 132, 133, 134, 135, 136, 137, 138, 139, 140, 141, 142, 143, 144, 145, 146, 147, 148, 149, 150, 151] (by decide +kernel) (by decide +kernel)
set_option maxRecDepth 20000 in
theorem gX9_reach_X9_goesAll : GoodIn wsX9_reach (wsV RX9 230 RX9 yX9_goesAll wsX9_goesAll) := goodIn_app (goodIn_of _ (by decide +kernel)) ggX9_reach_X9_goesAll
set_option maxRecDepth 20000 in
theorem ggX9_reach_X9_modeOf : GoodIn wsX9_reach wsX9_modeOf := goodIn_r _ [111] (by decide +kernel) (by decide +kernel)
set_option maxRecDepth 20000 in
theorem gX9_reach_X9_modeOf : GoodIn wsX9_reach (wsV RX9 233 RX9 yX9_modeOf wsX9_modeOf) := goodIn_app (goodIn_of _ (by decide +kernel)) ggX9_reach_X9_modeOf
theorem dX9_reach_0 : decode cX9_reach 0 = .ok (.iload_n 1, 1) := by decide +kernel
theorem dX9_reach_1 : decode cX9_reach 1 = .ok (.invokestatic 187, 3) := by decide +kernel
theorem dX9_reach_4 : decode cX9_reach 4 = .ok (.ifCond .eq 42, 3) := by decide +kernel
theorem dX9_reach_7 : decode cX9_reach 7 = .ok (.aload_n 0, 1) := by decide +kernel
theorem dX9_reach_8 : decode cX9_reach 8 = .ok (.iload_n 2, 1) := by decide +kernel
theorem dX9_reach_9 : decode cX9_reach 9 = .ok (.invokevirtual 227, 3) := by decide +kernel
theorem dX9_reach_12 : decode cX9_reach 12 = .ok (.ifCond .eq 34, 3) := by decide +kernel
theorem dX9_reach_15 : decode cX9_reach 15 = .ok (.iload_n 3, 1) := by decide +kernel
theorem dX9_reach_16 : decode cX9_reach 16 = .ok (.iconst 0, 1) := by decide +kernel
theorem dX9_reach_17 : decode cX9_reach 17 = .ok (.iconst 5, 1) := by decide +kernel
theorem dX9_reach_18 : decode cX9_reach 18 = .ok (.invokestatic 66, 3) := by decide +kernel
theorem dX9_reach_21 : decode cX9_reach 21 = .ok (.ifCond .eq 25, 3) := by decide +kernel
theorem dX9_reach_24 : decode cX9_reach 24 = .ok (.iload 4, 2) := by decide +kernel
theorem dX9_reach_26 : decode cX9_reach 26 = .ok (.iconst 0, 1) := by decide +kernel
theorem dX9_reach_27 : decode cX9_reach 27 = .ok (.iconst 1, 1) := by decide +kernel
theorem dX9_reach_28 : decode cX9_reach 28 = .ok (.invokestatic 66, 3) := by decide +kernel
theorem dX9_reach_31 : decode cX9_reach 31 = .ok (.ifCond .ne 18, 3) := by decide +kernel
theorem dX9_reach_34 : decode cX9_reach 34 = .ok (.iload 4, 2) := by decide +kernel
theorem dX9_reach_36 : decode cX9_reach 36 = .ok (.bipush 10, 2) := by decide +kernel
theorem dX9_reach_38 : decode cX9_reach 38 = .ok (.bipush 14, 2) := by decide +kernel
theorem dX9_reach_40 : decode cX9_reach 40 = .ok (.invokestatic 66, 3) := by decide +kernel
theorem dX9_reach_43 : decode cX9_reach 43 = .ok (.ifCond .ne 6, 3) := by decide +kernel
theorem dX9_reach_46 : decode cX9_reach 46 = .ok (.bipush (-2), 2) := by decide +kernel
theorem dX9_reach_48 : decode cX9_reach 48 = .ok (.ireturn, 1) := by decide +kernel
theorem dX9_reach_49 : decode cX9_reach 49 = .ok (.aload_n 0, 1) := by decide +kernel
theorem dX9_reach_50 : decode cX9_reach 50 = .ok (.iload_n 1, 1) := by decide +kernel
theorem dX9_reach_51 : decode cX9_reach 51 = .ok (.iload_n 2, 1) := by decide +kernel
theorem dX9_reach_52 : decode cX9_reach 52 = .ok (.iload_n 3, 1) := by decide +kernel
theorem dX9_reach_53 : decode cX9_reach 53 = .ok (.invokevirtual 230, 3) := by decide +kernel
theorem dX9_reach_56 : decode cX9_reach 56 = .ok (.iload 4, 2) := by decide +kernel
theorem dX9_reach_58 : decode cX9_reach 58 = .ok (.iconst 2, 1) := by decide +kernel
theorem dX9_reach_59 : decode cX9_reach 59 = .ok (.if_icmp .ge 20, 3) := by decide +kernel
theorem dX9_reach_62 : decode cX9_reach 62 = .ok (.iload 4, 2) := by decide +kernel
theorem dX9_reach_64 : decode cX9_reach 64 = .ok (.ifCond .ne 10, 3) := by decide +kernel
theorem dX9_reach_67 : decode cX9_reach 67 = .ok (.aload_n 0, 1) := by decide +kernel
theorem dX9_reach_68 : decode cX9_reach 68 = .ok (.getfield 215, 3) := by decide +kernel
theorem dX9_reach_71 : decode cX9_reach 71 = .ok (.goto 7, 3) := by decide +kernel
theorem dX9_reach_74 : decode cX9_reach 74 = .ok (.aload_n 0, 1) := by decide +kernel
theorem dX9_reach_75 : decode cX9_reach 75 = .ok (.getfield 218, 3) := by decide +kernel
theorem dX9_reach_78 : decode cX9_reach 78 = .ok (.ireturn, 1) := by decide +kernel
theorem dX9_reach_79 : decode cX9_reach 79 = .ok (.bipush (-9), 2) := by decide +kernel
theorem dX9_reach_81 : decode cX9_reach 81 = .ok (.istore 5, 2) := by decide +kernel
theorem dX9_reach_83 : decode cX9_reach 83 = .ok (.iconst 0, 1) := by decide +kernel
theorem dX9_reach_84 : decode cX9_reach 84 = .ok (.istore 6, 2) := by decide +kernel
theorem dX9_reach_86 : decode cX9_reach 86 = .ok (.iload 6, 2) := by decide +kernel
theorem dX9_reach_88 : decode cX9_reach 88 = .ok (.aload_n 0, 1) := by decide +kernel
theorem dX9_reach_89 : decode cX9_reach 89 = .ok (.getfield 215, 3) := by decide +kernel
theorem dX9_reach_92 : decode cX9_reach 92 = .ok (.if_icmp .ge 73, 3) := by decide +kernel
theorem dX9_reach_95 : decode cX9_reach 95 = .ok (.aload_n 0, 1) := by decide +kernel
theorem dX9_reach_96 : decode cX9_reach 96 = .ok (.aload_n 0, 1) := by decide +kernel
theorem dX9_reach_97 : decode cX9_reach 97 = .ok (.getfield 59, 3) := by decide +kernel
theorem dX9_reach_100 : decode cX9_reach 100 = .ok (.iload 6, 2) := by decide +kernel
theorem dX9_reach_102 : decode cX9_reach 102 = .ok (.laload, 1) := by decide +kernel
theorem dX9_reach_103 : decode cX9_reach 103 = .ok (.invokevirtual 233, 3) := by decide +kernel
theorem dX9_reach_106 : decode cX9_reach 106 = .ok (.iload 4, 2) := by decide +kernel
theorem dX9_reach_108 : decode cX9_reach 108 = .ok (.bipush 10, 2) := by decide +kernel
theorem dX9_reach_110 : decode cX9_reach 110 = .ok (.isub, 1) := by decide +kernel
theorem dX9_reach_111 : decode cX9_reach 111 = .ok (.if_icmp .ne 7, 3) := by decide +kernel
theorem dX9_reach_114 : decode cX9_reach 114 = .ok (.iconst 1, 1) := by decide +kernel
theorem dX9_reach_115 : decode cX9_reach 115 = .ok (.goto 4, 3) := by decide +kernel
theorem dX9_reach_118 : decode cX9_reach 118 = .ok (.iconst 0, 1) := by decide +kernel
theorem dX9_reach_119 : decode cX9_reach 119 = .ok (.istore 7, 2) := by decide +kernel
theorem dX9_reach_121 : decode cX9_reach 121 = .ok (.iload 7, 2) := by decide +kernel
theorem dX9_reach_123 : decode cX9_reach 123 = .ok (.ifCond .eq 32, 3) := by decide +kernel
theorem dX9_reach_126 : decode cX9_reach 126 = .ok (.iload 5, 2) := by decide +kernel
theorem dX9_reach_128 : decode cX9_reach 128 = .ok (.bipush (-9), 2) := by decide +kernel
theorem dX9_reach_130 : decode cX9_reach 130 = .ok (.if_icmp .eq 15, 3) := by decide +kernel
theorem dX9_reach_133 : decode cX9_reach 133 = .ok (.aload_n 0, 1) := by decide +kernel
theorem dX9_reach_134 : decode cX9_reach 134 = .ok (.getfield 63, 3) := by decide +kernel
theorem dX9_reach_137 : decode cX9_reach 137 = .ok (.iload 6, 2) := by decide +kernel
theorem dX9_reach_139 : decode cX9_reach 139 = .ok (.iaload, 1) := by decide +kernel
theorem dX9_reach_140 : decode cX9_reach 140 = .ok (.iload 5, 2) := by decide +kernel
theorem dX9_reach_142 : decode cX9_reach 142 = .ok (.if_icmp .ge 13, 3) := by decide +kernel
theorem dX9_reach_145 : decode cX9_reach 145 = .ok (.aload_n 0, 1) := by decide +kernel
theorem dX9_reach_146 : decode cX9_reach 146 = .ok (.getfield 63, 3) := by decide +kernel
theorem dX9_reach_149 : decode cX9_reach 149 = .ok (.iload 6, 2) := by decide +kernel
theorem dX9_reach_151 : decode cX9_reach 151 = .ok (.iaload, 1) := by decide +kernel
theorem dX9_reach_152 : decode cX9_reach 152 = .ok (.goto 5, 3) := by decide +kernel
theorem dX9_reach_155 : decode cX9_reach 155 = .ok (.iload 5, 2) := by decide +kernel
theorem dX9_reach_157 : decode cX9_reach 157 = .ok (.istore 5, 2) := by decide +kernel
theorem dX9_reach_159 : decode cX9_reach 159 = .ok (.iinc 6 1, 3) := by decide +kernel
theorem dX9_reach_162 : decode cX9_reach 162 = .ok (.goto (-76), 3) := by decide +kernel
theorem dX9_reach_165 : decode cX9_reach 165 = .ok (.iload 5, 2) := by decide +kernel
theorem dX9_reach_167 : decode cX9_reach 167 = .ok (.ireturn, 1) := by decide +kernel
theorem dX9_many_0 : decode cX9_many 0 = .ok (.iconst 0, 1) := by decide +kernel
theorem dX9_many_1 : decode cX9_many 1 = .ok (.istore_n 2, 1) := by decide +kernel
theorem dX9_many_2 : decode cX9_many 2 = .ok (.iload_n 1, 1) := by decide +kernel
theorem dX9_many_3 : decode cX9_many 3 = .ok (.tableswitch 132 0 6 #[41, 46, 51, 56, 61, 95, 127], 41) := by decide +kernel
theorem dX9_many_44 : decode cX9_many 44 = .ok (.aload_n 0, 1) := by decide +kernel
theorem dX9_many_45 : decode cX9_many 45 = .ok (.getfield 170, 3) := by decide +kernel
theorem dX9_many_48 : decode cX9_many 48 = .ok (.ireturn, 1) := by decide +kernel
theorem dX9_many_49 : decode cX9_many 49 = .ok (.aload_n 0, 1) := by decide +kernel
theorem dX9_many_50 : decode cX9_many 50 = .ok (.getfield 173, 3) := by decide +kernel
theorem dX9_many_53 : decode cX9_many 53 = .ok (.ireturn, 1) := by decide +kernel
theorem dX9_many_54 : decode cX9_many 54 = .ok (.aload_n 0, 1) := by decide +kernel
theorem dX9_many_55 : decode cX9_many 55 = .ok (.getfield 176, 3) := by decide +kernel
theorem dX9_many_58 : decode cX9_many 58 = .ok (.ireturn, 1) := by decide +kernel
theorem dX9_many_59 : decode cX9_many 59 = .ok (.aload_n 0, 1) := by decide +kernel
theorem dX9_many_60 : decode cX9_many 60 = .ok (.getfield 202, 3) := by decide +kernel
theorem dX9_many_63 : decode cX9_many 63 = .ok (.ireturn, 1) := by decide +kernel
theorem dX9_many_64 : decode cX9_many 64 = .ok (.iconst 0, 1) := by decide +kernel
theorem dX9_many_65 : decode cX9_many 65 = .ok (.istore_n 3, 1) := by decide +kernel
theorem dX9_many_66 : decode cX9_many 66 = .ok (.iload_n 3, 1) := by decide +kernel
theorem dX9_many_67 : decode cX9_many 67 = .ok (.bipush 9, 2) := by decide +kernel
theorem dX9_many_69 : decode cX9_many 69 = .ok (.if_icmp .ge 27, 3) := by decide +kernel
theorem dX9_many_72 : decode cX9_many 72 = .ok (.iload_n 2, 1) := by decide +kernel
theorem dX9_many_73 : decode cX9_many 73 = .ok (.aload_n 0, 1) := by decide +kernel
theorem dX9_many_74 : decode cX9_many 74 = .ok (.getfield 25, 3) := by decide +kernel
theorem dX9_many_77 : decode cX9_many 77 = .ok (.iload_n 3, 1) := by decide +kernel
theorem dX9_many_78 : decode cX9_many 78 = .ok (.iaload, 1) := by decide +kernel
theorem dX9_many_79 : decode cX9_many 79 = .ok (.iconst 2, 1) := by decide +kernel
theorem dX9_many_80 : decode cX9_many 80 = .ok (.if_icmp .eq 7, 3) := by decide +kernel
theorem dX9_many_83 : decode cX9_many 83 = .ok (.iconst 1, 1) := by decide +kernel
theorem dX9_many_84 : decode cX9_many 84 = .ok (.goto 4, 3) := by decide +kernel
theorem dX9_many_87 : decode cX9_many 87 = .ok (.iconst 0, 1) := by decide +kernel
theorem dX9_many_88 : decode cX9_many 88 = .ok (.iadd, 1) := by decide +kernel
theorem dX9_many_89 : decode cX9_many 89 = .ok (.istore_n 2, 1) := by decide +kernel
theorem dX9_many_90 : decode cX9_many 90 = .ok (.iinc 3 1, 3) := by decide +kernel
theorem dX9_many_93 : decode cX9_many 93 = .ok (.goto (-27), 3) := by decide +kernel
theorem dX9_many_96 : decode cX9_many 96 = .ok (.iload_n 2, 1) := by decide +kernel
theorem dX9_many_97 : decode cX9_many 97 = .ok (.ireturn, 1) := by decide +kernel
theorem dX9_many_98 : decode cX9_many 98 = .ok (.aload_n 0, 1) := by decide +kernel
theorem dX9_many_99 : decode cX9_many 99 = .ok (.getfield 29, 3) := by decide +kernel
theorem dX9_many_102 : decode cX9_many 102 = .ok (.iconst 0, 1) := by decide +kernel
theorem dX9_many_103 : decode cX9_many 103 = .ok (.iaload, 1) := by decide +kernel
theorem dX9_many_104 : decode cX9_many 104 = .ok (.iconst 2, 1) := by decide +kernel
theorem dX9_many_105 : decode cX9_many 105 = .ok (.if_icmp .eq 7, 3) := by decide +kernel
theorem dX9_many_108 : decode cX9_many 108 = .ok (.iconst 1, 1) := by decide +kernel
theorem dX9_many_109 : decode cX9_many 109 = .ok (.goto 4, 3) := by decide +kernel
theorem dX9_many_112 : decode cX9_many 112 = .ok (.iconst 0, 1) := by decide +kernel
theorem dX9_many_113 : decode cX9_many 113 = .ok (.aload_n 0, 1) := by decide +kernel
theorem dX9_many_114 : decode cX9_many 114 = .ok (.getfield 29, 3) := by decide +kernel
theorem dX9_many_117 : decode cX9_many 117 = .ok (.iconst 1, 1) := by decide +kernel
theorem dX9_many_118 : decode cX9_many 118 = .ok (.iaload, 1) := by decide +kernel
theorem dX9_many_119 : decode cX9_many 119 = .ok (.iconst 2, 1) := by decide +kernel
theorem dX9_many_120 : decode cX9_many 120 = .ok (.if_icmp .eq 7, 3) := by decide +kernel
theorem dX9_many_123 : decode cX9_many 123 = .ok (.iconst 1, 1) := by decide +kernel
theorem dX9_many_124 : decode cX9_many 124 = .ok (.goto 4, 3) := by decide +kernel
theorem dX9_many_127 : decode cX9_many 127 = .ok (.iconst 0, 1) := by decide +kernel
theorem dX9_many_128 : decode cX9_many 128 = .ok (.iadd, 1) := by decide +kernel
theorem dX9_many_129 : decode cX9_many 129 = .ok (.ireturn, 1) := by decide +kernel
theorem dX9_many_130 : decode cX9_many 130 = .ok (.aload_n 0, 1) := by decide +kernel
theorem dX9_many_131 : decode cX9_many 131 = .ok (.getfield 179, 3) := by decide +kernel
theorem dX9_many_134 : decode cX9_many 134 = .ok (.ireturn, 1) := by decide +kernel
theorem dX9_many_135 : decode cX9_many 135 = .ok (.bipush (-2), 2) := by decide +kernel
theorem dX9_many_137 : decode cX9_many 137 = .ok (.ireturn, 1) := by decide +kernel
theorem dJ6_bitCount_0f7a4_0 : decode cJ6_bitCount_0f7a4 0 = .ok (.iload_n 0, 1) := by decide +kernel
theorem dJ6_bitCount_0f7a4_1 : decode cJ6_bitCount_0f7a4 1 = .ok (.iload_n 0, 1) := by decide +kernel
theorem dJ6_bitCount_0f7a4_2 : decode cJ6_bitCount_0f7a4 2 = .ok (.iconst 1, 1) := by decide +kernel
theorem dJ6_bitCount_0f7a4_3 : decode cJ6_bitCount_0f7a4 3 = .ok (.iushr, 1) := by decide +kernel
theorem dJ6_bitCount_0f7a4_4 : decode cJ6_bitCount_0f7a4 4 = .ok (.ldc_w 265, 3) := by decide +kernel
theorem dJ6_bitCount_0f7a4_7 : decode cJ6_bitCount_0f7a4 7 = .ok (.iand, 1) := by decide +kernel
theorem dJ6_bitCount_0f7a4_8 : decode cJ6_bitCount_0f7a4 8 = .ok (.isub, 1) := by decide +kernel
theorem dJ6_bitCount_0f7a4_9 : decode cJ6_bitCount_0f7a4 9 = .ok (.istore_n 0, 1) := by decide +kernel
theorem dJ6_bitCount_0f7a4_10 : decode cJ6_bitCount_0f7a4 10 = .ok (.iload_n 0, 1) := by decide +kernel
theorem dJ6_bitCount_0f7a4_11 : decode cJ6_bitCount_0f7a4 11 = .ok (.ldc_w 266, 3) := by decide +kernel
theorem dJ6_bitCount_0f7a4_14 : decode cJ6_bitCount_0f7a4 14 = .ok (.iand, 1) := by decide +kernel
theorem dJ6_bitCount_0f7a4_15 : decode cJ6_bitCount_0f7a4 15 = .ok (.iload_n 0, 1) := by decide +kernel
theorem dJ6_bitCount_0f7a4_16 : decode cJ6_bitCount_0f7a4 16 = .ok (.iconst 2, 1) := by decide +kernel
theorem dJ6_bitCount_0f7a4_17 : decode cJ6_bitCount_0f7a4 17 = .ok (.iushr, 1) := by decide +kernel
theorem dJ6_bitCount_0f7a4_18 : decode cJ6_bitCount_0f7a4 18 = .ok (.ldc_w 266, 3) := by decide +kernel
theorem dJ6_bitCount_0f7a4_21 : decode cJ6_bitCount_0f7a4 21 = .ok (.iand, 1) := by decide +kernel
theorem dJ6_bitCount_0f7a4_22 : decode cJ6_bitCount_0f7a4 22 = .ok (.iadd, 1) := by decide +kernel
theorem dJ6_bitCount_0f7a4_23 : decode cJ6_bitCount_0f7a4 23 = .ok (.istore_n 0, 1) := by decide +kernel
theorem dJ6_bitCount_0f7a4_24 : decode cJ6_bitCount_0f7a4 24 = .ok (.iload_n 0, 1) := by decide +kernel
theorem dJ6_bitCount_0f7a4_25 : decode cJ6_bitCount_0f7a4 25 = .ok (.iload_n 0, 1) := by decide +kernel
theorem dJ6_bitCount_0f7a4_26 : decode cJ6_bitCount_0f7a4 26 = .ok (.iconst 4, 1) := by decide +kernel
theorem dJ6_bitCount_0f7a4_27 : decode cJ6_bitCount_0f7a4 27 = .ok (.iushr, 1) := by decide +kernel
theorem dJ6_bitCount_0f7a4_28 : decode cJ6_bitCount_0f7a4 28 = .ok (.iadd, 1) := by decide +kernel
theorem dJ6_bitCount_0f7a4_29 : decode cJ6_bitCount_0f7a4 29 = .ok (.ldc_w 267, 3) := by decide +kernel
theorem dJ6_bitCount_0f7a4_32 : decode cJ6_bitCount_0f7a4 32 = .ok (.iand, 1) := by decide +kernel
theorem dJ6_bitCount_0f7a4_33 : decode cJ6_bitCount_0f7a4 33 = .ok (.istore_n 0, 1) := by decide +kernel
theorem dJ6_bitCount_0f7a4_34 : decode cJ6_bitCount_0f7a4 34 = .ok (.iload_n 0, 1) := by decide +kernel
theorem dJ6_bitCount_0f7a4_35 : decode cJ6_bitCount_0f7a4 35 = .ok (.iload_n 0, 1) := by decide +kernel
theorem dJ6_bitCount_0f7a4_36 : decode cJ6_bitCount_0f7a4 36 = .ok (.bipush 8, 2) := by decide +kernel
theorem dJ6_bitCount_0f7a4_38 : decode cJ6_bitCount_0f7a4 38 = .ok (.iushr, 1) := by decide +kernel
theorem dJ6_bitCount_0f7a4_39 : decode cJ6_bitCount_0f7a4 39 = .ok (.iadd, 1) := by decide +kernel
theorem dJ6_bitCount_0f7a4_40 : decode cJ6_bitCount_0f7a4 40 = .ok (.istore_n 0, 1) := by decide +kernel
theorem dJ6_bitCount_0f7a4_41 : decode cJ6_bitCount_0f7a4 41 = .ok (.iload_n 0, 1) := by decide +kernel
theorem dJ6_bitCount_0f7a4_42 : decode cJ6_bitCount_0f7a4 42 = .ok (.iload_n 0, 1) := by decide +kernel
theorem dJ6_bitCount_0f7a4_43 : decode cJ6_bitCount_0f7a4 43 = .ok (.bipush 16, 2) := by decide +kernel
theorem dJ6_bitCount_0f7a4_45 : decode cJ6_bitCount_0f7a4 45 = .ok (.iushr, 1) := by decide +kernel
theorem dJ6_bitCount_0f7a4_46 : decode cJ6_bitCount_0f7a4 46 = .ok (.iadd, 1) := by decide +kernel
theorem dJ6_bitCount_0f7a4_47 : decode cJ6_bitCount_0f7a4 47 = .ok (.istore_n 0, 1) := by decide +kernel
theorem dJ6_bitCount_0f7a4_48 : decode cJ6_bitCount_0f7a4 48 = .ok (.iload_n 0, 1) := by decide +kernel
theorem dJ6_bitCount_0f7a4_49 : decode cJ6_bitCount_0f7a4 49 = .ok (.bipush 63, 2) := by decide +kernel
theorem dJ6_bitCount_0f7a4_51 : decode cJ6_bitCount_0f7a4 51 = .ok (.iand, 1) := by decide +kernel
theorem dJ6_bitCount_0f7a4_52 : decode cJ6_bitCount_0f7a4 52 = .ok (.ireturn, 1) := by decide +kernel
theorem dJ9_max_7cf53_0 : decode cJ9_max_7cf53 0 = .ok (.iload_n 0, 1) := by decide +kernel
theorem dJ9_max_7cf53_1 : decode cJ9_max_7cf53 1 = .ok (.iload_n 1, 1) := by decide +kernel
theorem dJ9_max_7cf53_2 : decode cJ9_max_7cf53 2 = .ok (.if_icmp .lt 7, 3) := by decide +kernel
theorem dJ9_max_7cf53_5 : decode cJ9_max_7cf53 5 = .ok (.iload_n 0, 1) := by decide +kernel
theorem dJ9_max_7cf53_6 : decode cJ9_max_7cf53 6 = .ok (.goto 4, 3) := by decide +kernel
theorem dJ9_max_7cf53_9 : decode cJ9_max_7cf53 9 = .ok (.iload_n 1, 1) := by decide +kernel
theorem dJ9_max_7cf53_10 : decode cJ9_max_7cf53 10 = .ok (.ireturn, 1) := by decide +kernel
theorem dJ9_min_7cf53_0 : decode cJ9_min_7cf53 0 = .ok (.iload_n 0, 1) := by decide +kernel
theorem dJ9_min_7cf53_1 : decode cJ9_min_7cf53 1 = .ok (.iload_n 1, 1) := by decide +kernel
theorem dJ9_min_7cf53_2 : decode cJ9_min_7cf53 2 = .ok (.if_icmp .gt 7, 3) := by decide +kernel
theorem dJ9_min_7cf53_5 : decode cJ9_min_7cf53 5 = .ok (.iload_n 0, 1) := by decide +kernel
theorem dJ9_min_7cf53_6 : decode cJ9_min_7cf53 6 = .ok (.goto 4, 3) := by decide +kernel
theorem dJ9_min_7cf53_9 : decode cJ9_min_7cf53 9 = .ok (.iload_n 1, 1) := by decide +kernel
theorem dJ9_min_7cf53_10 : decode cJ9_min_7cf53 10 = .ok (.ireturn, 1) := by decide +kernel
theorem dJ7_fill_d0a16_0 : decode cJ7_fill_d0a16 0 = .ok (.iconst 0, 1) := by decide +kernel
theorem dJ7_fill_d0a16_1 : decode cJ7_fill_d0a16 1 = .ok (.istore_n 3, 1) := by decide +kernel
theorem dJ7_fill_d0a16_2 : decode cJ7_fill_d0a16 2 = .ok (.aload_n 0, 1) := by decide +kernel
theorem dJ7_fill_d0a16_3 : decode cJ7_fill_d0a16 3 = .ok (.arraylength, 1) := by decide +kernel
theorem dJ7_fill_d0a16_4 : decode cJ7_fill_d0a16 4 = .ok (.istore 4, 2) := by decide +kernel
theorem dJ7_fill_d0a16_6 : decode cJ7_fill_d0a16 6 = .ok (.iload_n 3, 1) := by decide +kernel
theorem dJ7_fill_d0a16_7 : decode cJ7_fill_d0a16 7 = .ok (.iload 4, 2) := by decide +kernel
theorem dJ7_fill_d0a16_9 : decode cJ7_fill_d0a16 9 = .ok (.if_icmp .ge 13, 3) := by decide +kernel
theorem dJ7_fill_d0a16_12 : decode cJ7_fill_d0a16 12 = .ok (.aload_n 0, 1) := by decide +kernel
theorem dJ7_fill_d0a16_13 : decode cJ7_fill_d0a16 13 = .ok (.iload_n 3, 1) := by decide +kernel
theorem dJ7_fill_d0a16_14 : decode cJ7_fill_d0a16 14 = .ok (.lload_n 1, 1) := by decide +kernel
theorem dJ7_fill_d0a16_15 : decode cJ7_fill_d0a16 15 = .ok (.lastore, 1) := by decide +kernel
theorem dJ7_fill_d0a16_16 : decode cJ7_fill_d0a16 16 = .ok (.iinc 3 1, 3) := by decide +kernel
theorem dJ7_fill_d0a16_19 : decode cJ7_fill_d0a16 19 = .ok (.goto (-13), 3) := by decide +kernel
theorem dJ7_fill_d0a16_22 : decode cJ7_fill_d0a16 22 = .ok (.return_, 1) := by decide +kernel
theorem dJ7_fill_53178_0 : decode cJ7_fill_53178 0 = .ok (.iconst 0, 1) := by decide +kernel
theorem dJ7_fill_53178_1 : decode cJ7_fill_53178 1 = .ok (.istore_n 2, 1) := by decide +kernel
theorem dJ7_fill_53178_2 : decode cJ7_fill_53178 2 = .ok (.aload_n 0, 1) := by decide +kernel
theorem dJ7_fill_53178_3 : decode cJ7_fill_53178 3 = .ok (.arraylength, 1) := by decide +kernel
theorem dJ7_fill_53178_4 : decode cJ7_fill_53178 4 = .ok (.istore_n 3, 1) := by decide +kernel
theorem dJ7_fill_53178_5 : decode cJ7_fill_53178 5 = .ok (.iload_n 2, 1) := by decide +kernel
theorem dJ7_fill_53178_6 : decode cJ7_fill_53178 6 = .ok (.iload_n 3, 1) := by decide +kernel
theorem dJ7_fill_53178_7 : decode cJ7_fill_53178 7 = .ok (.if_icmp .ge 13, 3) := by decide +kernel
theorem dJ7_fill_53178_10 : decode cJ7_fill_53178 10 = .ok (.aload_n 0, 1) := by decide +kernel
theorem dJ7_fill_53178_11 : decode cJ7_fill_53178 11 = .ok (.iload_n 2, 1) := by decide +kernel
theorem dJ7_fill_53178_12 : decode cJ7_fill_53178 12 = .ok (.iload_n 1, 1) := by decide +kernel
theorem dJ7_fill_53178_13 : decode cJ7_fill_53178 13 = .ok (.iastore, 1) := by decide +kernel
theorem dJ7_fill_53178_14 : decode cJ7_fill_53178 14 = .ok (.iinc 2 1, 3) := by decide +kernel
theorem dJ7_fill_53178_17 : decode cJ7_fill_53178 17 = .ok (.goto (-12), 3) := by decide +kernel
theorem dJ7_fill_53178_20 : decode cJ7_fill_53178 20 = .ok (.return_, 1) := by decide +kernel
