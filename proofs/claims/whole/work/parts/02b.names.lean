theorem dX0_init_0 : decode cX0_init 0 = .ok (.aload_n 0, 1) := by decide +kernel
theorem dX0_init_1 : decode cX0_init 1 = .ok (.invokespecial 3, 3) := by decide +kernel
theorem dX0_init_4 : decode cX0_init 4 = .ok (.aload_n 0, 1) := by decide +kernel
theorem dX0_init_5 : decode cX0_init 5 = .ok (.bipush 8, 2) := by decide +kernel
theorem dX0_init_7 : decode cX0_init 7 = .ok (.newarray .int, 2) := by decide +kernel
theorem dX0_init_9 : decode cX0_init 9 = .ok (.putfield 9, 3) := by decide +kernel
theorem dX0_init_12 : decode cX0_init 12 = .ok (.aload_n 0, 1) := by decide +kernel
theorem dX0_init_13 : decode cX0_init 13 = .ok (.bipush 8, 2) := by decide +kernel
theorem dX0_init_15 : decode cX0_init 15 = .ok (.newarray .int, 2) := by decide +kernel
theorem dX0_init_17 : decode cX0_init 17 = .ok (.putfield 15, 3) := by decide +kernel
theorem dX0_init_20 : decode cX0_init 20 = .ok (.aload_n 0, 1) := by decide +kernel
theorem dX0_init_21 : decode cX0_init 21 = .ok (.bipush 8, 2) := by decide +kernel
theorem dX0_init_23 : decode cX0_init 23 = .ok (.newarray .int, 2) := by decide +kernel
theorem dX0_init_25 : decode cX0_init 25 = .ok (.putfield 18, 3) := by decide +kernel
theorem dX0_init_28 : decode cX0_init 28 = .ok (.aload_n 0, 1) := by decide +kernel
theorem dX0_init_29 : decode cX0_init 29 = .ok (.bipush 8, 2) := by decide +kernel
theorem dX0_init_31 : decode cX0_init 31 = .ok (.newarray .int, 2) := by decide +kernel
theorem dX0_init_33 : decode cX0_init 33 = .ok (.putfield 21, 3) := by decide +kernel
theorem dX0_init_36 : decode cX0_init 36 = .ok (.aload_n 0, 1) := by decide +kernel
theorem dX0_init_37 : decode cX0_init 37 = .ok (.bipush 8, 2) := by decide +kernel
theorem dX0_init_39 : decode cX0_init 39 = .ok (.newarray .int, 2) := by decide +kernel
theorem dX0_init_41 : decode cX0_init 41 = .ok (.putfield 24, 3) := by decide +kernel
theorem dX0_init_44 : decode cX0_init 44 = .ok (.aload_n 0, 1) := by decide +kernel
theorem dX0_init_45 : decode cX0_init 45 = .ok (.bipush 8, 2) := by decide +kernel
theorem dX0_init_47 : decode cX0_init 47 = .ok (.newarray .int, 2) := by decide +kernel
theorem dX0_init_49 : decode cX0_init 49 = .ok (.putfield 27, 3) := by decide +kernel
theorem dX0_init_52 : decode cX0_init 52 = .ok (.return_, 1) := by decide +kernel
theorem dX0_clear_0 : decode cX0_clear 0 = .ok (.aload_n 0, 1) := by decide +kernel
theorem dX0_clear_1 : decode cX0_clear 1 = .ok (.iconst 0, 1) := by decide +kernel
theorem dX0_clear_2 : decode cX0_clear 2 = .ok (.putfield 30, 3) := by decide +kernel
theorem dX0_clear_5 : decode cX0_clear 5 = .ok (.aload_n 0, 1) := by decide +kernel
theorem dX0_clear_6 : decode cX0_clear 6 = .ok (.iconst 0, 1) := by decide +kernel
theorem dX0_clear_7 : decode cX0_clear 7 = .ok (.putfield 34, 3) := by decide +kernel
theorem dX0_clear_10 : decode cX0_clear 10 = .ok (.aload_n 0, 1) := by decide +kernel
theorem dX0_clear_11 : decode cX0_clear 11 = .ok (.iconst 0, 1) := by decide +kernel
theorem dX0_clear_12 : decode cX0_clear 12 = .ok (.putfield 37, 3) := by decide +kernel
theorem dX0_clear_15 : decode cX0_clear 15 = .ok (.aload_n 0, 1) := by decide +kernel
theorem dX0_clear_16 : decode cX0_clear 16 = .ok (.iconst 1, 1) := by decide +kernel
theorem dX0_clear_17 : decode cX0_clear 17 = .ok (.putfield 40, 3) := by decide +kernel
theorem dX0_clear_20 : decode cX0_clear 20 = .ok (.aload_n 0, 1) := by decide +kernel
theorem dX0_clear_21 : decode cX0_clear 21 = .ok (.iconst 3, 1) := by decide +kernel
theorem dX0_clear_22 : decode cX0_clear 22 = .ok (.putfield 43, 3) := by decide +kernel
theorem dX0_clear_25 : decode cX0_clear 25 = .ok (.return_, 1) := by decide +kernel
theorem dX0_addDesk_0 : decode cX0_addDesk 0 = .ok (.aload_n 0, 1) := by decide +kernel
theorem dX0_addDesk_1 : decode cX0_addDesk 1 = .ok (.getfield 30, 3) := by decide +kernel
theorem dX0_addDesk_4 : decode cX0_addDesk 4 = .ok (.bipush 8, 2) := by decide +kernel
theorem dX0_addDesk_6 : decode cX0_addDesk 6 = .ok (.if_icmp .lt 5, 3) := by decide +kernel
theorem dX0_addDesk_9 : decode cX0_addDesk 9 = .ok (.iconst 0, 1) := by decide +kernel
theorem dX0_addDesk_10 : decode cX0_addDesk 10 = .ok (.ireturn, 1) := by decide +kernel
theorem dX0_addDesk_11 : decode cX0_addDesk 11 = .ok (.aload_n 0, 1) := by decide +kernel
theorem dX0_addDesk_12 : decode cX0_addDesk 12 = .ok (.getfield 9, 3) := by decide +kernel
theorem dX0_addDesk_15 : decode cX0_addDesk 15 = .ok (.aload_n 0, 1) := by decide +kernel
theorem dX0_addDesk_16 : decode cX0_addDesk 16 = .ok (.getfield 30, 3) := by decide +kernel
theorem dX0_addDesk_19 : decode cX0_addDesk 19 = .ok (.iload_n 1, 1) := by decide +kernel
theorem dX0_addDesk_20 : decode cX0_addDesk 20 = .ok (.iastore, 1) := by decide +kernel
theorem dX0_addDesk_21 : decode cX0_addDesk 21 = .ok (.aload_n 0, 1) := by decide +kernel
theorem dX0_addDesk_22 : decode cX0_addDesk 22 = .ok (.getfield 15, 3) := by decide +kernel
theorem dX0_addDesk_25 : decode cX0_addDesk 25 = .ok (.aload_n 0, 1) := by decide +kernel
theorem dX0_addDesk_26 : decode cX0_addDesk 26 = .ok (.getfield 30, 3) := by decide +kernel
theorem dX0_addDesk_29 : decode cX0_addDesk 29 = .ok (.iload_n 2, 1) := by decide +kernel
theorem dX0_addDesk_30 : decode cX0_addDesk 30 = .ok (.iastore, 1) := by decide +kernel
theorem dX0_addDesk_31 : decode cX0_addDesk 31 = .ok (.aload_n 0, 1) := by decide +kernel
theorem dX0_addDesk_32 : decode cX0_addDesk 32 = .ok (.getfield 18, 3) := by decide +kernel
theorem dX0_addDesk_35 : decode cX0_addDesk 35 = .ok (.aload_n 0, 1) := by decide +kernel
theorem dX0_addDesk_36 : decode cX0_addDesk 36 = .ok (.getfield 30, 3) := by decide +kernel
theorem dX0_addDesk_39 : decode cX0_addDesk 39 = .ok (.iload_n 3, 1) := by decide +kernel
theorem dX0_addDesk_40 : decode cX0_addDesk 40 = .ok (.iastore, 1) := by decide +kernel
theorem dX0_addDesk_41 : decode cX0_addDesk 41 = .ok (.aload_n 0, 1) := by decide +kernel
theorem dX0_addDesk_42 : decode cX0_addDesk 42 = .ok (.getfield 21, 3) := by decide +kernel
theorem dX0_addDesk_45 : decode cX0_addDesk 45 = .ok (.aload_n 0, 1) := by decide +kernel
theorem dX0_addDesk_46 : decode cX0_addDesk 46 = .ok (.getfield 30, 3) := by decide +kernel
theorem dX0_addDesk_49 : decode cX0_addDesk 49 = .ok (.iload 4, 2) := by decide +kernel
theorem dX0_addDesk_51 : decode cX0_addDesk 51 = .ok (.iastore, 1) := by decide +kernel
theorem dX0_addDesk_52 : decode cX0_addDesk 52 = .ok (.aload_n 0, 1) := by decide +kernel
theorem dX0_addDesk_53 : decode cX0_addDesk 53 = .ok (.getfield 24, 3) := by decide +kernel
theorem dX0_addDesk_56 : decode cX0_addDesk 56 = .ok (.aload_n 0, 1) := by decide +kernel
theorem dX0_addDesk_57 : decode cX0_addDesk 57 = .ok (.getfield 30, 3) := by decide +kernel
theorem dX0_addDesk_60 : decode cX0_addDesk 60 = .ok (.iconst 0, 1) := by decide +kernel
theorem dX0_addDesk_61 : decode cX0_addDesk 61 = .ok (.iastore, 1) := by decide +kernel
theorem dX0_addDesk_62 : decode cX0_addDesk 62 = .ok (.aload_n 0, 1) := by decide +kernel
theorem dX0_addDesk_63 : decode cX0_addDesk 63 = .ok (.getfield 27, 3) := by decide +kernel
theorem dX0_addDesk_66 : decode cX0_addDesk 66 = .ok (.aload_n 0, 1) := by decide +kernel
theorem dX0_addDesk_67 : decode cX0_addDesk 67 = .ok (.getfield 30, 3) := by decide +kernel
theorem dX0_addDesk_70 : decode cX0_addDesk 70 = .ok (.iconst 0, 1) := by decide +kernel
theorem dX0_addDesk_71 : decode cX0_addDesk 71 = .ok (.iastore, 1) := by decide +kernel
theorem dX0_addDesk_72 : decode cX0_addDesk 72 = .ok (.aload_n 0, 1) := by decide +kernel
theorem dX0_addDesk_73 : decode cX0_addDesk 73 = .ok (.dup, 1) := by decide +kernel
theorem dX0_addDesk_74 : decode cX0_addDesk 74 = .ok (.getfield 30, 3) := by decide +kernel
theorem dX0_addDesk_77 : decode cX0_addDesk 77 = .ok (.iconst 1, 1) := by decide +kernel
theorem dX0_addDesk_78 : decode cX0_addDesk 78 = .ok (.iadd, 1) := by decide +kernel
theorem dX0_addDesk_79 : decode cX0_addDesk 79 = .ok (.putfield 30, 3) := by decide +kernel
theorem dX0_addDesk_82 : decode cX0_addDesk 82 = .ok (.iconst 1, 1) := by decide +kernel
theorem dX0_addDesk_83 : decode cX0_addDesk 83 = .ok (.ireturn, 1) := by decide +kernel
theorem dX0_hasDesk_0 : decode cX0_hasDesk 0 = .ok (.iload_n 1, 1) := by decide +kernel
theorem dX0_hasDesk_1 : decode cX0_hasDesk 1 = .ok (.ifCond .lt 15, 3) := by decide +kernel
theorem dX0_hasDesk_4 : decode cX0_hasDesk 4 = .ok (.iload_n 1, 1) := by decide +kernel
theorem dX0_hasDesk_5 : decode cX0_hasDesk 5 = .ok (.aload_n 0, 1) := by decide +kernel
theorem dX0_hasDesk_6 : decode cX0_hasDesk 6 = .ok (.getfield 30, 3) := by decide +kernel
theorem dX0_hasDesk_9 : decode cX0_hasDesk 9 = .ok (.if_icmp .ge 7, 3) := by decide +kernel
theorem dX0_hasDesk_12 : decode cX0_hasDesk 12 = .ok (.iconst 1, 1) := by decide +kernel
theorem dX0_hasDesk_13 : decode cX0_hasDesk 13 = .ok (.goto 4, 3) := by decide +kernel
theorem dX0_hasDesk_16 : decode cX0_hasDesk 16 = .ok (.iconst 0, 1) := by decide +kernel
theorem dX0_hasDesk_17 : decode cX0_hasDesk 17 = .ok (.ireturn, 1) := by decide +kernel
set_option maxRecDepth 20000 in
theorem ggX0_canHear_X0_hasDesk : GoodIn wsX0_canHear wsX0_hasDesk := goodIn_r _ [5, 6, 7, 8, 9, 10, 11, 12, 13, 14, 15, 16, 17] (by decide +kernel) (by decide +kernel)
set_option maxRecDepth 20000 in
theorem gX0_canHear_X0_hasDesk : GoodIn wsX0_canHear (wsV RX0 46 RX0 yX0_hasDesk wsX0_hasDesk) := goodIn_app (goodIn_of _ (by decide +kernel)) ggX0_canHear_X0_hasDesk
theorem dX0_canHear_0 : decode cX0_canHear 0 = .ok (.iload_n 2, 1) := by decide +kernel
theorem dX0_canHear_1 : decode cX0_canHear 1 = .ok (.bipush 8, 2) := by decide +kernel
theorem dX0_canHear_3 : decode cX0_canHear 3 = .ok (.if_icmp .eq 22, 3) := by decide +kernel
theorem dX0_canHear_6 : decode cX0_canHear 6 = .ok (.iload_n 2, 1) := by decide +kernel
theorem dX0_canHear_7 : decode cX0_canHear 7 = .ok (.bipush 9, 2) := by decide +kernel
theorem dX0_canHear_9 : decode cX0_canHear 9 = .ok (.if_icmp .eq 16, 3) := by decide +kernel
theorem dX0_canHear_12 : decode cX0_canHear 12 = .ok (.aload_n 0, 1) := by decide +kernel
theorem dX0_canHear_13 : decode cX0_canHear 13 = .ok (.iload_n 2, 1) := by decide +kernel
theorem dX0_canHear_14 : decode cX0_canHear 14 = .ok (.invokevirtual 46, 3) := by decide +kernel
theorem dX0_canHear_17 : decode cX0_canHear 17 = .ok (.ifCond .eq 12, 3) := by decide +kernel
theorem dX0_canHear_20 : decode cX0_canHear 20 = .ok (.iload_n 2, 1) := by decide +kernel
theorem dX0_canHear_21 : decode cX0_canHear 21 = .ok (.iload_n 1, 1) := by decide +kernel
theorem dX0_canHear_22 : decode cX0_canHear 22 = .ok (.if_icmp .eq 7, 3) := by decide +kernel
theorem dX0_canHear_25 : decode cX0_canHear 25 = .ok (.iconst 1, 1) := by decide +kernel
theorem dX0_canHear_26 : decode cX0_canHear 26 = .ok (.goto 4, 3) := by decide +kernel
theorem dX0_canHear_29 : decode cX0_canHear 29 = .ok (.iconst 0, 1) := by decide +kernel
theorem dX0_canHear_30 : decode cX0_canHear 30 = .ok (.ireturn, 1) := by decide +kernel
set_option maxRecDepth 20000 in
theorem ggX0_canBeLaid_X0_canHear : GoodIn wsX0_canBeLaid wsX0_canHear := goodIn_r _ [7, 8, 9, 10, 6, 11, 1, 12, 13, 14, 15, 16, 17, 18, 19, 20, 21, 22] (by decide +kernel) (by decide +kernel)
set_option maxRecDepth 20000 in
theorem gX0_canBeLaid_X0_canHear : GoodIn wsX0_canBeLaid (wsV RX0 50 RX0 yX0_canHear wsX0_canHear) := goodIn_app (goodIn_of _ (by decide +kernel)) ggX0_canBeLaid_X0_canHear
theorem dX0_canBeLaid_0 : decode cX0_canBeLaid 0 = .ok (.iconst 0, 1) := by decide +kernel
theorem dX0_canBeLaid_1 : decode cX0_canBeLaid 1 = .ok (.istore_n 1, 1) := by decide +kernel
theorem dX0_canBeLaid_2 : decode cX0_canBeLaid 2 = .ok (.iload_n 1, 1) := by decide +kernel
theorem dX0_canBeLaid_3 : decode cX0_canBeLaid 3 = .ok (.aload_n 0, 1) := by decide +kernel
theorem dX0_canBeLaid_4 : decode cX0_canBeLaid 4 = .ok (.getfield 30, 3) := by decide +kernel
theorem dX0_canBeLaid_7 : decode cX0_canBeLaid 7 = .ok (.if_icmp .ge 25, 3) := by decide +kernel
theorem dX0_canBeLaid_10 : decode cX0_canBeLaid 10 = .ok (.aload_n 0, 1) := by decide +kernel
theorem dX0_canBeLaid_11 : decode cX0_canBeLaid 11 = .ok (.iload_n 1, 1) := by decide +kernel
theorem dX0_canBeLaid_12 : decode cX0_canBeLaid 12 = .ok (.aload_n 0, 1) := by decide +kernel
theorem dX0_canBeLaid_13 : decode cX0_canBeLaid 13 = .ok (.getfield 21, 3) := by decide +kernel
theorem dX0_canBeLaid_16 : decode cX0_canBeLaid 16 = .ok (.iload_n 1, 1) := by decide +kernel
theorem dX0_canBeLaid_17 : decode cX0_canBeLaid 17 = .ok (.iaload, 1) := by decide +kernel
theorem dX0_canBeLaid_18 : decode cX0_canBeLaid 18 = .ok (.invokevirtual 50, 3) := by decide +kernel
theorem dX0_canBeLaid_21 : decode cX0_canBeLaid 21 = .ok (.ifCond .ne 5, 3) := by decide +kernel
theorem dX0_canBeLaid_24 : decode cX0_canBeLaid 24 = .ok (.iconst 0, 1) := by decide +kernel
theorem dX0_canBeLaid_25 : decode cX0_canBeLaid 25 = .ok (.ireturn, 1) := by decide +kernel
theorem dX0_canBeLaid_26 : decode cX0_canBeLaid 26 = .ok (.iinc 1 1, 3) := by decide +kernel
theorem dX0_canBeLaid_29 : decode cX0_canBeLaid 29 = .ok (.goto (-27), 3) := by decide +kernel
theorem dX0_canBeLaid_32 : decode cX0_canBeLaid 32 = .ok (.aload_n 0, 1) := by decide +kernel
theorem dX0_canBeLaid_33 : decode cX0_canBeLaid 33 = .ok (.getfield 30, 3) := by decide +kernel
theorem dX0_canBeLaid_36 : decode cX0_canBeLaid 36 = .ok (.ifCond .le 7, 3) := by decide +kernel
theorem dX0_canBeLaid_39 : decode cX0_canBeLaid 39 = .ok (.iconst 1, 1) := by decide +kernel
theorem dX0_canBeLaid_40 : decode cX0_canBeLaid 40 = .ok (.goto 4, 3) := by decide +kernel
theorem dX0_canBeLaid_43 : decode cX0_canBeLaid 43 = .ok (.iconst 0, 1) := by decide +kernel
theorem dX0_canBeLaid_44 : decode cX0_canBeLaid 44 = .ok (.ireturn, 1) := by decide +kernel
set_option maxRecDepth 20000 in
theorem ggX0_leanOf_X0_hasDesk : GoodIn wsX0_leanOf wsX0_hasDesk := goodIn_r _ [6, 7, 8, 9, 10, 11, 12, 13, 14, 15, 16, 17, 18] (by decide +kernel) (by decide +kernel)
set_option maxRecDepth 20000 in
theorem gX0_leanOf_X0_hasDesk : GoodIn wsX0_leanOf (wsV RX0 46 RX0 yX0_hasDesk wsX0_hasDesk) := goodIn_app (goodIn_of _ (by decide +kernel)) ggX0_leanOf_X0_hasDesk
theorem dX0_leanOf_0 : decode cX0_leanOf 0 = .ok (.aload_n 0, 1) := by decide +kernel
theorem dX0_leanOf_1 : decode cX0_leanOf 1 = .ok (.iload_n 1, 1) := by decide +kernel
theorem dX0_leanOf_2 : decode cX0_leanOf 2 = .ok (.invokevirtual 46, 3) := by decide +kernel
theorem dX0_leanOf_5 : decode cX0_leanOf 5 = .ok (.ifCond .eq 14, 3) := by decide +kernel
theorem dX0_leanOf_8 : decode cX0_leanOf 8 = .ok (.aload_n 0, 1) := by decide +kernel
theorem dX0_leanOf_9 : decode cX0_leanOf 9 = .ok (.getfield 15, 3) := by decide +kernel
theorem dX0_leanOf_12 : decode cX0_leanOf 12 = .ok (.iload_n 1, 1) := by decide +kernel
theorem dX0_leanOf_13 : decode cX0_leanOf 13 = .ok (.iaload, 1) := by decide +kernel
theorem dX0_leanOf_14 : decode cX0_leanOf 14 = .ok (.iconst 3, 1) := by decide +kernel
theorem dX0_leanOf_15 : decode cX0_leanOf 15 = .ok (.isub, 1) := by decide +kernel
theorem dX0_leanOf_16 : decode cX0_leanOf 16 = .ok (.goto 4, 3) := by decide +kernel
theorem dX0_leanOf_19 : decode cX0_leanOf 19 = .ok (.iconst 0, 1) := by decide +kernel
theorem dX0_leanOf_20 : decode cX0_leanOf 20 = .ok (.ireturn, 1) := by decide +kernel
set_option maxRecDepth 20000 in
theorem ggX0_hairsADegree_X0_hasDesk : GoodIn wsX0_hairsADegree wsX0_hasDesk := goodIn_r _ [6, 7, 8, 9, 10, 11, 12, 13, 14, 15, 16, 17, 18] (by decide +kernel) (by decide +kernel)
set_option maxRecDepth 20000 in
theorem gX0_hairsADegree_X0_hasDesk : GoodIn wsX0_hairsADegree (wsV RX0 46 RX0 yX0_hasDesk wsX0_hasDesk) := goodIn_app (goodIn_of _ (by decide +kernel)) ggX0_hairsADegree_X0_hasDesk
theorem dX0_hairsADegree_0 : decode cX0_hairsADegree 0 = .ok (.aload_n 0, 1) := by decide +kernel
theorem dX0_hairsADegree_1 : decode cX0_hairsADegree 1 = .ok (.iload_n 1, 1) := by decide +kernel
theorem dX0_hairsADegree_2 : decode cX0_hairsADegree 2 = .ok (.invokevirtual 46, 3) := by decide +kernel
theorem dX0_hairsADegree_5 : decode cX0_hairsADegree 5 = .ok (.ifCond .ne 5, 3) := by decide +kernel
theorem dX0_hairsADegree_8 : decode cX0_hairsADegree 8 = .ok (.iconst 0, 1) := by decide +kernel
theorem dX0_hairsADegree_9 : decode cX0_hairsADegree 9 = .ok (.ireturn, 1) := by decide +kernel
theorem dX0_hairsADegree_10 : decode cX0_hairsADegree 10 = .ok (.aload_n 0, 1) := by decide +kernel
theorem dX0_hairsADegree_11 : decode cX0_hairsADegree 11 = .ok (.getfield 9, 3) := by decide +kernel
theorem dX0_hairsADegree_14 : decode cX0_hairsADegree 14 = .ok (.iload_n 1, 1) := by decide +kernel
theorem dX0_hairsADegree_15 : decode cX0_hairsADegree 15 = .ok (.iaload, 1) := by decide +kernel
theorem dX0_hairsADegree_16 : decode cX0_hairsADegree 16 = .ok (.tableswitch 39 0 3 #[32, 34, 39, 36], 32) := by decide +kernel
theorem dX0_hairsADegree_48 : decode cX0_hairsADegree 48 = .ok (.iconst (-1), 1) := by decide +kernel
theorem dX0_hairsADegree_49 : decode cX0_hairsADegree 49 = .ok (.ireturn, 1) := by decide +kernel
theorem dX0_hairsADegree_50 : decode cX0_hairsADegree 50 = .ok (.iconst 1, 1) := by decide +kernel
theorem dX0_hairsADegree_51 : decode cX0_hairsADegree 51 = .ok (.ireturn, 1) := by decide +kernel
theorem dX0_hairsADegree_52 : decode cX0_hairsADegree 52 = .ok (.bipush (-2), 2) := by decide +kernel
theorem dX0_hairsADegree_54 : decode cX0_hairsADegree 54 = .ok (.ireturn, 1) := by decide +kernel
theorem dX0_hairsADegree_55 : decode cX0_hairsADegree 55 = .ok (.iconst 0, 1) := by decide +kernel
theorem dX0_hairsADegree_56 : decode cX0_hairsADegree 56 = .ok (.ireturn, 1) := by decide +kernel
theorem dX0_allDesks_0 : decode cX0_allDesks 0 = .ok (.iconst 1, 1) := by decide +kernel
theorem dX0_allDesks_1 : decode cX0_allDesks 1 = .ok (.aload_n 0, 1) := by decide +kernel
theorem dX0_allDesks_2 : decode cX0_allDesks 2 = .ok (.getfield 30, 3) := by decide +kernel
theorem dX0_allDesks_5 : decode cX0_allDesks 5 = .ok (.ishl, 1) := by decide +kernel
theorem dX0_allDesks_6 : decode cX0_allDesks 6 = .ok (.iconst 1, 1) := by decide +kernel
theorem dX0_allDesks_7 : decode cX0_allDesks 7 = .ok (.isub, 1) := by decide +kernel
theorem dX0_allDesks_8 : decode cX0_allDesks 8 = .ok (.ireturn, 1) := by decide +kernel
set_option maxRecDepth 20000 in
theorem ggX0_tunableOf_X5_isIn : GoodIn wsX0_tunableOf wsX5_isIn := goodIn_r _ [5] (by decide +kernel) (by decide +kernel)
set_option maxRecDepth 20000 in
theorem gX0_tunableOf_X5_isIn_n54 : GoodIn wsX0_tunableOf (wsX5_isIn) := ggX0_tunableOf_X5_isIn
theorem dX0_tunableOf_0 : decode cX0_tunableOf 0 = .ok (.iconst 0, 1) := by decide +kernel
theorem dX0_tunableOf_1 : decode cX0_tunableOf 1 = .ok (.istore_n 2, 1) := by decide +kernel
theorem dX0_tunableOf_2 : decode cX0_tunableOf 2 = .ok (.iconst 0, 1) := by decide +kernel
theorem dX0_tunableOf_3 : decode cX0_tunableOf 3 = .ok (.istore_n 3, 1) := by decide +kernel
theorem dX0_tunableOf_4 : decode cX0_tunableOf 4 = .ok (.iload_n 3, 1) := by decide +kernel
theorem dX0_tunableOf_5 : decode cX0_tunableOf 5 = .ok (.aload_n 0, 1) := by decide +kernel
theorem dX0_tunableOf_6 : decode cX0_tunableOf 6 = .ok (.getfield 30, 3) := by decide +kernel
theorem dX0_tunableOf_9 : decode cX0_tunableOf 9 = .ok (.if_icmp .ge 33, 3) := by decide +kernel
theorem dX0_tunableOf_12 : decode cX0_tunableOf 12 = .ok (.iload_n 1, 1) := by decide +kernel
theorem dX0_tunableOf_13 : decode cX0_tunableOf 13 = .ok (.iload_n 3, 1) := by decide +kernel
theorem dX0_tunableOf_14 : decode cX0_tunableOf 14 = .ok (.invokestatic 54, 3) := by decide +kernel
theorem dX0_tunableOf_17 : decode cX0_tunableOf 17 = .ok (.ifCond .eq 19, 3) := by decide +kernel
theorem dX0_tunableOf_20 : decode cX0_tunableOf 20 = .ok (.aload_n 0, 1) := by decide +kernel
theorem dX0_tunableOf_21 : decode cX0_tunableOf 21 = .ok (.getfield 9, 3) := by decide +kernel
theorem dX0_tunableOf_24 : decode cX0_tunableOf 24 = .ok (.iload_n 3, 1) := by decide +kernel
theorem dX0_tunableOf_25 : decode cX0_tunableOf 25 = .ok (.iaload, 1) := by decide +kernel
theorem dX0_tunableOf_26 : decode cX0_tunableOf 26 = .ok (.iconst 2, 1) := by decide +kernel
theorem dX0_tunableOf_27 : decode cX0_tunableOf 27 = .ok (.if_icmp .eq 9, 3) := by decide +kernel
theorem dX0_tunableOf_30 : decode cX0_tunableOf 30 = .ok (.iload_n 2, 1) := by decide +kernel
theorem dX0_tunableOf_31 : decode cX0_tunableOf 31 = .ok (.iconst 1, 1) := by decide +kernel
theorem dX0_tunableOf_32 : decode cX0_tunableOf 32 = .ok (.iload_n 3, 1) := by decide +kernel
theorem dX0_tunableOf_33 : decode cX0_tunableOf 33 = .ok (.ishl, 1) := by decide +kernel
theorem dX0_tunableOf_34 : decode cX0_tunableOf 34 = .ok (.ior, 1) := by decide +kernel
theorem dX0_tunableOf_35 : decode cX0_tunableOf 35 = .ok (.istore_n 2, 1) := by decide +kernel
theorem dX0_tunableOf_36 : decode cX0_tunableOf 36 = .ok (.iinc 3 1, 3) := by decide +kernel
theorem dX0_tunableOf_39 : decode cX0_tunableOf 39 = .ok (.goto (-35), 3) := by decide +kernel
theorem dX0_tunableOf_42 : decode cX0_tunableOf 42 = .ok (.iload_n 2, 1) := by decide +kernel
theorem dX0_tunableOf_43 : decode cX0_tunableOf 43 = .ok (.ireturn, 1) := by decide +kernel
theorem dX0_peggedDesks_0 : decode cX0_peggedDesks 0 = .ok (.iconst 0, 1) := by decide +kernel
theorem dX0_peggedDesks_1 : decode cX0_peggedDesks 1 = .ok (.istore_n 1, 1) := by decide +kernel
theorem dX0_peggedDesks_2 : decode cX0_peggedDesks 2 = .ok (.iconst 0, 1) := by decide +kernel
theorem dX0_peggedDesks_3 : decode cX0_peggedDesks 3 = .ok (.istore_n 2, 1) := by decide +kernel
theorem dX0_peggedDesks_4 : decode cX0_peggedDesks 4 = .ok (.iload_n 2, 1) := by decide +kernel
theorem dX0_peggedDesks_5 : decode cX0_peggedDesks 5 = .ok (.aload_n 0, 1) := by decide +kernel
theorem dX0_peggedDesks_6 : decode cX0_peggedDesks 6 = .ok (.getfield 30, 3) := by decide +kernel
theorem dX0_peggedDesks_9 : decode cX0_peggedDesks 9 = .ok (.if_icmp .ge 34, 3) := by decide +kernel
theorem dX0_peggedDesks_12 : decode cX0_peggedDesks 12 = .ok (.aload_n 0, 1) := by decide +kernel
theorem dX0_peggedDesks_13 : decode cX0_peggedDesks 13 = .ok (.getfield 9, 3) := by decide +kernel
theorem dX0_peggedDesks_16 : decode cX0_peggedDesks 16 = .ok (.iload_n 2, 1) := by decide +kernel
theorem dX0_peggedDesks_17 : decode cX0_peggedDesks 17 = .ok (.iaload, 1) := by decide +kernel
theorem dX0_peggedDesks_18 : decode cX0_peggedDesks 18 = .ok (.ifCond .eq 13, 3) := by decide +kernel
theorem dX0_peggedDesks_21 : decode cX0_peggedDesks 21 = .ok (.aload_n 0, 1) := by decide +kernel
theorem dX0_peggedDesks_22 : decode cX0_peggedDesks 22 = .ok (.getfield 9, 3) := by decide +kernel
theorem dX0_peggedDesks_25 : decode cX0_peggedDesks 25 = .ok (.iload_n 2, 1) := by decide +kernel
theorem dX0_peggedDesks_26 : decode cX0_peggedDesks 26 = .ok (.iaload, 1) := by decide +kernel
theorem dX0_peggedDesks_27 : decode cX0_peggedDesks 27 = .ok (.iconst 3, 1) := by decide +kernel
theorem dX0_peggedDesks_28 : decode cX0_peggedDesks 28 = .ok (.if_icmp .ne 9, 3) := by decide +kernel
theorem dX0_peggedDesks_31 : decode cX0_peggedDesks 31 = .ok (.iload_n 1, 1) := by decide +kernel
theorem dX0_peggedDesks_32 : decode cX0_peggedDesks 32 = .ok (.iconst 1, 1) := by decide +kernel
theorem dX0_peggedDesks_33 : decode cX0_peggedDesks 33 = .ok (.iload_n 2, 1) := by decide +kernel
theorem dX0_peggedDesks_34 : decode cX0_peggedDesks 34 = .ok (.ishl, 1) := by decide +kernel
theorem dX0_peggedDesks_35 : decode cX0_peggedDesks 35 = .ok (.ior, 1) := by decide +kernel
theorem dX0_peggedDesks_36 : decode cX0_peggedDesks 36 = .ok (.istore_n 1, 1) := by decide +kernel
theorem dX0_peggedDesks_37 : decode cX0_peggedDesks 37 = .ok (.iinc 2 1, 3) := by decide +kernel
theorem dX0_peggedDesks_40 : decode cX0_peggedDesks 40 = .ok (.goto (-36), 3) := by decide +kernel
theorem dX0_peggedDesks_43 : decode cX0_peggedDesks 43 = .ok (.iload_n 1, 1) := by decide +kernel
theorem dX0_peggedDesks_44 : decode cX0_peggedDesks 44 = .ok (.ireturn, 1) := by decide +kernel
theorem dX0_desksOfGroup_0 : decode cX0_desksOfGroup 0 = .ok (.iconst 0, 1) := by decide +kernel
theorem dX0_desksOfGroup_1 : decode cX0_desksOfGroup 1 = .ok (.istore_n 2, 1) := by decide +kernel
theorem dX0_desksOfGroup_2 : decode cX0_desksOfGroup 2 = .ok (.iconst 0, 1) := by decide +kernel
theorem dX0_desksOfGroup_3 : decode cX0_desksOfGroup 3 = .ok (.istore_n 3, 1) := by decide +kernel
theorem dX0_desksOfGroup_4 : decode cX0_desksOfGroup 4 = .ok (.iload_n 3, 1) := by decide +kernel
theorem dX0_desksOfGroup_5 : decode cX0_desksOfGroup 5 = .ok (.aload_n 0, 1) := by decide +kernel
theorem dX0_desksOfGroup_6 : decode cX0_desksOfGroup 6 = .ok (.getfield 30, 3) := by decide +kernel
theorem dX0_desksOfGroup_9 : decode cX0_desksOfGroup 9 = .ok (.if_icmp .ge 25, 3) := by decide +kernel
theorem dX0_desksOfGroup_12 : decode cX0_desksOfGroup 12 = .ok (.aload_n 0, 1) := by decide +kernel
theorem dX0_desksOfGroup_13 : decode cX0_desksOfGroup 13 = .ok (.getfield 24, 3) := by decide +kernel
theorem dX0_desksOfGroup_16 : decode cX0_desksOfGroup 16 = .ok (.iload_n 3, 1) := by decide +kernel
theorem dX0_desksOfGroup_17 : decode cX0_desksOfGroup 17 = .ok (.iaload, 1) := by decide +kernel
theorem dX0_desksOfGroup_18 : decode cX0_desksOfGroup 18 = .ok (.iload_n 1, 1) := by decide +kernel
theorem dX0_desksOfGroup_19 : decode cX0_desksOfGroup 19 = .ok (.if_icmp .ne 9, 3) := by decide +kernel
theorem dX0_desksOfGroup_22 : decode cX0_desksOfGroup 22 = .ok (.iload_n 2, 1) := by decide +kernel
theorem dX0_desksOfGroup_23 : decode cX0_desksOfGroup 23 = .ok (.iconst 1, 1) := by decide +kernel
theorem dX0_desksOfGroup_24 : decode cX0_desksOfGroup 24 = .ok (.iload_n 3, 1) := by decide +kernel
theorem dX0_desksOfGroup_25 : decode cX0_desksOfGroup 25 = .ok (.ishl, 1) := by decide +kernel
theorem dX0_desksOfGroup_26 : decode cX0_desksOfGroup 26 = .ok (.ior, 1) := by decide +kernel
theorem dX0_desksOfGroup_27 : decode cX0_desksOfGroup 27 = .ok (.istore_n 2, 1) := by decide +kernel
theorem dX0_desksOfGroup_28 : decode cX0_desksOfGroup 28 = .ok (.iinc 3 1, 3) := by decide +kernel
theorem dX0_desksOfGroup_31 : decode cX0_desksOfGroup 31 = .ok (.goto (-27), 3) := by decide +kernel
theorem dX0_desksOfGroup_34 : decode cX0_desksOfGroup 34 = .ok (.iload_n 2, 1) := by decide +kernel
theorem dX0_desksOfGroup_35 : decode cX0_desksOfGroup 35 = .ok (.ireturn, 1) := by decide +kernel
set_option maxRecDepth 20000 in
theorem ggX1_init_X2_init : GoodIn wsX1_init wsX2_init := goodIn_r _ [15, 16, 2, 3, 17, 18, 19, 23, 24, 25, 26] (by decide +kernel) (by decide +kernel)
set_option maxRecDepth 20000 in
theorem gX1_init_X2_init_n28 : GoodIn wsX1_init (wsX2_init) := ggX1_init_X2_init
theorem dX1_init_0 : decode cX1_init 0 = .ok (.aload_n 0, 1) := by decide +kernel
theorem dX1_init_1 : decode cX1_init 1 = .ok (.invokespecial 1, 3) := by decide +kernel
theorem dX1_init_4 : decode cX1_init 4 = .ok (.aload_n 0, 1) := by decide +kernel
theorem dX1_init_5 : decode cX1_init 5 = .ok (.iconst 0, 1) := by decide +kernel
theorem dX1_init_6 : decode cX1_init 6 = .ok (.putfield 7, 3) := by decide +kernel
theorem dX1_init_9 : decode cX1_init 9 = .ok (.aload_n 0, 1) := by decide +kernel
theorem dX1_init_10 : decode cX1_init 10 = .ok (.iconst 0, 1) := by decide +kernel
theorem dX1_init_11 : decode cX1_init 11 = .ok (.putfield 13, 3) := by decide +kernel
theorem dX1_init_14 : decode cX1_init 14 = .ok (.aload_n 0, 1) := by decide +kernel
theorem dX1_init_15 : decode cX1_init 15 = .ok (.iconst 1, 1) := by decide +kernel
theorem dX1_init_16 : decode cX1_init 16 = .ok (.iload_n 1, 1) := by decide +kernel
theorem dX1_init_17 : decode cX1_init 17 = .ok (.invokestatic 16, 3) := by decide +kernel
theorem dX1_init_20 : decode cX1_init 20 = .ok (.anewarray 22, 3) := by decide +kernel
theorem dX1_init_23 : decode cX1_init 23 = .ok (.putfield 24, 3) := by decide +kernel
theorem dX1_init_26 : decode cX1_init 26 = .ok (.iconst 0, 1) := by decide +kernel
theorem dX1_init_27 : decode cX1_init 27 = .ok (.istore_n 2, 1) := by decide +kernel
theorem dX1_init_28 : decode cX1_init 28 = .ok (.iload_n 2, 1) := by decide +kernel
theorem dX1_init_29 : decode cX1_init 29 = .ok (.aload_n 0, 1) := by decide +kernel
theorem dX1_init_30 : decode cX1_init 30 = .ok (.getfield 24, 3) := by decide +kernel
theorem dX1_init_33 : decode cX1_init 33 = .ok (.arraylength, 1) := by decide +kernel
theorem dX1_init_34 : decode cX1_init 34 = .ok (.if_icmp .ge 22, 3) := by decide +kernel
theorem dX1_init_37 : decode cX1_init 37 = .ok (.aload_n 0, 1) := by decide +kernel
theorem dX1_init_38 : decode cX1_init 38 = .ok (.getfield 24, 3) := by decide +kernel
theorem dX1_init_41 : decode cX1_init 41 = .ok (.iload_n 2, 1) := by decide +kernel
theorem dX1_init_42 : decode cX1_init 42 = .ok (.new 22, 3) := by decide +kernel
theorem dX1_init_45 : decode cX1_init 45 = .ok (.dup, 1) := by decide +kernel
theorem dX1_init_46 : decode cX1_init 46 = .ok (.invokespecial 28, 3) := by decide +kernel
theorem dX1_init_49 : decode cX1_init 49 = .ok (.aastore, 1) := by decide +kernel
theorem dX1_init_50 : decode cX1_init 50 = .ok (.iinc 2 1, 3) := by decide +kernel
theorem dX1_init_53 : decode cX1_init 53 = .ok (.goto (-25), 3) := by decide +kernel
theorem dX1_init_56 : decode cX1_init 56 = .ok (.return_, 1) := by decide +kernel
set_option maxRecDepth 20000 in
theorem ggX1_put_X2_become : GoodIn wsX1_put wsX2_become := goodIn_r _ [12, 13, 14, 15, 16, 20, 21, 22, 23] (by decide +kernel) (by decide +kernel)
set_option maxRecDepth 20000 in
theorem gX1_put_X2_become : GoodIn wsX1_put (wsV RX1 29 RX2 yX2_become wsX2_become) := goodIn_app (goodIn_of _ (by decide +kernel)) ggX1_put_X2_become
theorem dX1_put_0 : decode cX1_put 0 = .ok (.aload_n 0, 1) := by decide +kernel
theorem dX1_put_1 : decode cX1_put 1 = .ok (.getfield 24, 3) := by decide +kernel
theorem dX1_put_4 : decode cX1_put 4 = .ok (.aload_n 0, 1) := by decide +kernel
theorem dX1_put_5 : decode cX1_put 5 = .ok (.getfield 7, 3) := by decide +kernel
theorem dX1_put_8 : decode cX1_put 8 = .ok (.aaload, 1) := by decide +kernel
theorem dX1_put_9 : decode cX1_put 9 = .ok (.astore_n 2, 1) := by decide +kernel
theorem dX1_put_10 : decode cX1_put 10 = .ok (.aload_n 2, 1) := by decide +kernel
theorem dX1_put_11 : decode cX1_put 11 = .ok (.ifnonnull 4, 3) := by decide +kernel
theorem dX1_put_14 : decode cX1_put 14 = .ok (.return_, 1) := by decide +kernel
theorem dX1_put_15 : decode cX1_put 15 = .ok (.aload_n 2, 1) := by decide +kernel
theorem dX1_put_16 : decode cX1_put 16 = .ok (.aload_n 1, 1) := by decide +kernel
theorem dX1_put_17 : decode cX1_put 17 = .ok (.invokevirtual 29, 3) := by decide +kernel
theorem dX1_put_20 : decode cX1_put 20 = .ok (.aload_n 0, 1) := by decide +kernel
theorem dX1_put_21 : decode cX1_put 21 = .ok (.aload_n 0, 1) := by decide +kernel
theorem dX1_put_22 : decode cX1_put 22 = .ok (.getfield 7, 3) := by decide +kernel
theorem dX1_put_25 : decode cX1_put 25 = .ok (.iconst 1, 1) := by decide +kernel
theorem dX1_put_26 : decode cX1_put 26 = .ok (.iadd, 1) := by decide +kernel
theorem dX1_put_27 : decode cX1_put 27 = .ok (.aload_n 0, 1) := by decide +kernel
theorem dX1_put_28 : decode cX1_put 28 = .ok (.getfield 24, 3) := by decide +kernel
theorem dX1_put_31 : decode cX1_put 31 = .ok (.arraylength, 1) := by decide +kernel
theorem dX1_put_32 : decode cX1_put 32 = .ok (.if_icmp .ge 12, 3) := by decide +kernel
theorem dX1_put_35 : decode cX1_put 35 = .ok (.aload_n 0, 1) := by decide +kernel
theorem dX1_put_36 : decode cX1_put 36 = .ok (.getfield 7, 3) := by decide +kernel
theorem dX1_put_39 : decode cX1_put 39 = .ok (.iconst 1, 1) := by decide +kernel
theorem dX1_put_40 : decode cX1_put 40 = .ok (.iadd, 1) := by decide +kernel
theorem dX1_put_41 : decode cX1_put 41 = .ok (.goto 4, 3) := by decide +kernel
theorem dX1_put_44 : decode cX1_put 44 = .ok (.iconst 0, 1) := by decide +kernel
theorem dX1_put_45 : decode cX1_put 45 = .ok (.putfield 7, 3) := by decide +kernel
theorem dX1_put_48 : decode cX1_put 48 = .ok (.aload_n 0, 1) := by decide +kernel
theorem dX1_put_49 : decode cX1_put 49 = .ok (.aload_n 0, 1) := by decide +kernel
theorem dX1_put_50 : decode cX1_put 50 = .ok (.getfield 13, 3) := by decide +kernel
theorem dX1_put_53 : decode cX1_put 53 = .ok (.iconst 1, 1) := by decide +kernel
theorem dX1_put_54 : decode cX1_put 54 = .ok (.iadd, 1) := by decide +kernel
theorem dX1_put_55 : decode cX1_put 55 = .ok (.aload_n 0, 1) := by decide +kernel
theorem dX1_put_56 : decode cX1_put 56 = .ok (.getfield 24, 3) := by decide +kernel
theorem dX1_put_59 : decode cX1_put 59 = .ok (.arraylength, 1) := by decide +kernel
theorem dX1_put_60 : decode cX1_put 60 = .ok (.invokestatic 33, 3) := by decide +kernel
theorem dX1_put_63 : decode cX1_put 63 = .ok (.putfield 13, 3) := by decide +kernel
theorem dX1_put_66 : decode cX1_put 66 = .ok (.return_, 1) := by decide +kernel
set_option maxRecDepth 20000 in
theorem ggX1_takeInto_X2_become : GoodIn wsX1_takeInto wsX2_become := goodIn_r _ [8, 9, 10, 11, 12, 16, 17, 18, 19] (by decide +kernel) (by decide +kernel)
set_option maxRecDepth 20000 in
theorem gX1_takeInto_X2_become : GoodIn wsX1_takeInto (wsV RX1 29 RX2 yX2_become wsX2_become) := goodIn_app (goodIn_of _ (by decide +kernel)) ggX1_takeInto_X2_become
theorem dX1_takeInto_0 : decode cX1_takeInto 0 = .ok (.aload_n 0, 1) := by decide +kernel
theorem dX1_takeInto_1 : decode cX1_takeInto 1 = .ok (.getfield 13, 3) := by decide +kernel
theorem dX1_takeInto_4 : decode cX1_takeInto 4 = .ok (.ifCond .gt 5, 3) := by decide +kernel
theorem dX1_takeInto_7 : decode cX1_takeInto 7 = .ok (.iconst 0, 1) := by decide +kernel
theorem dX1_takeInto_8 : decode cX1_takeInto 8 = .ok (.ireturn, 1) := by decide +kernel
theorem dX1_takeInto_9 : decode cX1_takeInto 9 = .ok (.aload_n 0, 1) := by decide +kernel
theorem dX1_takeInto_10 : decode cX1_takeInto 10 = .ok (.getfield 7, 3) := by decide +kernel
theorem dX1_takeInto_13 : decode cX1_takeInto 13 = .ok (.ifCond .le 12, 3) := by decide +kernel
theorem dX1_takeInto_16 : decode cX1_takeInto 16 = .ok (.aload_n 0, 1) := by decide +kernel
theorem dX1_takeInto_17 : decode cX1_takeInto 17 = .ok (.getfield 7, 3) := by decide +kernel
theorem dX1_takeInto_20 : decode cX1_takeInto 20 = .ok (.iconst 1, 1) := by decide +kernel
theorem dX1_takeInto_21 : decode cX1_takeInto 21 = .ok (.isub, 1) := by decide +kernel
theorem dX1_takeInto_22 : decode cX1_takeInto 22 = .ok (.goto 10, 3) := by decide +kernel
theorem dX1_takeInto_25 : decode cX1_takeInto 25 = .ok (.aload_n 0, 1) := by decide +kernel
theorem dX1_takeInto_26 : decode cX1_takeInto 26 = .ok (.getfield 24, 3) := by decide +kernel
theorem dX1_takeInto_29 : decode cX1_takeInto 29 = .ok (.arraylength, 1) := by decide +kernel
theorem dX1_takeInto_30 : decode cX1_takeInto 30 = .ok (.iconst 1, 1) := by decide +kernel
theorem dX1_takeInto_31 : decode cX1_takeInto 31 = .ok (.isub, 1) := by decide +kernel
theorem dX1_takeInto_32 : decode cX1_takeInto 32 = .ok (.istore_n 2, 1) := by decide +kernel
theorem dX1_takeInto_33 : decode cX1_takeInto 33 = .ok (.aload_n 0, 1) := by decide +kernel
theorem dX1_takeInto_34 : decode cX1_takeInto 34 = .ok (.getfield 24, 3) := by decide +kernel
theorem dX1_takeInto_37 : decode cX1_takeInto 37 = .ok (.iload_n 2, 1) := by decide +kernel
theorem dX1_takeInto_38 : decode cX1_takeInto 38 = .ok (.aaload, 1) := by decide +kernel
theorem dX1_takeInto_39 : decode cX1_takeInto 39 = .ok (.astore_n 3, 1) := by decide +kernel
theorem dX1_takeInto_40 : decode cX1_takeInto 40 = .ok (.aload_n 3, 1) := by decide +kernel
theorem dX1_takeInto_41 : decode cX1_takeInto 41 = .ok (.ifnonnull 5, 3) := by decide +kernel
theorem dX1_takeInto_44 : decode cX1_takeInto 44 = .ok (.iconst 0, 1) := by decide +kernel
theorem dX1_takeInto_45 : decode cX1_takeInto 45 = .ok (.ireturn, 1) := by decide +kernel
theorem dX1_takeInto_46 : decode cX1_takeInto 46 = .ok (.aload_n 1, 1) := by decide +kernel
theorem dX1_takeInto_47 : decode cX1_takeInto 47 = .ok (.aload_n 3, 1) := by decide +kernel
theorem dX1_takeInto_48 : decode cX1_takeInto 48 = .ok (.invokevirtual 29, 3) := by decide +kernel
theorem dX1_takeInto_51 : decode cX1_takeInto 51 = .ok (.aload_n 0, 1) := by decide +kernel
theorem dX1_takeInto_52 : decode cX1_takeInto 52 = .ok (.iload_n 2, 1) := by decide +kernel
theorem dX1_takeInto_53 : decode cX1_takeInto 53 = .ok (.putfield 7, 3) := by decide +kernel
theorem dX1_takeInto_56 : decode cX1_takeInto 56 = .ok (.aload_n 0, 1) := by decide +kernel
theorem dX1_takeInto_57 : decode cX1_takeInto 57 = .ok (.dup, 1) := by decide +kernel
theorem dX1_takeInto_58 : decode cX1_takeInto 58 = .ok (.getfield 13, 3) := by decide +kernel
theorem dX1_takeInto_61 : decode cX1_takeInto 61 = .ok (.iconst 1, 1) := by decide +kernel
theorem dX1_takeInto_62 : decode cX1_takeInto 62 = .ok (.isub, 1) := by decide +kernel
theorem dX1_takeInto_63 : decode cX1_takeInto 63 = .ok (.putfield 13, 3) := by decide +kernel
theorem dX1_takeInto_66 : decode cX1_takeInto 66 = .ok (.iconst 1, 1) := by decide +kernel
theorem dX1_takeInto_67 : decode cX1_takeInto 67 = .ok (.ireturn, 1) := by decide +kernel
theorem dX1_empty_0 : decode cX1_empty 0 = .ok (.aload_n 0, 1) := by decide +kernel
theorem dX1_empty_1 : decode cX1_empty 1 = .ok (.iconst 0, 1) := by decide +kernel
theorem dX1_empty_2 : decode cX1_empty 2 = .ok (.putfield 13, 3) := by decide +kernel
theorem dX1_empty_5 : decode cX1_empty 5 = .ok (.return_, 1) := by decide +kernel
theorem dX2_init_0 : decode cX2_init 0 = .ok (.aload_n 0, 1) := by decide +kernel
theorem dX2_init_1 : decode cX2_init 1 = .ok (.invokespecial 3, 3) := by decide +kernel
theorem dX2_init_4 : decode cX2_init 4 = .ok (.aload_n 0, 1) := by decide +kernel
theorem dX2_init_5 : decode cX2_init 5 = .ok (.bipush 8, 2) := by decide +kernel
theorem dX2_init_7 : decode cX2_init 7 = .ok (.newarray .int, 2) := by decide +kernel
theorem dX2_init_9 : decode cX2_init 9 = .ok (.putfield 9, 3) := by decide +kernel
theorem dX2_init_12 : decode cX2_init 12 = .ok (.aload_n 0, 1) := by decide +kernel
theorem dX2_init_13 : decode cX2_init 13 = .ok (.bipush 8, 2) := by decide +kernel
theorem dX2_init_15 : decode cX2_init 15 = .ok (.newarray .int, 2) := by decide +kernel
theorem dX2_init_17 : decode cX2_init 17 = .ok (.putfield 15, 3) := by decide +kernel
theorem dX2_init_20 : decode cX2_init 20 = .ok (.return_, 1) := by decide +kernel
theorem dX2_begin_0 : decode cX2_begin 0 = .ok (.iconst 0, 1) := by decide +kernel
theorem dX2_begin_1 : decode cX2_begin 1 = .ok (.istore_n 2, 1) := by decide +kernel
theorem dX2_begin_2 : decode cX2_begin 2 = .ok (.iload_n 2, 1) := by decide +kernel
theorem dX2_begin_3 : decode cX2_begin 3 = .ok (.aload_n 1, 1) := by decide +kernel
theorem dX2_begin_4 : decode cX2_begin 4 = .ok (.getfield 18, 3) := by decide +kernel
theorem dX2_begin_7 : decode cX2_begin 7 = .ok (.if_icmp .ge 33, 3) := by decide +kernel
theorem dX2_begin_10 : decode cX2_begin 10 = .ok (.aload_n 0, 1) := by decide +kernel
theorem dX2_begin_11 : decode cX2_begin 11 = .ok (.getfield 9, 3) := by decide +kernel
theorem dX2_begin_14 : decode cX2_begin 14 = .ok (.iload_n 2, 1) := by decide +kernel
theorem dX2_begin_15 : decode cX2_begin 15 = .ok (.aload_n 1, 1) := by decide +kernel
theorem dX2_begin_16 : decode cX2_begin 16 = .ok (.getfield 24, 3) := by decide +kernel
theorem dX2_begin_19 : decode cX2_begin 19 = .ok (.iload_n 2, 1) := by decide +kernel
theorem dX2_begin_20 : decode cX2_begin 20 = .ok (.iaload, 1) := by decide +kernel
theorem dX2_begin_21 : decode cX2_begin 21 = .ok (.iastore, 1) := by decide +kernel
theorem dX2_begin_22 : decode cX2_begin 22 = .ok (.aload_n 0, 1) := by decide +kernel
theorem dX2_begin_23 : decode cX2_begin 23 = .ok (.getfield 15, 3) := by decide +kernel
theorem dX2_begin_26 : decode cX2_begin 26 = .ok (.iload_n 2, 1) := by decide +kernel
theorem dX2_begin_27 : decode cX2_begin 27 = .ok (.aload_n 1, 1) := by decide +kernel
theorem dX2_begin_28 : decode cX2_begin 28 = .ok (.getfield 27, 3) := by decide +kernel
theorem dX2_begin_31 : decode cX2_begin 31 = .ok (.iload_n 2, 1) := by decide +kernel
theorem dX2_begin_32 : decode cX2_begin 32 = .ok (.iaload, 1) := by decide +kernel
theorem dX2_begin_33 : decode cX2_begin 33 = .ok (.iastore, 1) := by decide +kernel
theorem dX2_begin_34 : decode cX2_begin 34 = .ok (.iinc 2 1, 3) := by decide +kernel
theorem dX2_begin_37 : decode cX2_begin 37 = .ok (.goto (-35), 3) := by decide +kernel
theorem dX2_begin_40 : decode cX2_begin 40 = .ok (.aload_n 0, 1) := by decide +kernel
theorem dX2_begin_41 : decode cX2_begin 41 = .ok (.aload_n 1, 1) := by decide +kernel
theorem dX2_begin_42 : decode cX2_begin 42 = .ok (.getfield 30, 3) := by decide +kernel
theorem dX2_begin_45 : decode cX2_begin 45 = .ok (.putfield 33, 3) := by decide +kernel
theorem dX2_begin_48 : decode cX2_begin 48 = .ok (.aload_n 0, 1) := by decide +kernel
theorem dX2_begin_49 : decode cX2_begin 49 = .ok (.iconst 0, 1) := by decide +kernel
theorem dX2_begin_50 : decode cX2_begin 50 = .ok (.putfield 34, 3) := by decide +kernel
theorem dX2_begin_53 : decode cX2_begin 53 = .ok (.return_, 1) := by decide +kernel
theorem dX2_become_0 : decode cX2_become 0 = .ok (.iconst 0, 1) := by decide +kernel
theorem dX2_become_1 : decode cX2_become 1 = .ok (.istore_n 2, 1) := by decide +kernel
theorem dX2_become_2 : decode cX2_become 2 = .ok (.iload_n 2, 1) := by decide +kernel
theorem dX2_become_3 : decode cX2_become 3 = .ok (.bipush 8, 2) := by decide +kernel
theorem dX2_become_5 : decode cX2_become 5 = .ok (.if_icmp .ge 33, 3) := by decide +kernel
theorem dX2_become_8 : decode cX2_become 8 = .ok (.aload_n 0, 1) := by decide +kernel
theorem dX2_become_9 : decode cX2_become 9 = .ok (.getfield 9, 3) := by decide +kernel
theorem dX2_become_12 : decode cX2_become 12 = .ok (.iload_n 2, 1) := by decide +kernel
theorem dX2_become_13 : decode cX2_become 13 = .ok (.aload_n 1, 1) := by decide +kernel
theorem dX2_become_14 : decode cX2_become 14 = .ok (.getfield 9, 3) := by decide +kernel
theorem dX2_become_17 : decode cX2_become 17 = .ok (.iload_n 2, 1) := by decide +kernel
theorem dX2_become_18 : decode cX2_become 18 = .ok (.iaload, 1) := by decide +kernel
theorem dX2_become_19 : decode cX2_become 19 = .ok (.iastore, 1) := by decide +kernel
theorem dX2_become_20 : decode cX2_become 20 = .ok (.aload_n 0, 1) := by decide +kernel
theorem dX2_become_21 : decode cX2_become 21 = .ok (.getfield 15, 3) := by decide +kernel
theorem dX2_become_24 : decode cX2_become 24 = .ok (.iload_n 2, 1) := by decide +kernel
theorem dX2_become_25 : decode cX2_become 25 = .ok (.aload_n 1, 1) := by decide +kernel
theorem dX2_become_26 : decode cX2_become 26 = .ok (.getfield 15, 3) := by decide +kernel
theorem dX2_become_29 : decode cX2_become 29 = .ok (.iload_n 2, 1) := by decide +kernel
theorem dX2_become_30 : decode cX2_become 30 = .ok (.iaload, 1) := by decide +kernel
theorem dX2_become_31 : decode cX2_become 31 = .ok (.iastore, 1) := by decide +kernel
theorem dX2_become_32 : decode cX2_become 32 = .ok (.iinc 2 1, 3) := by decide +kernel
theorem dX2_become_35 : decode cX2_become 35 = .ok (.goto (-33), 3) := by decide +kernel
theorem dX2_become_38 : decode cX2_become 38 = .ok (.aload_n 0, 1) := by decide +kernel
theorem dX2_become_39 : decode cX2_become 39 = .ok (.aload_n 1, 1) := by decide +kernel
theorem dX2_become_40 : decode cX2_become 40 = .ok (.getfield 33, 3) := by decide +kernel
theorem dX2_become_43 : decode cX2_become 43 = .ok (.putfield 33, 3) := by decide +kernel
theorem dX2_become_46 : decode cX2_become 46 = .ok (.aload_n 0, 1) := by decide +kernel
theorem dX2_become_47 : decode cX2_become 47 = .ok (.aload_n 1, 1) := by decide +kernel
theorem dX2_become_48 : decode cX2_become 48 = .ok (.getfield 34, 3) := by decide +kernel
theorem dX2_become_51 : decode cX2_become 51 = .ok (.putfield 34, 3) := by decide +kernel
theorem dX2_become_54 : decode cX2_become 54 = .ok (.return_, 1) := by decide +kernel
theorem dX2_pitchOf_0 : decode cX2_pitchOf 0 = .ok (.iload_n 1, 1) := by decide +kernel
theorem dX2_pitchOf_1 : decode cX2_pitchOf 1 = .ok (.bipush 9, 2) := by decide +kernel
theorem dX2_pitchOf_3 : decode cX2_pitchOf 3 = .ok (.if_icmp .ne 8, 3) := by decide +kernel
theorem dX2_pitchOf_6 : decode cX2_pitchOf 6 = .ok (.aload_n 0, 1) := by decide +kernel
theorem dX2_pitchOf_7 : decode cX2_pitchOf 7 = .ok (.getfield 33, 3) := by decide +kernel
theorem dX2_pitchOf_10 : decode cX2_pitchOf 10 = .ok (.ireturn, 1) := by decide +kernel
theorem dX2_pitchOf_11 : decode cX2_pitchOf 11 = .ok (.iload_n 1, 1) := by decide +kernel
theorem dX2_pitchOf_12 : decode cX2_pitchOf 12 = .ok (.ifCond .lt 18, 3) := by decide +kernel
theorem dX2_pitchOf_15 : decode cX2_pitchOf 15 = .ok (.iload_n 1, 1) := by decide +kernel
theorem dX2_pitchOf_16 : decode cX2_pitchOf 16 = .ok (.bipush 8, 2) := by decide +kernel
theorem dX2_pitchOf_18 : decode cX2_pitchOf 18 = .ok (.if_icmp .ge 12, 3) := by decide +kernel
theorem dX2_pitchOf_21 : decode cX2_pitchOf 21 = .ok (.aload_n 0, 1) := by decide +kernel
theorem dX2_pitchOf_22 : decode cX2_pitchOf 22 = .ok (.getfield 9, 3) := by decide +kernel
theorem dX2_pitchOf_25 : decode cX2_pitchOf 25 = .ok (.iload_n 1, 1) := by decide +kernel
theorem dX2_pitchOf_26 : decode cX2_pitchOf 26 = .ok (.iaload, 1) := by decide +kernel
theorem dX2_pitchOf_27 : decode cX2_pitchOf 27 = .ok (.goto 4, 3) := by decide +kernel
theorem dX2_pitchOf_30 : decode cX2_pitchOf 30 = .ok (.iconst 0, 1) := by decide +kernel
theorem dX2_pitchOf_31 : decode cX2_pitchOf 31 = .ok (.ireturn, 1) := by decide +kernel
set_option maxRecDepth 20000 in
theorem ggX2_letPass_X0_hairsADegree : GoodIn wsX2_letPass wsX0_hairsADegree := goodIn_r _ [9, 10, 11, 12, 13, 8, 14, 15, 30, 31, 32, 33, 34, 35, 36, 37, 38, 39, 40] (by decide +kernel) (by decide +kernel)
set_option maxRecDepth 20000 in
theorem gX2_letPass_X0_hairsADegree : GoodIn wsX2_letPass (wsV RX2 40 RX0 yX0_hairsADegree wsX0_hairsADegree) := goodIn_app (goodIn_of _ (by decide +kernel)) ggX2_letPass_X0_hairsADegree
set_option maxRecDepth 20000 in
theorem ggX2_letPass_X5_within : GoodIn wsX2_letPass wsX5_within := goodIn_r _ [18, 19, 20, 21, 22, 23, 24, 25] (by decide +kernel) (by decide +kernel)
set_option maxRecDepth 20000 in
theorem gX2_letPass_X5_within_n44 : GoodIn wsX2_letPass (wsX5_within) := ggX2_letPass_X5_within
theorem dX2_letPass_0 : decode cX2_letPass 0 = .ok (.aload_n 0, 1) := by decide +kernel
theorem dX2_letPass_1 : decode cX2_letPass 1 = .ok (.getfield 34, 3) := by decide +kernel
theorem dX2_letPass_4 : decode cX2_letPass 4 = .ok (.iload_n 2, 1) := by decide +kernel
theorem dX2_letPass_5 : decode cX2_letPass 5 = .ok (.iadd, 1) := by decide +kernel
theorem dX2_letPass_6 : decode cX2_letPass 6 = .ok (.bipush 60, 2) := by decide +kernel
theorem dX2_letPass_8 : decode cX2_letPass 8 = .ok (.idiv, 1) := by decide +kernel
theorem dX2_letPass_9 : decode cX2_letPass 9 = .ok (.aload_n 0, 1) := by decide +kernel
theorem dX2_letPass_10 : decode cX2_letPass 10 = .ok (.getfield 34, 3) := by decide +kernel
theorem dX2_letPass_13 : decode cX2_letPass 13 = .ok (.bipush 60, 2) := by decide +kernel
theorem dX2_letPass_15 : decode cX2_letPass 15 = .ok (.idiv, 1) := by decide +kernel
theorem dX2_letPass_16 : decode cX2_letPass 16 = .ok (.isub, 1) := by decide +kernel
theorem dX2_letPass_17 : decode cX2_letPass 17 = .ok (.istore_n 3, 1) := by decide +kernel
theorem dX2_letPass_18 : decode cX2_letPass 18 = .ok (.iload_n 3, 1) := by decide +kernel
theorem dX2_letPass_19 : decode cX2_letPass 19 = .ok (.aload_n 1, 1) := by decide +kernel
theorem dX2_letPass_20 : decode cX2_letPass 20 = .ok (.getfield 37, 3) := by decide +kernel
theorem dX2_letPass_23 : decode cX2_letPass 23 = .ok (.imul, 1) := by decide +kernel
theorem dX2_letPass_24 : decode cX2_letPass 24 = .ok (.istore 4, 2) := by decide +kernel
theorem dX2_letPass_26 : decode cX2_letPass 26 = .ok (.iconst 0, 1) := by decide +kernel
theorem dX2_letPass_27 : decode cX2_letPass 27 = .ok (.istore 5, 2) := by decide +kernel
theorem dX2_letPass_29 : decode cX2_letPass 29 = .ok (.iload 5, 2) := by decide +kernel
theorem dX2_letPass_31 : decode cX2_letPass 31 = .ok (.aload_n 1, 1) := by decide +kernel
theorem dX2_letPass_32 : decode cX2_letPass 32 = .ok (.getfield 18, 3) := by decide +kernel
theorem dX2_letPass_35 : decode cX2_letPass 35 = .ok (.if_icmp .ge 36, 3) := by decide +kernel
theorem dX2_letPass_38 : decode cX2_letPass 38 = .ok (.aload_n 0, 1) := by decide +kernel
theorem dX2_letPass_39 : decode cX2_letPass 39 = .ok (.getfield 9, 3) := by decide +kernel
theorem dX2_letPass_42 : decode cX2_letPass 42 = .ok (.iload 5, 2) := by decide +kernel
theorem dX2_letPass_44 : decode cX2_letPass 44 = .ok (.aload_n 0, 1) := by decide +kernel
theorem dX2_letPass_45 : decode cX2_letPass 45 = .ok (.getfield 9, 3) := by decide +kernel
theorem dX2_letPass_48 : decode cX2_letPass 48 = .ok (.iload 5, 2) := by decide +kernel
theorem dX2_letPass_50 : decode cX2_letPass 50 = .ok (.iaload, 1) := by decide +kernel
theorem dX2_letPass_51 : decode cX2_letPass 51 = .ok (.iload 4, 2) := by decide +kernel
theorem dX2_letPass_53 : decode cX2_letPass 53 = .ok (.aload_n 1, 1) := by decide +kernel
theorem dX2_letPass_54 : decode cX2_letPass 54 = .ok (.iload 5, 2) := by decide +kernel
theorem dX2_letPass_56 : decode cX2_letPass 56 = .ok (.invokevirtual 40, 3) := by decide +kernel
theorem dX2_letPass_59 : decode cX2_letPass 59 = .ok (.imul, 1) := by decide +kernel
theorem dX2_letPass_60 : decode cX2_letPass 60 = .ok (.iadd, 1) := by decide +kernel
theorem dX2_letPass_61 : decode cX2_letPass 61 = .ok (.invokestatic 44, 3) := by decide +kernel
theorem dX2_letPass_64 : decode cX2_letPass 64 = .ok (.iastore, 1) := by decide +kernel
theorem dX2_letPass_65 : decode cX2_letPass 65 = .ok (.iinc 5 1, 3) := by decide +kernel
theorem dX2_letPass_68 : decode cX2_letPass 68 = .ok (.goto (-39), 3) := by decide +kernel
theorem dX2_letPass_71 : decode cX2_letPass 71 = .ok (.aload_n 0, 1) := by decide +kernel
theorem dX2_letPass_72 : decode cX2_letPass 72 = .ok (.dup, 1) := by decide +kernel
theorem dX2_letPass_73 : decode cX2_letPass 73 = .ok (.getfield 34, 3) := by decide +kernel
theorem dX2_letPass_76 : decode cX2_letPass 76 = .ok (.iload_n 2, 1) := by decide +kernel
theorem dX2_letPass_77 : decode cX2_letPass 77 = .ok (.iadd, 1) := by decide +kernel
theorem dX2_letPass_78 : decode cX2_letPass 78 = .ok (.putfield 34, 3) := by decide +kernel
theorem dX2_letPass_81 : decode cX2_letPass 81 = .ok (.return_, 1) := by decide +kernel
set_option maxRecDepth 20000 in
theorem ggX2_giveNeedles_X5_isIn : GoodIn wsX2_giveNeedles wsX5_isIn := goodIn_r _ [4] (by decide +kernel) (by decide +kernel)
set_option maxRecDepth 20000 in
theorem gX2_giveNeedles_X5_isIn_n47 : GoodIn wsX2_giveNeedles (wsX5_isIn) := ggX2_giveNeedles_X5_isIn
theorem dX2_giveNeedles_0 : decode cX2_giveNeedles 0 = .ok (.iconst 0, 1) := by decide +kernel
theorem dX2_giveNeedles_1 : decode cX2_giveNeedles 1 = .ok (.istore_n 3, 1) := by decide +kernel
theorem dX2_giveNeedles_2 : decode cX2_giveNeedles 2 = .ok (.iload_n 3, 1) := by decide +kernel
theorem dX2_giveNeedles_3 : decode cX2_giveNeedles 3 = .ok (.iload_n 1, 1) := by decide +kernel
theorem dX2_giveNeedles_4 : decode cX2_giveNeedles 4 = .ok (.if_icmp .ge 25, 3) := by decide +kernel
theorem dX2_giveNeedles_7 : decode cX2_giveNeedles 7 = .ok (.iload_n 2, 1) := by decide +kernel
theorem dX2_giveNeedles_8 : decode cX2_giveNeedles 8 = .ok (.iload_n 3, 1) := by decide +kernel
theorem dX2_giveNeedles_9 : decode cX2_giveNeedles 9 = .ok (.invokestatic 47, 3) := by decide +kernel
theorem dX2_giveNeedles_12 : decode cX2_giveNeedles 12 = .ok (.ifCond .eq 11, 3) := by decide +kernel
theorem dX2_giveNeedles_15 : decode cX2_giveNeedles 15 = .ok (.aload_n 0, 1) := by decide +kernel
theorem dX2_giveNeedles_16 : decode cX2_giveNeedles 16 = .ok (.getfield 15, 3) := by decide +kernel
theorem dX2_giveNeedles_19 : decode cX2_giveNeedles 19 = .ok (.iload_n 3, 1) := by decide +kernel
theorem dX2_giveNeedles_20 : decode cX2_giveNeedles 20 = .ok (.bipush 8, 2) := by decide +kernel
theorem dX2_giveNeedles_22 : decode cX2_giveNeedles 22 = .ok (.iastore, 1) := by decide +kernel
theorem dX2_giveNeedles_23 : decode cX2_giveNeedles 23 = .ok (.iinc 3 1, 3) := by decide +kernel
theorem dX2_giveNeedles_26 : decode cX2_giveNeedles 26 = .ok (.goto (-24), 3) := by decide +kernel
theorem dX2_giveNeedles_29 : decode cX2_giveNeedles 29 = .ok (.return_, 1) := by decide +kernel
set_option maxRecDepth 20000 in
theorem ggX2_slipPegs_X5_isIn : GoodIn wsX2_slipPegs wsX5_isIn := goodIn_r _ [4] (by decide +kernel) (by decide +kernel)
set_option maxRecDepth 20000 in
theorem gX2_slipPegs_X5_isIn_n47 : GoodIn wsX2_slipPegs (wsX5_isIn) := ggX2_slipPegs_X5_isIn
set_option maxRecDepth 20000 in
theorem ggX2_slipPegs_X5_within : GoodIn wsX2_slipPegs wsX5_within := goodIn_r _ [6, 7, 8, 9, 10, 11, 12, 13] (by decide +kernel) (by decide +kernel)
set_option maxRecDepth 20000 in
theorem gX2_slipPegs_X5_within_n44 : GoodIn wsX2_slipPegs (wsX5_within) := ggX2_slipPegs_X5_within
theorem dX2_slipPegs_0 : decode cX2_slipPegs 0 = .ok (.iconst 0, 1) := by decide +kernel
theorem dX2_slipPegs_1 : decode cX2_slipPegs 1 = .ok (.istore_n 3, 1) := by decide +kernel
theorem dX2_slipPegs_2 : decode cX2_slipPegs 2 = .ok (.iload_n 3, 1) := by decide +kernel
theorem dX2_slipPegs_3 : decode cX2_slipPegs 3 = .ok (.iload_n 1, 1) := by decide +kernel
theorem dX2_slipPegs_4 : decode cX2_slipPegs 4 = .ok (.if_icmp .ge 34, 3) := by decide +kernel
theorem dX2_slipPegs_7 : decode cX2_slipPegs 7 = .ok (.iload_n 2, 1) := by decide +kernel
theorem dX2_slipPegs_8 : decode cX2_slipPegs 8 = .ok (.iload_n 3, 1) := by decide +kernel
theorem dX2_slipPegs_9 : decode cX2_slipPegs 9 = .ok (.invokestatic 47, 3) := by decide +kernel
theorem dX2_slipPegs_12 : decode cX2_slipPegs 12 = .ok (.ifCond .eq 20, 3) := by decide +kernel
theorem dX2_slipPegs_15 : decode cX2_slipPegs 15 = .ok (.aload_n 0, 1) := by decide +kernel
theorem dX2_slipPegs_16 : decode cX2_slipPegs 16 = .ok (.getfield 9, 3) := by decide +kernel
theorem dX2_slipPegs_19 : decode cX2_slipPegs 19 = .ok (.iload_n 3, 1) := by decide +kernel
theorem dX2_slipPegs_20 : decode cX2_slipPegs 20 = .ok (.aload_n 0, 1) := by decide +kernel
theorem dX2_slipPegs_21 : decode cX2_slipPegs 21 = .ok (.getfield 9, 3) := by decide +kernel
theorem dX2_slipPegs_24 : decode cX2_slipPegs 24 = .ok (.iload_n 3, 1) := by decide +kernel
theorem dX2_slipPegs_25 : decode cX2_slipPegs 25 = .ok (.iaload, 1) := by decide +kernel
theorem dX2_slipPegs_26 : decode cX2_slipPegs 26 = .ok (.iconst 4, 1) := by decide +kernel
theorem dX2_slipPegs_27 : decode cX2_slipPegs 27 = .ok (.isub, 1) := by decide +kernel
theorem dX2_slipPegs_28 : decode cX2_slipPegs 28 = .ok (.invokestatic 44, 3) := by decide +kernel
theorem dX2_slipPegs_31 : decode cX2_slipPegs 31 = .ok (.iastore, 1) := by decide +kernel
theorem dX2_slipPegs_32 : decode cX2_slipPegs 32 = .ok (.iinc 3 1, 3) := by decide +kernel
theorem dX2_slipPegs_35 : decode cX2_slipPegs 35 = .ok (.goto (-33), 3) := by decide +kernel
theorem dX2_slipPegs_38 : decode cX2_slipPegs 38 = .ok (.return_, 1) := by decide +kernel
theorem dX2_apart_0 : decode cX2_apart 0 = .ok (.aload_n 0, 1) := by decide +kernel
theorem dX2_apart_1 : decode cX2_apart 1 = .ok (.getfield 9, 3) := by decide +kernel
theorem dX2_apart_4 : decode cX2_apart 4 = .ok (.iconst 0, 1) := by decide +kernel
theorem dX2_apart_5 : decode cX2_apart 5 = .ok (.iaload, 1) := by decide +kernel
theorem dX2_apart_6 : decode cX2_apart 6 = .ok (.istore_n 2, 1) := by decide +kernel
theorem dX2_apart_7 : decode cX2_apart 7 = .ok (.aload_n 0, 1) := by decide +kernel
theorem dX2_apart_8 : decode cX2_apart 8 = .ok (.getfield 9, 3) := by decide +kernel
theorem dX2_apart_11 : decode cX2_apart 11 = .ok (.iconst 0, 1) := by decide +kernel
theorem dX2_apart_12 : decode cX2_apart 12 = .ok (.iaload, 1) := by decide +kernel
theorem dX2_apart_13 : decode cX2_apart 13 = .ok (.istore_n 3, 1) := by decide +kernel
theorem dX2_apart_14 : decode cX2_apart 14 = .ok (.iconst 1, 1) := by decide +kernel
theorem dX2_apart_15 : decode cX2_apart 15 = .ok (.istore 4, 2) := by decide +kernel
theorem dX2_apart_17 : decode cX2_apart 17 = .ok (.iload 4, 2) := by decide +kernel
theorem dX2_apart_19 : decode cX2_apart 19 = .ok (.iload_n 1, 1) := by decide +kernel
theorem dX2_apart_20 : decode cX2_apart 20 = .ok (.if_icmp .ge 33, 3) := by decide +kernel
theorem dX2_apart_23 : decode cX2_apart 23 = .ok (.iload_n 2, 1) := by decide +kernel
theorem dX2_apart_24 : decode cX2_apart 24 = .ok (.aload_n 0, 1) := by decide +kernel
theorem dX2_apart_25 : decode cX2_apart 25 = .ok (.getfield 9, 3) := by decide +kernel
theorem dX2_apart_28 : decode cX2_apart 28 = .ok (.iload 4, 2) := by decide +kernel
theorem dX2_apart_30 : decode cX2_apart 30 = .ok (.iaload, 1) := by decide +kernel
theorem dX2_apart_31 : decode cX2_apart 31 = .ok (.invokestatic 51, 3) := by decide +kernel
theorem dX2_apart_34 : decode cX2_apart 34 = .ok (.istore_n 2, 1) := by decide +kernel
theorem dX2_apart_35 : decode cX2_apart 35 = .ok (.iload_n 3, 1) := by decide +kernel
theorem dX2_apart_36 : decode cX2_apart 36 = .ok (.aload_n 0, 1) := by decide +kernel
theorem dX2_apart_37 : decode cX2_apart 37 = .ok (.getfield 9, 3) := by decide +kernel
theorem dX2_apart_40 : decode cX2_apart 40 = .ok (.iload 4, 2) := by decide +kernel
theorem dX2_apart_42 : decode cX2_apart 42 = .ok (.iaload, 1) := by decide +kernel
theorem dX2_apart_43 : decode cX2_apart 43 = .ok (.invokestatic 57, 3) := by decide +kernel
theorem dX2_apart_46 : decode cX2_apart 46 = .ok (.istore_n 3, 1) := by decide +kernel
theorem dX2_apart_47 : decode cX2_apart 47 = .ok (.iinc 4 1, 3) := by decide +kernel
theorem dX2_apart_50 : decode cX2_apart 50 = .ok (.goto (-33), 3) := by decide +kernel
theorem dX2_apart_53 : decode cX2_apart 53 = .ok (.iload_n 2, 1) := by decide +kernel
theorem dX2_apart_54 : decode cX2_apart 54 = .ok (.iload_n 3, 1) := by decide +kernel
theorem dX2_apart_55 : decode cX2_apart 55 = .ok (.isub, 1) := by decide +kernel
theorem dX2_apart_56 : decode cX2_apart 56 = .ok (.ireturn, 1) := by decide +kernel
theorem dX2_twosHeard_0 : decode cX2_twosHeard 0 = .ok (.iconst 0, 1) := by decide +kernel
theorem dX2_twosHeard_1 : decode cX2_twosHeard 1 = .ok (.istore_n 2, 1) := by decide +kernel
theorem dX2_twosHeard_2 : decode cX2_twosHeard 2 = .ok (.iconst 0, 1) := by decide +kernel
theorem dX2_twosHeard_3 : decode cX2_twosHeard 3 = .ok (.istore_n 3, 1) := by decide +kernel
theorem dX2_twosHeard_4 : decode cX2_twosHeard 4 = .ok (.iload_n 3, 1) := by decide +kernel
theorem dX2_twosHeard_5 : decode cX2_twosHeard 5 = .ok (.aload_n 1, 1) := by decide +kernel
theorem dX2_twosHeard_6 : decode cX2_twosHeard 6 = .ok (.getfield 18, 3) := by decide +kernel
theorem dX2_twosHeard_9 : decode cX2_twosHeard 9 = .ok (.if_icmp .ge 56, 3) := by decide +kernel
theorem dX2_twosHeard_12 : decode cX2_twosHeard 12 = .ok (.iload_n 3, 1) := by decide +kernel
theorem dX2_twosHeard_13 : decode cX2_twosHeard 13 = .ok (.iconst 1, 1) := by decide +kernel
theorem dX2_twosHeard_14 : decode cX2_twosHeard 14 = .ok (.iadd, 1) := by decide +kernel
theorem dX2_twosHeard_15 : decode cX2_twosHeard 15 = .ok (.istore 4, 2) := by decide +kernel
theorem dX2_twosHeard_17 : decode cX2_twosHeard 17 = .ok (.iload 4, 2) := by decide +kernel
theorem dX2_twosHeard_19 : decode cX2_twosHeard 19 = .ok (.aload_n 1, 1) := by decide +kernel
theorem dX2_twosHeard_20 : decode cX2_twosHeard 20 = .ok (.getfield 18, 3) := by decide +kernel
theorem dX2_twosHeard_23 : decode cX2_twosHeard 23 = .ok (.if_icmp .ge 36, 3) := by decide +kernel
theorem dX2_twosHeard_26 : decode cX2_twosHeard 26 = .ok (.aload_n 0, 1) := by decide +kernel
theorem dX2_twosHeard_27 : decode cX2_twosHeard 27 = .ok (.getfield 9, 3) := by decide +kernel
theorem dX2_twosHeard_30 : decode cX2_twosHeard 30 = .ok (.iload_n 3, 1) := by decide +kernel
theorem dX2_twosHeard_31 : decode cX2_twosHeard 31 = .ok (.iaload, 1) := by decide +kernel
theorem dX2_twosHeard_32 : decode cX2_twosHeard 32 = .ok (.aload_n 0, 1) := by decide +kernel
theorem dX2_twosHeard_33 : decode cX2_twosHeard 33 = .ok (.getfield 9, 3) := by decide +kernel
theorem dX2_twosHeard_36 : decode cX2_twosHeard 36 = .ok (.iload 4, 2) := by decide +kernel
theorem dX2_twosHeard_38 : decode cX2_twosHeard 38 = .ok (.iaload, 1) := by decide +kernel
theorem dX2_twosHeard_39 : decode cX2_twosHeard 39 = .ok (.isub, 1) := by decide +kernel
theorem dX2_twosHeard_40 : decode cX2_twosHeard 40 = .ok (.invokestatic 60, 3) := by decide +kernel
theorem dX2_twosHeard_43 : decode cX2_twosHeard 43 = .ok (.aload_n 1, 1) := by decide +kernel
theorem dX2_twosHeard_44 : decode cX2_twosHeard 44 = .ok (.getfield 63, 3) := by decide +kernel
theorem dX2_twosHeard_47 : decode cX2_twosHeard 47 = .ok (.if_icmp .le 6, 3) := by decide +kernel
theorem dX2_twosHeard_50 : decode cX2_twosHeard 50 = .ok (.iinc 2 1, 3) := by decide +kernel
theorem dX2_twosHeard_53 : decode cX2_twosHeard 53 = .ok (.iinc 4 1, 3) := by decide +kernel
theorem dX2_twosHeard_56 : decode cX2_twosHeard 56 = .ok (.goto (-39), 3) := by decide +kernel
theorem dX2_twosHeard_59 : decode cX2_twosHeard 59 = .ok (.iinc 3 1, 3) := by decide +kernel
theorem dX2_twosHeard_62 : decode cX2_twosHeard 62 = .ok (.goto (-58), 3) := by decide +kernel
theorem dX2_twosHeard_65 : decode cX2_twosHeard 65 = .ok (.iload_n 2, 1) := by decide +kernel
theorem dX2_twosHeard_66 : decode cX2_twosHeard 66 = .ok (.ireturn, 1) := by decide +kernel
theorem dX3_init_0 : decode cX3_init 0 = .ok (.aload_n 0, 1) := by decide +kernel
theorem dX3_init_1 : decode cX3_init 1 = .ok (.invokespecial 3, 3) := by decide +kernel
theorem dX3_init_4 : decode cX3_init 4 = .ok (.aload_n 0, 1) := by decide +kernel
theorem dX3_init_5 : decode cX3_init 5 = .ok (.iconst 4, 1) := by decide +kernel
theorem dX3_init_6 : decode cX3_init 6 = .ok (.newarray .int, 2) := by decide +kernel
theorem dX3_init_8 : decode cX3_init 8 = .ok (.putfield 9, 3) := by decide +kernel
theorem dX3_init_11 : decode cX3_init 11 = .ok (.aload_n 0, 1) := by decide +kernel
theorem dX3_init_12 : decode cX3_init 12 = .ok (.iconst 0, 1) := by decide +kernel
theorem dX3_init_13 : decode cX3_init 13 = .ok (.putfield 15, 3) := by decide +kernel
theorem dX3_init_16 : decode cX3_init 16 = .ok (.return_, 1) := by decide +kernel
set_option maxRecDepth 20000 in
theorem ggX3_readInto_X0_clear : GoodIn wsX3_readInto wsX0_clear := goodIn_r _ [10, 11, 12, 13, 14, 15, 66, 67, 68, 69, 70, 71, 72, 73, 74, 75, 76] (by decide +kernel) (by decide +kernel)
set_option maxRecDepth 20000 in
theorem gX3_readInto_X0_clear : GoodIn wsX3_readInto (wsV RX3 25 RX0 yX0_clear wsX0_clear) := goodIn_app (goodIn_of _ (by decide +kernel)) ggX3_readInto_X0_clear
set_option maxRecDepth 20000 in
theorem ggX3_readInto_X3_readItem : GoodIn wsX3_readInto wsX3_readItem := goodIn_r _ [20, 5, 21, 22, 23, 19, 24, 25, 26, 27, 28, 29, 30, 31, 32, 33, 34, 35, 36, 37, 38, 39, 40, 41, 42, 43, 44, 45, 46, 47, 48, 49, 50, 51, 52, 9, 53, 11, 54, 55, 56, 57, 58, 59, 60, 61, 62, 63, 64, 65, 66, 67, 68, 69, 70, 71, 72, 73, 74, 75, 76] (by decide +kernel) (by decide +kernel)
set_option maxRecDepth 20000 in
theorem gX3_readInto_X3_readItem : GoodIn wsX3_readInto (wsV RX3 30 RX3 yX3_readItem wsX3_readItem) := goodIn_app (goodIn_of _ (by decide +kernel)) ggX3_readInto_X3_readItem
theorem dX3_readInto_0 : decode cX3_readInto 0 = .ok (.iload_n 3, 1) := by decide +kernel
theorem dX3_readInto_1 : decode cX3_readInto 1 = .ok (.aload_n 2, 1) := by decide +kernel
theorem dX3_readInto_2 : decode cX3_readInto 2 = .ok (.arraylength, 1) := by decide +kernel
theorem dX3_readInto_3 : decode cX3_readInto 3 = .ok (.invokestatic 19, 3) := by decide +kernel
theorem dX3_readInto_6 : decode cX3_readInto 6 = .ok (.istore 4, 2) := by decide +kernel
theorem dX3_readInto_8 : decode cX3_readInto 8 = .ok (.aload_n 1, 1) := by decide +kernel
theorem dX3_readInto_9 : decode cX3_readInto 9 = .ok (.invokevirtual 25, 3) := by decide +kernel
theorem dX3_readInto_12 : decode cX3_readInto 12 = .ok (.aload_n 0, 1) := by decide +kernel
theorem dX3_readInto_13 : decode cX3_readInto 13 = .ok (.iconst 0, 1) := by decide +kernel
theorem dX3_readInto_14 : decode cX3_readInto 14 = .ok (.putfield 15, 3) := by decide +kernel
theorem dX3_readInto_17 : decode cX3_readInto 17 = .ok (.iconst 0, 1) := by decide +kernel
theorem dX3_readInto_18 : decode cX3_readInto 18 = .ok (.istore 5, 2) := by decide +kernel
theorem dX3_readInto_20 : decode cX3_readInto 20 = .ok (.iload 5, 2) := by decide +kernel
theorem dX3_readInto_22 : decode cX3_readInto 22 = .ok (.iload 4, 2) := by decide +kernel
theorem dX3_readInto_24 : decode cX3_readInto 24 = .ok (.if_icmp .ge 38, 3) := by decide +kernel
theorem dX3_readInto_27 : decode cX3_readInto 27 = .ok (.aload_n 0, 1) := by decide +kernel
theorem dX3_readInto_28 : decode cX3_readInto 28 = .ok (.getfield 15, 3) := by decide +kernel
theorem dX3_readInto_31 : decode cX3_readInto 31 = .ok (.iload 4, 2) := by decide +kernel
theorem dX3_readInto_33 : decode cX3_readInto 33 = .ok (.if_icmp .ge 29, 3) := by decide +kernel
theorem dX3_readInto_36 : decode cX3_readInto 36 = .ok (.aload_n 0, 1) := by decide +kernel
theorem dX3_readInto_37 : decode cX3_readInto 37 = .ok (.getfield 15, 3) := by decide +kernel
theorem dX3_readInto_40 : decode cX3_readInto 40 = .ok (.istore 6, 2) := by decide +kernel
theorem dX3_readInto_42 : decode cX3_readInto 42 = .ok (.aload_n 0, 1) := by decide +kernel
theorem dX3_readInto_43 : decode cX3_readInto 43 = .ok (.aload_n 1, 1) := by decide +kernel
theorem dX3_readInto_44 : decode cX3_readInto 44 = .ok (.aload_n 2, 1) := by decide +kernel
theorem dX3_readInto_45 : decode cX3_readInto 45 = .ok (.iload 4, 2) := by decide +kernel
theorem dX3_readInto_47 : decode cX3_readInto 47 = .ok (.invokevirtual 30, 3) := by decide +kernel
theorem dX3_readInto_50 : decode cX3_readInto 50 = .ok (.ifCond .ne 6, 3) := by decide +kernel
theorem dX3_readInto_53 : decode cX3_readInto 53 = .ok (.iload 6, 2) := by decide +kernel
theorem dX3_readInto_55 : decode cX3_readInto 55 = .ok (.ireturn, 1) := by decide +kernel
theorem dX3_readInto_56 : decode cX3_readInto 56 = .ok (.iinc 5 1, 3) := by decide +kernel
theorem dX3_readInto_59 : decode cX3_readInto 59 = .ok (.goto (-39), 3) := by decide +kernel
theorem dX3_readInto_62 : decode cX3_readInto 62 = .ok (.bipush (-4), 2) := by decide +kernel
theorem dX3_readInto_64 : decode cX3_readInto 64 = .ok (.ireturn, 1) := by decide +kernel
set_option maxRecDepth 20000 in
theorem ggX3_readItem_X3_letterAt : GoodIn wsX3_readItem wsX3_letterAt := goodIn_r _ [6, 1, 48, 49] (by decide +kernel) (by decide +kernel)
set_option maxRecDepth 20000 in
theorem gX3_readItem_X3_letterAt : GoodIn wsX3_readItem (wsV RX3 34 RX3 yX3_letterAt wsX3_letterAt) := goodIn_app (goodIn_of _ (by decide +kernel)) ggX3_readItem_X3_letterAt
set_option maxRecDepth 20000 in
theorem ggX3_readItem_X3_numbersBehind : GoodIn wsX3_readItem wsX3_numbersBehind := goodIn_r _ [9] (by decide +kernel) (by decide +kernel)
set_option maxRecDepth 20000 in
theorem gX3_readItem_X3_numbersBehind : GoodIn wsX3_readItem (va_wsS RX3 38 yX3_numbersBehind wsX3_numbersBehind) := goodIn_app (goodIn_of _ (by decide +kernel)) ggX3_readItem_X3_numbersBehind
set_option maxRecDepth 20000 in
theorem ggX3_readItem_X3_readNumber : GoodIn wsX3_readItem wsX3_readNumber := goodIn_r _ [13, 1, 14, 2, 3, 4, 5, 6, 15, 16, 17, 48, 49] (by decide +kernel) (by decide +kernel)
set_option maxRecDepth 20000 in
theorem gX3_readItem_X3_readNumber : GoodIn wsX3_readItem (wsV RX3 42 RX3 yX3_readNumber wsX3_readNumber) := goodIn_app (goodIn_of _ (by decide +kernel)) ggX3_readItem_X3_readNumber
set_option maxRecDepth 20000 in
theorem ggX3_readItem_X3_takeItem : GoodIn wsX3_readItem wsX3_takeItem := goodIn_r _ [21, 14, 22, 23, 24, 25, 26, 27, 28, 29, 30, 5, 31, 15, 16, 17, 32, 33, 34, 35, 36, 37, 38, 39, 40, 41, 42, 43, 44, 45, 46, 47, 48, 49, 50, 51, 52, 53, 54, 55, 56, 57, 58, 59, 60] (by decide +kernel) (by decide +kernel)
set_option maxRecDepth 20000 in
theorem gX3_readItem_X3_takeItem : GoodIn wsX3_readItem (wsV RX3 46 RX3 yX3_takeItem wsX3_takeItem) := goodIn_app (goodIn_of _ (by decide +kernel)) ggX3_readItem_X3_takeItem
theorem dX3_readItem_0 : decode cX3_readItem 0 = .ok (.aload_n 0, 1) := by decide +kernel
theorem dX3_readItem_1 : decode cX3_readItem 1 = .ok (.aload_n 2, 1) := by decide +kernel
theorem dX3_readItem_2 : decode cX3_readItem 2 = .ok (.iload_n 3, 1) := by decide +kernel
theorem dX3_readItem_3 : decode cX3_readItem 3 = .ok (.invokevirtual 34, 3) := by decide +kernel
theorem dX3_readItem_6 : decode cX3_readItem 6 = .ok (.istore 4, 2) := by decide +kernel
theorem dX3_readItem_8 : decode cX3_readItem 8 = .ok (.iload 4, 2) := by decide +kernel
theorem dX3_readItem_10 : decode cX3_readItem 10 = .ok (.invokestatic 38, 3) := by decide +kernel
theorem dX3_readItem_13 : decode cX3_readItem 13 = .ok (.istore 5, 2) := by decide +kernel
theorem dX3_readItem_15 : decode cX3_readItem 15 = .ok (.iload 5, 2) := by decide +kernel
theorem dX3_readItem_17 : decode cX3_readItem 17 = .ok (.ifCond .ne 5, 3) := by decide +kernel
theorem dX3_readItem_20 : decode cX3_readItem 20 = .ok (.iconst 0, 1) := by decide +kernel
theorem dX3_readItem_21 : decode cX3_readItem 21 = .ok (.ireturn, 1) := by decide +kernel
theorem dX3_readItem_22 : decode cX3_readItem 22 = .ok (.iconst 0, 1) := by decide +kernel
theorem dX3_readItem_23 : decode cX3_readItem 23 = .ok (.istore 6, 2) := by decide +kernel
theorem dX3_readItem_25 : decode cX3_readItem 25 = .ok (.iload 6, 2) := by decide +kernel
theorem dX3_readItem_27 : decode cX3_readItem 27 = .ok (.iload 5, 2) := by decide +kernel
theorem dX3_readItem_29 : decode cX3_readItem 29 = .ok (.if_icmp .ge 65, 3) := by decide +kernel
theorem dX3_readItem_32 : decode cX3_readItem 32 = .ok (.iload 6, 2) := by decide +kernel
theorem dX3_readItem_34 : decode cX3_readItem 34 = .ok (.iconst 4, 1) := by decide +kernel
theorem dX3_readItem_35 : decode cX3_readItem 35 = .ok (.if_icmp .ge 59, 3) := by decide +kernel
theorem dX3_readItem_38 : decode cX3_readItem 38 = .ok (.aload_n 0, 1) := by decide +kernel
theorem dX3_readItem_39 : decode cX3_readItem 39 = .ok (.dup, 1) := by decide +kernel
theorem dX3_readItem_40 : decode cX3_readItem 40 = .ok (.getfield 15, 3) := by decide +kernel
theorem dX3_readItem_43 : decode cX3_readItem 43 = .ok (.iconst 1, 1) := by decide +kernel
theorem dX3_readItem_44 : decode cX3_readItem 44 = .ok (.iadd, 1) := by decide +kernel
theorem dX3_readItem_45 : decode cX3_readItem 45 = .ok (.putfield 15, 3) := by decide +kernel
theorem dX3_readItem_48 : decode cX3_readItem 48 = .ok (.aload_n 0, 1) := by decide +kernel
theorem dX3_readItem_49 : decode cX3_readItem 49 = .ok (.iload 6, 2) := by decide +kernel
theorem dX3_readItem_51 : decode cX3_readItem 51 = .ok (.aload_n 2, 1) := by decide +kernel
theorem dX3_readItem_52 : decode cX3_readItem 52 = .ok (.iload_n 3, 1) := by decide +kernel
theorem dX3_readItem_53 : decode cX3_readItem 53 = .ok (.invokevirtual 42, 3) := by decide +kernel
theorem dX3_readItem_56 : decode cX3_readItem 56 = .ok (.ifCond .ne 5, 3) := by decide +kernel
theorem dX3_readItem_59 : decode cX3_readItem 59 = .ok (.iconst 0, 1) := by decide +kernel
theorem dX3_readItem_60 : decode cX3_readItem 60 = .ok (.ireturn, 1) := by decide +kernel
theorem dX3_readItem_61 : decode cX3_readItem 61 = .ok (.aload_n 0, 1) := by decide +kernel
theorem dX3_readItem_62 : decode cX3_readItem 62 = .ok (.aload_n 2, 1) := by decide +kernel
theorem dX3_readItem_63 : decode cX3_readItem 63 = .ok (.iload_n 3, 1) := by decide +kernel
theorem dX3_readItem_64 : decode cX3_readItem 64 = .ok (.invokevirtual 34, 3) := by decide +kernel
theorem dX3_readItem_67 : decode cX3_readItem 67 = .ok (.iload 6, 2) := by decide +kernel
theorem dX3_readItem_69 : decode cX3_readItem 69 = .ok (.iconst 1, 1) := by decide +kernel
theorem dX3_readItem_70 : decode cX3_readItem 70 = .ok (.iadd, 1) := by decide +kernel
theorem dX3_readItem_71 : decode cX3_readItem 71 = .ok (.iload 5, 2) := by decide +kernel
theorem dX3_readItem_73 : decode cX3_readItem 73 = .ok (.if_icmp .ge 8, 3) := by decide +kernel
theorem dX3_readItem_76 : decode cX3_readItem 76 = .ok (.bipush 44, 2) := by decide +kernel
theorem dX3_readItem_78 : decode cX3_readItem 78 = .ok (.goto 5, 3) := by decide +kernel
theorem dX3_readItem_81 : decode cX3_readItem 81 = .ok (.bipush 59, 2) := by decide +kernel
theorem dX3_readItem_83 : decode cX3_readItem 83 = .ok (.if_icmp .eq 5, 3) := by decide +kernel
theorem dX3_readItem_86 : decode cX3_readItem 86 = .ok (.iconst 0, 1) := by decide +kernel
theorem dX3_readItem_87 : decode cX3_readItem 87 = .ok (.ireturn, 1) := by decide +kernel
theorem dX3_readItem_88 : decode cX3_readItem 88 = .ok (.iinc 6 1, 3) := by decide +kernel
theorem dX3_readItem_91 : decode cX3_readItem 91 = .ok (.goto (-66), 3) := by decide +kernel
theorem dX3_readItem_94 : decode cX3_readItem 94 = .ok (.aload_n 0, 1) := by decide +kernel
theorem dX3_readItem_95 : decode cX3_readItem 95 = .ok (.dup, 1) := by decide +kernel
theorem dX3_readItem_96 : decode cX3_readItem 96 = .ok (.getfield 15, 3) := by decide +kernel
theorem dX3_readItem_99 : decode cX3_readItem 99 = .ok (.iconst 1, 1) := by decide +kernel
theorem dX3_readItem_100 : decode cX3_readItem 100 = .ok (.iadd, 1) := by decide +kernel
theorem dX3_readItem_101 : decode cX3_readItem 101 = .ok (.putfield 15, 3) := by decide +kernel
theorem dX3_readItem_104 : decode cX3_readItem 104 = .ok (.aload_n 0, 1) := by decide +kernel
theorem dX3_readItem_105 : decode cX3_readItem 105 = .ok (.aload_n 1, 1) := by decide +kernel
theorem dX3_readItem_106 : decode cX3_readItem 106 = .ok (.iload 4, 2) := by decide +kernel
theorem dX3_readItem_108 : decode cX3_readItem 108 = .ok (.invokevirtual 46, 3) := by decide +kernel
theorem dX3_readItem_111 : decode cX3_readItem 111 = .ok (.ireturn, 1) := by decide +kernel
theorem dX3_numbersBehind_0 : decode cX3_numbersBehind 0 = .ok (.iload_n 0, 1) := by decide +kernel
theorem dX3_numbersBehind_1 : decode cX3_numbersBehind 1 = .ok (.tableswitch 101 100 119 #[95, 101, 101, 97, 99, 101, 101, 101, 101, 101, 101, 97, 97, 101, 101, 101, 101, 101, 101, 99], 95) := by decide +kernel
theorem dX3_numbersBehind_96 : decode cX3_numbersBehind 96 = .ok (.iconst 4, 1) := by decide +kernel
theorem dX3_numbersBehind_97 : decode cX3_numbersBehind 97 = .ok (.ireturn, 1) := by decide +kernel
theorem dX3_numbersBehind_98 : decode cX3_numbersBehind 98 = .ok (.iconst 2, 1) := by decide +kernel
theorem dX3_numbersBehind_99 : decode cX3_numbersBehind 99 = .ok (.ireturn, 1) := by decide +kernel
theorem dX3_numbersBehind_100 : decode cX3_numbersBehind 100 = .ok (.iconst 1, 1) := by decide +kernel
theorem dX3_numbersBehind_101 : decode cX3_numbersBehind 101 = .ok (.ireturn, 1) := by decide +kernel
theorem dX3_numbersBehind_102 : decode cX3_numbersBehind 102 = .ok (.iconst 0, 1) := by decide +kernel
theorem dX3_numbersBehind_103 : decode cX3_numbersBehind 103 = .ok (.ireturn, 1) := by decide +kernel
set_option maxRecDepth 20000 in
theorem ggX3_readNumber_X3_letterAt : GoodIn wsX3_readNumber wsX3_letterAt := goodIn_r _ [7, 1, 11, 12] (by decide +kernel) (by decide +kernel)
set_option maxRecDepth 20000 in
theorem gX3_readNumber_X3_letterAt : GoodIn wsX3_readNumber (wsV RX3 34 RX3 yX3_letterAt wsX3_letterAt) := goodIn_app (goodIn_of _ (by decide +kernel)) ggX3_readNumber_X3_letterAt
set_option maxRecDepth 20000 in
theorem ggX3_readNumber_X5_isFrom : GoodIn wsX3_readNumber wsX5_isFrom := goodIn_r _ [10] (by decide +kernel) (by decide +kernel)
set_option maxRecDepth 20000 in
theorem gX3_readNumber_X5_isFrom_n50 : GoodIn wsX3_readNumber (wsX5_isFrom) := ggX3_readNumber_X5_isFrom
theorem dX3_readNumber_0 : decode cX3_readNumber 0 = .ok (.iconst 0, 1) := by decide +kernel
theorem dX3_readNumber_1 : decode cX3_readNumber 1 = .ok (.istore 4, 2) := by decide +kernel
theorem dX3_readNumber_3 : decode cX3_readNumber 3 = .ok (.iconst 0, 1) := by decide +kernel
theorem dX3_readNumber_4 : decode cX3_readNumber 4 = .ok (.istore 5, 2) := by decide +kernel
theorem dX3_readNumber_6 : decode cX3_readNumber 6 = .ok (.iload 4, 2) := by decide +kernel
theorem dX3_readNumber_8 : decode cX3_readNumber 8 = .ok (.iconst 2, 1) := by decide +kernel
theorem dX3_readNumber_9 : decode cX3_readNumber 9 = .ok (.if_icmp .ge 52, 3) := by decide +kernel
theorem dX3_readNumber_12 : decode cX3_readNumber 12 = .ok (.aload_n 0, 1) := by decide +kernel
theorem dX3_readNumber_13 : decode cX3_readNumber 13 = .ok (.aload_n 2, 1) := by decide +kernel
theorem dX3_readNumber_14 : decode cX3_readNumber 14 = .ok (.iload_n 3, 1) := by decide +kernel
theorem dX3_readNumber_15 : decode cX3_readNumber 15 = .ok (.invokevirtual 34, 3) := by decide +kernel
theorem dX3_readNumber_18 : decode cX3_readNumber 18 = .ok (.bipush 48, 2) := by decide +kernel
theorem dX3_readNumber_20 : decode cX3_readNumber 20 = .ok (.bipush 57, 2) := by decide +kernel
theorem dX3_readNumber_22 : decode cX3_readNumber 22 = .ok (.invokestatic 50, 3) := by decide +kernel
theorem dX3_readNumber_25 : decode cX3_readNumber 25 = .ok (.ifCond .eq 36, 3) := by decide +kernel
theorem dX3_readNumber_28 : decode cX3_readNumber 28 = .ok (.iload 5, 2) := by decide +kernel
theorem dX3_readNumber_30 : decode cX3_readNumber 30 = .ok (.bipush 10, 2) := by decide +kernel
theorem dX3_readNumber_32 : decode cX3_readNumber 32 = .ok (.imul, 1) := by decide +kernel
theorem dX3_readNumber_33 : decode cX3_readNumber 33 = .ok (.aload_n 0, 1) := by decide +kernel
theorem dX3_readNumber_34 : decode cX3_readNumber 34 = .ok (.aload_n 2, 1) := by decide +kernel
theorem dX3_readNumber_35 : decode cX3_readNumber 35 = .ok (.iload_n 3, 1) := by decide +kernel
theorem dX3_readNumber_36 : decode cX3_readNumber 36 = .ok (.invokevirtual 34, 3) := by decide +kernel
theorem dX3_readNumber_39 : decode cX3_readNumber 39 = .ok (.iadd, 1) := by decide +kernel
theorem dX3_readNumber_40 : decode cX3_readNumber 40 = .ok (.bipush 48, 2) := by decide +kernel
theorem dX3_readNumber_42 : decode cX3_readNumber 42 = .ok (.isub, 1) := by decide +kernel
theorem dX3_readNumber_43 : decode cX3_readNumber 43 = .ok (.istore 5, 2) := by decide +kernel
theorem dX3_readNumber_45 : decode cX3_readNumber 45 = .ok (.iinc 4 1, 3) := by decide +kernel
theorem dX3_readNumber_48 : decode cX3_readNumber 48 = .ok (.aload_n 0, 1) := by decide +kernel
theorem dX3_readNumber_49 : decode cX3_readNumber 49 = .ok (.dup, 1) := by decide +kernel
theorem dX3_readNumber_50 : decode cX3_readNumber 50 = .ok (.getfield 15, 3) := by decide +kernel
theorem dX3_readNumber_53 : decode cX3_readNumber 53 = .ok (.iconst 1, 1) := by decide +kernel
theorem dX3_readNumber_54 : decode cX3_readNumber 54 = .ok (.iadd, 1) := by decide +kernel
theorem dX3_readNumber_55 : decode cX3_readNumber 55 = .ok (.putfield 15, 3) := by decide +kernel
theorem dX3_readNumber_58 : decode cX3_readNumber 58 = .ok (.goto (-52), 3) := by decide +kernel
theorem dX3_readNumber_61 : decode cX3_readNumber 61 = .ok (.iload 4, 2) := by decide +kernel
theorem dX3_readNumber_63 : decode cX3_readNumber 63 = .ok (.ifCond .eq 12, 3) := by decide +kernel
theorem dX3_readNumber_66 : decode cX3_readNumber 66 = .ok (.iload_n 1, 1) := by decide +kernel
theorem dX3_readNumber_67 : decode cX3_readNumber 67 = .ok (.ifCond .lt 8, 3) := by decide +kernel
theorem dX3_readNumber_70 : decode cX3_readNumber 70 = .ok (.iload_n 1, 1) := by decide +kernel
theorem dX3_readNumber_71 : decode cX3_readNumber 71 = .ok (.iconst 4, 1) := by decide +kernel
theorem dX3_readNumber_72 : decode cX3_readNumber 72 = .ok (.if_icmp .lt 5, 3) := by decide +kernel
theorem dX3_readNumber_75 : decode cX3_readNumber 75 = .ok (.iconst 0, 1) := by decide +kernel
theorem dX3_readNumber_76 : decode cX3_readNumber 76 = .ok (.ireturn, 1) := by decide +kernel
theorem dX3_readNumber_77 : decode cX3_readNumber 77 = .ok (.aload_n 0, 1) := by decide +kernel
theorem dX3_readNumber_78 : decode cX3_readNumber 78 = .ok (.getfield 9, 3) := by decide +kernel
theorem dX3_readNumber_81 : decode cX3_readNumber 81 = .ok (.iload_n 1, 1) := by decide +kernel
theorem dX3_readNumber_82 : decode cX3_readNumber 82 = .ok (.iload 5, 2) := by decide +kernel
theorem dX3_readNumber_84 : decode cX3_readNumber 84 = .ok (.iastore, 1) := by decide +kernel
theorem dX3_readNumber_85 : decode cX3_readNumber 85 = .ok (.iconst 1, 1) := by decide +kernel
theorem dX3_readNumber_86 : decode cX3_readNumber 86 = .ok (.ireturn, 1) := by decide +kernel
theorem dX3_letterAt_0 : decode cX3_letterAt 0 = .ok (.aload_n 0, 1) := by decide +kernel
theorem dX3_letterAt_1 : decode cX3_letterAt 1 = .ok (.getfield 15, 3) := by decide +kernel
theorem dX3_letterAt_4 : decode cX3_letterAt 4 = .ok (.ifCond .lt 29, 3) := by decide +kernel
theorem dX3_letterAt_7 : decode cX3_letterAt 7 = .ok (.aload_n 0, 1) := by decide +kernel
theorem dX3_letterAt_8 : decode cX3_letterAt 8 = .ok (.getfield 15, 3) := by decide +kernel
theorem dX3_letterAt_11 : decode cX3_letterAt 11 = .ok (.iload_n 2, 1) := by decide +kernel
theorem dX3_letterAt_12 : decode cX3_letterAt 12 = .ok (.if_icmp .ge 21, 3) := by decide +kernel
theorem dX3_letterAt_15 : decode cX3_letterAt 15 = .ok (.aload_n 0, 1) := by decide +kernel
theorem dX3_letterAt_16 : decode cX3_letterAt 16 = .ok (.getfield 15, 3) := by decide +kernel
theorem dX3_letterAt_19 : decode cX3_letterAt 19 = .ok (.aload_n 1, 1) := by decide +kernel
theorem dX3_letterAt_20 : decode cX3_letterAt 20 = .ok (.arraylength, 1) := by decide +kernel
theorem dX3_letterAt_21 : decode cX3_letterAt 21 = .ok (.if_icmp .ge 12, 3) := by decide +kernel
theorem dX3_letterAt_24 : decode cX3_letterAt 24 = .ok (.aload_n 1, 1) := by decide +kernel
theorem dX3_letterAt_25 : decode cX3_letterAt 25 = .ok (.aload_n 0, 1) := by decide +kernel
theorem dX3_letterAt_26 : decode cX3_letterAt 26 = .ok (.getfield 15, 3) := by decide +kernel
theorem dX3_letterAt_29 : decode cX3_letterAt 29 = .ok (.iaload, 1) := by decide +kernel
theorem dX3_letterAt_30 : decode cX3_letterAt 30 = .ok (.goto 4, 3) := by decide +kernel
theorem dX3_letterAt_33 : decode cX3_letterAt 33 = .ok (.iconst 0, 1) := by decide +kernel
theorem dX3_letterAt_34 : decode cX3_letterAt 34 = .ok (.ireturn, 1) := by decide +kernel
set_option maxRecDepth 20000 in
theorem ggX3_takeItem_X3_takeDesk : GoodIn wsX3_takeItem wsX3_takeDesk := goodIn_r _ [12, 1, 13, 14, 15, 16, 17, 18, 19, 20, 21, 22, 23, 24, 25, 26, 27, 32, 33, 34, 35, 36, 37, 38, 39, 40, 41, 42, 43, 44] (by decide +kernel) (by decide +kernel)
set_option maxRecDepth 20000 in
theorem gX3_takeItem_X3_takeDesk : GoodIn wsX3_takeItem (wsV RX3 54 RX3 yX3_takeDesk wsX3_takeDesk) := goodIn_app (goodIn_of _ (by decide +kernel)) ggX3_takeItem_X3_takeDesk
set_option maxRecDepth 20000 in
theorem ggX3_takeItem_X0_hasDesk : GoodIn wsX3_takeItem wsX0_hasDesk := goodIn_r _ [31, 21, 34, 35, 36, 37, 38, 39, 40, 41, 42, 43, 44] (by decide +kernel) (by decide +kernel)
set_option maxRecDepth 20000 in
theorem gX3_takeItem_X0_hasDesk : GoodIn wsX3_takeItem (wsV RX3 58 RX0 yX0_hasDesk wsX0_hasDesk) := goodIn_app (goodIn_of _ (by decide +kernel)) ggX3_takeItem_X0_hasDesk
set_option maxRecDepth 20000 in
theorem ggX3_takeItem_X5_isFrom : GoodIn wsX3_takeItem wsX5_isFrom := goodIn_r _ [15] (by decide +kernel) (by decide +kernel)
set_option maxRecDepth 20000 in
theorem gX3_takeItem_X5_isFrom_n50 : GoodIn wsX3_takeItem (wsX5_isFrom) := ggX3_takeItem_X5_isFrom
theorem dX3_takeItem_0 : decode cX3_takeItem 0 = .ok (.aload_n 0, 1) := by decide +kernel
theorem dX3_takeItem_1 : decode cX3_takeItem 1 = .ok (.getfield 9, 3) := by decide +kernel
theorem dX3_takeItem_4 : decode cX3_takeItem 4 = .ok (.iconst 0, 1) := by decide +kernel
theorem dX3_takeItem_5 : decode cX3_takeItem 5 = .ok (.iaload, 1) := by decide +kernel
theorem dX3_takeItem_6 : decode cX3_takeItem 6 = .ok (.istore_n 3, 1) := by decide +kernel
theorem dX3_takeItem_7 : decode cX3_takeItem 7 = .ok (.aload_n 0, 1) := by decide +kernel
theorem dX3_takeItem_8 : decode cX3_takeItem 8 = .ok (.getfield 9, 3) := by decide +kernel
theorem dX3_takeItem_11 : decode cX3_takeItem 11 = .ok (.iconst 1, 1) := by decide +kernel
theorem dX3_takeItem_12 : decode cX3_takeItem 12 = .ok (.iaload, 1) := by decide +kernel
theorem dX3_takeItem_13 : decode cX3_takeItem 13 = .ok (.istore 4, 2) := by decide +kernel
theorem dX3_takeItem_15 : decode cX3_takeItem 15 = .ok (.iload_n 2, 1) := by decide +kernel
theorem dX3_takeItem_16 : decode cX3_takeItem 16 = .ok (.tableswitch 221 100 119 #[96, 221, 221, 102, 202, 221, 221, 221, 221, 221, 221, 158, 128, 221, 221, 221, 221, 221, 221, 188], 96) := by decide +kernel
theorem dX3_takeItem_112 : decode cX3_takeItem 112 = .ok (.aload_n 0, 1) := by decide +kernel
theorem dX3_takeItem_113 : decode cX3_takeItem 113 = .ok (.aload_n 1, 1) := by decide +kernel
theorem dX3_takeItem_114 : decode cX3_takeItem 114 = .ok (.invokevirtual 54, 3) := by decide +kernel
theorem dX3_takeItem_117 : decode cX3_takeItem 117 = .ok (.ireturn, 1) := by decide +kernel
theorem dX3_takeItem_118 : decode cX3_takeItem 118 = .ok (.aload_n 1, 1) := by decide +kernel
theorem dX3_takeItem_119 : decode cX3_takeItem 119 = .ok (.iload_n 3, 1) := by decide +kernel
theorem dX3_takeItem_120 : decode cX3_takeItem 120 = .ok (.invokevirtual 58, 3) := by decide +kernel
theorem dX3_takeItem_123 : decode cX3_takeItem 123 = .ok (.ifCond .eq 9, 3) := by decide +kernel
theorem dX3_takeItem_126 : decode cX3_takeItem 126 = .ok (.iload 4, 2) := by decide +kernel
theorem dX3_takeItem_128 : decode cX3_takeItem 128 = .ok (.iconst 5, 1) := by decide +kernel
theorem dX3_takeItem_129 : decode cX3_takeItem 129 = .ok (.if_icmp .lt 5, 3) := by decide +kernel
theorem dX3_takeItem_132 : decode cX3_takeItem 132 = .ok (.iconst 0, 1) := by decide +kernel
theorem dX3_takeItem_133 : decode cX3_takeItem 133 = .ok (.ireturn, 1) := by decide +kernel
theorem dX3_takeItem_134 : decode cX3_takeItem 134 = .ok (.aload_n 1, 1) := by decide +kernel
theorem dX3_takeItem_135 : decode cX3_takeItem 135 = .ok (.getfield 62, 3) := by decide +kernel
theorem dX3_takeItem_138 : decode cX3_takeItem 138 = .ok (.iload_n 3, 1) := by decide +kernel
theorem dX3_takeItem_139 : decode cX3_takeItem 139 = .ok (.iload 4, 2) := by decide +kernel
theorem dX3_takeItem_141 : decode cX3_takeItem 141 = .ok (.iastore, 1) := by decide +kernel
theorem dX3_takeItem_142 : decode cX3_takeItem 142 = .ok (.iconst 1, 1) := by decide +kernel
theorem dX3_takeItem_143 : decode cX3_takeItem 143 = .ok (.ireturn, 1) := by decide +kernel
theorem dX3_takeItem_144 : decode cX3_takeItem 144 = .ok (.aload_n 1, 1) := by decide +kernel
theorem dX3_takeItem_145 : decode cX3_takeItem 145 = .ok (.iload_n 3, 1) := by decide +kernel
theorem dX3_takeItem_146 : decode cX3_takeItem 146 = .ok (.invokevirtual 58, 3) := by decide +kernel
theorem dX3_takeItem_149 : decode cX3_takeItem 149 = .ok (.ifCond .eq 10, 3) := by decide +kernel
theorem dX3_takeItem_152 : decode cX3_takeItem 152 = .ok (.iload 4, 2) := by decide +kernel
theorem dX3_takeItem_154 : decode cX3_takeItem 154 = .ok (.bipush 40, 2) := by decide +kernel
theorem dX3_takeItem_156 : decode cX3_takeItem 156 = .ok (.if_icmp .le 5, 3) := by decide +kernel
theorem dX3_takeItem_159 : decode cX3_takeItem 159 = .ok (.iconst 0, 1) := by decide +kernel
theorem dX3_takeItem_160 : decode cX3_takeItem 160 = .ok (.ireturn, 1) := by decide +kernel
theorem dX3_takeItem_161 : decode cX3_takeItem 161 = .ok (.aload_n 1, 1) := by decide +kernel
theorem dX3_takeItem_162 : decode cX3_takeItem 162 = .ok (.getfield 65, 3) := by decide +kernel
theorem dX3_takeItem_165 : decode cX3_takeItem 165 = .ok (.iload_n 3, 1) := by decide +kernel
theorem dX3_takeItem_166 : decode cX3_takeItem 166 = .ok (.iload 4, 2) := by decide +kernel
theorem dX3_takeItem_168 : decode cX3_takeItem 168 = .ok (.bipush 20, 2) := by decide +kernel
theorem dX3_takeItem_170 : decode cX3_takeItem 170 = .ok (.isub, 1) := by decide +kernel
theorem dX3_takeItem_171 : decode cX3_takeItem 171 = .ok (.iastore, 1) := by decide +kernel
theorem dX3_takeItem_172 : decode cX3_takeItem 172 = .ok (.iconst 1, 1) := by decide +kernel
theorem dX3_takeItem_173 : decode cX3_takeItem 173 = .ok (.ireturn, 1) := by decide +kernel
theorem dX3_takeItem_174 : decode cX3_takeItem 174 = .ok (.iload_n 3, 1) := by decide +kernel
theorem dX3_takeItem_175 : decode cX3_takeItem 175 = .ok (.bipush 18, 2) := by decide +kernel
theorem dX3_takeItem_177 : decode cX3_takeItem 177 = .ok (.if_icmp .gt 9, 3) := by decide +kernel
theorem dX3_takeItem_180 : decode cX3_takeItem 180 = .ok (.iload 4, 2) := by decide +kernel
theorem dX3_takeItem_182 : decode cX3_takeItem 182 = .ok (.iconst 3, 1) := by decide +kernel
theorem dX3_takeItem_183 : decode cX3_takeItem 183 = .ok (.if_icmp .le 5, 3) := by decide +kernel
theorem dX3_takeItem_186 : decode cX3_takeItem 186 = .ok (.iconst 0, 1) := by decide +kernel
theorem dX3_takeItem_187 : decode cX3_takeItem 187 = .ok (.ireturn, 1) := by decide +kernel
theorem dX3_takeItem_188 : decode cX3_takeItem 188 = .ok (.aload_n 1, 1) := by decide +kernel
theorem dX3_takeItem_189 : decode cX3_takeItem 189 = .ok (.iload_n 3, 1) := by decide +kernel
theorem dX3_takeItem_190 : decode cX3_takeItem 190 = .ok (.bipush 9, 2) := by decide +kernel
theorem dX3_takeItem_192 : decode cX3_takeItem 192 = .ok (.isub, 1) := by decide +kernel
theorem dX3_takeItem_193 : decode cX3_takeItem 193 = .ok (.putfield 68, 3) := by decide +kernel
theorem dX3_takeItem_196 : decode cX3_takeItem 196 = .ok (.aload_n 1, 1) := by decide +kernel
theorem dX3_takeItem_197 : decode cX3_takeItem 197 = .ok (.iload 4, 2) := by decide +kernel
theorem dX3_takeItem_199 : decode cX3_takeItem 199 = .ok (.putfield 71, 3) := by decide +kernel
theorem dX3_takeItem_202 : decode cX3_takeItem 202 = .ok (.iconst 1, 1) := by decide +kernel
theorem dX3_takeItem_203 : decode cX3_takeItem 203 = .ok (.ireturn, 1) := by decide +kernel
theorem dX3_takeItem_204 : decode cX3_takeItem 204 = .ok (.iload_n 3, 1) := by decide +kernel
theorem dX3_takeItem_205 : decode cX3_takeItem 205 = .ok (.iconst 3, 1) := by decide +kernel
theorem dX3_takeItem_206 : decode cX3_takeItem 206 = .ok (.if_icmp .le 5, 3) := by decide +kernel
theorem dX3_takeItem_209 : decode cX3_takeItem 209 = .ok (.iconst 0, 1) := by decide +kernel
theorem dX3_takeItem_210 : decode cX3_takeItem 210 = .ok (.ireturn, 1) := by decide +kernel
theorem dX3_takeItem_211 : decode cX3_takeItem 211 = .ok (.aload_n 1, 1) := by decide +kernel
theorem dX3_takeItem_212 : decode cX3_takeItem 212 = .ok (.iload_n 3, 1) := by decide +kernel
theorem dX3_takeItem_213 : decode cX3_takeItem 213 = .ok (.putfield 74, 3) := by decide +kernel
theorem dX3_takeItem_216 : decode cX3_takeItem 216 = .ok (.iconst 1, 1) := by decide +kernel
theorem dX3_takeItem_217 : decode cX3_takeItem 217 = .ok (.ireturn, 1) := by decide +kernel
theorem dX3_takeItem_218 : decode cX3_takeItem 218 = .ok (.iload_n 3, 1) := by decide +kernel
theorem dX3_takeItem_219 : decode cX3_takeItem 219 = .ok (.iconst 1, 1) := by decide +kernel
theorem dX3_takeItem_220 : decode cX3_takeItem 220 = .ok (.bipush 20, 2) := by decide +kernel
theorem dX3_takeItem_222 : decode cX3_takeItem 222 = .ok (.invokestatic 50, 3) := by decide +kernel
theorem dX3_takeItem_225 : decode cX3_takeItem 225 = .ok (.ifCond .ne 5, 3) := by decide +kernel
theorem dX3_takeItem_228 : decode cX3_takeItem 228 = .ok (.iconst 0, 1) := by decide +kernel
theorem dX3_takeItem_229 : decode cX3_takeItem 229 = .ok (.ireturn, 1) := by decide +kernel
theorem dX3_takeItem_230 : decode cX3_takeItem 230 = .ok (.aload_n 1, 1) := by decide +kernel
theorem dX3_takeItem_231 : decode cX3_takeItem 231 = .ok (.iload_n 3, 1) := by decide +kernel
theorem dX3_takeItem_232 : decode cX3_takeItem 232 = .ok (.putfield 77, 3) := by decide +kernel
theorem dX3_takeItem_235 : decode cX3_takeItem 235 = .ok (.iconst 1, 1) := by decide +kernel
theorem dX3_takeItem_236 : decode cX3_takeItem 236 = .ok (.ireturn, 1) := by decide +kernel
theorem dX3_takeItem_237 : decode cX3_takeItem 237 = .ok (.iconst 0, 1) := by decide +kernel
theorem dX3_takeItem_238 : decode cX3_takeItem 238 = .ok (.ireturn, 1) := by decide +kernel
set_option maxRecDepth 20000 in
theorem ggX3_takeDesk_X5_isFrom : GoodIn wsX3_takeDesk wsX5_isFrom := goodIn_r _ [4] (by decide +kernel) (by decide +kernel)
set_option maxRecDepth 20000 in
theorem gX3_takeDesk_X5_isFrom_n50 : GoodIn wsX3_takeDesk (wsX5_isFrom) := ggX3_takeDesk_X5_isFrom
set_option maxRecDepth 20000 in
theorem ggX3_takeDesk_X0_addDesk : GoodIn wsX3_takeDesk wsX0_addDesk := goodIn_r _ [9, 10, 11, 12, 13, 14, 15, 16, 19, 20, 21, 22, 23, 24, 25, 26, 27, 28, 29] (by decide +kernel) (by decide +kernel)
set_option maxRecDepth 20000 in
theorem gX3_takeDesk_X0_addDesk : GoodIn wsX3_takeDesk (wsV RX3 80 RX0 yX0_addDesk wsX0_addDesk) := goodIn_app (goodIn_of _ (by decide +kernel)) ggX3_takeDesk_X0_addDesk
theorem dX3_takeDesk_0 : decode cX3_takeDesk 0 = .ok (.aload_n 0, 1) := by decide +kernel
theorem dX3_takeDesk_1 : decode cX3_takeDesk 1 = .ok (.getfield 9, 3) := by decide +kernel
theorem dX3_takeDesk_4 : decode cX3_takeDesk 4 = .ok (.iconst 0, 1) := by decide +kernel
theorem dX3_takeDesk_5 : decode cX3_takeDesk 5 = .ok (.iaload, 1) := by decide +kernel
theorem dX3_takeDesk_6 : decode cX3_takeDesk 6 = .ok (.istore_n 2, 1) := by decide +kernel
theorem dX3_takeDesk_7 : decode cX3_takeDesk 7 = .ok (.aload_n 0, 1) := by decide +kernel
theorem dX3_takeDesk_8 : decode cX3_takeDesk 8 = .ok (.getfield 9, 3) := by decide +kernel
theorem dX3_takeDesk_11 : decode cX3_takeDesk 11 = .ok (.iconst 1, 1) := by decide +kernel
theorem dX3_takeDesk_12 : decode cX3_takeDesk 12 = .ok (.iaload, 1) := by decide +kernel
theorem dX3_takeDesk_13 : decode cX3_takeDesk 13 = .ok (.istore_n 3, 1) := by decide +kernel
theorem dX3_takeDesk_14 : decode cX3_takeDesk 14 = .ok (.aload_n 0, 1) := by decide +kernel
theorem dX3_takeDesk_15 : decode cX3_takeDesk 15 = .ok (.getfield 9, 3) := by decide +kernel
theorem dX3_takeDesk_18 : decode cX3_takeDesk 18 = .ok (.iconst 2, 1) := by decide +kernel
theorem dX3_takeDesk_19 : decode cX3_takeDesk 19 = .ok (.iaload, 1) := by decide +kernel
theorem dX3_takeDesk_20 : decode cX3_takeDesk 20 = .ok (.istore 4, 2) := by decide +kernel
theorem dX3_takeDesk_22 : decode cX3_takeDesk 22 = .ok (.aload_n 0, 1) := by decide +kernel
theorem dX3_takeDesk_23 : decode cX3_takeDesk 23 = .ok (.getfield 9, 3) := by decide +kernel
theorem dX3_takeDesk_26 : decode cX3_takeDesk 26 = .ok (.iconst 3, 1) := by decide +kernel
theorem dX3_takeDesk_27 : decode cX3_takeDesk 27 = .ok (.iaload, 1) := by decide +kernel
theorem dX3_takeDesk_28 : decode cX3_takeDesk 28 = .ok (.istore 5, 2) := by decide +kernel
theorem dX3_takeDesk_30 : decode cX3_takeDesk 30 = .ok (.iload_n 2, 1) := by decide +kernel
theorem dX3_takeDesk_31 : decode cX3_takeDesk 31 = .ok (.iconst 3, 1) := by decide +kernel
theorem dX3_takeDesk_32 : decode cX3_takeDesk 32 = .ok (.if_icmp .gt 27, 3) := by decide +kernel
theorem dX3_takeDesk_35 : decode cX3_takeDesk 35 = .ok (.iload_n 3, 1) := by decide +kernel
theorem dX3_takeDesk_36 : decode cX3_takeDesk 36 = .ok (.bipush 6, 2) := by decide +kernel
theorem dX3_takeDesk_38 : decode cX3_takeDesk 38 = .ok (.if_icmp .gt 21, 3) := by decide +kernel
theorem dX3_takeDesk_41 : decode cX3_takeDesk 41 = .ok (.iload 4, 2) := by decide +kernel
theorem dX3_takeDesk_43 : decode cX3_takeDesk 43 = .ok (.iconst 1, 1) := by decide +kernel
theorem dX3_takeDesk_44 : decode cX3_takeDesk 44 = .ok (.bipush 60, 2) := by decide +kernel
theorem dX3_takeDesk_46 : decode cX3_takeDesk 46 = .ok (.invokestatic 50, 3) := by decide +kernel
theorem dX3_takeDesk_49 : decode cX3_takeDesk 49 = .ok (.ifCond .eq 10, 3) := by decide +kernel
theorem dX3_takeDesk_52 : decode cX3_takeDesk 52 = .ok (.iload 5, 2) := by decide +kernel
theorem dX3_takeDesk_54 : decode cX3_takeDesk 54 = .ok (.bipush 9, 2) := by decide +kernel
theorem dX3_takeDesk_56 : decode cX3_takeDesk 56 = .ok (.if_icmp .le 5, 3) := by decide +kernel
theorem dX3_takeDesk_59 : decode cX3_takeDesk 59 = .ok (.iconst 0, 1) := by decide +kernel
theorem dX3_takeDesk_60 : decode cX3_takeDesk 60 = .ok (.ireturn, 1) := by decide +kernel
theorem dX3_takeDesk_61 : decode cX3_takeDesk 61 = .ok (.aload_n 1, 1) := by decide +kernel
theorem dX3_takeDesk_62 : decode cX3_takeDesk 62 = .ok (.iload_n 2, 1) := by decide +kernel
theorem dX3_takeDesk_63 : decode cX3_takeDesk 63 = .ok (.iload_n 3, 1) := by decide +kernel
theorem dX3_takeDesk_64 : decode cX3_takeDesk 64 = .ok (.iload 4, 2) := by decide +kernel
theorem dX3_takeDesk_66 : decode cX3_takeDesk 66 = .ok (.iload 5, 2) := by decide +kernel
theorem dX3_takeDesk_68 : decode cX3_takeDesk 68 = .ok (.invokevirtual 80, 3) := by decide +kernel
theorem dX3_takeDesk_71 : decode cX3_takeDesk 71 = .ok (.ireturn, 1) := by decide +kernel
set_option maxRecDepth 20000 in
theorem ggX4_init_X2_init : GoodIn wsX4_init wsX2_init := goodIn_r _ [13, 14, 2, 3, 15, 16, 17, 18, 19, 20, 21] (by decide +kernel) (by decide +kernel)
set_option maxRecDepth 20000 in
theorem gX4_init_X2_init_n11 : GoodIn wsX4_init (wsX2_init) := ggX4_init_X2_init
theorem dX4_init_0 : decode cX4_init 0 = .ok (.aload_n 0, 1) := by decide +kernel
theorem dX4_init_1 : decode cX4_init 1 = .ok (.invokespecial 3, 3) := by decide +kernel
theorem dX4_init_4 : decode cX4_init 4 = .ok (.aload_n 0, 1) := by decide +kernel
theorem dX4_init_5 : decode cX4_init 5 = .ok (.new 9, 3) := by decide +kernel
theorem dX4_init_8 : decode cX4_init 8 = .ok (.dup, 1) := by decide +kernel
theorem dX4_init_9 : decode cX4_init 9 = .ok (.invokespecial 11, 3) := by decide +kernel
theorem dX4_init_12 : decode cX4_init 12 = .ok (.putfield 12, 3) := by decide +kernel
theorem dX4_init_15 : decode cX4_init 15 = .ok (.aload_n 0, 1) := by decide +kernel
theorem dX4_init_16 : decode cX4_init 16 = .ok (.iconst (-1), 1) := by decide +kernel
theorem dX4_init_17 : decode cX4_init 17 = .ok (.putfield 18, 3) := by decide +kernel
theorem dX4_init_20 : decode cX4_init 20 = .ok (.aload_n 0, 1) := by decide +kernel
theorem dX4_init_21 : decode cX4_init 21 = .ok (.iconst 0, 1) := by decide +kernel
theorem dX4_init_22 : decode cX4_init 22 = .ok (.putfield 22, 3) := by decide +kernel
theorem dX4_init_25 : decode cX4_init 25 = .ok (.aload_n 0, 1) := by decide +kernel
theorem dX4_init_26 : decode cX4_init 26 = .ok (.iconst 0, 1) := by decide +kernel
theorem dX4_init_27 : decode cX4_init 27 = .ok (.putfield 26, 3) := by decide +kernel
theorem dX4_init_30 : decode cX4_init 30 = .ok (.aload_n 0, 1) := by decide +kernel
theorem dX4_init_31 : decode cX4_init 31 = .ok (.iconst 0, 1) := by decide +kernel
theorem dX4_init_32 : decode cX4_init 32 = .ok (.putfield 29, 3) := by decide +kernel
theorem dX4_init_35 : decode cX4_init 35 = .ok (.return_, 1) := by decide +kernel
theorem dX4_tuneAsIs_0 : decode cX4_tuneAsIs 0 = .ok (.aload_n 0, 1) := by decide +kernel
theorem dX4_tuneAsIs_1 : decode cX4_tuneAsIs 1 = .ok (.iconst (-1), 1) := by decide +kernel
theorem dX4_tuneAsIs_2 : decode cX4_tuneAsIs 2 = .ok (.putfield 18, 3) := by decide +kernel
theorem dX4_tuneAsIs_5 : decode cX4_tuneAsIs 5 = .ok (.aload_n 0, 1) := by decide +kernel
theorem dX4_tuneAsIs_6 : decode cX4_tuneAsIs 6 = .ok (.iconst 0, 1) := by decide +kernel
theorem dX4_tuneAsIs_7 : decode cX4_tuneAsIs 7 = .ok (.putfield 22, 3) := by decide +kernel
theorem dX4_tuneAsIs_10 : decode cX4_tuneAsIs 10 = .ok (.return_, 1) := by decide +kernel
theorem dX4_straighten_0 : decode cX4_straighten 0 = .ok (.aload_n 0, 1) := by decide +kernel
theorem dX4_straighten_1 : decode cX4_straighten 1 = .ok (.iload_n 1, 1) := by decide +kernel
theorem dX4_straighten_2 : decode cX4_straighten 2 = .ok (.putfield 18, 3) := by decide +kernel
theorem dX4_straighten_5 : decode cX4_straighten 5 = .ok (.return_, 1) := by decide +kernel
theorem dX4_drawBy_0 : decode cX4_drawBy 0 = .ok (.aload_n 0, 1) := by decide +kernel
theorem dX4_drawBy_1 : decode cX4_drawBy 1 = .ok (.iconst 1, 1) := by decide +kernel
theorem dX4_drawBy_2 : decode cX4_drawBy 2 = .ok (.putfield 22, 3) := by decide +kernel
theorem dX4_drawBy_5 : decode cX4_drawBy 5 = .ok (.aload_n 0, 1) := by decide +kernel
theorem dX4_drawBy_6 : decode cX4_drawBy 6 = .ok (.iload_n 1, 1) := by decide +kernel
theorem dX4_drawBy_7 : decode cX4_drawBy 7 = .ok (.putfield 26, 3) := by decide +kernel
theorem dX4_drawBy_10 : decode cX4_drawBy 10 = .ok (.aload_n 0, 1) := by decide +kernel
theorem dX4_drawBy_11 : decode cX4_drawBy 11 = .ok (.iconst 0, 1) := by decide +kernel
theorem dX4_drawBy_12 : decode cX4_drawBy 12 = .ok (.putfield 29, 3) := by decide +kernel
theorem dX4_drawBy_15 : decode cX4_drawBy 15 = .ok (.return_, 1) := by decide +kernel
set_option maxRecDepth 20000 in
theorem ggX4_letGroupsTune_X0_desksOfGroup : GoodIn wsX4_letGroupsTune wsX0_desksOfGroup := goodIn_r _ [5, 6, 7, 94, 95, 96, 97, 98, 99, 100, 101, 102, 103, 104] (by decide +kernel) (by decide +kernel)
set_option maxRecDepth 20000 in
theorem gX4_letGroupsTune_X0_desksOfGroup : GoodIn wsX4_letGroupsTune (wsV RX4 32 RX0 yX0_desksOfGroup wsX0_desksOfGroup) := goodIn_app (goodIn_of _ (by decide +kernel)) ggX4_letGroupsTune_X0_desksOfGroup
set_option maxRecDepth 20000 in
theorem ggX4_letGroupsTune_X4_letTune : GoodIn wsX4_letGroupsTune wsX4_letTune := goodIn_r _ [12, 13, 14, 15, 16, 17, 18, 19, 20, 21, 22, 23, 24, 25, 26, 4, 27, 6, 28, 29, 30, 31, 32, 33, 34, 35, 36, 37, 38, 39, 40, 41, 42, 43, 44, 45, 46, 47, 48, 49, 50, 11, 51, 52, 53, 54, 55, 56, 57, 58, 59, 60, 61, 62, 63, 64, 65, 66, 67, 68, 69, 70, 71, 72, 73, 74, 75, 76, 77, 78, 79, 80, 81, 82, 83, 84, 85, 86, 87, 88, 89, 90, 91, 92, 93, 105, 106, 107, 108, 109, 94, 95, 96, 97, 98, 99, 100, 101, 102, 103, 104, 110, 111, 112, 113] (by decide +kernel) (by decide +kernel)
set_option maxRecDepth 20000 in
theorem gX4_letGroupsTune_X4_letTune : GoodIn wsX4_letGroupsTune (wsV RX4 38 RX4 yX4_letTune wsX4_letTune) := goodIn_app (goodIn_of _ (by decide +kernel)) ggX4_letGroupsTune_X4_letTune
theorem dX4_letGroupsTune_0 : decode cX4_letGroupsTune 0 = .ok (.iconst 0, 1) := by decide +kernel
theorem dX4_letGroupsTune_1 : decode cX4_letGroupsTune 1 = .ok (.istore_n 3, 1) := by decide +kernel
theorem dX4_letGroupsTune_2 : decode cX4_letGroupsTune 2 = .ok (.iconst 0, 1) := by decide +kernel
theorem dX4_letGroupsTune_3 : decode cX4_letGroupsTune 3 = .ok (.istore 4, 2) := by decide +kernel
theorem dX4_letGroupsTune_5 : decode cX4_letGroupsTune 5 = .ok (.iload 4, 2) := by decide +kernel
theorem dX4_letGroupsTune_7 : decode cX4_letGroupsTune 7 = .ok (.iconst 5, 1) := by decide +kernel
theorem dX4_letGroupsTune_8 : decode cX4_letGroupsTune 8 = .ok (.if_icmp .ge 24, 3) := by decide +kernel
theorem dX4_letGroupsTune_11 : decode cX4_letGroupsTune 11 = .ok (.iload_n 3, 1) := by decide +kernel
theorem dX4_letGroupsTune_12 : decode cX4_letGroupsTune 12 = .ok (.aload_n 0, 1) := by decide +kernel
theorem dX4_letGroupsTune_13 : decode cX4_letGroupsTune 13 = .ok (.aload_n 1, 1) := by decide +kernel
theorem dX4_letGroupsTune_14 : decode cX4_letGroupsTune 14 = .ok (.aload_n 2, 1) := by decide +kernel
theorem dX4_letGroupsTune_15 : decode cX4_letGroupsTune 15 = .ok (.aload_n 1, 1) := by decide +kernel
theorem dX4_letGroupsTune_16 : decode cX4_letGroupsTune 16 = .ok (.iload 4, 2) := by decide +kernel
theorem dX4_letGroupsTune_18 : decode cX4_letGroupsTune 18 = .ok (.invokevirtual 32, 3) := by decide +kernel
theorem dX4_letGroupsTune_21 : decode cX4_letGroupsTune 21 = .ok (.invokevirtual 38, 3) := by decide +kernel
theorem dX4_letGroupsTune_24 : decode cX4_letGroupsTune 24 = .ok (.iadd, 1) := by decide +kernel
theorem dX4_letGroupsTune_25 : decode cX4_letGroupsTune 25 = .ok (.istore_n 3, 1) := by decide +kernel
theorem dX4_letGroupsTune_26 : decode cX4_letGroupsTune 26 = .ok (.iinc 4 1, 3) := by decide +kernel
theorem dX4_letGroupsTune_29 : decode cX4_letGroupsTune 29 = .ok (.goto (-24), 3) := by decide +kernel
theorem dX4_letGroupsTune_32 : decode cX4_letGroupsTune 32 = .ok (.iload_n 3, 1) := by decide +kernel
theorem dX4_letGroupsTune_33 : decode cX4_letGroupsTune 33 = .ok (.ireturn, 1) := by decide +kernel
set_option maxRecDepth 20000 in
theorem ggX4_letTune_X0_tunableOf : GoodIn wsX4_letTune wsX0_tunableOf := goodIn_r _ [16, 17, 18, 19, 20, 21, 90, 91, 92, 93, 94, 95, 96, 97, 98, 99, 100] (by decide +kernel) (by decide +kernel)
set_option maxRecDepth 20000 in
theorem gX4_letTune_X0_tunableOf : GoodIn wsX4_letTune (wsV RX4 42 RX0 yX0_tunableOf wsX0_tunableOf) := goodIn_app (goodIn_of _ (by decide +kernel)) ggX4_letTune_X0_tunableOf
set_option maxRecDepth 20000 in
theorem ggX4_letTune_J6_bitCount_0f7a4 : GoodIn wsX4_letTune wsJ6_bitCount_0f7a4 := goodIn_r _ [25, 26, 27, 28] (by decide +kernel) (by decide +kernel)
set_option maxRecDepth 20000 in
theorem gX4_letTune_J6_bitCount_0f7a4 : GoodIn wsX4_letTune (va_wsS RX4 45 yJ6_bitCount_0f7a4 wsJ6_bitCount_0f7a4) := goodIn_app (goodIn_of _ (by decide +kernel)) ggX4_letTune_J6_bitCount_0f7a4
set_option maxRecDepth 20000 in
theorem ggX4_letTune_X2_become : GoodIn wsX4_letTune wsX2_become := goodIn_r _ [33, 34, 35, 36, 37, 101, 102, 103, 104] (by decide +kernel) (by decide +kernel)
set_option maxRecDepth 20000 in
theorem gX4_letTune_X2_become : GoodIn wsX4_letTune (wsV RX4 50 RX2 yX2_become wsX2_become) := goodIn_app (goodIn_of _ (by decide +kernel)) ggX4_letTune_X2_become
set_option maxRecDepth 20000 in
theorem ggX4_letTune_X5_isIn : GoodIn wsX4_letTune wsX5_isIn := goodIn_r _ [21] (by decide +kernel) (by decide +kernel)
set_option maxRecDepth 20000 in
theorem gX4_letTune_X5_isIn_n57 : GoodIn wsX4_letTune (wsX5_isIn) := ggX4_letTune_X5_isIn
set_option maxRecDepth 20000 in
theorem ggX4_letTune_X4_noteFor : GoodIn wsX4_letTune wsX4_noteFor := goodIn_r _ [42, 1, 9, 43, 44, 45, 46, 15, 47, 17, 48, 49, 50, 51, 52, 53, 54, 55, 56, 32, 57, 36, 34, 85, 86, 87, 88, 89, 101, 102, 103, 104, 90, 91, 92, 93, 94, 95, 96, 97, 98, 99, 100] (by decide +kernel) (by decide +kernel)
set_option maxRecDepth 20000 in
theorem gX4_letTune_X4_noteFor : GoodIn wsX4_letTune (wsV RX4 65 RX4 yX4_noteFor wsX4_noteFor) := goodIn_app (goodIn_of _ (by decide +kernel)) ggX4_letTune_X4_noteFor
set_option maxRecDepth 20000 in
theorem ggX4_letTune_X4_nextDraw : GoodIn wsX4_letTune wsX4_nextDraw := goodIn_r _ [61, 62, 63, 64, 65, 66, 67, 68, 85, 86, 87, 88, 89] (by decide +kernel) (by decide +kernel)
set_option maxRecDepth 20000 in
theorem gX4_letTune_X4_nextDraw : GoodIn wsX4_letTune (wsV RX4 69 RX4 yX4_nextDraw wsX4_nextDraw) := goodIn_app (goodIn_of _ (by decide +kernel)) ggX4_letTune_X4_nextDraw
set_option maxRecDepth 20000 in
theorem ggX4_letTune_X5_within : GoodIn wsX4_letTune wsX5_within := goodIn_r _ [70, 71, 72, 7, 73, 74, 6, 8] (by decide +kernel) (by decide +kernel)
set_option maxRecDepth 20000 in
theorem gX4_letTune_X5_within_n73 : GoodIn wsX4_letTune (wsX5_within) := ggX4_letTune_X5_within
set_option maxRecDepth 20000 in
theorem ggX4_letTune_X2_letPass : GoodIn wsX4_letTune wsX2_letPass := goodIn_r _ [78, 37, 79, 80, 34, 81, 82, 83, 15, 84, 18, 53, 45, 46, 47, 17, 69, 20, 70, 71, 72, 7, 73, 74, 6, 8, 101, 102, 103, 104, 90, 91, 92, 93, 94, 95, 96, 97, 98, 99, 100] (by decide +kernel) (by decide +kernel)
set_option maxRecDepth 20000 in
theorem gX4_letTune_X2_letPass : GoodIn wsX4_letTune (wsV RX4 94 RX2 yX2_letPass wsX2_letPass) := goodIn_app (goodIn_of _ (by decide +kernel)) ggX4_letTune_X2_letPass
theorem dX4_letTune_0 : decode cX4_letTune 0 = .ok (.aload_n 1, 1) := by decide +kernel
theorem dX4_letTune_1 : decode cX4_letTune 1 = .ok (.iload_n 3, 1) := by decide +kernel
theorem dX4_letTune_2 : decode cX4_letTune 2 = .ok (.invokevirtual 42, 3) := by decide +kernel
theorem dX4_letTune_5 : decode cX4_letTune 5 = .ok (.istore 4, 2) := by decide +kernel
theorem dX4_letTune_7 : decode cX4_letTune 7 = .ok (.iload 4, 2) := by decide +kernel
theorem dX4_letTune_9 : decode cX4_letTune 9 = .ok (.invokestatic 45, 3) := by decide +kernel
theorem dX4_letTune_12 : decode cX4_letTune 12 = .ok (.iconst 1, 1) := by decide +kernel
theorem dX4_letTune_13 : decode cX4_letTune 13 = .ok (.isub, 1) := by decide +kernel
theorem dX4_letTune_14 : decode cX4_letTune 14 = .ok (.iconst 2, 1) := by decide +kernel
theorem dX4_letTune_15 : decode cX4_letTune 15 = .ok (.idiv, 1) := by decide +kernel
theorem dX4_letTune_16 : decode cX4_letTune 16 = .ok (.istore 5, 2) := by decide +kernel
theorem dX4_letTune_18 : decode cX4_letTune 18 = .ok (.iconst 0, 1) := by decide +kernel
theorem dX4_letTune_19 : decode cX4_letTune 19 = .ok (.istore 6, 2) := by decide +kernel
theorem dX4_letTune_21 : decode cX4_letTune 21 = .ok (.iconst 0, 1) := by decide +kernel
theorem dX4_letTune_22 : decode cX4_letTune 22 = .ok (.istore 7, 2) := by decide +kernel
theorem dX4_letTune_24 : decode cX4_letTune 24 = .ok (.aload_n 0, 1) := by decide +kernel
theorem dX4_letTune_25 : decode cX4_letTune 25 = .ok (.getfield 12, 3) := by decide +kernel
theorem dX4_letTune_28 : decode cX4_letTune 28 = .ok (.aload_n 2, 1) := by decide +kernel
theorem dX4_letTune_29 : decode cX4_letTune 29 = .ok (.invokevirtual 50, 3) := by decide +kernel
theorem dX4_letTune_32 : decode cX4_letTune 32 = .ok (.iconst 0, 1) := by decide +kernel
theorem dX4_letTune_33 : decode cX4_letTune 33 = .ok (.istore 8, 2) := by decide +kernel
theorem dX4_letTune_35 : decode cX4_letTune 35 = .ok (.iload 8, 2) := by decide +kernel
theorem dX4_letTune_37 : decode cX4_letTune 37 = .ok (.aload_n 1, 1) := by decide +kernel
theorem dX4_letTune_38 : decode cX4_letTune 38 = .ok (.getfield 54, 3) := by decide +kernel
theorem dX4_letTune_41 : decode cX4_letTune 41 = .ok (.if_icmp .ge 78, 3) := by decide +kernel
theorem dX4_letTune_44 : decode cX4_letTune 44 = .ok (.iload 4, 2) := by decide +kernel
theorem dX4_letTune_46 : decode cX4_letTune 46 = .ok (.iload 8, 2) := by decide +kernel
theorem dX4_letTune_48 : decode cX4_letTune 48 = .ok (.invokestatic 57, 3) := by decide +kernel
theorem dX4_letTune_51 : decode cX4_letTune 51 = .ok (.ifCond .ne 6, 3) := by decide +kernel
theorem dX4_letTune_54 : decode cX4_letTune 54 = .ok (.goto 59, 3) := by decide +kernel
theorem dX4_letTune_57 : decode cX4_letTune 57 = .ok (.aload_n 2, 1) := by decide +kernel
theorem dX4_letTune_58 : decode cX4_letTune 58 = .ok (.getfield 61, 3) := by decide +kernel
theorem dX4_letTune_61 : decode cX4_letTune 61 = .ok (.iload 8, 2) := by decide +kernel
theorem dX4_letTune_63 : decode cX4_letTune 63 = .ok (.aload_n 0, 1) := by decide +kernel
theorem dX4_letTune_64 : decode cX4_letTune 64 = .ok (.aload_n 1, 1) := by decide +kernel
theorem dX4_letTune_65 : decode cX4_letTune 65 = .ok (.iload 8, 2) := by decide +kernel
theorem dX4_letTune_67 : decode cX4_letTune 67 = .ok (.iload 5, 2) := by decide +kernel
theorem dX4_letTune_69 : decode cX4_letTune 69 = .ok (.invokevirtual 65, 3) := by decide +kernel
theorem dX4_letTune_72 : decode cX4_letTune 72 = .ok (.aload_n 0, 1) := by decide +kernel
theorem dX4_letTune_73 : decode cX4_letTune 73 = .ok (.invokevirtual 69, 3) := by decide +kernel
theorem dX4_letTune_76 : decode cX4_letTune 76 = .ok (.iadd, 1) := by decide +kernel
theorem dX4_letTune_77 : decode cX4_letTune 77 = .ok (.invokestatic 73, 3) := by decide +kernel
theorem dX4_letTune_80 : decode cX4_letTune 80 = .ok (.iastore, 1) := by decide +kernel
theorem dX4_letTune_81 : decode cX4_letTune 81 = .ok (.iload 6, 2) := by decide +kernel
theorem dX4_letTune_83 : decode cX4_letTune 83 = .ok (.aload_n 1, 1) := by decide +kernel
theorem dX4_letTune_84 : decode cX4_letTune 84 = .ok (.getfield 76, 3) := by decide +kernel
theorem dX4_letTune_87 : decode cX4_letTune 87 = .ok (.iload 8, 2) := by decide +kernel
theorem dX4_letTune_89 : decode cX4_letTune 89 = .ok (.iaload, 1) := by decide +kernel
theorem dX4_letTune_90 : decode cX4_letTune 90 = .ok (.invokestatic 79, 3) := by decide +kernel
theorem dX4_letTune_93 : decode cX4_letTune 93 = .ok (.istore 6, 2) := by decide +kernel
theorem dX4_letTune_95 : decode cX4_letTune 95 = .ok (.aload_n 0, 1) := by decide +kernel
theorem dX4_letTune_96 : decode cX4_letTune 96 = .ok (.getfield 12, 3) := by decide +kernel
theorem dX4_letTune_99 : decode cX4_letTune 99 = .ok (.getfield 85, 3) := by decide +kernel
theorem dX4_letTune_102 : decode cX4_letTune 102 = .ok (.iload 8, 2) := by decide +kernel
theorem dX4_letTune_104 : decode cX4_letTune 104 = .ok (.iaload, 1) := by decide +kernel
theorem dX4_letTune_105 : decode cX4_letTune 105 = .ok (.bipush 9, 2) := by decide +kernel
theorem dX4_letTune_107 : decode cX4_letTune 107 = .ok (.if_icmp .ne 6, 3) := by decide +kernel
theorem dX4_letTune_110 : decode cX4_letTune 110 = .ok (.iconst 1, 1) := by decide +kernel
theorem dX4_letTune_111 : decode cX4_letTune 111 = .ok (.istore 7, 2) := by decide +kernel
theorem dX4_letTune_113 : decode cX4_letTune 113 = .ok (.iinc 8 1, 3) := by decide +kernel
theorem dX4_letTune_116 : decode cX4_letTune 116 = .ok (.goto (-81), 3) := by decide +kernel
theorem dX4_letTune_119 : decode cX4_letTune 119 = .ok (.iload 7, 2) := by decide +kernel
theorem dX4_letTune_121 : decode cX4_letTune 121 = .ok (.ifCond .eq 19, 3) := by decide +kernel
theorem dX4_letTune_124 : decode cX4_letTune 124 = .ok (.aload_n 2, 1) := by decide +kernel
theorem dX4_letTune_125 : decode cX4_letTune 125 = .ok (.aload_n 2, 1) := by decide +kernel
theorem dX4_letTune_126 : decode cX4_letTune 126 = .ok (.getfield 88, 3) := by decide +kernel
theorem dX4_letTune_129 : decode cX4_letTune 129 = .ok (.aload_n 1, 1) := by decide +kernel
theorem dX4_letTune_130 : decode cX4_letTune 130 = .ok (.getfield 91, 3) := by decide +kernel
theorem dX4_letTune_133 : decode cX4_letTune 133 = .ok (.iadd, 1) := by decide +kernel
theorem dX4_letTune_134 : decode cX4_letTune 134 = .ok (.invokestatic 73, 3) := by decide +kernel
theorem dX4_letTune_137 : decode cX4_letTune 137 = .ok (.putfield 88, 3) := by decide +kernel
theorem dX4_letTune_140 : decode cX4_letTune 140 = .ok (.aload_n 2, 1) := by decide +kernel
theorem dX4_letTune_141 : decode cX4_letTune 141 = .ok (.aload_n 1, 1) := by decide +kernel
theorem dX4_letTune_142 : decode cX4_letTune 142 = .ok (.iload 6, 2) := by decide +kernel
theorem dX4_letTune_144 : decode cX4_letTune 144 = .ok (.invokevirtual 94, 3) := by decide +kernel
theorem dX4_letTune_147 : decode cX4_letTune 147 = .ok (.iload 6, 2) := by decide +kernel
theorem dX4_letTune_149 : decode cX4_letTune 149 = .ok (.ireturn, 1) := by decide +kernel
set_option maxRecDepth 20000 in
theorem ggX4_noteFor_X0_hasDesk : GoodIn wsX4_noteFor wsX0_hasDesk := goodIn_r _ [8, 9, 32, 33, 34, 35, 36, 37, 38, 39, 40, 41, 42] (by decide +kernel) (by decide +kernel)
set_option maxRecDepth 20000 in
theorem gX4_noteFor_X0_hasDesk : GoodIn wsX4_noteFor (wsV RX4 98 RX0 yX0_hasDesk wsX0_hasDesk) := goodIn_app (goodIn_of _ (by decide +kernel)) ggX4_noteFor_X0_hasDesk
set_option maxRecDepth 20000 in
theorem ggX4_noteFor_X0_leanOf : GoodIn wsX4_noteFor wsX0_leanOf := goodIn_r _ [13, 14, 15, 5, 6, 7, 8, 9, 32, 33, 34, 35, 36, 37, 38, 39, 40, 41, 42] (by decide +kernel) (by decide +kernel)
set_option maxRecDepth 20000 in
theorem gX4_noteFor_X0_leanOf : GoodIn wsX4_noteFor (wsV RX4 102 RX0 yX0_leanOf wsX0_leanOf) := goodIn_app (goodIn_of _ (by decide +kernel)) ggX4_noteFor_X0_leanOf
set_option maxRecDepth 20000 in
theorem ggX4_noteFor_X2_pitchOf : GoodIn wsX4_noteFor wsX2_pitchOf := goodIn_r _ [20, 21, 22, 28, 29, 30, 31] (by decide +kernel) (by decide +kernel)
set_option maxRecDepth 20000 in
theorem gX4_noteFor_X2_pitchOf : GoodIn wsX4_noteFor (wsV RX4 105 RX2 yX2_pitchOf wsX2_pitchOf) := goodIn_app (goodIn_of _ (by decide +kernel)) ggX4_noteFor_X2_pitchOf
theorem dX4_noteFor_0 : decode cX4_noteFor 0 = .ok (.aload_n 1, 1) := by decide +kernel
theorem dX4_noteFor_1 : decode cX4_noteFor 1 = .ok (.iload_n 2, 1) := by decide +kernel
theorem dX4_noteFor_2 : decode cX4_noteFor 2 = .ok (.invokevirtual 98, 3) := by decide +kernel
theorem dX4_noteFor_5 : decode cX4_noteFor 5 = .ok (.ifCond .eq 15, 3) := by decide +kernel
theorem dX4_noteFor_8 : decode cX4_noteFor 8 = .ok (.aload_n 0, 1) := by decide +kernel
theorem dX4_noteFor_9 : decode cX4_noteFor 9 = .ok (.getfield 12, 3) := by decide +kernel
theorem dX4_noteFor_12 : decode cX4_noteFor 12 = .ok (.getfield 85, 3) := by decide +kernel
theorem dX4_noteFor_15 : decode cX4_noteFor 15 = .ok (.iload_n 2, 1) := by decide +kernel
theorem dX4_noteFor_16 : decode cX4_noteFor 16 = .ok (.iaload, 1) := by decide +kernel
theorem dX4_noteFor_17 : decode cX4_noteFor 17 = .ok (.goto 5, 3) := by decide +kernel
theorem dX4_noteFor_20 : decode cX4_noteFor 20 = .ok (.bipush 8, 2) := by decide +kernel
theorem dX4_noteFor_22 : decode cX4_noteFor 22 = .ok (.istore 4, 2) := by decide +kernel
theorem dX4_noteFor_24 : decode cX4_noteFor 24 = .ok (.iload 4, 2) := by decide +kernel
theorem dX4_noteFor_26 : decode cX4_noteFor 26 = .ok (.bipush 8, 2) := by decide +kernel
theorem dX4_noteFor_28 : decode cX4_noteFor 28 = .ok (.if_icmp .ne 5, 3) := by decide +kernel
theorem dX4_noteFor_31 : decode cX4_noteFor 31 = .ok (.iconst 0, 1) := by decide +kernel
theorem dX4_noteFor_32 : decode cX4_noteFor 32 = .ok (.ireturn, 1) := by decide +kernel
theorem dX4_noteFor_33 : decode cX4_noteFor 33 = .ok (.iload_n 2, 1) := by decide +kernel
theorem dX4_noteFor_34 : decode cX4_noteFor 34 = .ok (.aload_n 0, 1) := by decide +kernel
theorem dX4_noteFor_35 : decode cX4_noteFor 35 = .ok (.getfield 18, 3) := by decide +kernel
theorem dX4_noteFor_38 : decode cX4_noteFor 38 = .ok (.if_icmp .ne 7, 3) := by decide +kernel
theorem dX4_noteFor_41 : decode cX4_noteFor 41 = .ok (.iconst 0, 1) := by decide +kernel
theorem dX4_noteFor_42 : decode cX4_noteFor 42 = .ok (.goto 8, 3) := by decide +kernel
theorem dX4_noteFor_45 : decode cX4_noteFor 45 = .ok (.aload_n 1, 1) := by decide +kernel
theorem dX4_noteFor_46 : decode cX4_noteFor 46 = .ok (.iload_n 2, 1) := by decide +kernel
theorem dX4_noteFor_47 : decode cX4_noteFor 47 = .ok (.invokevirtual 102, 3) := by decide +kernel
theorem dX4_noteFor_50 : decode cX4_noteFor 50 = .ok (.istore 5, 2) := by decide +kernel
theorem dX4_noteFor_52 : decode cX4_noteFor 52 = .ok (.aload_n 0, 1) := by decide +kernel
theorem dX4_noteFor_53 : decode cX4_noteFor 53 = .ok (.getfield 12, 3) := by decide +kernel
theorem dX4_noteFor_56 : decode cX4_noteFor 56 = .ok (.iload 4, 2) := by decide +kernel
theorem dX4_noteFor_58 : decode cX4_noteFor 58 = .ok (.invokevirtual 105, 3) := by decide +kernel
theorem dX4_noteFor_61 : decode cX4_noteFor 61 = .ok (.iload 5, 2) := by decide +kernel
theorem dX4_noteFor_63 : decode cX4_noteFor 63 = .ok (.iadd, 1) := by decide +kernel
theorem dX4_noteFor_64 : decode cX4_noteFor 64 = .ok (.iload_n 3, 1) := by decide +kernel
theorem dX4_noteFor_65 : decode cX4_noteFor 65 = .ok (.iadd, 1) := by decide +kernel
theorem dX4_noteFor_66 : decode cX4_noteFor 66 = .ok (.ireturn, 1) := by decide +kernel
theorem dX4_nextDraw_0 : decode cX4_nextDraw 0 = .ok (.aload_n 0, 1) := by decide +kernel
theorem dX4_nextDraw_1 : decode cX4_nextDraw 1 = .ok (.getfield 22, 3) := by decide +kernel
theorem dX4_nextDraw_4 : decode cX4_nextDraw 4 = .ok (.ifCond .ne 5, 3) := by decide +kernel
theorem dX4_nextDraw_7 : decode cX4_nextDraw 7 = .ok (.iconst 0, 1) := by decide +kernel
theorem dX4_nextDraw_8 : decode cX4_nextDraw 8 = .ok (.ireturn, 1) := by decide +kernel
theorem dX4_nextDraw_9 : decode cX4_nextDraw 9 = .ok (.ldc2_w 108, 3) := by decide +kernel
theorem dX4_nextDraw_12 : decode cX4_nextDraw 12 = .ok (.aload_n 0, 1) := by decide +kernel
theorem dX4_nextDraw_13 : decode cX4_nextDraw 13 = .ok (.getfield 26, 3) := by decide +kernel
theorem dX4_nextDraw_16 : decode cX4_nextDraw 16 = .ok (.i2l, 1) := by decide +kernel
theorem dX4_nextDraw_17 : decode cX4_nextDraw 17 = .ok (.lmul, 1) := by decide +kernel
theorem dX4_nextDraw_18 : decode cX4_nextDraw 18 = .ok (.ldc2_w 110, 3) := by decide +kernel
theorem dX4_nextDraw_21 : decode cX4_nextDraw 21 = .ok (.aload_n 0, 1) := by decide +kernel
theorem dX4_nextDraw_22 : decode cX4_nextDraw 22 = .ok (.getfield 29, 3) := by decide +kernel
theorem dX4_nextDraw_25 : decode cX4_nextDraw 25 = .ok (.i2l, 1) := by decide +kernel
theorem dX4_nextDraw_26 : decode cX4_nextDraw 26 = .ok (.lmul, 1) := by decide +kernel
theorem dX4_nextDraw_27 : decode cX4_nextDraw 27 = .ok (.ladd, 1) := by decide +kernel
theorem dX4_nextDraw_28 : decode cX4_nextDraw 28 = .ok (.lconst 1, 1) := by decide +kernel
theorem dX4_nextDraw_29 : decode cX4_nextDraw 29 = .ok (.ladd, 1) := by decide +kernel
theorem dX4_nextDraw_30 : decode cX4_nextDraw 30 = .ok (.lstore_n 1, 1) := by decide +kernel
theorem dX4_nextDraw_31 : decode cX4_nextDraw 31 = .ok (.aload_n 0, 1) := by decide +kernel
theorem dX4_nextDraw_32 : decode cX4_nextDraw 32 = .ok (.dup, 1) := by decide +kernel
theorem dX4_nextDraw_33 : decode cX4_nextDraw 33 = .ok (.getfield 29, 3) := by decide +kernel
theorem dX4_nextDraw_36 : decode cX4_nextDraw 36 = .ok (.iconst 1, 1) := by decide +kernel
theorem dX4_nextDraw_37 : decode cX4_nextDraw 37 = .ok (.iadd, 1) := by decide +kernel
theorem dX4_nextDraw_38 : decode cX4_nextDraw 38 = .ok (.putfield 29, 3) := by decide +kernel
theorem dX4_nextDraw_41 : decode cX4_nextDraw 41 = .ok (.lload_n 1, 1) := by decide +kernel
theorem dX4_nextDraw_42 : decode cX4_nextDraw 42 = .ok (.lload_n 1, 1) := by decide +kernel
theorem dX4_nextDraw_43 : decode cX4_nextDraw 43 = .ok (.lmul, 1) := by decide +kernel
theorem dX4_nextDraw_44 : decode cX4_nextDraw 44 = .ok (.ldc2_w 112, 3) := by decide +kernel
theorem dX4_nextDraw_47 : decode cX4_nextDraw 47 = .ok (.lrem, 1) := by decide +kernel
theorem dX4_nextDraw_48 : decode cX4_nextDraw 48 = .ok (.ldc2_w 114, 3) := by decide +kernel
theorem dX4_nextDraw_51 : decode cX4_nextDraw 51 = .ok (.lrem, 1) := by decide +kernel
theorem dX4_nextDraw_52 : decode cX4_nextDraw 52 = .ok (.l2i, 1) := by decide +kernel
theorem dX4_nextDraw_53 : decode cX4_nextDraw 53 = .ok (.iconst 1, 1) := by decide +kernel
theorem dX4_nextDraw_54 : decode cX4_nextDraw 54 = .ok (.isub, 1) := by decide +kernel
theorem dX4_nextDraw_55 : decode cX4_nextDraw 55 = .ok (.ireturn, 1) := by decide +kernel
theorem dJ6_bitCount_0f7a4_0 : decode cJ6_bitCount_0f7a4 0 = .ok (.iload_n 0, 1) := by decide +kernel
theorem dJ6_bitCount_0f7a4_1 : decode cJ6_bitCount_0f7a4 1 = .ok (.iload_n 0, 1) := by decide +kernel
theorem dJ6_bitCount_0f7a4_2 : decode cJ6_bitCount_0f7a4 2 = .ok (.iconst 1, 1) := by decide +kernel
theorem dJ6_bitCount_0f7a4_3 : decode cJ6_bitCount_0f7a4 3 = .ok (.iushr, 1) := by decide +kernel
theorem dJ6_bitCount_0f7a4_4 : decode cJ6_bitCount_0f7a4 4 = .ok (.ldc_w 265, 3) := by decide +kernel
theorem dJ6_bitCount_0f7a4_7 : decode cJ6_bitCount_0f7a4 7 = .ok (.iand, 1) := by decide +kernel
theorem dJ6_bitCount_0f7a4_8 : decode cJ6_bitCount_0f7a4 8 = .ok (.isub, 1) := by decide +kernel
theorem dJ6_bitCount_0f7a4_9 : decode cJ6_bitCount_0f7a4 9 = .ok (.istore_n 0, 1) := by decide +kernel
theorem dJ6_bitCount_0f7a4_10 : decode cJ6_bitCount_0f7a4 10 = .ok (.iload_n 0, 1) := by decide +kernel
theorem dJ6_bitCount_0f7a4_11 : decode cJ6_bitCount_0f7a4 11 = .ok (.ldc_w 266, 3) := by decide +kernel
theorem dJ6_bitCount_0f7a4_14 : decode cJ6_bitCount_0f7a4 14 = .ok (.iand, 1) := by decide +kernel
theorem dJ6_bitCount_0f7a4_15 : decode cJ6_bitCount_0f7a4 15 = .ok (.iload_n 0, 1) := by decide +kernel
theorem dJ6_bitCount_0f7a4_16 : decode cJ6_bitCount_0f7a4 16 = .ok (.iconst 2, 1) := by decide +kernel
theorem dJ6_bitCount_0f7a4_17 : decode cJ6_bitCount_0f7a4 17 = .ok (.iushr, 1) := by decide +kernel
theorem dJ6_bitCount_0f7a4_18 : decode cJ6_bitCount_0f7a4 18 = .ok (.ldc_w 266, 3) := by decide +kernel
theorem dJ6_bitCount_0f7a4_21 : decode cJ6_bitCount_0f7a4 21 = .ok (.iand, 1) := by decide +kernel
theorem dJ6_bitCount_0f7a4_22 : decode cJ6_bitCount_0f7a4 22 = .ok (.iadd, 1) := by decide +kernel
theorem dJ6_bitCount_0f7a4_23 : decode cJ6_bitCount_0f7a4 23 = .ok (.istore_n 0, 1) := by decide +kernel
theorem dJ6_bitCount_0f7a4_24 : decode cJ6_bitCount_0f7a4 24 = .ok (.iload_n 0, 1) := by decide +kernel
theorem dJ6_bitCount_0f7a4_25 : decode cJ6_bitCount_0f7a4 25 = .ok (.iload_n 0, 1) := by decide +kernel
theorem dJ6_bitCount_0f7a4_26 : decode cJ6_bitCount_0f7a4 26 = .ok (.iconst 4, 1) := by decide +kernel
theorem dJ6_bitCount_0f7a4_27 : decode cJ6_bitCount_0f7a4 27 = .ok (.iushr, 1) := by decide +kernel
theorem dJ6_bitCount_0f7a4_28 : decode cJ6_bitCount_0f7a4 28 = .ok (.iadd, 1) := by decide +kernel
theorem dJ6_bitCount_0f7a4_29 : decode cJ6_bitCount_0f7a4 29 = .ok (.ldc_w 267, 3) := by decide +kernel
theorem dJ6_bitCount_0f7a4_32 : decode cJ6_bitCount_0f7a4 32 = .ok (.iand, 1) := by decide +kernel
theorem dJ6_bitCount_0f7a4_33 : decode cJ6_bitCount_0f7a4 33 = .ok (.istore_n 0, 1) := by decide +kernel
theorem dJ6_bitCount_0f7a4_34 : decode cJ6_bitCount_0f7a4 34 = .ok (.iload_n 0, 1) := by decide +kernel
theorem dJ6_bitCount_0f7a4_35 : decode cJ6_bitCount_0f7a4 35 = .ok (.iload_n 0, 1) := by decide +kernel
theorem dJ6_bitCount_0f7a4_36 : decode cJ6_bitCount_0f7a4 36 = .ok (.bipush 8, 2) := by decide +kernel
theorem dJ6_bitCount_0f7a4_38 : decode cJ6_bitCount_0f7a4 38 = .ok (.iushr, 1) := by decide +kernel
theorem dJ6_bitCount_0f7a4_39 : decode cJ6_bitCount_0f7a4 39 = .ok (.iadd, 1) := by decide +kernel
theorem dJ6_bitCount_0f7a4_40 : decode cJ6_bitCount_0f7a4 40 = .ok (.istore_n 0, 1) := by decide +kernel
theorem dJ6_bitCount_0f7a4_41 : decode cJ6_bitCount_0f7a4 41 = .ok (.iload_n 0, 1) := by decide +kernel
theorem dJ6_bitCount_0f7a4_42 : decode cJ6_bitCount_0f7a4 42 = .ok (.iload_n 0, 1) := by decide +kernel
theorem dJ6_bitCount_0f7a4_43 : decode cJ6_bitCount_0f7a4 43 = .ok (.bipush 16, 2) := by decide +kernel
theorem dJ6_bitCount_0f7a4_45 : decode cJ6_bitCount_0f7a4 45 = .ok (.iushr, 1) := by decide +kernel
theorem dJ6_bitCount_0f7a4_46 : decode cJ6_bitCount_0f7a4 46 = .ok (.iadd, 1) := by decide +kernel
theorem dJ6_bitCount_0f7a4_47 : decode cJ6_bitCount_0f7a4 47 = .ok (.istore_n 0, 1) := by decide +kernel
theorem dJ6_bitCount_0f7a4_48 : decode cJ6_bitCount_0f7a4 48 = .ok (.iload_n 0, 1) := by decide +kernel
theorem dJ6_bitCount_0f7a4_49 : decode cJ6_bitCount_0f7a4 49 = .ok (.bipush 63, 2) := by decide +kernel
theorem dJ6_bitCount_0f7a4_51 : decode cJ6_bitCount_0f7a4 51 = .ok (.iand, 1) := by decide +kernel
theorem dJ6_bitCount_0f7a4_52 : decode cJ6_bitCount_0f7a4 52 = .ok (.ireturn, 1) := by decide +kernel
theorem dJ9_abs_0f7a4_0 : decode cJ9_abs_0f7a4 0 = .ok (.iload_n 0, 1) := by decide +kernel
theorem dJ9_abs_0f7a4_1 : decode cJ9_abs_0f7a4 1 = .ok (.ifCond .ge 8, 3) := by decide +kernel
theorem dJ9_abs_0f7a4_4 : decode cJ9_abs_0f7a4 4 = .ok (.iload_n 0, 1) := by decide +kernel
theorem dJ9_abs_0f7a4_5 : decode cJ9_abs_0f7a4 5 = .ok (.ineg, 1) := by decide +kernel
theorem dJ9_abs_0f7a4_6 : decode cJ9_abs_0f7a4 6 = .ok (.goto 4, 3) := by decide +kernel
theorem dJ9_abs_0f7a4_9 : decode cJ9_abs_0f7a4 9 = .ok (.iload_n 0, 1) := by decide +kernel
theorem dJ9_abs_0f7a4_10 : decode cJ9_abs_0f7a4 10 = .ok (.ireturn, 1) := by decide +kernel
theorem dJ9_max_7cf53_0 : decode cJ9_max_7cf53 0 = .ok (.iload_n 0, 1) := by decide +kernel
theorem dJ9_max_7cf53_1 : decode cJ9_max_7cf53 1 = .ok (.iload_n 1, 1) := by decide +kernel
theorem dJ9_max_7cf53_2 : decode cJ9_max_7cf53 2 = .ok (.if_icmp .lt 7, 3) := by decide +kernel
theorem dJ9_max_7cf53_5 : decode cJ9_max_7cf53 5 = .ok (.iload_n 0, 1) := by decide +kernel
theorem dJ9_max_7cf53_6 : decode cJ9_max_7cf53 6 = .ok (.goto 4, 3) := by decide +kernel
theorem dJ9_max_7cf53_9 : decode cJ9_max_7cf53 9 = .ok (.iload_n 1, 1) := by decide +kernel
theorem dJ9_max_7cf53_10 : decode cJ9_max_7cf53 10 = .ok (.ireturn, 1) := by decide +kernel
theorem dJ9_min_7cf53_0 : decode cJ9_min_7cf53 0 = .ok (.iload_n 0, 1) := by decide +kernel
theorem dJ9_min_7cf53_1 : decode cJ9_min_7cf53 1 = .ok (.iload_n 1, 1) := by decide +kernel
theorem dJ9_min_7cf53_2 : decode cJ9_min_7cf53 2 = .ok (.if_icmp .gt 7, 3) := by decide +kernel
theorem dJ9_min_7cf53_5 : decode cJ9_min_7cf53 5 = .ok (.iload_n 0, 1) := by decide +kernel
theorem dJ9_min_7cf53_6 : decode cJ9_min_7cf53 6 = .ok (.goto 4, 3) := by decide +kernel
theorem dJ9_min_7cf53_9 : decode cJ9_min_7cf53 9 = .ok (.iload_n 1, 1) := by decide +kernel
theorem dJ9_min_7cf53_10 : decode cJ9_min_7cf53 10 = .ok (.ireturn, 1) := by decide +kernel
set_option maxRecDepth 20000 in
theorem ggJ0_length_8abf5_J0_coder_7d493 : GoodIn wsJ0_length_8abf5 wsJ0_coder_7d493 := goodIn_r _ [6, 7, 8] (by decide +kernel) (by decide +kernel)
set_option maxRecDepth 20000 in
theorem gJ0_length_8abf5_J0_coder_7d493 : GoodIn wsJ0_length_8abf5 (wsV RJ0 335 RJ0 yJ0_coder_7d493 wsJ0_coder_7d493) := goodIn_app (goodIn_of _ (by decide +kernel)) ggJ0_length_8abf5_J0_coder_7d493
theorem dJ0_length_8abf5_0 : decode cJ0_length_8abf5 0 = .ok (.aload_n 0, 1) := by decide +kernel
theorem dJ0_length_8abf5_1 : decode cJ0_length_8abf5 1 = .ok (.getfield 9, 3) := by decide +kernel
theorem dJ0_length_8abf5_4 : decode cJ0_length_8abf5 4 = .ok (.arraylength, 1) := by decide +kernel
theorem dJ0_length_8abf5_5 : decode cJ0_length_8abf5 5 = .ok (.aload_n 0, 1) := by decide +kernel
theorem dJ0_length_8abf5_6 : decode cJ0_length_8abf5 6 = .ok (.invokevirtual 335, 3) := by decide +kernel
theorem dJ0_length_8abf5_9 : decode cJ0_length_8abf5 9 = .ok (.ishr, 1) := by decide +kernel
theorem dJ0_length_8abf5_10 : decode cJ0_length_8abf5 10 = .ok (.ireturn, 1) := by decide +kernel
set_option maxRecDepth 20000 in
theorem ggJ0_charAt_5068e_J0_isLatin1_aae02 : GoodIn wsJ0_charAt_5068e wsJ0_isLatin1_aae02 := goodIn_r _ [6, 7, 8] (by decide +kernel) (by decide +kernel)
set_option maxRecDepth 20000 in
theorem gJ0_charAt_5068e_J0_isLatin1_aae02 : GoodIn wsJ0_charAt_5068e (wsV RJ0 492 RJ0 yJ0_isLatin1_aae02 wsJ0_isLatin1_aae02) := goodIn_app (goodIn_of _ (by decide +kernel)) ggJ0_charAt_5068e_J0_isLatin1_aae02
set_option maxRecDepth 20000 in
theorem ggJ0_charAt_5068e_J1_charAt_3b067 : GoodIn wsJ0_charAt_5068e wsJ1_charAt_3b067 := goodIn_r _ [12, 13, 14, 5, 15, 16, 17, 18, 19, 20] (by decide +kernel) (by decide +kernel)
set_option maxRecDepth 20000 in
theorem gJ0_charAt_5068e_J1_charAt_3b067 : GoodIn wsJ0_charAt_5068e (va_wsS RJ0 495 yJ1_charAt_3b067 wsJ1_charAt_3b067) := goodIn_app (goodIn_of _ (by decide +kernel)) ggJ0_charAt_5068e_J1_charAt_3b067
set_option maxRecDepth 20000 in
theorem ggJ0_charAt_5068e_J2_charAt_3b067 : GoodIn wsJ0_charAt_5068e wsJ2_charAt_3b067 := goodIn_r _ [24, 25, 26, 23, 27, 28, 29, 30, 31, 14, 5, 15, 16, 17, 18, 19, 20, 32, 33, 34, 35, 36, 37] (by decide +kernel) (by decide +kernel)
set_option maxRecDepth 20000 in
theorem gJ0_charAt_5068e_J2_charAt_3b067 : GoodIn wsJ0_charAt_5068e (va_wsS RJ0 498 yJ2_charAt_3b067 wsJ2_charAt_3b067) := goodIn_app (goodIn_of _ (by decide +kernel)) ggJ0_charAt_5068e_J2_charAt_3b067
theorem dJ0_charAt_5068e_0 : decode cJ0_charAt_5068e 0 = .ok (.aload_n 0, 1) := by decide +kernel
theorem dJ0_charAt_5068e_1 : decode cJ0_charAt_5068e 1 = .ok (.invokevirtual 492, 3) := by decide +kernel
theorem dJ0_charAt_5068e_4 : decode cJ0_charAt_5068e 4 = .ok (.ifCond .eq 12, 3) := by decide +kernel
theorem dJ0_charAt_5068e_7 : decode cJ0_charAt_5068e 7 = .ok (.aload_n 0, 1) := by decide +kernel
theorem dJ0_charAt_5068e_8 : decode cJ0_charAt_5068e 8 = .ok (.getfield 9, 3) := by decide +kernel
theorem dJ0_charAt_5068e_11 : decode cJ0_charAt_5068e 11 = .ok (.iload_n 1, 1) := by decide +kernel
theorem dJ0_charAt_5068e_12 : decode cJ0_charAt_5068e 12 = .ok (.invokestatic 495, 3) := by decide +kernel
theorem dJ0_charAt_5068e_15 : decode cJ0_charAt_5068e 15 = .ok (.ireturn, 1) := by decide +kernel
theorem dJ0_charAt_5068e_16 : decode cJ0_charAt_5068e 16 = .ok (.aload_n 0, 1) := by decide +kernel
theorem dJ0_charAt_5068e_17 : decode cJ0_charAt_5068e 17 = .ok (.getfield 9, 3) := by decide +kernel
theorem dJ0_charAt_5068e_20 : decode cJ0_charAt_5068e 20 = .ok (.iload_n 1, 1) := by decide +kernel
theorem dJ0_charAt_5068e_21 : decode cJ0_charAt_5068e 21 = .ok (.invokestatic 498, 3) := by decide +kernel
theorem dJ0_charAt_5068e_24 : decode cJ0_charAt_5068e 24 = .ok (.ireturn, 1) := by decide +kernel
theorem dJ0_coder_7d493_0 : decode cJ0_coder_7d493 0 = .ok (.getstatic 38, 3) := by decide +kernel
theorem dJ0_coder_7d493_3 : decode cJ0_coder_7d493 3 = .ok (.ifCond .eq 10, 3) := by decide +kernel
theorem dJ0_coder_7d493_6 : decode cJ0_coder_7d493 6 = .ok (.aload_n 0, 1) := by decide +kernel
theorem dJ0_coder_7d493_7 : decode cJ0_coder_7d493 7 = .ok (.getfield 15, 3) := by decide +kernel
theorem dJ0_coder_7d493_10 : decode cJ0_coder_7d493 10 = .ok (.goto 4, 3) := by decide +kernel
theorem dJ0_coder_7d493_13 : decode cJ0_coder_7d493 13 = .ok (.iconst 1, 1) := by decide +kernel
theorem dJ0_coder_7d493_14 : decode cJ0_coder_7d493 14 = .ok (.ireturn, 1) := by decide +kernel
theorem dJ0_isLatin1_aae02_0 : decode cJ0_isLatin1_aae02 0 = .ok (.getstatic 38, 3) := by decide +kernel
theorem dJ0_isLatin1_aae02_3 : decode cJ0_isLatin1_aae02 3 = .ok (.ifCond .eq 14, 3) := by decide +kernel
theorem dJ0_isLatin1_aae02_6 : decode cJ0_isLatin1_aae02 6 = .ok (.aload_n 0, 1) := by decide +kernel
theorem dJ0_isLatin1_aae02_7 : decode cJ0_isLatin1_aae02 7 = .ok (.getfield 15, 3) := by decide +kernel
theorem dJ0_isLatin1_aae02_10 : decode cJ0_isLatin1_aae02 10 = .ok (.ifCond .ne 7, 3) := by decide +kernel
theorem dJ0_isLatin1_aae02_13 : decode cJ0_isLatin1_aae02 13 = .ok (.iconst 1, 1) := by decide +kernel
theorem dJ0_isLatin1_aae02_14 : decode cJ0_isLatin1_aae02 14 = .ok (.goto 4, 3) := by decide +kernel
theorem dJ0_isLatin1_aae02_17 : decode cJ0_isLatin1_aae02 17 = .ok (.iconst 0, 1) := by decide +kernel
theorem dJ0_isLatin1_aae02_18 : decode cJ0_isLatin1_aae02 18 = .ok (.ireturn, 1) := by decide +kernel
set_option maxRecDepth 20000 in
theorem ggJ0_checkIndex_df160_J3_checkIndex_8e157 : GoodIn wsJ0_checkIndex_df160 wsJ3_checkIndex_8e157 := goodIn_r _ [5] (by decide +kernel) (by decide +kernel)
set_option maxRecDepth 20000 in
theorem gJ0_checkIndex_df160_J3_checkIndex_8e157 : GoodIn wsJ0_checkIndex_df160 (va_wsS RJ0 1059 yJ3_checkIndex_8e157 wsJ3_checkIndex_8e157) := goodIn_app (goodIn_of _ (by decide +kernel)) ggJ0_checkIndex_df160_J3_checkIndex_8e157
theorem dJ0_checkIndex_df160_0 : decode cJ0_checkIndex_df160 0 = .ok (.iload_n 0, 1) := by decide +kernel
theorem dJ0_checkIndex_df160_1 : decode cJ0_checkIndex_df160 1 = .ok (.iload_n 1, 1) := by decide +kernel
theorem dJ0_checkIndex_df160_2 : decode cJ0_checkIndex_df160 2 = .ok (.getstatic 1053, 3) := by decide +kernel
theorem dJ0_checkIndex_df160_5 : decode cJ0_checkIndex_df160 5 = .ok (.invokestatic 1059, 3) := by decide +kernel
theorem dJ0_checkIndex_df160_8 : decode cJ0_checkIndex_df160 8 = .ok (.pop, 1) := by decide +kernel
theorem dJ0_checkIndex_df160_9 : decode cJ0_checkIndex_df160 9 = .ok (.return_, 1) := by decide +kernel
set_option maxRecDepth 20000 in
theorem ggJ1_charAt_3b067_J0_checkIndex_df160 : GoodIn wsJ1_charAt_3b067 wsJ0_checkIndex_df160 := goodIn_r _ [4, 5, 6, 7, 8, 9] (by decide +kernel) (by decide +kernel)
set_option maxRecDepth 20000 in
theorem gJ1_charAt_3b067_J0_checkIndex_df160 : GoodIn wsJ1_charAt_3b067 (va_wsS RJ1 9 yJ0_checkIndex_df160 wsJ0_checkIndex_df160) := goodIn_app (goodIn_of _ (by decide +kernel)) ggJ1_charAt_3b067_J0_checkIndex_df160
theorem dJ1_charAt_3b067_0 : decode cJ1_charAt_3b067 0 = .ok (.iload_n 1, 1) := by decide +kernel
theorem dJ1_charAt_3b067_1 : decode cJ1_charAt_3b067 1 = .ok (.aload_n 0, 1) := by decide +kernel
theorem dJ1_charAt_3b067_2 : decode cJ1_charAt_3b067 2 = .ok (.arraylength, 1) := by decide +kernel
theorem dJ1_charAt_3b067_3 : decode cJ1_charAt_3b067 3 = .ok (.invokestatic 9, 3) := by decide +kernel
theorem dJ1_charAt_3b067_6 : decode cJ1_charAt_3b067 6 = .ok (.aload_n 0, 1) := by decide +kernel
theorem dJ1_charAt_3b067_7 : decode cJ1_charAt_3b067 7 = .ok (.iload_n 1, 1) := by decide +kernel
theorem dJ1_charAt_3b067_8 : decode cJ1_charAt_3b067 8 = .ok (.baload, 1) := by decide +kernel
theorem dJ1_charAt_3b067_9 : decode cJ1_charAt_3b067 9 = .ok (.sipush 255, 3) := by decide +kernel
theorem dJ1_charAt_3b067_12 : decode cJ1_charAt_3b067 12 = .ok (.iand, 1) := by decide +kernel
theorem dJ1_charAt_3b067_13 : decode cJ1_charAt_3b067 13 = .ok (.i2c, 1) := by decide +kernel
theorem dJ1_charAt_3b067_14 : decode cJ1_charAt_3b067 14 = .ok (.ireturn, 1) := by decide +kernel
set_option maxRecDepth 20000 in
theorem ggJ2_getChar_3b067_J2_length_9d52b : GoodIn wsJ2_getChar_3b067 wsJ2_length_9d52b := goodIn_r _ [7] (by decide +kernel) (by decide +kernel)
set_option maxRecDepth 20000 in
theorem gJ2_getChar_3b067_J2_length_9d52b : GoodIn wsJ2_getChar_3b067 (va_wsS RJ2 48 yJ2_length_9d52b wsJ2_length_9d52b) := goodIn_app (goodIn_of _ (by decide +kernel)) ggJ2_getChar_3b067_J2_length_9d52b
theorem dJ2_getChar_3b067_0 : decode cJ2_getChar_3b067 0 = .ok (.getstatic 44, 3) := by decide +kernel
theorem dJ2_getChar_3b067_3 : decode cJ2_getChar_3b067 3 = .ok (.ifCond .ne 25, 3) := by decide +kernel
theorem dJ2_getChar_3b067_6 : decode cJ2_getChar_3b067 6 = .ok (.iload_n 1, 1) := by decide +kernel
theorem dJ2_getChar_3b067_7 : decode cJ2_getChar_3b067 7 = .ok (.ifCond .lt 11, 3) := by decide +kernel
theorem dJ2_getChar_3b067_10 : decode cJ2_getChar_3b067 10 = .ok (.iload_n 1, 1) := by decide +kernel
theorem dJ2_getChar_3b067_11 : decode cJ2_getChar_3b067 11 = .ok (.aload_n 0, 1) := by decide +kernel
theorem dJ2_getChar_3b067_12 : decode cJ2_getChar_3b067 12 = .ok (.invokestatic 48, 3) := by decide +kernel
theorem dJ2_getChar_3b067_15 : decode cJ2_getChar_3b067 15 = .ok (.if_icmp .lt 13, 3) := by decide +kernel
theorem dJ2_getChar_3b067_18 : decode cJ2_getChar_3b067 18 = .ok (.new 52, 3) := by decide +kernel
theorem dJ2_getChar_3b067_21 : decode cJ2_getChar_3b067 21 = .ok (.dup, 1) := by decide +kernel
theorem dJ2_getChar_3b067_22 : decode cJ2_getChar_3b067 22 = .ok (.ldc 54, 2) := by decide +kernel
theorem dJ2_getChar_3b067_24 : decode cJ2_getChar_3b067 24 = .ok (.invokespecial 56, 3) := by decide +kernel
theorem dJ2_getChar_3b067_27 : decode cJ2_getChar_3b067 27 = .ok (.athrow, 1) := by decide +kernel
theorem dJ2_getChar_3b067_28 : decode cJ2_getChar_3b067 28 = .ok (.iload_n 1, 1) := by decide +kernel
theorem dJ2_getChar_3b067_29 : decode cJ2_getChar_3b067 29 = .ok (.iconst 1, 1) := by decide +kernel
theorem dJ2_getChar_3b067_30 : decode cJ2_getChar_3b067 30 = .ok (.ishl, 1) := by decide +kernel
theorem dJ2_getChar_3b067_31 : decode cJ2_getChar_3b067 31 = .ok (.istore_n 1, 1) := by decide +kernel
theorem dJ2_getChar_3b067_32 : decode cJ2_getChar_3b067 32 = .ok (.aload_n 0, 1) := by decide +kernel
theorem dJ2_getChar_3b067_33 : decode cJ2_getChar_3b067 33 = .ok (.iload_n 1, 1) := by decide +kernel
theorem dJ2_getChar_3b067_34 : decode cJ2_getChar_3b067 34 = .ok (.iinc 1 1, 3) := by decide +kernel
theorem dJ2_getChar_3b067_37 : decode cJ2_getChar_3b067 37 = .ok (.baload, 1) := by decide +kernel
theorem dJ2_getChar_3b067_38 : decode cJ2_getChar_3b067 38 = .ok (.sipush 255, 3) := by decide +kernel
theorem dJ2_getChar_3b067_41 : decode cJ2_getChar_3b067 41 = .ok (.iand, 1) := by decide +kernel
theorem dJ2_getChar_3b067_42 : decode cJ2_getChar_3b067 42 = .ok (.getstatic 59, 3) := by decide +kernel
theorem dJ2_getChar_3b067_45 : decode cJ2_getChar_3b067 45 = .ok (.ishl, 1) := by decide +kernel
theorem dJ2_getChar_3b067_46 : decode cJ2_getChar_3b067 46 = .ok (.aload_n 0, 1) := by decide +kernel
theorem dJ2_getChar_3b067_47 : decode cJ2_getChar_3b067 47 = .ok (.iload_n 1, 1) := by decide +kernel
theorem dJ2_getChar_3b067_48 : decode cJ2_getChar_3b067 48 = .ok (.baload, 1) := by decide +kernel
theorem dJ2_getChar_3b067_49 : decode cJ2_getChar_3b067 49 = .ok (.sipush 255, 3) := by decide +kernel
theorem dJ2_getChar_3b067_52 : decode cJ2_getChar_3b067 52 = .ok (.iand, 1) := by decide +kernel
theorem dJ2_getChar_3b067_53 : decode cJ2_getChar_3b067 53 = .ok (.getstatic 63, 3) := by decide +kernel
theorem dJ2_getChar_3b067_56 : decode cJ2_getChar_3b067 56 = .ok (.ishl, 1) := by decide +kernel
theorem dJ2_getChar_3b067_57 : decode cJ2_getChar_3b067 57 = .ok (.ior, 1) := by decide +kernel
theorem dJ2_getChar_3b067_58 : decode cJ2_getChar_3b067 58 = .ok (.i2c, 1) := by decide +kernel
theorem dJ2_getChar_3b067_59 : decode cJ2_getChar_3b067 59 = .ok (.ireturn, 1) := by decide +kernel
theorem dJ2_length_9d52b_0 : decode cJ2_length_9d52b 0 = .ok (.aload_n 0, 1) := by decide +kernel
theorem dJ2_length_9d52b_1 : decode cJ2_length_9d52b 1 = .ok (.arraylength, 1) := by decide +kernel
theorem dJ2_length_9d52b_2 : decode cJ2_length_9d52b 2 = .ok (.iconst 1, 1) := by decide +kernel
theorem dJ2_length_9d52b_3 : decode cJ2_length_9d52b 3 = .ok (.ishr, 1) := by decide +kernel
theorem dJ2_length_9d52b_4 : decode cJ2_length_9d52b 4 = .ok (.ireturn, 1) := by decide +kernel
set_option maxRecDepth 20000 in
theorem ggJ2_charAt_3b067_J2_checkIndex_2214a : GoodIn wsJ2_charAt_3b067 wsJ2_checkIndex_2214a := goodIn_r _ [4, 5, 6, 3, 7, 8, 9, 10, 11, 12, 13, 14, 15, 16] (by decide +kernel) (by decide +kernel)
set_option maxRecDepth 20000 in
theorem gJ2_charAt_3b067_J2_checkIndex_2214a : GoodIn wsJ2_charAt_3b067 (va_wsS RJ2 67 yJ2_checkIndex_2214a wsJ2_checkIndex_2214a) := goodIn_app (goodIn_of _ (by decide +kernel)) ggJ2_charAt_3b067_J2_checkIndex_2214a
set_option maxRecDepth 20000 in
theorem ggJ2_charAt_3b067_J2_getChar_3b067 : GoodIn wsJ2_charAt_3b067 wsJ2_getChar_3b067 := goodIn_r _ [19, 20, 21, 22, 5, 6, 3, 7] (by decide +kernel) (by decide +kernel)
set_option maxRecDepth 20000 in
theorem gJ2_charAt_3b067_J2_getChar_3b067 : GoodIn wsJ2_charAt_3b067 (va_wsS RJ2 71 yJ2_getChar_3b067 wsJ2_getChar_3b067) := goodIn_app (goodIn_of _ (by decide +kernel)) ggJ2_charAt_3b067_J2_getChar_3b067
theorem dJ2_charAt_3b067_0 : decode cJ2_charAt_3b067 0 = .ok (.iload_n 1, 1) := by decide +kernel
theorem dJ2_charAt_3b067_1 : decode cJ2_charAt_3b067 1 = .ok (.aload_n 0, 1) := by decide +kernel
theorem dJ2_charAt_3b067_2 : decode cJ2_charAt_3b067 2 = .ok (.invokestatic 67, 3) := by decide +kernel
theorem dJ2_charAt_3b067_5 : decode cJ2_charAt_3b067 5 = .ok (.aload_n 0, 1) := by decide +kernel
theorem dJ2_charAt_3b067_6 : decode cJ2_charAt_3b067 6 = .ok (.iload_n 1, 1) := by decide +kernel
theorem dJ2_charAt_3b067_7 : decode cJ2_charAt_3b067 7 = .ok (.invokestatic 71, 3) := by decide +kernel
theorem dJ2_charAt_3b067_10 : decode cJ2_charAt_3b067 10 = .ok (.ireturn, 1) := by decide +kernel
set_option maxRecDepth 20000 in
theorem ggJ2_checkIndex_2214a_J2_length_9d52b : GoodIn wsJ2_checkIndex_2214a wsJ2_length_9d52b := goodIn_r _ [4] (by decide +kernel) (by decide +kernel)
set_option maxRecDepth 20000 in
theorem gJ2_checkIndex_2214a_J2_length_9d52b : GoodIn wsJ2_checkIndex_2214a (va_wsS RJ2 48 yJ2_length_9d52b wsJ2_length_9d52b) := goodIn_app (goodIn_of _ (by decide +kernel)) ggJ2_checkIndex_2214a_J2_length_9d52b
set_option maxRecDepth 20000 in
theorem ggJ2_checkIndex_2214a_J0_checkIndex_df160 : GoodIn wsJ2_checkIndex_2214a wsJ0_checkIndex_df160 := goodIn_r _ [8, 9, 10, 11, 12, 13] (by decide +kernel) (by decide +kernel)
set_option maxRecDepth 20000 in
theorem gJ2_checkIndex_2214a_J0_checkIndex_df160 : GoodIn wsJ2_checkIndex_2214a (va_wsS RJ2 414 yJ0_checkIndex_df160 wsJ0_checkIndex_df160) := goodIn_app (goodIn_of _ (by decide +kernel)) ggJ2_checkIndex_2214a_J0_checkIndex_df160
theorem dJ2_checkIndex_2214a_0 : decode cJ2_checkIndex_2214a 0 = .ok (.iload_n 0, 1) := by decide +kernel
theorem dJ2_checkIndex_2214a_1 : decode cJ2_checkIndex_2214a 1 = .ok (.aload_n 1, 1) := by decide +kernel
theorem dJ2_checkIndex_2214a_2 : decode cJ2_checkIndex_2214a 2 = .ok (.invokestatic 48, 3) := by decide +kernel
theorem dJ2_checkIndex_2214a_5 : decode cJ2_checkIndex_2214a 5 = .ok (.invokestatic 414, 3) := by decide +kernel
theorem dJ2_checkIndex_2214a_8 : decode cJ2_checkIndex_2214a 8 = .ok (.return_, 1) := by decide +kernel
theorem dJ3_checkIndex_8e157_0 : decode cJ3_checkIndex_8e157 0 = .ok (.iload_n 0, 1) := by decide +kernel
theorem dJ3_checkIndex_8e157_1 : decode cJ3_checkIndex_8e157 1 = .ok (.ifCond .lt 8, 3) := by decide +kernel
theorem dJ3_checkIndex_8e157_4 : decode cJ3_checkIndex_8e157 4 = .ok (.iload_n 0, 1) := by decide +kernel
theorem dJ3_checkIndex_8e157_5 : decode cJ3_checkIndex_8e157 5 = .ok (.iload_n 1, 1) := by decide +kernel
theorem dJ3_checkIndex_8e157_6 : decode cJ3_checkIndex_8e157 6 = .ok (.if_icmp .lt 10, 3) := by decide +kernel
theorem dJ3_checkIndex_8e157_9 : decode cJ3_checkIndex_8e157 9 = .ok (.aload_n 2, 1) := by decide +kernel
theorem dJ3_checkIndex_8e157_10 : decode cJ3_checkIndex_8e157 10 = .ok (.iload_n 0, 1) := by decide +kernel
theorem dJ3_checkIndex_8e157_11 : decode cJ3_checkIndex_8e157 11 = .ok (.iload_n 1, 1) := by decide +kernel
theorem dJ3_checkIndex_8e157_12 : decode cJ3_checkIndex_8e157 12 = .ok (.invokestatic 95, 3) := by decide +kernel
theorem dJ3_checkIndex_8e157_15 : decode cJ3_checkIndex_8e157 15 = .ok (.athrow, 1) := by decide +kernel
theorem dJ3_checkIndex_8e157_16 : decode cJ3_checkIndex_8e157 16 = .ok (.iload_n 0, 1) := by decide +kernel
theorem dJ3_checkIndex_8e157_17 : decode cJ3_checkIndex_8e157 17 = .ok (.ireturn, 1) := by decide +kernel
theorem dX5_sorest_0 : decode cX5_sorest 0 = .ok (.iconst 0, 1) := by decide +kernel
theorem dX5_sorest_1 : decode cX5_sorest 1 = .ok (.istore_n 3, 1) := by decide +kernel
theorem dX5_sorest_2 : decode cX5_sorest 2 = .ok (.iload_n 0, 1) := by decide +kernel
theorem dX5_sorest_3 : decode cX5_sorest 3 = .ok (.ineg, 1) := by decide +kernel
theorem dX5_sorest_4 : decode cX5_sorest 4 = .ok (.istore 4, 2) := by decide +kernel
theorem dX5_sorest_6 : decode cX5_sorest 6 = .ok (.iload 4, 2) := by decide +kernel
theorem dX5_sorest_8 : decode cX5_sorest 8 = .ok (.iload_n 1, 1) := by decide +kernel
theorem dX5_sorest_9 : decode cX5_sorest 9 = .ok (.if_icmp .gt 23, 3) := by decide +kernel
theorem dX5_sorest_12 : decode cX5_sorest 12 = .ok (.iload_n 3, 1) := by decide +kernel
theorem dX5_sorest_13 : decode cX5_sorest 13 = .ok (.iconst 2, 1) := by decide +kernel
theorem dX5_sorest_14 : decode cX5_sorest 14 = .ok (.iload 4, 2) := by decide +kernel
theorem dX5_sorest_16 : decode cX5_sorest 16 = .ok (.imul, 1) := by decide +kernel
theorem dX5_sorest_17 : decode cX5_sorest 17 = .ok (.iload_n 2, 1) := by decide +kernel
theorem dX5_sorest_18 : decode cX5_sorest 18 = .ok (.iadd, 1) := by decide +kernel
theorem dX5_sorest_19 : decode cX5_sorest 19 = .ok (.invokestatic 191, 3) := by decide +kernel
theorem dX5_sorest_22 : decode cX5_sorest 22 = .ok (.invokestatic 253, 3) := by decide +kernel
theorem dX5_sorest_25 : decode cX5_sorest 25 = .ok (.istore_n 3, 1) := by decide +kernel
theorem dX5_sorest_26 : decode cX5_sorest 26 = .ok (.iinc 4 1, 3) := by decide +kernel
theorem dX5_sorest_29 : decode cX5_sorest 29 = .ok (.goto (-23), 3) := by decide +kernel
theorem dX5_sorest_32 : decode cX5_sorest 32 = .ok (.iload_n 3, 1) := by decide +kernel
theorem dX5_sorest_33 : decode cX5_sorest 33 = .ok (.ireturn, 1) := by decide +kernel
set_option maxRecDepth 20000 in
theorem ggX5_partOfFraction_X5_commonDivisor : GoodIn wsX5_partOfFraction wsX5_commonDivisor := goodIn_r _ [8] (by decide +kernel) (by decide +kernel)
set_option maxRecDepth 20000 in
theorem gX5_partOfFraction_X5_commonDivisor : GoodIn wsX5_partOfFraction (va_wsS RX5 256 yX5_commonDivisor wsX5_commonDivisor) := goodIn_app (goodIn_of _ (by decide +kernel)) ggX5_partOfFraction_X5_commonDivisor
theorem dX5_partOfFraction_0 : decode cX5_partOfFraction 0 = .ok (.iconst 1, 1) := by decide +kernel
theorem dX5_partOfFraction_1 : decode cX5_partOfFraction 1 = .ok (.iload_n 0, 1) := by decide +kernel
theorem dX5_partOfFraction_2 : decode cX5_partOfFraction 2 = .ok (.iload_n 1, 1) := by decide +kernel
theorem dX5_partOfFraction_3 : decode cX5_partOfFraction 3 = .ok (.invokestatic 256, 3) := by decide +kernel
theorem dX5_partOfFraction_6 : decode cX5_partOfFraction 6 = .ok (.invokestatic 253, 3) := by decide +kernel
theorem dX5_partOfFraction_9 : decode cX5_partOfFraction 9 = .ok (.istore_n 3, 1) := by decide +kernel
theorem dX5_partOfFraction_10 : decode cX5_partOfFraction 10 = .ok (.iload_n 2, 1) := by decide +kernel
theorem dX5_partOfFraction_11 : decode cX5_partOfFraction 11 = .ok (.ifCond .ne 9, 3) := by decide +kernel
theorem dX5_partOfFraction_14 : decode cX5_partOfFraction 14 = .ok (.iload_n 0, 1) := by decide +kernel
theorem dX5_partOfFraction_15 : decode cX5_partOfFraction 15 = .ok (.iload_n 3, 1) := by decide +kernel
theorem dX5_partOfFraction_16 : decode cX5_partOfFraction 16 = .ok (.idiv, 1) := by decide +kernel
theorem dX5_partOfFraction_17 : decode cX5_partOfFraction 17 = .ok (.goto 6, 3) := by decide +kernel
theorem dX5_partOfFraction_20 : decode cX5_partOfFraction 20 = .ok (.iload_n 1, 1) := by decide +kernel
theorem dX5_partOfFraction_21 : decode cX5_partOfFraction 21 = .ok (.iload_n 3, 1) := by decide +kernel
theorem dX5_partOfFraction_22 : decode cX5_partOfFraction 22 = .ok (.idiv, 1) := by decide +kernel
theorem dX5_partOfFraction_23 : decode cX5_partOfFraction 23 = .ok (.ireturn, 1) := by decide +kernel
theorem dX5_commonDivisor_0 : decode cX5_commonDivisor 0 = .ok (.iload_n 0, 1) := by decide +kernel
theorem dX5_commonDivisor_1 : decode cX5_commonDivisor 1 = .ok (.istore_n 2, 1) := by decide +kernel
theorem dX5_commonDivisor_2 : decode cX5_commonDivisor 2 = .ok (.iload_n 1, 1) := by decide +kernel
theorem dX5_commonDivisor_3 : decode cX5_commonDivisor 3 = .ok (.istore_n 3, 1) := by decide +kernel
theorem dX5_commonDivisor_4 : decode cX5_commonDivisor 4 = .ok (.iconst 0, 1) := by decide +kernel
theorem dX5_commonDivisor_5 : decode cX5_commonDivisor 5 = .ok (.istore 4, 2) := by decide +kernel
theorem dX5_commonDivisor_7 : decode cX5_commonDivisor 7 = .ok (.iload 4, 2) := by decide +kernel
theorem dX5_commonDivisor_9 : decode cX5_commonDivisor 9 = .ok (.bipush 100, 2) := by decide +kernel
theorem dX5_commonDivisor_11 : decode cX5_commonDivisor 11 = .ok (.if_icmp .ge 23, 3) := by decide +kernel
theorem dX5_commonDivisor_14 : decode cX5_commonDivisor 14 = .ok (.iload_n 3, 1) := by decide +kernel
theorem dX5_commonDivisor_15 : decode cX5_commonDivisor 15 = .ok (.ifCond .eq 19, 3) := by decide +kernel
theorem dX5_commonDivisor_18 : decode cX5_commonDivisor 18 = .ok (.iload_n 2, 1) := by decide +kernel
theorem dX5_commonDivisor_19 : decode cX5_commonDivisor 19 = .ok (.iload_n 3, 1) := by decide +kernel
theorem dX5_commonDivisor_20 : decode cX5_commonDivisor 20 = .ok (.irem, 1) := by decide +kernel
theorem dX5_commonDivisor_21 : decode cX5_commonDivisor 21 = .ok (.istore 5, 2) := by decide +kernel
theorem dX5_commonDivisor_23 : decode cX5_commonDivisor 23 = .ok (.iload_n 3, 1) := by decide +kernel
theorem dX5_commonDivisor_24 : decode cX5_commonDivisor 24 = .ok (.istore_n 2, 1) := by decide +kernel
theorem dX5_commonDivisor_25 : decode cX5_commonDivisor 25 = .ok (.iload 5, 2) := by decide +kernel
theorem dX5_commonDivisor_27 : decode cX5_commonDivisor 27 = .ok (.istore_n 3, 1) := by decide +kernel
theorem dX5_commonDivisor_28 : decode cX5_commonDivisor 28 = .ok (.iinc 4 1, 3) := by decide +kernel
theorem dX5_commonDivisor_31 : decode cX5_commonDivisor 31 = .ok (.goto (-24), 3) := by decide +kernel
theorem dX5_commonDivisor_34 : decode cX5_commonDivisor 34 = .ok (.iload_n 2, 1) := by decide +kernel
theorem dX5_commonDivisor_35 : decode cX5_commonDivisor 35 = .ok (.ireturn, 1) := by decide +kernel
theorem dX5_power_0 : decode cX5_power 0 = .ok (.iconst 1, 1) := by decide +kernel
theorem dX5_power_1 : decode cX5_power 1 = .ok (.istore_n 2, 1) := by decide +kernel
theorem dX5_power_2 : decode cX5_power 2 = .ok (.iconst 0, 1) := by decide +kernel
theorem dX5_power_3 : decode cX5_power 3 = .ok (.istore_n 3, 1) := by decide +kernel
theorem dX5_power_4 : decode cX5_power 4 = .ok (.iload_n 3, 1) := by decide +kernel
theorem dX5_power_5 : decode cX5_power 5 = .ok (.iload_n 1, 1) := by decide +kernel
theorem dX5_power_6 : decode cX5_power 6 = .ok (.if_icmp .ge 13, 3) := by decide +kernel
theorem dX5_power_9 : decode cX5_power 9 = .ok (.iload_n 2, 1) := by decide +kernel
theorem dX5_power_10 : decode cX5_power 10 = .ok (.iload_n 0, 1) := by decide +kernel
theorem dX5_power_11 : decode cX5_power 11 = .ok (.imul, 1) := by decide +kernel
theorem dX5_power_12 : decode cX5_power 12 = .ok (.istore_n 2, 1) := by decide +kernel
theorem dX5_power_13 : decode cX5_power 13 = .ok (.iinc 3 1, 3) := by decide +kernel
theorem dX5_power_16 : decode cX5_power 16 = .ok (.goto (-12), 3) := by decide +kernel
theorem dX5_power_19 : decode cX5_power 19 = .ok (.iload_n 2, 1) := by decide +kernel
theorem dX5_power_20 : decode cX5_power 20 = .ok (.ireturn, 1) := by decide +kernel
theorem dX5_isFrom_0 : decode cX5_isFrom 0 = .ok (.iload_n 0, 1) := by decide +kernel
theorem dX5_isFrom_1 : decode cX5_isFrom 1 = .ok (.iload_n 1, 1) := by decide +kernel
theorem dX5_isFrom_2 : decode cX5_isFrom 2 = .ok (.if_icmp .lt 12, 3) := by decide +kernel
theorem dX5_isFrom_5 : decode cX5_isFrom 5 = .ok (.iload_n 0, 1) := by decide +kernel
theorem dX5_isFrom_6 : decode cX5_isFrom 6 = .ok (.iload_n 2, 1) := by decide +kernel
theorem dX5_isFrom_7 : decode cX5_isFrom 7 = .ok (.if_icmp .gt 7, 3) := by decide +kernel
theorem dX5_isFrom_10 : decode cX5_isFrom 10 = .ok (.iconst 1, 1) := by decide +kernel
theorem dX5_isFrom_11 : decode cX5_isFrom 11 = .ok (.goto 4, 3) := by decide +kernel
theorem dX5_isFrom_14 : decode cX5_isFrom 14 = .ok (.iconst 0, 1) := by decide +kernel
theorem dX5_isFrom_15 : decode cX5_isFrom 15 = .ok (.ireturn, 1) := by decide +kernel
theorem dX5_isIn_0 : decode cX5_isIn 0 = .ok (.iload_n 0, 1) := by decide +kernel
theorem dX5_isIn_1 : decode cX5_isIn 1 = .ok (.iload_n 1, 1) := by decide +kernel
theorem dX5_isIn_2 : decode cX5_isIn 2 = .ok (.ishr, 1) := by decide +kernel
theorem dX5_isIn_3 : decode cX5_isIn 3 = .ok (.iconst 1, 1) := by decide +kernel
theorem dX5_isIn_4 : decode cX5_isIn 4 = .ok (.iand, 1) := by decide +kernel
theorem dX5_isIn_5 : decode cX5_isIn 5 = .ok (.iconst 1, 1) := by decide +kernel
theorem dX5_isIn_6 : decode cX5_isIn 6 = .ok (.if_icmp .ne 7, 3) := by decide +kernel
theorem dX5_isIn_9 : decode cX5_isIn 9 = .ok (.iconst 1, 1) := by decide +kernel
theorem dX5_isIn_10 : decode cX5_isIn 10 = .ok (.goto 4, 3) := by decide +kernel
theorem dX5_isIn_13 : decode cX5_isIn 13 = .ok (.iconst 0, 1) := by decide +kernel
theorem dX5_isIn_14 : decode cX5_isIn 14 = .ok (.ireturn, 1) := by decide +kernel
theorem dX5_within_0 : decode cX5_within 0 = .ok (.sipush (-999), 3) := by decide +kernel
theorem dX5_within_3 : decode cX5_within 3 = .ok (.sipush 999, 3) := by decide +kernel
theorem dX5_within_6 : decode cX5_within 6 = .ok (.iload_n 0, 1) := by decide +kernel
theorem dX5_within_7 : decode cX5_within 7 = .ok (.invokestatic 87, 3) := by decide +kernel
theorem dX5_within_10 : decode cX5_within 10 = .ok (.invokestatic 253, 3) := by decide +kernel
theorem dX5_within_13 : decode cX5_within 13 = .ok (.ireturn, 1) := by decide +kernel
