theorem dX3_putFour_19 : decode cX3_putFour 19 = .ok (.iload_n 3, 1) := by decide +kernel
theorem dX3_putFour_20 : decode cX3_putFour 20 = .ok (.imul, 1) := by decide +kernel
theorem dX3_putFour_21 : decode cX3_putFour 21 = .ok (.isub, 1) := by decide +kernel
theorem dX3_putFour_22 : decode cX3_putFour 22 = .ok (.iushr, 1) := by decide +kernel
theorem dX3_putFour_23 : decode cX3_putFour 23 = .ok (.i2b, 1) := by decide +kernel
theorem dX3_putFour_24 : decode cX3_putFour 24 = .ok (.bastore, 1) := by decide +kernel
theorem dX3_putFour_25 : decode cX3_putFour 25 = .ok (.iinc 3 1, 3) := by decide +kernel
theorem dX3_putFour_28 : decode cX3_putFour 28 = .ok (.goto (-26), 3) := by decide +kernel
theorem dX3_putFour_31 : decode cX3_putFour 31 = .ok (.return_, 1) := by decide +kernel
set_option maxRecDepth 20000 in
theorem ggX3_isWhole_X3_four : GoodIn wsX3_isWhole wsX3_four := goodIn_r _ [5, 6, 12, 13, 14, 15, 16, 17, 18, 19, 20, 21, 22, 23, 24, 25, 26, 27, 28, 29, 30, 31, 32] (by decide +kernel) (by decide +kernel)
set_option maxRecDepth 20000 in
theorem gX3_isWhole_X3_four : GoodIn wsX3_isWhole (wsV RX3 47 RX3 yX3_four wsX3_four) := goodIn_app (goodIn_of _ (by decide +kernel)) ggX3_isWhole_X3_four
set_option maxRecDepth 20000 in
theorem ggX3_isWhole_X3_sumOf : GoodIn wsX3_isWhole wsX3_sumOf := goodIn_r _ [10, 6, 11, 12, 13, 14, 15, 16, 17, 18, 19, 20, 21, 22, 23, 24, 25, 26, 27, 28, 29, 30, 31, 32] (by decide +kernel) (by decide +kernel)
set_option maxRecDepth 20000 in
theorem gX3_isWhole_X3_sumOf : GoodIn wsX3_isWhole (wsV RX3 51 RX3 yX3_sumOf wsX3_sumOf) := goodIn_app (goodIn_of _ (by decide +kernel)) ggX3_isWhole_X3_sumOf
theorem dX3_isWhole_0 : decode cX3_isWhole 0 = .ok (.aload_n 0, 1) := by decide +kernel
theorem dX3_isWhole_1 : decode cX3_isWhole 1 = .ok (.bipush 64, 2) := by decide +kernel
theorem dX3_isWhole_3 : decode cX3_isWhole 3 = .ok (.iload_n 1, 1) := by decide +kernel
theorem dX3_isWhole_4 : decode cX3_isWhole 4 = .ok (.imul, 1) := by decide +kernel
theorem dX3_isWhole_5 : decode cX3_isWhole 5 = .ok (.bipush 60, 2) := by decide +kernel
theorem dX3_isWhole_7 : decode cX3_isWhole 7 = .ok (.iadd, 1) := by decide +kernel
theorem dX3_isWhole_8 : decode cX3_isWhole 8 = .ok (.invokevirtual 47, 3) := by decide +kernel
theorem dX3_isWhole_11 : decode cX3_isWhole 11 = .ok (.aload_n 0, 1) := by decide +kernel
theorem dX3_isWhole_12 : decode cX3_isWhole 12 = .ok (.iload_n 1, 1) := by decide +kernel
theorem dX3_isWhole_13 : decode cX3_isWhole 13 = .ok (.invokevirtual 51, 3) := by decide +kernel
theorem dX3_isWhole_16 : decode cX3_isWhole 16 = .ok (.if_icmp .ne 7, 3) := by decide +kernel
theorem dX3_isWhole_19 : decode cX3_isWhole 19 = .ok (.iconst 1, 1) := by decide +kernel
theorem dX3_isWhole_20 : decode cX3_isWhole 20 = .ok (.goto 4, 3) := by decide +kernel
theorem dX3_isWhole_23 : decode cX3_isWhole 23 = .ok (.iconst 0, 1) := by decide +kernel
theorem dX3_isWhole_24 : decode cX3_isWhole 24 = .ok (.ireturn, 1) := by decide +kernel
theorem dX3_clear_0 : decode cX3_clear 0 = .ok (.iconst 0, 1) := by decide +kernel
theorem dX3_clear_1 : decode cX3_clear 1 = .ok (.istore_n 2, 1) := by decide +kernel
theorem dX3_clear_2 : decode cX3_clear 2 = .ok (.iload_n 2, 1) := by decide +kernel
theorem dX3_clear_3 : decode cX3_clear 3 = .ok (.bipush 64, 2) := by decide +kernel
theorem dX3_clear_5 : decode cX3_clear 5 = .ok (.if_icmp .ge 21, 3) := by decide +kernel
theorem dX3_clear_8 : decode cX3_clear 8 = .ok (.aload_n 0, 1) := by decide +kernel
theorem dX3_clear_9 : decode cX3_clear 9 = .ok (.getfield 7, 3) := by decide +kernel
theorem dX3_clear_12 : decode cX3_clear 12 = .ok (.bipush 64, 2) := by decide +kernel
theorem dX3_clear_14 : decode cX3_clear 14 = .ok (.iload_n 1, 1) := by decide +kernel
theorem dX3_clear_15 : decode cX3_clear 15 = .ok (.imul, 1) := by decide +kernel
theorem dX3_clear_16 : decode cX3_clear 16 = .ok (.iload_n 2, 1) := by decide +kernel
theorem dX3_clear_17 : decode cX3_clear 17 = .ok (.iadd, 1) := by decide +kernel
theorem dX3_clear_18 : decode cX3_clear 18 = .ok (.iconst 0, 1) := by decide +kernel
theorem dX3_clear_19 : decode cX3_clear 19 = .ok (.bastore, 1) := by decide +kernel
theorem dX3_clear_20 : decode cX3_clear 20 = .ok (.iinc 2 1, 3) := by decide +kernel
theorem dX3_clear_23 : decode cX3_clear 23 = .ok (.goto (-21), 3) := by decide +kernel
theorem dX3_clear_26 : decode cX3_clear 26 = .ok (.return_, 1) := by decide +kernel
set_option maxRecDepth 20000 in
theorem ggX3_seal_X3_sumOf : GoodIn wsX3_seal wsX3_sumOf := goodIn_r _ [5, 6, 7, 12, 13, 14, 15, 16, 17, 18, 19, 20, 21, 22, 23, 24, 25, 26, 27, 28, 29, 30, 31, 32] (by decide +kernel) (by decide +kernel)
set_option maxRecDepth 20000 in
theorem gX3_seal_X3_sumOf : GoodIn wsX3_seal (wsV RX3 51 RX3 yX3_sumOf wsX3_sumOf) := goodIn_app (goodIn_of _ (by decide +kernel)) ggX3_seal_X3_sumOf
set_option maxRecDepth 20000 in
theorem ggX3_seal_X3_putFour : GoodIn wsX3_seal wsX3_putFour := goodIn_r _ [11, 6, 12, 13, 14, 15, 16, 17, 18, 19, 20, 21, 22, 23, 24, 25, 26, 27, 28, 29, 30, 31, 32] (by decide +kernel) (by decide +kernel)
set_option maxRecDepth 20000 in
theorem gX3_seal_X3_putFour : GoodIn wsX3_seal (wsV RX3 54 RX3 yX3_putFour wsX3_putFour) := goodIn_app (goodIn_of _ (by decide +kernel)) ggX3_seal_X3_putFour
theorem dX3_seal_0 : decode cX3_seal 0 = .ok (.aload_n 0, 1) := by decide +kernel
theorem dX3_seal_1 : decode cX3_seal 1 = .ok (.bipush 64, 2) := by decide +kernel
theorem dX3_seal_3 : decode cX3_seal 3 = .ok (.iload_n 1, 1) := by decide +kernel
theorem dX3_seal_4 : decode cX3_seal 4 = .ok (.imul, 1) := by decide +kernel
theorem dX3_seal_5 : decode cX3_seal 5 = .ok (.bipush 60, 2) := by decide +kernel
theorem dX3_seal_7 : decode cX3_seal 7 = .ok (.iadd, 1) := by decide +kernel
theorem dX3_seal_8 : decode cX3_seal 8 = .ok (.aload_n 0, 1) := by decide +kernel
theorem dX3_seal_9 : decode cX3_seal 9 = .ok (.iload_n 1, 1) := by decide +kernel
theorem dX3_seal_10 : decode cX3_seal 10 = .ok (.invokevirtual 51, 3) := by decide +kernel
theorem dX3_seal_13 : decode cX3_seal 13 = .ok (.invokevirtual 54, 3) := by decide +kernel
theorem dX3_seal_16 : decode cX3_seal 16 = .ok (.return_, 1) := by decide +kernel
theorem dX3_add_0 : decode cX3_add 0 = .ok (.aload_n 0, 1) := by decide +kernel
theorem dX3_add_1 : decode cX3_add 1 = .ok (.iconst 0, 1) := by decide +kernel
theorem dX3_add_2 : decode cX3_add 2 = .ok (.putfield 43, 3) := by decide +kernel
theorem dX3_add_5 : decode cX3_add 5 = .ok (.aload_n 0, 1) := by decide +kernel
theorem dX3_add_6 : decode cX3_add 6 = .ok (.getfield 58, 3) := by decide +kernel
theorem dX3_add_9 : decode cX3_add 9 = .ok (.bipush 40, 2) := by decide +kernel
theorem dX3_add_11 : decode cX3_add 11 = .ok (.if_icmp .ne 4, 3) := by decide +kernel
theorem dX3_add_14 : decode cX3_add 14 = .ok (.return_, 1) := by decide +kernel
theorem dX3_add_15 : decode cX3_add 15 = .ok (.aload_n 0, 1) := by decide +kernel
theorem dX3_add_16 : decode cX3_add 16 = .ok (.getfield 22, 3) := by decide +kernel
theorem dX3_add_19 : decode cX3_add 19 = .ok (.aload_n 0, 1) := by decide +kernel
theorem dX3_add_20 : decode cX3_add 20 = .ok (.getfield 58, 3) := by decide +kernel
theorem dX3_add_23 : decode cX3_add 23 = .ok (.iload_n 1, 1) := by decide +kernel
theorem dX3_add_24 : decode cX3_add 24 = .ok (.i2b, 1) := by decide +kernel
theorem dX3_add_25 : decode cX3_add 25 = .ok (.bastore, 1) := by decide +kernel
theorem dX3_add_26 : decode cX3_add 26 = .ok (.aload_n 0, 1) := by decide +kernel
theorem dX3_add_27 : decode cX3_add 27 = .ok (.dup, 1) := by decide +kernel
theorem dX3_add_28 : decode cX3_add 28 = .ok (.getfield 58, 3) := by decide +kernel
theorem dX3_add_31 : decode cX3_add 31 = .ok (.iconst 1, 1) := by decide +kernel
theorem dX3_add_32 : decode cX3_add 32 = .ok (.iadd, 1) := by decide +kernel
theorem dX3_add_33 : decode cX3_add 33 = .ok (.putfield 58, 3) := by decide +kernel
theorem dX3_add_36 : decode cX3_add 36 = .ok (.return_, 1) := by decide +kernel
theorem dX3_wants_0 : decode cX3_wants 0 = .ok (.iconst 0, 1) := by decide +kernel
theorem dX3_wants_1 : decode cX3_wants 1 = .ok (.istore_n 2, 1) := by decide +kernel
theorem dX3_wants_2 : decode cX3_wants 2 = .ok (.iconst 0, 1) := by decide +kernel
theorem dX3_wants_3 : decode cX3_wants 3 = .ok (.istore_n 3, 1) := by decide +kernel
theorem dX3_wants_4 : decode cX3_wants 4 = .ok (.aload_n 0, 1) := by decide +kernel
theorem dX3_wants_5 : decode cX3_wants 5 = .ok (.getfield 61, 3) := by decide +kernel
theorem dX3_wants_8 : decode cX3_wants 8 = .ok (.istore 4, 2) := by decide +kernel
theorem dX3_wants_10 : decode cX3_wants 10 = .ok (.iload 4, 2) := by decide +kernel
theorem dX3_wants_12 : decode cX3_wants 12 = .ok (.aload_n 0, 1) := by decide +kernel
theorem dX3_wants_13 : decode cX3_wants 13 = .ok (.getfield 64, 3) := by decide +kernel
theorem dX3_wants_16 : decode cX3_wants 16 = .ok (.if_icmp .gt 63, 3) := by decide +kernel
theorem dX3_wants_19 : decode cX3_wants 19 = .ok (.iconst 2, 1) := by decide +kernel
theorem dX3_wants_20 : decode cX3_wants 20 = .ok (.iload 4, 2) := by decide +kernel
theorem dX3_wants_22 : decode cX3_wants 22 = .ok (.aload_n 0, 1) := by decide +kernel
theorem dX3_wants_23 : decode cX3_wants 23 = .ok (.getfield 64, 3) := by decide +kernel
theorem dX3_wants_26 : decode cX3_wants 26 = .ok (.if_icmp .ne 7, 3) := by decide +kernel
theorem dX3_wants_29 : decode cX3_wants 29 = .ok (.iload_n 1, 1) := by decide +kernel
theorem dX3_wants_30 : decode cX3_wants 30 = .ok (.goto 10, 3) := by decide +kernel
theorem dX3_wants_33 : decode cX3_wants 33 = .ok (.aload_n 0, 1) := by decide +kernel
theorem dX3_wants_34 : decode cX3_wants 34 = .ok (.getfield 29, 3) := by decide +kernel
theorem dX3_wants_37 : decode cX3_wants 37 = .ok (.iload 4, 2) := by decide +kernel
theorem dX3_wants_39 : decode cX3_wants 39 = .ok (.iaload, 1) := by decide +kernel
theorem dX3_wants_40 : decode cX3_wants 40 = .ok (.iadd, 1) := by decide +kernel
theorem dX3_wants_41 : decode cX3_wants 41 = .ok (.istore 5, 2) := by decide +kernel
theorem dX3_wants_43 : decode cX3_wants 43 = .ok (.iload_n 2, 1) := by decide +kernel
theorem dX3_wants_44 : decode cX3_wants 44 = .ok (.iload 5, 2) := by decide +kernel
theorem dX3_wants_46 : decode cX3_wants 46 = .ok (.iload_n 3, 1) := by decide +kernel
theorem dX3_wants_47 : decode cX3_wants 47 = .ok (.if_icmp .le 7, 3) := by decide +kernel
theorem dX3_wants_50 : decode cX3_wants 50 = .ok (.iconst 1, 1) := by decide +kernel
theorem dX3_wants_51 : decode cX3_wants 51 = .ok (.goto 4, 3) := by decide +kernel
theorem dX3_wants_54 : decode cX3_wants 54 = .ok (.iconst 0, 1) := by decide +kernel
theorem dX3_wants_55 : decode cX3_wants 55 = .ok (.iadd, 1) := by decide +kernel
theorem dX3_wants_56 : decode cX3_wants 56 = .ok (.istore_n 2, 1) := by decide +kernel
theorem dX3_wants_57 : decode cX3_wants 57 = .ok (.iload 5, 2) := by decide +kernel
theorem dX3_wants_59 : decode cX3_wants 59 = .ok (.iload_n 3, 1) := by decide +kernel
theorem dX3_wants_60 : decode cX3_wants 60 = .ok (.if_icmp .le 8, 3) := by decide +kernel
theorem dX3_wants_63 : decode cX3_wants 63 = .ok (.bipush 55, 2) := by decide +kernel
theorem dX3_wants_65 : decode cX3_wants 65 = .ok (.goto 4, 3) := by decide +kernel
theorem dX3_wants_68 : decode cX3_wants 68 = .ok (.iload_n 3, 1) := by decide +kernel
theorem dX3_wants_69 : decode cX3_wants 69 = .ok (.iload 5, 2) := by decide +kernel
theorem dX3_wants_71 : decode cX3_wants 71 = .ok (.isub, 1) := by decide +kernel
theorem dX3_wants_72 : decode cX3_wants 72 = .ok (.istore_n 3, 1) := by decide +kernel
theorem dX3_wants_73 : decode cX3_wants 73 = .ok (.iinc 4 1, 3) := by decide +kernel
theorem dX3_wants_76 : decode cX3_wants 76 = .ok (.goto (-66), 3) := by decide +kernel
theorem dX3_wants_79 : decode cX3_wants 79 = .ok (.iload_n 2, 1) := by decide +kernel
theorem dX3_wants_80 : decode cX3_wants 80 = .ok (.ireturn, 1) := by decide +kernel
set_option maxRecDepth 20000 in
theorem ggX3_end_X3_in : GoodIn wsX3_end wsX3_in := goodIn_r _ [15] (by decide +kernel) (by decide +kernel)
set_option maxRecDepth 20000 in
theorem gX3_end_X3_in : GoodIn wsX3_end (va_wsS RX3 71 yX3_in wsX3_in) := goodIn_app (goodIn_of _ (by decide +kernel)) ggX3_end_X3_in
set_option maxRecDepth 20000 in
theorem ggX3_end_X3_wants : GoodIn wsX3_end wsX3_wants := goodIn_r _ [19, 20, 3, 8, 21, 22, 23, 24, 25, 26, 27, 28, 29, 30, 31, 32, 33, 34, 35, 36, 37, 38, 39, 40, 41] (by decide +kernel) (by decide +kernel)
set_option maxRecDepth 20000 in
theorem gX3_end_X3_wants : GoodIn wsX3_end (wsV RX3 75 RX3 yX3_wants wsX3_wants) := goodIn_app (goodIn_of _ (by decide +kernel)) ggX3_end_X3_wants
theorem dX3_end_0 : decode cX3_end 0 = .ok (.aload_n 0, 1) := by decide +kernel
theorem dX3_end_1 : decode cX3_end 1 = .ok (.iconst 0, 1) := by decide +kernel
theorem dX3_end_2 : decode cX3_end 2 = .ok (.putfield 43, 3) := by decide +kernel
theorem dX3_end_5 : decode cX3_end 5 = .ok (.aload_n 0, 1) := by decide +kernel
theorem dX3_end_6 : decode cX3_end 6 = .ok (.getfield 67, 3) := by decide +kernel
theorem dX3_end_9 : decode cX3_end 9 = .ok (.ifCond .eq 6, 3) := by decide +kernel
theorem dX3_end_12 : decode cX3_end 12 = .ok (.bipush (-3), 2) := by decide +kernel
theorem dX3_end_14 : decode cX3_end 14 = .ok (.ireturn, 1) := by decide +kernel
theorem dX3_end_15 : decode cX3_end 15 = .ok (.iload_n 1, 1) := by decide +kernel
theorem dX3_end_16 : decode cX3_end 16 = .ok (.iconst 0, 1) := by decide +kernel
theorem dX3_end_17 : decode cX3_end 17 = .ok (.iconst 3, 1) := by decide +kernel
theorem dX3_end_18 : decode cX3_end 18 = .ok (.invokestatic 71, 3) := by decide +kernel
theorem dX3_end_21 : decode cX3_end 21 = .ok (.ifCond .ne 6, 3) := by decide +kernel
theorem dX3_end_24 : decode cX3_end 24 = .ok (.bipush (-2), 2) := by decide +kernel
theorem dX3_end_26 : decode cX3_end 26 = .ok (.ireturn, 1) := by decide +kernel
theorem dX3_end_27 : decode cX3_end 27 = .ok (.aload_n 0, 1) := by decide +kernel
theorem dX3_end_28 : decode cX3_end 28 = .ok (.getfield 64, 3) := by decide +kernel
theorem dX3_end_31 : decode cX3_end 31 = .ok (.sipush 300, 3) := by decide +kernel
theorem dX3_end_34 : decode cX3_end 34 = .ok (.if_icmp .ge 25, 3) := by decide +kernel
theorem dX3_end_37 : decode cX3_end 37 = .ok (.aload_n 0, 1) := by decide +kernel
theorem dX3_end_38 : decode cX3_end 38 = .ok (.aload_n 0, 1) := by decide +kernel
theorem dX3_end_39 : decode cX3_end 39 = .ok (.getfield 58, 3) := by decide +kernel
theorem dX3_end_42 : decode cX3_end 42 = .ok (.invokevirtual 75, 3) := by decide +kernel
theorem dX3_end_45 : decode cX3_end 45 = .ok (.aload_n 0, 1) := by decide +kernel
theorem dX3_end_46 : decode cX3_end 46 = .ok (.getfield 39, 3) := by decide +kernel
theorem dX3_end_49 : decode cX3_end 49 = .ok (.iconst 2, 1) := by decide +kernel
theorem dX3_end_50 : decode cX3_end 50 = .ok (.isub, 1) := by decide +kernel
theorem dX3_end_51 : decode cX3_end 51 = .ok (.aload_n 0, 1) := by decide +kernel
theorem dX3_end_52 : decode cX3_end 52 = .ok (.getfield 78, 3) := by decide +kernel
theorem dX3_end_55 : decode cX3_end 55 = .ok (.isub, 1) := by decide +kernel
theorem dX3_end_56 : decode cX3_end 56 = .ok (.if_icmp .le 6, 3) := by decide +kernel
theorem dX3_end_59 : decode cX3_end 59 = .ok (.bipush (-4), 2) := by decide +kernel
theorem dX3_end_61 : decode cX3_end 61 = .ok (.ireturn, 1) := by decide +kernel
theorem dX3_end_62 : decode cX3_end 62 = .ok (.aload_n 0, 1) := by decide +kernel
theorem dX3_end_63 : decode cX3_end 63 = .ok (.getfield 25, 3) := by decide +kernel
theorem dX3_end_66 : decode cX3_end 66 = .ok (.aload_n 0, 1) := by decide +kernel
theorem dX3_end_67 : decode cX3_end 67 = .ok (.getfield 64, 3) := by decide +kernel
theorem dX3_end_70 : decode cX3_end 70 = .ok (.iload_n 1, 1) := by decide +kernel
theorem dX3_end_71 : decode cX3_end 71 = .ok (.iastore, 1) := by decide +kernel
theorem dX3_end_72 : decode cX3_end 72 = .ok (.aload_n 0, 1) := by decide +kernel
theorem dX3_end_73 : decode cX3_end 73 = .ok (.getfield 29, 3) := by decide +kernel
theorem dX3_end_76 : decode cX3_end 76 = .ok (.aload_n 0, 1) := by decide +kernel
theorem dX3_end_77 : decode cX3_end 77 = .ok (.getfield 64, 3) := by decide +kernel
theorem dX3_end_80 : decode cX3_end 80 = .ok (.aload_n 0, 1) := by decide +kernel
theorem dX3_end_81 : decode cX3_end 81 = .ok (.getfield 58, 3) := by decide +kernel
theorem dX3_end_84 : decode cX3_end 84 = .ok (.iastore, 1) := by decide +kernel
theorem dX3_end_85 : decode cX3_end 85 = .ok (.aload_n 0, 1) := by decide +kernel
theorem dX3_end_86 : decode cX3_end 86 = .ok (.getfield 32, 3) := by decide +kernel
theorem dX3_end_89 : decode cX3_end 89 = .ok (.aload_n 0, 1) := by decide +kernel
theorem dX3_end_90 : decode cX3_end 90 = .ok (.getfield 64, 3) := by decide +kernel
theorem dX3_end_93 : decode cX3_end 93 = .ok (.iconst (-1), 1) := by decide +kernel
theorem dX3_end_94 : decode cX3_end 94 = .ok (.iastore, 1) := by decide +kernel
theorem dX3_end_95 : decode cX3_end 95 = .ok (.iconst 0, 1) := by decide +kernel
theorem dX3_end_96 : decode cX3_end 96 = .ok (.istore_n 2, 1) := by decide +kernel
theorem dX3_end_97 : decode cX3_end 97 = .ok (.iload_n 2, 1) := by decide +kernel
theorem dX3_end_98 : decode cX3_end 98 = .ok (.aload_n 0, 1) := by decide +kernel
theorem dX3_end_99 : decode cX3_end 99 = .ok (.getfield 58, 3) := by decide +kernel
theorem dX3_end_102 : decode cX3_end 102 = .ok (.if_icmp .ge 29, 3) := by decide +kernel
theorem dX3_end_105 : decode cX3_end 105 = .ok (.aload_n 0, 1) := by decide +kernel
theorem dX3_end_106 : decode cX3_end 106 = .ok (.getfield 36, 3) := by decide +kernel
theorem dX3_end_109 : decode cX3_end 109 = .ok (.bipush 40, 2) := by decide +kernel
theorem dX3_end_111 : decode cX3_end 111 = .ok (.aload_n 0, 1) := by decide +kernel
theorem dX3_end_112 : decode cX3_end 112 = .ok (.getfield 64, 3) := by decide +kernel
theorem dX3_end_115 : decode cX3_end 115 = .ok (.imul, 1) := by decide +kernel
theorem dX3_end_116 : decode cX3_end 116 = .ok (.iload_n 2, 1) := by decide +kernel
theorem dX3_end_117 : decode cX3_end 117 = .ok (.iadd, 1) := by decide +kernel
theorem dX3_end_118 : decode cX3_end 118 = .ok (.aload_n 0, 1) := by decide +kernel
theorem dX3_end_119 : decode cX3_end 119 = .ok (.getfield 22, 3) := by decide +kernel
theorem dX3_end_122 : decode cX3_end 122 = .ok (.iload_n 2, 1) := by decide +kernel
theorem dX3_end_123 : decode cX3_end 123 = .ok (.baload, 1) := by decide +kernel
theorem dX3_end_124 : decode cX3_end 124 = .ok (.bastore, 1) := by decide +kernel
theorem dX3_end_125 : decode cX3_end 125 = .ok (.iinc 2 1, 3) := by decide +kernel
theorem dX3_end_128 : decode cX3_end 128 = .ok (.goto (-31), 3) := by decide +kernel
theorem dX3_end_131 : decode cX3_end 131 = .ok (.aload_n 0, 1) := by decide +kernel
theorem dX3_end_132 : decode cX3_end 132 = .ok (.iconst 0, 1) := by decide +kernel
theorem dX3_end_133 : decode cX3_end 133 = .ok (.putfield 58, 3) := by decide +kernel
theorem dX3_end_136 : decode cX3_end 136 = .ok (.aload_n 0, 1) := by decide +kernel
theorem dX3_end_137 : decode cX3_end 137 = .ok (.dup, 1) := by decide +kernel
theorem dX3_end_138 : decode cX3_end 138 = .ok (.getfield 64, 3) := by decide +kernel
theorem dX3_end_141 : decode cX3_end 141 = .ok (.iconst 1, 1) := by decide +kernel
theorem dX3_end_142 : decode cX3_end 142 = .ok (.iadd, 1) := by decide +kernel
theorem dX3_end_143 : decode cX3_end 143 = .ok (.putfield 64, 3) := by decide +kernel
theorem dX3_end_146 : decode cX3_end 146 = .ok (.aload_n 0, 1) := by decide +kernel
theorem dX3_end_147 : decode cX3_end 147 = .ok (.getfield 64, 3) := by decide +kernel
theorem dX3_end_150 : decode cX3_end 150 = .ok (.iconst 1, 1) := by decide +kernel
theorem dX3_end_151 : decode cX3_end 151 = .ok (.isub, 1) := by decide +kernel
theorem dX3_end_152 : decode cX3_end 152 = .ok (.ireturn, 1) := by decide +kernel
set_option maxRecDepth 20000 in
theorem ggX3_lay_X3_clear : GoodIn wsX3_lay wsX3_clear := goodIn_r _ [12, 4, 26, 27, 28, 29, 30, 31, 32, 33, 34, 35, 36, 37, 38, 39, 40, 41, 42, 43, 44, 45, 46] (by decide +kernel) (by decide +kernel)
set_option maxRecDepth 20000 in
theorem gX3_lay_X3_clear : GoodIn wsX3_lay (wsV RX3 81 RX3 yX3_clear wsX3_clear) := goodIn_app (goodIn_of _ (by decide +kernel)) ggX3_lay_X3_clear
set_option maxRecDepth 20000 in
theorem ggX3_lay_X3_putFour : GoodIn wsX3_lay wsX3_putFour := goodIn_r _ [16, 4, 26, 27, 28, 29, 30, 31, 32, 33, 34, 35, 36, 37, 38, 39, 40, 41, 42, 43, 44, 45, 46] (by decide +kernel) (by decide +kernel)
set_option maxRecDepth 20000 in
theorem gX3_lay_X3_putFour : GoodIn wsX3_lay (wsV RX3 54 RX3 yX3_putFour wsX3_putFour) := goodIn_app (goodIn_of _ (by decide +kernel)) ggX3_lay_X3_putFour
set_option maxRecDepth 20000 in
theorem ggX3_lay_X3_seal : GoodIn wsX3_lay wsX3_seal := goodIn_r _ [20, 21, 22, 23, 11, 24, 4, 25, 13, 14, 15, 16, 26, 27, 28, 29, 30, 31, 32, 33, 34, 35, 36, 37, 38, 39, 40, 41, 42, 43, 44, 45, 46] (by decide +kernel) (by decide +kernel)
set_option maxRecDepth 20000 in
theorem gX3_lay_X3_seal : GoodIn wsX3_lay (wsV RX3 88 RX3 yX3_seal wsX3_seal) := goodIn_app (goodIn_of _ (by decide +kernel)) ggX3_lay_X3_seal
theorem dX3_lay_0 : decode cX3_lay 0 = .ok (.aload_n 0, 1) := by decide +kernel
theorem dX3_lay_1 : decode cX3_lay 1 = .ok (.iload_n 1, 1) := by decide +kernel
theorem dX3_lay_2 : decode cX3_lay 2 = .ok (.invokevirtual 81, 3) := by decide +kernel
theorem dX3_lay_5 : decode cX3_lay 5 = .ok (.aload_n 0, 1) := by decide +kernel
theorem dX3_lay_6 : decode cX3_lay 6 = .ok (.bipush 64, 2) := by decide +kernel
theorem dX3_lay_8 : decode cX3_lay 8 = .ok (.iload_n 1, 1) := by decide +kernel
theorem dX3_lay_9 : decode cX3_lay 9 = .ok (.imul, 1) := by decide +kernel
theorem dX3_lay_10 : decode cX3_lay 10 = .ok (.aload_n 0, 1) := by decide +kernel
theorem dX3_lay_11 : decode cX3_lay 11 = .ok (.getfield 85, 3) := by decide +kernel
theorem dX3_lay_14 : decode cX3_lay 14 = .ok (.invokevirtual 54, 3) := by decide +kernel
theorem dX3_lay_17 : decode cX3_lay 17 = .ok (.iconst 0, 1) := by decide +kernel
theorem dX3_lay_18 : decode cX3_lay 18 = .ok (.istore_n 3, 1) := by decide +kernel
theorem dX3_lay_19 : decode cX3_lay 19 = .ok (.iload_n 2, 1) := by decide +kernel
theorem dX3_lay_20 : decode cX3_lay 20 = .ok (.istore 4, 2) := by decide +kernel
theorem dX3_lay_22 : decode cX3_lay 22 = .ok (.iload 4, 2) := by decide +kernel
theorem dX3_lay_24 : decode cX3_lay 24 = .ok (.aload_n 0, 1) := by decide +kernel
theorem dX3_lay_25 : decode cX3_lay 25 = .ok (.getfield 64, 3) := by decide +kernel
theorem dX3_lay_28 : decode cX3_lay 28 = .ok (.if_icmp .ge 133, 3) := by decide +kernel
theorem dX3_lay_31 : decode cX3_lay 31 = .ok (.iload_n 3, 1) := by decide +kernel
theorem dX3_lay_32 : decode cX3_lay 32 = .ok (.iconst 2, 1) := by decide +kernel
theorem dX3_lay_33 : decode cX3_lay 33 = .ok (.iadd, 1) := by decide +kernel
theorem dX3_lay_34 : decode cX3_lay 34 = .ok (.aload_n 0, 1) := by decide +kernel
theorem dX3_lay_35 : decode cX3_lay 35 = .ok (.getfield 29, 3) := by decide +kernel
theorem dX3_lay_38 : decode cX3_lay 38 = .ok (.iload 4, 2) := by decide +kernel
theorem dX3_lay_40 : decode cX3_lay 40 = .ok (.iaload, 1) := by decide +kernel
theorem dX3_lay_41 : decode cX3_lay 41 = .ok (.iadd, 1) := by decide +kernel
theorem dX3_lay_42 : decode cX3_lay 42 = .ok (.bipush 55, 2) := by decide +kernel
theorem dX3_lay_44 : decode cX3_lay 44 = .ok (.if_icmp .gt 117, 3) := by decide +kernel
theorem dX3_lay_47 : decode cX3_lay 47 = .ok (.bipush 64, 2) := by decide +kernel
theorem dX3_lay_49 : decode cX3_lay 49 = .ok (.iload_n 1, 1) := by decide +kernel
theorem dX3_lay_50 : decode cX3_lay 50 = .ok (.imul, 1) := by decide +kernel
theorem dX3_lay_51 : decode cX3_lay 51 = .ok (.iconst 5, 1) := by decide +kernel
theorem dX3_lay_52 : decode cX3_lay 52 = .ok (.iadd, 1) := by decide +kernel
theorem dX3_lay_53 : decode cX3_lay 53 = .ok (.iload_n 3, 1) := by decide +kernel
theorem dX3_lay_54 : decode cX3_lay 54 = .ok (.iadd, 1) := by decide +kernel
theorem dX3_lay_55 : decode cX3_lay 55 = .ok (.istore 5, 2) := by decide +kernel
theorem dX3_lay_57 : decode cX3_lay 57 = .ok (.aload_n 0, 1) := by decide +kernel
theorem dX3_lay_58 : decode cX3_lay 58 = .ok (.getfield 7, 3) := by decide +kernel
theorem dX3_lay_61 : decode cX3_lay 61 = .ok (.iload 5, 2) := by decide +kernel
theorem dX3_lay_63 : decode cX3_lay 63 = .ok (.aload_n 0, 1) := by decide +kernel
theorem dX3_lay_64 : decode cX3_lay 64 = .ok (.getfield 25, 3) := by decide +kernel
theorem dX3_lay_67 : decode cX3_lay 67 = .ok (.iload 4, 2) := by decide +kernel
theorem dX3_lay_69 : decode cX3_lay 69 = .ok (.iaload, 1) := by decide +kernel
theorem dX3_lay_70 : decode cX3_lay 70 = .ok (.i2b, 1) := by decide +kernel
theorem dX3_lay_71 : decode cX3_lay 71 = .ok (.bastore, 1) := by decide +kernel
theorem dX3_lay_72 : decode cX3_lay 72 = .ok (.aload_n 0, 1) := by decide +kernel
theorem dX3_lay_73 : decode cX3_lay 73 = .ok (.getfield 7, 3) := by decide +kernel
theorem dX3_lay_76 : decode cX3_lay 76 = .ok (.iload 5, 2) := by decide +kernel
theorem dX3_lay_78 : decode cX3_lay 78 = .ok (.iconst 1, 1) := by decide +kernel
theorem dX3_lay_79 : decode cX3_lay 79 = .ok (.iadd, 1) := by decide +kernel
theorem dX3_lay_80 : decode cX3_lay 80 = .ok (.aload_n 0, 1) := by decide +kernel
theorem dX3_lay_81 : decode cX3_lay 81 = .ok (.getfield 29, 3) := by decide +kernel
theorem dX3_lay_84 : decode cX3_lay 84 = .ok (.iload 4, 2) := by decide +kernel
theorem dX3_lay_86 : decode cX3_lay 86 = .ok (.iaload, 1) := by decide +kernel
theorem dX3_lay_87 : decode cX3_lay 87 = .ok (.i2b, 1) := by decide +kernel
theorem dX3_lay_88 : decode cX3_lay 88 = .ok (.bastore, 1) := by decide +kernel
theorem dX3_lay_89 : decode cX3_lay 89 = .ok (.iconst 0, 1) := by decide +kernel
theorem dX3_lay_90 : decode cX3_lay 90 = .ok (.istore 6, 2) := by decide +kernel
theorem dX3_lay_92 : decode cX3_lay 92 = .ok (.iload 6, 2) := by decide +kernel
theorem dX3_lay_94 : decode cX3_lay 94 = .ok (.aload_n 0, 1) := by decide +kernel
theorem dX3_lay_95 : decode cX3_lay 95 = .ok (.getfield 29, 3) := by decide +kernel
theorem dX3_lay_98 : decode cX3_lay 98 = .ok (.iload 4, 2) := by decide +kernel
theorem dX3_lay_100 : decode cX3_lay 100 = .ok (.iaload, 1) := by decide +kernel
theorem dX3_lay_101 : decode cX3_lay 101 = .ok (.if_icmp .ge 34, 3) := by decide +kernel
theorem dX3_lay_104 : decode cX3_lay 104 = .ok (.aload_n 0, 1) := by decide +kernel
theorem dX3_lay_105 : decode cX3_lay 105 = .ok (.getfield 7, 3) := by decide +kernel
theorem dX3_lay_108 : decode cX3_lay 108 = .ok (.iload 5, 2) := by decide +kernel
theorem dX3_lay_110 : decode cX3_lay 110 = .ok (.iconst 2, 1) := by decide +kernel
theorem dX3_lay_111 : decode cX3_lay 111 = .ok (.iadd, 1) := by decide +kernel
theorem dX3_lay_112 : decode cX3_lay 112 = .ok (.iload 6, 2) := by decide +kernel
theorem dX3_lay_114 : decode cX3_lay 114 = .ok (.iadd, 1) := by decide +kernel
theorem dX3_lay_115 : decode cX3_lay 115 = .ok (.aload_n 0, 1) := by decide +kernel
theorem dX3_lay_116 : decode cX3_lay 116 = .ok (.getfield 36, 3) := by decide +kernel
theorem dX3_lay_119 : decode cX3_lay 119 = .ok (.bipush 40, 2) := by decide +kernel
theorem dX3_lay_121 : decode cX3_lay 121 = .ok (.iload 4, 2) := by decide +kernel
theorem dX3_lay_123 : decode cX3_lay 123 = .ok (.imul, 1) := by decide +kernel
theorem dX3_lay_124 : decode cX3_lay 124 = .ok (.iload 6, 2) := by decide +kernel
theorem dX3_lay_126 : decode cX3_lay 126 = .ok (.iadd, 1) := by decide +kernel
theorem dX3_lay_127 : decode cX3_lay 127 = .ok (.baload, 1) := by decide +kernel
theorem dX3_lay_128 : decode cX3_lay 128 = .ok (.bastore, 1) := by decide +kernel
theorem dX3_lay_129 : decode cX3_lay 129 = .ok (.iinc 6 1, 3) := by decide +kernel
theorem dX3_lay_132 : decode cX3_lay 132 = .ok (.goto (-40), 3) := by decide +kernel
theorem dX3_lay_135 : decode cX3_lay 135 = .ok (.aload_n 0, 1) := by decide +kernel
theorem dX3_lay_136 : decode cX3_lay 136 = .ok (.getfield 32, 3) := by decide +kernel
theorem dX3_lay_139 : decode cX3_lay 139 = .ok (.iload 4, 2) := by decide +kernel
theorem dX3_lay_141 : decode cX3_lay 141 = .ok (.iload_n 1, 1) := by decide +kernel
theorem dX3_lay_142 : decode cX3_lay 142 = .ok (.iastore, 1) := by decide +kernel
theorem dX3_lay_143 : decode cX3_lay 143 = .ok (.iload_n 3, 1) := by decide +kernel
theorem dX3_lay_144 : decode cX3_lay 144 = .ok (.iconst 2, 1) := by decide +kernel
theorem dX3_lay_145 : decode cX3_lay 145 = .ok (.aload_n 0, 1) := by decide +kernel
theorem dX3_lay_146 : decode cX3_lay 146 = .ok (.getfield 29, 3) := by decide +kernel
theorem dX3_lay_149 : decode cX3_lay 149 = .ok (.iload 4, 2) := by decide +kernel
theorem dX3_lay_151 : decode cX3_lay 151 = .ok (.iaload, 1) := by decide +kernel
theorem dX3_lay_152 : decode cX3_lay 152 = .ok (.iadd, 1) := by decide +kernel
theorem dX3_lay_153 : decode cX3_lay 153 = .ok (.iadd, 1) := by decide +kernel
theorem dX3_lay_154 : decode cX3_lay 154 = .ok (.istore_n 3, 1) := by decide +kernel
theorem dX3_lay_155 : decode cX3_lay 155 = .ok (.iinc 4 1, 3) := by decide +kernel
theorem dX3_lay_158 : decode cX3_lay 158 = .ok (.goto (-136), 3) := by decide +kernel
theorem dX3_lay_161 : decode cX3_lay 161 = .ok (.aload_n 0, 1) := by decide +kernel
theorem dX3_lay_162 : decode cX3_lay 162 = .ok (.getfield 7, 3) := by decide +kernel
theorem dX3_lay_165 : decode cX3_lay 165 = .ok (.bipush 64, 2) := by decide +kernel
theorem dX3_lay_167 : decode cX3_lay 167 = .ok (.iload_n 1, 1) := by decide +kernel
theorem dX3_lay_168 : decode cX3_lay 168 = .ok (.imul, 1) := by decide +kernel
theorem dX3_lay_169 : decode cX3_lay 169 = .ok (.iconst 4, 1) := by decide +kernel
theorem dX3_lay_170 : decode cX3_lay 170 = .ok (.iadd, 1) := by decide +kernel
theorem dX3_lay_171 : decode cX3_lay 171 = .ok (.iload_n 3, 1) := by decide +kernel
theorem dX3_lay_172 : decode cX3_lay 172 = .ok (.i2b, 1) := by decide +kernel
theorem dX3_lay_173 : decode cX3_lay 173 = .ok (.bastore, 1) := by decide +kernel
theorem dX3_lay_174 : decode cX3_lay 174 = .ok (.aload_n 0, 1) := by decide +kernel
theorem dX3_lay_175 : decode cX3_lay 175 = .ok (.iload_n 1, 1) := by decide +kernel
theorem dX3_lay_176 : decode cX3_lay 176 = .ok (.invokevirtual 88, 3) := by decide +kernel
theorem dX3_lay_179 : decode cX3_lay 179 = .ok (.iload 4, 2) := by decide +kernel
theorem dX3_lay_181 : decode cX3_lay 181 = .ok (.ireturn, 1) := by decide +kernel
set_option maxRecDepth 20000 in
theorem ggX3_sync_X3_lay : GoodIn wsX3_sync wsX3_lay := goodIn_r _ [17, 6, 10, 18, 5, 19, 20, 21, 22, 23, 24, 16, 25, 26, 27, 28, 29, 30, 31, 32, 33, 34, 35, 36, 37, 38, 39, 40, 41, 42, 43, 44, 45, 46, 47, 48, 49, 50, 51, 52, 53, 54, 55, 56, 57, 58, 59] (by decide +kernel) (by decide +kernel)
set_option maxRecDepth 20000 in
theorem gX3_sync_X3_lay : GoodIn wsX3_sync (wsV RX3 94 RX3 yX3_lay wsX3_lay) := goodIn_app (goodIn_of _ (by decide +kernel)) ggX3_sync_X3_lay
set_option maxRecDepth 20000 in
theorem ggX3_sync_X3_clear : GoodIn wsX3_sync wsX3_clear := goodIn_r _ [25, 5, 39, 40, 41, 42, 43, 44, 45, 46, 47, 48, 49, 50, 51, 52, 53, 54, 55, 56, 57, 58, 59] (by decide +kernel) (by decide +kernel)
set_option maxRecDepth 20000 in
theorem gX3_sync_X3_clear : GoodIn wsX3_sync (wsV RX3 81 RX3 yX3_clear wsX3_clear) := goodIn_app (goodIn_of _ (by decide +kernel)) ggX3_sync_X3_clear
set_option maxRecDepth 20000 in
theorem ggX3_sync_X3_putFour : GoodIn wsX3_sync wsX3_putFour := goodIn_r _ [29, 5, 39, 40, 41, 42, 43, 44, 45, 46, 47, 48, 49, 50, 51, 52, 53, 54, 55, 56, 57, 58, 59] (by decide +kernel) (by decide +kernel)
set_option maxRecDepth 20000 in
theorem gX3_sync_X3_putFour : GoodIn wsX3_sync (wsV RX3 54 RX3 yX3_putFour wsX3_putFour) := goodIn_app (goodIn_of _ (by decide +kernel)) ggX3_sync_X3_putFour
set_option maxRecDepth 20000 in
theorem ggX3_sync_X3_seal : GoodIn wsX3_sync wsX3_seal := goodIn_r _ [33, 34, 35, 36, 16, 37, 5, 38, 26, 27, 28, 29, 39, 40, 41, 42, 43, 44, 45, 46, 47, 48, 49, 50, 51, 52, 53, 54, 55, 56, 57, 58, 59] (by decide +kernel) (by decide +kernel)
set_option maxRecDepth 20000 in
theorem gX3_sync_X3_seal : GoodIn wsX3_sync (wsV RX3 88 RX3 yX3_seal wsX3_seal) := goodIn_app (goodIn_of _ (by decide +kernel)) ggX3_sync_X3_seal
theorem dX3_sync_0 : decode cX3_sync 0 = .ok (.aload_n 0, 1) := by decide +kernel
theorem dX3_sync_1 : decode cX3_sync 1 = .ok (.iconst 0, 1) := by decide +kernel
theorem dX3_sync_2 : decode cX3_sync 2 = .ok (.putfield 43, 3) := by decide +kernel
theorem dX3_sync_5 : decode cX3_sync 5 = .ok (.aload_n 0, 1) := by decide +kernel
theorem dX3_sync_6 : decode cX3_sync 6 = .ok (.getfield 67, 3) := by decide +kernel
theorem dX3_sync_9 : decode cX3_sync 9 = .ok (.ifCond .eq 6, 3) := by decide +kernel
theorem dX3_sync_12 : decode cX3_sync 12 = .ok (.bipush (-3), 2) := by decide +kernel
theorem dX3_sync_14 : decode cX3_sync 14 = .ok (.ireturn, 1) := by decide +kernel
theorem dX3_sync_15 : decode cX3_sync 15 = .ok (.iconst 0, 1) := by decide +kernel
theorem dX3_sync_16 : decode cX3_sync 16 = .ok (.istore_n 1, 1) := by decide +kernel
theorem dX3_sync_17 : decode cX3_sync 17 = .ok (.iload_n 1, 1) := by decide +kernel
theorem dX3_sync_18 : decode cX3_sync 18 = .ok (.bipush 64, 2) := by decide +kernel
theorem dX3_sync_20 : decode cX3_sync 20 = .ok (.aload_n 0, 1) := by decide +kernel
theorem dX3_sync_21 : decode cX3_sync 21 = .ok (.getfield 39, 3) := by decide +kernel
theorem dX3_sync_24 : decode cX3_sync 24 = .ok (.imul, 1) := by decide +kernel
theorem dX3_sync_25 : decode cX3_sync 25 = .ok (.if_icmp .ge 21, 3) := by decide +kernel
theorem dX3_sync_28 : decode cX3_sync 28 = .ok (.aload_n 0, 1) := by decide +kernel
theorem dX3_sync_29 : decode cX3_sync 29 = .ok (.getfield 13, 3) := by decide +kernel
theorem dX3_sync_32 : decode cX3_sync 32 = .ok (.iload_n 1, 1) := by decide +kernel
theorem dX3_sync_33 : decode cX3_sync 33 = .ok (.aload_n 0, 1) := by decide +kernel
theorem dX3_sync_34 : decode cX3_sync 34 = .ok (.getfield 7, 3) := by decide +kernel
theorem dX3_sync_37 : decode cX3_sync 37 = .ok (.iload_n 1, 1) := by decide +kernel
theorem dX3_sync_38 : decode cX3_sync 38 = .ok (.baload, 1) := by decide +kernel
theorem dX3_sync_39 : decode cX3_sync 39 = .ok (.bastore, 1) := by decide +kernel
theorem dX3_sync_40 : decode cX3_sync 40 = .ok (.iinc 1 1, 3) := by decide +kernel
theorem dX3_sync_43 : decode cX3_sync 43 = .ok (.goto (-26), 3) := by decide +kernel
theorem dX3_sync_46 : decode cX3_sync 46 = .ok (.aload_n 0, 1) := by decide +kernel
theorem dX3_sync_47 : decode cX3_sync 47 = .ok (.dup, 1) := by decide +kernel
theorem dX3_sync_48 : decode cX3_sync 48 = .ok (.getfield 85, 3) := by decide +kernel
theorem dX3_sync_51 : decode cX3_sync 51 = .ok (.iconst 1, 1) := by decide +kernel
theorem dX3_sync_52 : decode cX3_sync 52 = .ok (.iadd, 1) := by decide +kernel
theorem dX3_sync_53 : decode cX3_sync 53 = .ok (.putfield 85, 3) := by decide +kernel
theorem dX3_sync_56 : decode cX3_sync 56 = .ok (.aload_n 0, 1) := by decide +kernel
theorem dX3_sync_57 : decode cX3_sync 57 = .ok (.iconst 2, 1) := by decide +kernel
theorem dX3_sync_58 : decode cX3_sync 58 = .ok (.aload_n 0, 1) := by decide +kernel
theorem dX3_sync_59 : decode cX3_sync 59 = .ok (.getfield 78, 3) := by decide +kernel
theorem dX3_sync_62 : decode cX3_sync 62 = .ok (.iadd, 1) := by decide +kernel
theorem dX3_sync_63 : decode cX3_sync 63 = .ok (.putfield 91, 3) := by decide +kernel
theorem dX3_sync_66 : decode cX3_sync 66 = .ok (.aload_n 0, 1) := by decide +kernel
theorem dX3_sync_67 : decode cX3_sync 67 = .ok (.getfield 91, 3) := by decide +kernel
theorem dX3_sync_70 : decode cX3_sync 70 = .ok (.istore_n 1, 1) := by decide +kernel
theorem dX3_sync_71 : decode cX3_sync 71 = .ok (.aload_n 0, 1) := by decide +kernel
theorem dX3_sync_72 : decode cX3_sync 72 = .ok (.getfield 61, 3) := by decide +kernel
theorem dX3_sync_75 : decode cX3_sync 75 = .ok (.aload_n 0, 1) := by decide +kernel
theorem dX3_sync_76 : decode cX3_sync 76 = .ok (.getfield 64, 3) := by decide +kernel
theorem dX3_sync_79 : decode cX3_sync 79 = .ok (.if_icmp .ge 22, 3) := by decide +kernel
theorem dX3_sync_82 : decode cX3_sync 82 = .ok (.aload_n 0, 1) := by decide +kernel
theorem dX3_sync_83 : decode cX3_sync 83 = .ok (.aload_n 0, 1) := by decide +kernel
theorem dX3_sync_84 : decode cX3_sync 84 = .ok (.iload_n 1, 1) := by decide +kernel
theorem dX3_sync_85 : decode cX3_sync 85 = .ok (.aload_n 0, 1) := by decide +kernel
theorem dX3_sync_86 : decode cX3_sync 86 = .ok (.getfield 61, 3) := by decide +kernel
theorem dX3_sync_89 : decode cX3_sync 89 = .ok (.invokevirtual 94, 3) := by decide +kernel
theorem dX3_sync_92 : decode cX3_sync 92 = .ok (.putfield 61, 3) := by decide +kernel
theorem dX3_sync_95 : decode cX3_sync 95 = .ok (.iinc 1 1, 3) := by decide +kernel
theorem dX3_sync_98 : decode cX3_sync 98 = .ok (.goto (-27), 3) := by decide +kernel
theorem dX3_sync_101 : decode cX3_sync 101 = .ok (.aload_n 0, 1) := by decide +kernel
theorem dX3_sync_102 : decode cX3_sync 102 = .ok (.iload_n 1, 1) := by decide +kernel
theorem dX3_sync_103 : decode cX3_sync 103 = .ok (.iconst 2, 1) := by decide +kernel
theorem dX3_sync_104 : decode cX3_sync 104 = .ok (.isub, 1) := by decide +kernel
theorem dX3_sync_105 : decode cX3_sync 105 = .ok (.putfield 78, 3) := by decide +kernel
theorem dX3_sync_108 : decode cX3_sync 108 = .ok (.aload_n 0, 1) := by decide +kernel
theorem dX3_sync_109 : decode cX3_sync 109 = .ok (.getfield 85, 3) := by decide +kernel
theorem dX3_sync_112 : decode cX3_sync 112 = .ok (.iconst 2, 1) := by decide +kernel
theorem dX3_sync_113 : decode cX3_sync 113 = .ok (.irem, 1) := by decide +kernel
theorem dX3_sync_114 : decode cX3_sync 114 = .ok (.ifCond .ne 7, 3) := by decide +kernel
theorem dX3_sync_117 : decode cX3_sync 117 = .ok (.iconst 0, 1) := by decide +kernel
theorem dX3_sync_118 : decode cX3_sync 118 = .ok (.goto 4, 3) := by decide +kernel
theorem dX3_sync_121 : decode cX3_sync 121 = .ok (.iconst 1, 1) := by decide +kernel
theorem dX3_sync_122 : decode cX3_sync 122 = .ok (.istore_n 2, 1) := by decide +kernel
theorem dX3_sync_123 : decode cX3_sync 123 = .ok (.aload_n 0, 1) := by decide +kernel
theorem dX3_sync_124 : decode cX3_sync 124 = .ok (.iload_n 2, 1) := by decide +kernel
theorem dX3_sync_125 : decode cX3_sync 125 = .ok (.invokevirtual 81, 3) := by decide +kernel
theorem dX3_sync_128 : decode cX3_sync 128 = .ok (.aload_n 0, 1) := by decide +kernel
theorem dX3_sync_129 : decode cX3_sync 129 = .ok (.bipush 64, 2) := by decide +kernel
theorem dX3_sync_131 : decode cX3_sync 131 = .ok (.iload_n 2, 1) := by decide +kernel
theorem dX3_sync_132 : decode cX3_sync 132 = .ok (.imul, 1) := by decide +kernel
theorem dX3_sync_133 : decode cX3_sync 133 = .ok (.aload_n 0, 1) := by decide +kernel
theorem dX3_sync_134 : decode cX3_sync 134 = .ok (.getfield 85, 3) := by decide +kernel
theorem dX3_sync_137 : decode cX3_sync 137 = .ok (.invokevirtual 54, 3) := by decide +kernel
theorem dX3_sync_140 : decode cX3_sync 140 = .ok (.aload_n 0, 1) := by decide +kernel
theorem dX3_sync_141 : decode cX3_sync 141 = .ok (.bipush 64, 2) := by decide +kernel
theorem dX3_sync_143 : decode cX3_sync 143 = .ok (.iload_n 2, 1) := by decide +kernel
theorem dX3_sync_144 : decode cX3_sync 144 = .ok (.imul, 1) := by decide +kernel
theorem dX3_sync_145 : decode cX3_sync 145 = .ok (.iconst 4, 1) := by decide +kernel
theorem dX3_sync_146 : decode cX3_sync 146 = .ok (.iadd, 1) := by decide +kernel
theorem dX3_sync_147 : decode cX3_sync 147 = .ok (.aload_n 0, 1) := by decide +kernel
theorem dX3_sync_148 : decode cX3_sync 148 = .ok (.getfield 78, 3) := by decide +kernel
theorem dX3_sync_151 : decode cX3_sync 151 = .ok (.invokevirtual 54, 3) := by decide +kernel
theorem dX3_sync_154 : decode cX3_sync 154 = .ok (.aload_n 0, 1) := by decide +kernel
theorem dX3_sync_155 : decode cX3_sync 155 = .ok (.iload_n 2, 1) := by decide +kernel
theorem dX3_sync_156 : decode cX3_sync 156 = .ok (.invokevirtual 88, 3) := by decide +kernel
theorem dX3_sync_159 : decode cX3_sync 159 = .ok (.aload_n 0, 1) := by decide +kernel
theorem dX3_sync_160 : decode cX3_sync 160 = .ok (.iload_n 1, 1) := by decide +kernel
theorem dX3_sync_161 : decode cX3_sync 161 = .ok (.aload_n 0, 1) := by decide +kernel
theorem dX3_sync_162 : decode cX3_sync 162 = .ok (.getfield 91, 3) := by decide +kernel
theorem dX3_sync_165 : decode cX3_sync 165 = .ok (.isub, 1) := by decide +kernel
theorem dX3_sync_166 : decode cX3_sync 166 = .ok (.iconst 1, 1) := by decide +kernel
theorem dX3_sync_167 : decode cX3_sync 167 = .ok (.iadd, 1) := by decide +kernel
theorem dX3_sync_168 : decode cX3_sync 168 = .ok (.putfield 98, 3) := by decide +kernel
theorem dX3_sync_171 : decode cX3_sync 171 = .ok (.iconst 0, 1) := by decide +kernel
theorem dX3_sync_172 : decode cX3_sync 172 = .ok (.istore_n 3, 1) := by decide +kernel
theorem dX3_sync_173 : decode cX3_sync 173 = .ok (.iload_n 3, 1) := by decide +kernel
theorem dX3_sync_174 : decode cX3_sync 174 = .ok (.bipush 64, 2) := by decide +kernel
theorem dX3_sync_176 : decode cX3_sync 176 = .ok (.aload_n 0, 1) := by decide +kernel
theorem dX3_sync_177 : decode cX3_sync 177 = .ok (.getfield 39, 3) := by decide +kernel
theorem dX3_sync_180 : decode cX3_sync 180 = .ok (.imul, 1) := by decide +kernel
theorem dX3_sync_181 : decode cX3_sync 181 = .ok (.if_icmp .ge 21, 3) := by decide +kernel
theorem dX3_sync_184 : decode cX3_sync 184 = .ok (.aload_n 0, 1) := by decide +kernel
theorem dX3_sync_185 : decode cX3_sync 185 = .ok (.getfield 16, 3) := by decide +kernel
theorem dX3_sync_188 : decode cX3_sync 188 = .ok (.iload_n 3, 1) := by decide +kernel
theorem dX3_sync_189 : decode cX3_sync 189 = .ok (.aload_n 0, 1) := by decide +kernel
theorem dX3_sync_190 : decode cX3_sync 190 = .ok (.getfield 7, 3) := by decide +kernel
theorem dX3_sync_193 : decode cX3_sync 193 = .ok (.iload_n 3, 1) := by decide +kernel
theorem dX3_sync_194 : decode cX3_sync 194 = .ok (.baload, 1) := by decide +kernel
theorem dX3_sync_195 : decode cX3_sync 195 = .ok (.bastore, 1) := by decide +kernel
theorem dX3_sync_196 : decode cX3_sync 196 = .ok (.iinc 3 1, 3) := by decide +kernel
theorem dX3_sync_199 : decode cX3_sync 199 = .ok (.goto (-26), 3) := by decide +kernel
theorem dX3_sync_202 : decode cX3_sync 202 = .ok (.aload_n 0, 1) := by decide +kernel
theorem dX3_sync_203 : decode cX3_sync 203 = .ok (.getfield 98, 3) := by decide +kernel
theorem dX3_sync_206 : decode cX3_sync 206 = .ok (.ireturn, 1) := by decide +kernel
theorem dX3_dies_0 : decode cX3_dies 0 = .ok (.aload_n 0, 1) := by decide +kernel
theorem dX3_dies_1 : decode cX3_dies 1 = .ok (.iconst 1, 1) := by decide +kernel
theorem dX3_dies_2 : decode cX3_dies 2 = .ok (.putfield 67, 3) := by decide +kernel
theorem dX3_dies_5 : decode cX3_dies 5 = .ok (.aload_n 0, 1) := by decide +kernel
theorem dX3_dies_6 : decode cX3_dies 6 = .ok (.iconst 0, 1) := by decide +kernel
theorem dX3_dies_7 : decode cX3_dies 7 = .ok (.putfield 64, 3) := by decide +kernel
theorem dX3_dies_10 : decode cX3_dies 10 = .ok (.aload_n 0, 1) := by decide +kernel
theorem dX3_dies_11 : decode cX3_dies 11 = .ok (.iconst 0, 1) := by decide +kernel
theorem dX3_dies_12 : decode cX3_dies 12 = .ok (.putfield 61, 3) := by decide +kernel
theorem dX3_dies_15 : decode cX3_dies 15 = .ok (.aload_n 0, 1) := by decide +kernel
theorem dX3_dies_16 : decode cX3_dies 16 = .ok (.iconst 0, 1) := by decide +kernel
theorem dX3_dies_17 : decode cX3_dies 17 = .ok (.putfield 58, 3) := by decide +kernel
theorem dX3_dies_20 : decode cX3_dies 20 = .ok (.aload_n 0, 1) := by decide +kernel
theorem dX3_dies_21 : decode cX3_dies 21 = .ok (.iconst 0, 1) := by decide +kernel
theorem dX3_dies_22 : decode cX3_dies 22 = .ok (.putfield 98, 3) := by decide +kernel
theorem dX3_dies_25 : decode cX3_dies 25 = .ok (.return_, 1) := by decide +kernel
set_option maxRecDepth 20000 in
theorem ggX3_cut_X3_in : GoodIn wsX3_cut wsX3_in := goodIn_r _ [12] (by decide +kernel) (by decide +kernel)
set_option maxRecDepth 20000 in
theorem gX3_cut_X3_in : GoodIn wsX3_cut (va_wsS RX3 71 yX3_in wsX3_in) := goodIn_app (goodIn_of _ (by decide +kernel)) ggX3_cut_X3_in
set_option maxRecDepth 20000 in
theorem ggX3_cut_X3_dies : GoodIn wsX3_cut wsX3_dies := goodIn_r _ [16, 2, 17, 18, 19, 3, 20, 21, 22, 23, 24, 25, 26, 27, 28, 29, 30, 31, 32, 33, 34, 35, 36, 37, 38, 39, 40] (by decide +kernel) (by decide +kernel)
set_option maxRecDepth 20000 in
theorem gX3_cut_X3_dies : GoodIn wsX3_cut (wsV RX3 101 RX3 yX3_dies wsX3_dies) := goodIn_app (goodIn_of _ (by decide +kernel)) ggX3_cut_X3_dies
theorem dX3_cut_0 : decode cX3_cut 0 = .ok (.aload_n 0, 1) := by decide +kernel
theorem dX3_cut_1 : decode cX3_cut 1 = .ok (.iconst 0, 1) := by decide +kernel
theorem dX3_cut_2 : decode cX3_cut 2 = .ok (.putfield 43, 3) := by decide +kernel
theorem dX3_cut_5 : decode cX3_cut 5 = .ok (.aload_n 0, 1) := by decide +kernel
theorem dX3_cut_6 : decode cX3_cut 6 = .ok (.getfield 67, 3) := by decide +kernel
theorem dX3_cut_9 : decode cX3_cut 9 = .ok (.ifCond .ne 10, 3) := by decide +kernel
theorem dX3_cut_12 : decode cX3_cut 12 = .ok (.aload_n 0, 1) := by decide +kernel
theorem dX3_cut_13 : decode cX3_cut 13 = .ok (.getfield 98, 3) := by decide +kernel
theorem dX3_cut_16 : decode cX3_cut 16 = .ok (.ifCond .ne 6, 3) := by decide +kernel
theorem dX3_cut_19 : decode cX3_cut 19 = .ok (.bipush (-3), 2) := by decide +kernel
theorem dX3_cut_21 : decode cX3_cut 21 = .ok (.ireturn, 1) := by decide +kernel
theorem dX3_cut_22 : decode cX3_cut 22 = .ok (.iload_n 1, 1) := by decide +kernel
theorem dX3_cut_23 : decode cX3_cut 23 = .ok (.iconst 0, 1) := by decide +kernel
theorem dX3_cut_24 : decode cX3_cut 24 = .ok (.aload_n 0, 1) := by decide +kernel
theorem dX3_cut_25 : decode cX3_cut 25 = .ok (.getfield 98, 3) := by decide +kernel
theorem dX3_cut_28 : decode cX3_cut 28 = .ok (.invokestatic 71, 3) := by decide +kernel
theorem dX3_cut_31 : decode cX3_cut 31 = .ok (.ifCond .eq 13, 3) := by decide +kernel
theorem dX3_cut_34 : decode cX3_cut 34 = .ok (.iload_n 2, 1) := by decide +kernel
theorem dX3_cut_35 : decode cX3_cut 35 = .ok (.iconst 0, 1) := by decide +kernel
theorem dX3_cut_36 : decode cX3_cut 36 = .ok (.bipush 64, 2) := by decide +kernel
theorem dX3_cut_38 : decode cX3_cut 38 = .ok (.invokestatic 71, 3) := by decide +kernel
theorem dX3_cut_41 : decode cX3_cut 41 = .ok (.ifCond .ne 6, 3) := by decide +kernel
theorem dX3_cut_44 : decode cX3_cut 44 = .ok (.bipush (-2), 2) := by decide +kernel
theorem dX3_cut_46 : decode cX3_cut 46 = .ok (.ireturn, 1) := by decide +kernel
theorem dX3_cut_47 : decode cX3_cut 47 = .ok (.iload_n 1, 1) := by decide +kernel
theorem dX3_cut_48 : decode cX3_cut 48 = .ok (.istore_n 3, 1) := by decide +kernel
theorem dX3_cut_49 : decode cX3_cut 49 = .ok (.iload_n 3, 1) := by decide +kernel
theorem dX3_cut_50 : decode cX3_cut 50 = .ok (.aload_n 0, 1) := by decide +kernel
theorem dX3_cut_51 : decode cX3_cut 51 = .ok (.getfield 98, 3) := by decide +kernel
theorem dX3_cut_54 : decode cX3_cut 54 = .ok (.if_icmp .ge 113, 3) := by decide +kernel
theorem dX3_cut_57 : decode cX3_cut 57 = .ok (.iload_n 3, 1) := by decide +kernel
theorem dX3_cut_58 : decode cX3_cut 58 = .ok (.aload_n 0, 1) := by decide +kernel
theorem dX3_cut_59 : decode cX3_cut 59 = .ok (.getfield 98, 3) := by decide +kernel
theorem dX3_cut_62 : decode cX3_cut 62 = .ok (.iconst 1, 1) := by decide +kernel
theorem dX3_cut_63 : decode cX3_cut 63 = .ok (.isub, 1) := by decide +kernel
theorem dX3_cut_64 : decode cX3_cut 64 = .ok (.if_icmp .ne 20, 3) := by decide +kernel
theorem dX3_cut_67 : decode cX3_cut 67 = .ok (.aload_n 0, 1) := by decide +kernel
theorem dX3_cut_68 : decode cX3_cut 68 = .ok (.getfield 85, 3) := by decide +kernel
theorem dX3_cut_71 : decode cX3_cut 71 = .ok (.iconst 2, 1) := by decide +kernel
theorem dX3_cut_72 : decode cX3_cut 72 = .ok (.irem, 1) := by decide +kernel
theorem dX3_cut_73 : decode cX3_cut 73 = .ok (.ifCond .ne 7, 3) := by decide +kernel
theorem dX3_cut_76 : decode cX3_cut 76 = .ok (.iconst 0, 1) := by decide +kernel
theorem dX3_cut_77 : decode cX3_cut 77 = .ok (.goto 13, 3) := by decide +kernel
theorem dX3_cut_80 : decode cX3_cut 80 = .ok (.iconst 1, 1) := by decide +kernel
theorem dX3_cut_81 : decode cX3_cut 81 = .ok (.goto 9, 3) := by decide +kernel
theorem dX3_cut_84 : decode cX3_cut 84 = .ok (.aload_n 0, 1) := by decide +kernel
theorem dX3_cut_85 : decode cX3_cut 85 = .ok (.getfield 91, 3) := by decide +kernel
theorem dX3_cut_88 : decode cX3_cut 88 = .ok (.iload_n 3, 1) := by decide +kernel
theorem dX3_cut_89 : decode cX3_cut 89 = .ok (.iadd, 1) := by decide +kernel
theorem dX3_cut_90 : decode cX3_cut 90 = .ok (.istore 4, 2) := by decide +kernel
theorem dX3_cut_92 : decode cX3_cut 92 = .ok (.iconst 0, 1) := by decide +kernel
theorem dX3_cut_93 : decode cX3_cut 93 = .ok (.istore 5, 2) := by decide +kernel
theorem dX3_cut_95 : decode cX3_cut 95 = .ok (.iload 5, 2) := by decide +kernel
theorem dX3_cut_97 : decode cX3_cut 97 = .ok (.bipush 64, 2) := by decide +kernel
theorem dX3_cut_99 : decode cX3_cut 99 = .ok (.if_icmp .ge 62, 3) := by decide +kernel
theorem dX3_cut_102 : decode cX3_cut 102 = .ok (.aload_n 0, 1) := by decide +kernel
theorem dX3_cut_103 : decode cX3_cut 103 = .ok (.getfield 7, 3) := by decide +kernel
theorem dX3_cut_106 : decode cX3_cut 106 = .ok (.bipush 64, 2) := by decide +kernel
theorem dX3_cut_108 : decode cX3_cut 108 = .ok (.iload 4, 2) := by decide +kernel
theorem dX3_cut_110 : decode cX3_cut 110 = .ok (.imul, 1) := by decide +kernel
theorem dX3_cut_111 : decode cX3_cut 111 = .ok (.iload 5, 2) := by decide +kernel
theorem dX3_cut_113 : decode cX3_cut 113 = .ok (.iadd, 1) := by decide +kernel
theorem dX3_cut_114 : decode cX3_cut 114 = .ok (.iload_n 3, 1) := by decide +kernel
theorem dX3_cut_115 : decode cX3_cut 115 = .ok (.iload_n 1, 1) := by decide +kernel
theorem dX3_cut_116 : decode cX3_cut 116 = .ok (.if_icmp .ne 25, 3) := by decide +kernel
theorem dX3_cut_119 : decode cX3_cut 119 = .ok (.iload 5, 2) := by decide +kernel
theorem dX3_cut_121 : decode cX3_cut 121 = .ok (.iload_n 2, 1) := by decide +kernel
theorem dX3_cut_122 : decode cX3_cut 122 = .ok (.if_icmp .ge 19, 3) := by decide +kernel
theorem dX3_cut_125 : decode cX3_cut 125 = .ok (.aload_n 0, 1) := by decide +kernel
theorem dX3_cut_126 : decode cX3_cut 126 = .ok (.getfield 16, 3) := by decide +kernel
theorem dX3_cut_129 : decode cX3_cut 129 = .ok (.bipush 64, 2) := by decide +kernel
theorem dX3_cut_131 : decode cX3_cut 131 = .ok (.iload 4, 2) := by decide +kernel
theorem dX3_cut_133 : decode cX3_cut 133 = .ok (.imul, 1) := by decide +kernel
theorem dX3_cut_134 : decode cX3_cut 134 = .ok (.iload 5, 2) := by decide +kernel
theorem dX3_cut_136 : decode cX3_cut 136 = .ok (.iadd, 1) := by decide +kernel
theorem dX3_cut_137 : decode cX3_cut 137 = .ok (.baload, 1) := by decide +kernel
theorem dX3_cut_138 : decode cX3_cut 138 = .ok (.goto 16, 3) := by decide +kernel
theorem dX3_cut_141 : decode cX3_cut 141 = .ok (.aload_n 0, 1) := by decide +kernel
theorem dX3_cut_142 : decode cX3_cut 142 = .ok (.getfield 13, 3) := by decide +kernel
theorem dX3_cut_145 : decode cX3_cut 145 = .ok (.bipush 64, 2) := by decide +kernel
theorem dX3_cut_147 : decode cX3_cut 147 = .ok (.iload 4, 2) := by decide +kernel
theorem dX3_cut_149 : decode cX3_cut 149 = .ok (.imul, 1) := by decide +kernel
theorem dX3_cut_150 : decode cX3_cut 150 = .ok (.iload 5, 2) := by decide +kernel
theorem dX3_cut_152 : decode cX3_cut 152 = .ok (.iadd, 1) := by decide +kernel
theorem dX3_cut_153 : decode cX3_cut 153 = .ok (.baload, 1) := by decide +kernel
theorem dX3_cut_154 : decode cX3_cut 154 = .ok (.bastore, 1) := by decide +kernel
theorem dX3_cut_155 : decode cX3_cut 155 = .ok (.iinc 5 1, 3) := by decide +kernel
theorem dX3_cut_158 : decode cX3_cut 158 = .ok (.goto (-63), 3) := by decide +kernel
theorem dX3_cut_161 : decode cX3_cut 161 = .ok (.iinc 3 1, 3) := by decide +kernel
theorem dX3_cut_164 : decode cX3_cut 164 = .ok (.goto (-115), 3) := by decide +kernel
theorem dX3_cut_167 : decode cX3_cut 167 = .ok (.aload_n 0, 1) := by decide +kernel
theorem dX3_cut_168 : decode cX3_cut 168 = .ok (.invokevirtual 101, 3) := by decide +kernel
theorem dX3_cut_171 : decode cX3_cut 171 = .ok (.iconst 1, 1) := by decide +kernel
theorem dX3_cut_172 : decode cX3_cut 172 = .ok (.ireturn, 1) := by decide +kernel
set_option maxRecDepth 20000 in
theorem ggX3_off_X3_dies : GoodIn wsX3_off wsX3_dies := goodIn_r _ [9, 2, 3, 4, 10, 11, 12, 13, 14, 15, 16, 17, 18, 19, 20, 21, 22, 23, 24, 25, 26, 27, 28, 29, 30, 31, 32] (by decide +kernel) (by decide +kernel)
set_option maxRecDepth 20000 in
theorem gX3_off_X3_dies : GoodIn wsX3_off (wsV RX3 101 RX3 yX3_dies wsX3_dies) := goodIn_app (goodIn_of _ (by decide +kernel)) ggX3_off_X3_dies
theorem dX3_off_0 : decode cX3_off 0 = .ok (.aload_n 0, 1) := by decide +kernel
theorem dX3_off_1 : decode cX3_off 1 = .ok (.iconst 0, 1) := by decide +kernel
theorem dX3_off_2 : decode cX3_off 2 = .ok (.putfield 43, 3) := by decide +kernel
theorem dX3_off_5 : decode cX3_off 5 = .ok (.aload_n 0, 1) := by decide +kernel
theorem dX3_off_6 : decode cX3_off 6 = .ok (.getfield 67, 3) := by decide +kernel
theorem dX3_off_9 : decode cX3_off 9 = .ok (.ifCond .eq 6, 3) := by decide +kernel
theorem dX3_off_12 : decode cX3_off 12 = .ok (.bipush (-3), 2) := by decide +kernel
theorem dX3_off_14 : decode cX3_off 14 = .ok (.ireturn, 1) := by decide +kernel
theorem dX3_off_15 : decode cX3_off 15 = .ok (.aload_n 0, 1) := by decide +kernel
theorem dX3_off_16 : decode cX3_off 16 = .ok (.getfield 64, 3) := by decide +kernel
theorem dX3_off_19 : decode cX3_off 19 = .ok (.aload_n 0, 1) := by decide +kernel
theorem dX3_off_20 : decode cX3_off 20 = .ok (.getfield 61, 3) := by decide +kernel
theorem dX3_off_23 : decode cX3_off 23 = .ok (.isub, 1) := by decide +kernel
theorem dX3_off_24 : decode cX3_off 24 = .ok (.istore_n 1, 1) := by decide +kernel
theorem dX3_off_25 : decode cX3_off 25 = .ok (.aload_n 0, 1) := by decide +kernel
theorem dX3_off_26 : decode cX3_off 26 = .ok (.invokevirtual 101, 3) := by decide +kernel
theorem dX3_off_29 : decode cX3_off 29 = .ok (.iload_n 1, 1) := by decide +kernel
theorem dX3_off_30 : decode cX3_off 30 = .ok (.ireturn, 1) := by decide +kernel
set_option maxRecDepth 20000 in
theorem ggX3_isRight_X3_isWhole : GoodIn wsX3_isRight wsX3_isWhole := goodIn_r _ [6, 7, 8, 9, 5, 10, 11, 12, 13, 14, 15, 16, 20, 21, 22, 23, 24, 25, 26, 27, 28, 29, 30, 31, 32, 33, 34, 35, 36, 37, 38, 39, 40] (by decide +kernel) (by decide +kernel)
set_option maxRecDepth 20000 in
theorem gX3_isRight_X3_isWhole : GoodIn wsX3_isRight (wsV RX3 104 RX3 yX3_isWhole wsX3_isWhole) := goodIn_app (goodIn_of _ (by decide +kernel)) ggX3_isRight_X3_isWhole
set_option maxRecDepth 20000 in
theorem ggX3_isRight_X3_four : GoodIn wsX3_isRight wsX3_four := goodIn_r _ [10, 11, 20, 21, 22, 23, 24, 25, 26, 27, 28, 29, 30, 31, 32, 33, 34, 35, 36, 37, 38, 39, 40] (by decide +kernel) (by decide +kernel)
set_option maxRecDepth 20000 in
theorem gX3_isRight_X3_four : GoodIn wsX3_isRight (wsV RX3 47 RX3 yX3_four wsX3_four) := goodIn_app (goodIn_of _ (by decide +kernel)) ggX3_isRight_X3_four
set_option maxRecDepth 20000 in
theorem ggX3_isRight_X3_in : GoodIn wsX3_isRight wsX3_in := goodIn_r _ [19] (by decide +kernel) (by decide +kernel)
set_option maxRecDepth 20000 in
theorem gX3_isRight_X3_in : GoodIn wsX3_isRight (va_wsS RX3 71 yX3_in wsX3_in) := goodIn_app (goodIn_of _ (by decide +kernel)) ggX3_isRight_X3_in
theorem dX3_isRight_0 : decode cX3_isRight 0 = .ok (.aload_n 0, 1) := by decide +kernel
theorem dX3_isRight_1 : decode cX3_isRight 1 = .ok (.iload_n 1, 1) := by decide +kernel
theorem dX3_isRight_2 : decode cX3_isRight 2 = .ok (.invokevirtual 104, 3) := by decide +kernel
theorem dX3_isRight_5 : decode cX3_isRight 5 = .ok (.ifCond .eq 30, 3) := by decide +kernel
theorem dX3_isRight_8 : decode cX3_isRight 8 = .ok (.aload_n 0, 1) := by decide +kernel
theorem dX3_isRight_9 : decode cX3_isRight 9 = .ok (.bipush 64, 2) := by decide +kernel
theorem dX3_isRight_11 : decode cX3_isRight 11 = .ok (.iload_n 1, 1) := by decide +kernel
theorem dX3_isRight_12 : decode cX3_isRight 12 = .ok (.imul, 1) := by decide +kernel
theorem dX3_isRight_13 : decode cX3_isRight 13 = .ok (.iconst 4, 1) := by decide +kernel
theorem dX3_isRight_14 : decode cX3_isRight 14 = .ok (.iadd, 1) := by decide +kernel
theorem dX3_isRight_15 : decode cX3_isRight 15 = .ok (.invokevirtual 47, 3) := by decide +kernel
theorem dX3_isRight_18 : decode cX3_isRight 18 = .ok (.iconst 0, 1) := by decide +kernel
theorem dX3_isRight_19 : decode cX3_isRight 19 = .ok (.aload_n 0, 1) := by decide +kernel
theorem dX3_isRight_20 : decode cX3_isRight 20 = .ok (.getfield 39, 3) := by decide +kernel
theorem dX3_isRight_23 : decode cX3_isRight 23 = .ok (.iconst 2, 1) := by decide +kernel
theorem dX3_isRight_24 : decode cX3_isRight 24 = .ok (.isub, 1) := by decide +kernel
theorem dX3_isRight_25 : decode cX3_isRight 25 = .ok (.invokestatic 71, 3) := by decide +kernel
theorem dX3_isRight_28 : decode cX3_isRight 28 = .ok (.ifCond .eq 7, 3) := by decide +kernel
theorem dX3_isRight_31 : decode cX3_isRight 31 = .ok (.iconst 1, 1) := by decide +kernel
theorem dX3_isRight_32 : decode cX3_isRight 32 = .ok (.goto 4, 3) := by decide +kernel
theorem dX3_isRight_35 : decode cX3_isRight 35 = .ok (.iconst 0, 1) := by decide +kernel
theorem dX3_isRight_36 : decode cX3_isRight 36 = .ok (.ireturn, 1) := by decide +kernel
set_option maxRecDepth 20000 in
theorem ggX3_reads_X3_isWhole : GoodIn wsX3_reads wsX3_isWhole := goodIn_r _ [11, 12, 13, 14, 10, 15, 1, 16, 17, 18, 19, 20, 24, 25, 26, 27, 28, 29, 30, 31, 32, 33, 34, 35, 36, 37, 38, 39, 40, 41, 42, 43, 44] (by decide +kernel) (by decide +kernel)
set_option maxRecDepth 20000 in
theorem gX3_reads_X3_isWhole : GoodIn wsX3_reads (wsV RX3 104 RX3 yX3_isWhole wsX3_isWhole) := goodIn_app (goodIn_of _ (by decide +kernel)) ggX3_reads_X3_isWhole
set_option maxRecDepth 20000 in
theorem ggX3_reads_X3_in : GoodIn wsX3_reads wsX3_in := goodIn_r _ [23] (by decide +kernel) (by decide +kernel)
set_option maxRecDepth 20000 in
theorem gX3_reads_X3_in : GoodIn wsX3_reads (va_wsS RX3 71 yX3_in wsX3_in) := goodIn_app (goodIn_of _ (by decide +kernel)) ggX3_reads_X3_in
theorem dX3_reads_0 : decode cX3_reads 0 = .ok (.aload_n 0, 1) := by decide +kernel
theorem dX3_reads_1 : decode cX3_reads 1 = .ok (.getfield 7, 3) := by decide +kernel
theorem dX3_reads_4 : decode cX3_reads 4 = .ok (.bipush 64, 2) := by decide +kernel
theorem dX3_reads_6 : decode cX3_reads 6 = .ok (.iload_n 1, 1) := by decide +kernel
theorem dX3_reads_7 : decode cX3_reads 7 = .ok (.imul, 1) := by decide +kernel
theorem dX3_reads_8 : decode cX3_reads 8 = .ok (.iconst 4, 1) := by decide +kernel
theorem dX3_reads_9 : decode cX3_reads 9 = .ok (.iadd, 1) := by decide +kernel
theorem dX3_reads_10 : decode cX3_reads 10 = .ok (.baload, 1) := by decide +kernel
theorem dX3_reads_11 : decode cX3_reads 11 = .ok (.sipush 255, 3) := by decide +kernel
theorem dX3_reads_14 : decode cX3_reads 14 = .ok (.iand, 1) := by decide +kernel
theorem dX3_reads_15 : decode cX3_reads 15 = .ok (.istore_n 2, 1) := by decide +kernel
theorem dX3_reads_16 : decode cX3_reads 16 = .ok (.aload_n 0, 1) := by decide +kernel
theorem dX3_reads_17 : decode cX3_reads 17 = .ok (.iload_n 1, 1) := by decide +kernel
theorem dX3_reads_18 : decode cX3_reads 18 = .ok (.invokevirtual 104, 3) := by decide +kernel
theorem dX3_reads_21 : decode cX3_reads 21 = .ok (.ifCond .eq 13, 3) := by decide +kernel
theorem dX3_reads_24 : decode cX3_reads 24 = .ok (.iload_n 2, 1) := by decide +kernel
theorem dX3_reads_25 : decode cX3_reads 25 = .ok (.bipush 55, 2) := by decide +kernel
theorem dX3_reads_27 : decode cX3_reads 27 = .ok (.if_icmp .gt 7, 3) := by decide +kernel
theorem dX3_reads_30 : decode cX3_reads 30 = .ok (.iconst 1, 1) := by decide +kernel
theorem dX3_reads_31 : decode cX3_reads 31 = .ok (.goto 4, 3) := by decide +kernel
theorem dX3_reads_34 : decode cX3_reads 34 = .ok (.iconst 0, 1) := by decide +kernel
theorem dX3_reads_35 : decode cX3_reads 35 = .ok (.istore_n 3, 1) := by decide +kernel
theorem dX3_reads_36 : decode cX3_reads 36 = .ok (.iconst 0, 1) := by decide +kernel
theorem dX3_reads_37 : decode cX3_reads 37 = .ok (.istore 4, 2) := by decide +kernel
theorem dX3_reads_39 : decode cX3_reads 39 = .ok (.iload_n 3, 1) := by decide +kernel
theorem dX3_reads_40 : decode cX3_reads 40 = .ok (.ifCond .eq 100, 3) := by decide +kernel
theorem dX3_reads_43 : decode cX3_reads 43 = .ok (.iload 4, 2) := by decide +kernel
theorem dX3_reads_45 : decode cX3_reads 45 = .ok (.iload_n 2, 1) := by decide +kernel
theorem dX3_reads_46 : decode cX3_reads 46 = .ok (.if_icmp .ge 94, 3) := by decide +kernel
theorem dX3_reads_49 : decode cX3_reads 49 = .ok (.bipush 64, 2) := by decide +kernel
theorem dX3_reads_51 : decode cX3_reads 51 = .ok (.iload_n 1, 1) := by decide +kernel
theorem dX3_reads_52 : decode cX3_reads 52 = .ok (.imul, 1) := by decide +kernel
theorem dX3_reads_53 : decode cX3_reads 53 = .ok (.iconst 5, 1) := by decide +kernel
theorem dX3_reads_54 : decode cX3_reads 54 = .ok (.iadd, 1) := by decide +kernel
theorem dX3_reads_55 : decode cX3_reads 55 = .ok (.iload 4, 2) := by decide +kernel
theorem dX3_reads_57 : decode cX3_reads 57 = .ok (.iadd, 1) := by decide +kernel
theorem dX3_reads_58 : decode cX3_reads 58 = .ok (.istore 5, 2) := by decide +kernel
theorem dX3_reads_60 : decode cX3_reads 60 = .ok (.iload 4, 2) := by decide +kernel
theorem dX3_reads_62 : decode cX3_reads 62 = .ok (.iconst 1, 1) := by decide +kernel
theorem dX3_reads_63 : decode cX3_reads 63 = .ok (.iadd, 1) := by decide +kernel
theorem dX3_reads_64 : decode cX3_reads 64 = .ok (.iload_n 2, 1) := by decide +kernel
theorem dX3_reads_65 : decode cX3_reads 65 = .ok (.if_icmp .ge 19, 3) := by decide +kernel
theorem dX3_reads_68 : decode cX3_reads 68 = .ok (.aload_n 0, 1) := by decide +kernel
theorem dX3_reads_69 : decode cX3_reads 69 = .ok (.getfield 7, 3) := by decide +kernel
theorem dX3_reads_72 : decode cX3_reads 72 = .ok (.iload 5, 2) := by decide +kernel
theorem dX3_reads_74 : decode cX3_reads 74 = .ok (.iconst 1, 1) := by decide +kernel
theorem dX3_reads_75 : decode cX3_reads 75 = .ok (.iadd, 1) := by decide +kernel
theorem dX3_reads_76 : decode cX3_reads 76 = .ok (.baload, 1) := by decide +kernel
theorem dX3_reads_77 : decode cX3_reads 77 = .ok (.sipush 255, 3) := by decide +kernel
theorem dX3_reads_80 : decode cX3_reads 80 = .ok (.iand, 1) := by decide +kernel
theorem dX3_reads_81 : decode cX3_reads 81 = .ok (.goto 6, 3) := by decide +kernel
theorem dX3_reads_84 : decode cX3_reads 84 = .ok (.sipush 255, 3) := by decide +kernel
theorem dX3_reads_87 : decode cX3_reads 87 = .ok (.istore 6, 2) := by decide +kernel
theorem dX3_reads_89 : decode cX3_reads 89 = .ok (.aload_n 0, 1) := by decide +kernel
theorem dX3_reads_90 : decode cX3_reads 90 = .ok (.getfield 7, 3) := by decide +kernel
theorem dX3_reads_93 : decode cX3_reads 93 = .ok (.iload 5, 2) := by decide +kernel
theorem dX3_reads_95 : decode cX3_reads 95 = .ok (.baload, 1) := by decide +kernel
theorem dX3_reads_96 : decode cX3_reads 96 = .ok (.iconst 0, 1) := by decide +kernel
theorem dX3_reads_97 : decode cX3_reads 97 = .ok (.iconst 3, 1) := by decide +kernel
theorem dX3_reads_98 : decode cX3_reads 98 = .ok (.invokestatic 71, 3) := by decide +kernel
theorem dX3_reads_101 : decode cX3_reads 101 = .ok (.ifCond .eq 25, 3) := by decide +kernel
theorem dX3_reads_104 : decode cX3_reads 104 = .ok (.iload 6, 2) := by decide +kernel
theorem dX3_reads_106 : decode cX3_reads 106 = .ok (.bipush 40, 2) := by decide +kernel
theorem dX3_reads_108 : decode cX3_reads 108 = .ok (.if_icmp .gt 18, 3) := by decide +kernel
theorem dX3_reads_111 : decode cX3_reads 111 = .ok (.iload 4, 2) := by decide +kernel
theorem dX3_reads_113 : decode cX3_reads 113 = .ok (.iconst 2, 1) := by decide +kernel
theorem dX3_reads_114 : decode cX3_reads 114 = .ok (.iadd, 1) := by decide +kernel
theorem dX3_reads_115 : decode cX3_reads 115 = .ok (.iload 6, 2) := by decide +kernel
theorem dX3_reads_117 : decode cX3_reads 117 = .ok (.iadd, 1) := by decide +kernel
theorem dX3_reads_118 : decode cX3_reads 118 = .ok (.iload_n 2, 1) := by decide +kernel
theorem dX3_reads_119 : decode cX3_reads 119 = .ok (.if_icmp .gt 7, 3) := by decide +kernel
theorem dX3_reads_122 : decode cX3_reads 122 = .ok (.iconst 1, 1) := by decide +kernel
theorem dX3_reads_123 : decode cX3_reads 123 = .ok (.goto 4, 3) := by decide +kernel
theorem dX3_reads_126 : decode cX3_reads 126 = .ok (.iconst 0, 1) := by decide +kernel
theorem dX3_reads_127 : decode cX3_reads 127 = .ok (.istore_n 3, 1) := by decide +kernel
theorem dX3_reads_128 : decode cX3_reads 128 = .ok (.iload 4, 2) := by decide +kernel
theorem dX3_reads_130 : decode cX3_reads 130 = .ok (.iconst 2, 1) := by decide +kernel
theorem dX3_reads_131 : decode cX3_reads 131 = .ok (.iload 6, 2) := by decide +kernel
theorem dX3_reads_133 : decode cX3_reads 133 = .ok (.iadd, 1) := by decide +kernel
theorem dX3_reads_134 : decode cX3_reads 134 = .ok (.iadd, 1) := by decide +kernel
theorem dX3_reads_135 : decode cX3_reads 135 = .ok (.istore 4, 2) := by decide +kernel
theorem dX3_reads_137 : decode cX3_reads 137 = .ok (.goto (-98), 3) := by decide +kernel
theorem dX3_reads_140 : decode cX3_reads 140 = .ok (.iload_n 3, 1) := by decide +kernel
theorem dX3_reads_141 : decode cX3_reads 141 = .ok (.ifCond .ne 5, 3) := by decide +kernel
theorem dX3_reads_144 : decode cX3_reads 144 = .ok (.iconst 0, 1) := by decide +kernel
theorem dX3_reads_145 : decode cX3_reads 145 = .ok (.ireturn, 1) := by decide +kernel
theorem dX3_reads_146 : decode cX3_reads 146 = .ok (.iconst 0, 1) := by decide +kernel
theorem dX3_reads_147 : decode cX3_reads 147 = .ok (.istore 4, 2) := by decide +kernel
theorem dX3_reads_149 : decode cX3_reads 149 = .ok (.iload 4, 2) := by decide +kernel
theorem dX3_reads_151 : decode cX3_reads 151 = .ok (.iload_n 2, 1) := by decide +kernel
theorem dX3_reads_152 : decode cX3_reads 152 = .ok (.if_icmp .ge 137, 3) := by decide +kernel
theorem dX3_reads_155 : decode cX3_reads 155 = .ok (.bipush 64, 2) := by decide +kernel
theorem dX3_reads_157 : decode cX3_reads 157 = .ok (.iload_n 1, 1) := by decide +kernel
theorem dX3_reads_158 : decode cX3_reads 158 = .ok (.imul, 1) := by decide +kernel
theorem dX3_reads_159 : decode cX3_reads 159 = .ok (.iconst 5, 1) := by decide +kernel
theorem dX3_reads_160 : decode cX3_reads 160 = .ok (.iadd, 1) := by decide +kernel
theorem dX3_reads_161 : decode cX3_reads 161 = .ok (.iload 4, 2) := by decide +kernel
theorem dX3_reads_163 : decode cX3_reads 163 = .ok (.iadd, 1) := by decide +kernel
theorem dX3_reads_164 : decode cX3_reads 164 = .ok (.istore 5, 2) := by decide +kernel
theorem dX3_reads_166 : decode cX3_reads 166 = .ok (.aload_n 0, 1) := by decide +kernel
theorem dX3_reads_167 : decode cX3_reads 167 = .ok (.getfield 25, 3) := by decide +kernel
theorem dX3_reads_170 : decode cX3_reads 170 = .ok (.aload_n 0, 1) := by decide +kernel
theorem dX3_reads_171 : decode cX3_reads 171 = .ok (.getfield 64, 3) := by decide +kernel
theorem dX3_reads_174 : decode cX3_reads 174 = .ok (.aload_n 0, 1) := by decide +kernel
theorem dX3_reads_175 : decode cX3_reads 175 = .ok (.getfield 7, 3) := by decide +kernel
theorem dX3_reads_178 : decode cX3_reads 178 = .ok (.iload 5, 2) := by decide +kernel
theorem dX3_reads_180 : decode cX3_reads 180 = .ok (.baload, 1) := by decide +kernel
theorem dX3_reads_181 : decode cX3_reads 181 = .ok (.iastore, 1) := by decide +kernel
theorem dX3_reads_182 : decode cX3_reads 182 = .ok (.aload_n 0, 1) := by decide +kernel
theorem dX3_reads_183 : decode cX3_reads 183 = .ok (.getfield 29, 3) := by decide +kernel
theorem dX3_reads_186 : decode cX3_reads 186 = .ok (.aload_n 0, 1) := by decide +kernel
theorem dX3_reads_187 : decode cX3_reads 187 = .ok (.getfield 64, 3) := by decide +kernel
theorem dX3_reads_190 : decode cX3_reads 190 = .ok (.aload_n 0, 1) := by decide +kernel
theorem dX3_reads_191 : decode cX3_reads 191 = .ok (.getfield 7, 3) := by decide +kernel
theorem dX3_reads_194 : decode cX3_reads 194 = .ok (.iload 5, 2) := by decide +kernel
theorem dX3_reads_196 : decode cX3_reads 196 = .ok (.iconst 1, 1) := by decide +kernel
theorem dX3_reads_197 : decode cX3_reads 197 = .ok (.iadd, 1) := by decide +kernel
theorem dX3_reads_198 : decode cX3_reads 198 = .ok (.baload, 1) := by decide +kernel
theorem dX3_reads_199 : decode cX3_reads 199 = .ok (.iastore, 1) := by decide +kernel
theorem dX3_reads_200 : decode cX3_reads 200 = .ok (.aload_n 0, 1) := by decide +kernel
theorem dX3_reads_201 : decode cX3_reads 201 = .ok (.getfield 32, 3) := by decide +kernel
theorem dX3_reads_204 : decode cX3_reads 204 = .ok (.aload_n 0, 1) := by decide +kernel
theorem dX3_reads_205 : decode cX3_reads 205 = .ok (.getfield 64, 3) := by decide +kernel
theorem dX3_reads_208 : decode cX3_reads 208 = .ok (.iload_n 1, 1) := by decide +kernel
theorem dX3_reads_209 : decode cX3_reads 209 = .ok (.iastore, 1) := by decide +kernel
theorem dX3_reads_210 : decode cX3_reads 210 = .ok (.iconst 0, 1) := by decide +kernel
theorem dX3_reads_211 : decode cX3_reads 211 = .ok (.istore 6, 2) := by decide +kernel
theorem dX3_reads_213 : decode cX3_reads 213 = .ok (.iload 6, 2) := by decide +kernel
theorem dX3_reads_215 : decode cX3_reads 215 = .ok (.aload_n 0, 1) := by decide +kernel
theorem dX3_reads_216 : decode cX3_reads 216 = .ok (.getfield 29, 3) := by decide +kernel
theorem dX3_reads_219 : decode cX3_reads 219 = .ok (.aload_n 0, 1) := by decide +kernel
theorem dX3_reads_220 : decode cX3_reads 220 = .ok (.getfield 64, 3) := by decide +kernel
theorem dX3_reads_223 : decode cX3_reads 223 = .ok (.iaload, 1) := by decide +kernel
theorem dX3_reads_224 : decode cX3_reads 224 = .ok (.if_icmp .ge 36, 3) := by decide +kernel
theorem dX3_reads_227 : decode cX3_reads 227 = .ok (.aload_n 0, 1) := by decide +kernel
theorem dX3_reads_228 : decode cX3_reads 228 = .ok (.getfield 36, 3) := by decide +kernel
theorem dX3_reads_231 : decode cX3_reads 231 = .ok (.bipush 40, 2) := by decide +kernel
theorem dX3_reads_233 : decode cX3_reads 233 = .ok (.aload_n 0, 1) := by decide +kernel
theorem dX3_reads_234 : decode cX3_reads 234 = .ok (.getfield 64, 3) := by decide +kernel
theorem dX3_reads_237 : decode cX3_reads 237 = .ok (.imul, 1) := by decide +kernel
theorem dX3_reads_238 : decode cX3_reads 238 = .ok (.iload 6, 2) := by decide +kernel
theorem dX3_reads_240 : decode cX3_reads 240 = .ok (.iadd, 1) := by decide +kernel
theorem dX3_reads_241 : decode cX3_reads 241 = .ok (.aload_n 0, 1) := by decide +kernel
theorem dX3_reads_242 : decode cX3_reads 242 = .ok (.getfield 7, 3) := by decide +kernel
theorem dX3_reads_245 : decode cX3_reads 245 = .ok (.iload 5, 2) := by decide +kernel
theorem dX3_reads_247 : decode cX3_reads 247 = .ok (.iconst 2, 1) := by decide +kernel
theorem dX3_reads_248 : decode cX3_reads 248 = .ok (.iadd, 1) := by decide +kernel
theorem dX3_reads_249 : decode cX3_reads 249 = .ok (.iload 6, 2) := by decide +kernel
theorem dX3_reads_251 : decode cX3_reads 251 = .ok (.iadd, 1) := by decide +kernel
theorem dX3_reads_252 : decode cX3_reads 252 = .ok (.baload, 1) := by decide +kernel
theorem dX3_reads_253 : decode cX3_reads 253 = .ok (.bastore, 1) := by decide +kernel
theorem dX3_reads_254 : decode cX3_reads 254 = .ok (.iinc 6 1, 3) := by decide +kernel
theorem dX3_reads_257 : decode cX3_reads 257 = .ok (.goto (-44), 3) := by decide +kernel
theorem dX3_reads_260 : decode cX3_reads 260 = .ok (.iload 4, 2) := by decide +kernel
theorem dX3_reads_262 : decode cX3_reads 262 = .ok (.iconst 2, 1) := by decide +kernel
theorem dX3_reads_263 : decode cX3_reads 263 = .ok (.aload_n 0, 1) := by decide +kernel
theorem dX3_reads_264 : decode cX3_reads 264 = .ok (.getfield 29, 3) := by decide +kernel
theorem dX3_reads_267 : decode cX3_reads 267 = .ok (.aload_n 0, 1) := by decide +kernel
theorem dX3_reads_268 : decode cX3_reads 268 = .ok (.getfield 64, 3) := by decide +kernel
theorem dX3_reads_271 : decode cX3_reads 271 = .ok (.iaload, 1) := by decide +kernel
theorem dX3_reads_272 : decode cX3_reads 272 = .ok (.iadd, 1) := by decide +kernel
theorem dX3_reads_273 : decode cX3_reads 273 = .ok (.iadd, 1) := by decide +kernel
theorem dX3_reads_274 : decode cX3_reads 274 = .ok (.istore 4, 2) := by decide +kernel
theorem dX3_reads_276 : decode cX3_reads 276 = .ok (.aload_n 0, 1) := by decide +kernel
theorem dX3_reads_277 : decode cX3_reads 277 = .ok (.dup, 1) := by decide +kernel
theorem dX3_reads_278 : decode cX3_reads 278 = .ok (.getfield 64, 3) := by decide +kernel
theorem dX3_reads_281 : decode cX3_reads 281 = .ok (.iconst 1, 1) := by decide +kernel
theorem dX3_reads_282 : decode cX3_reads 282 = .ok (.iadd, 1) := by decide +kernel
theorem dX3_reads_283 : decode cX3_reads 283 = .ok (.putfield 64, 3) := by decide +kernel
theorem dX3_reads_286 : decode cX3_reads 286 = .ok (.goto (-137), 3) := by decide +kernel
theorem dX3_reads_289 : decode cX3_reads 289 = .ok (.iconst 1, 1) := by decide +kernel
theorem dX3_reads_290 : decode cX3_reads 290 = .ok (.ireturn, 1) := by decide +kernel
set_option maxRecDepth 20000 in
theorem ggX3_start_X3_isRight : GoodIn wsX3_start wsX3_isRight := goodIn_r _ [13, 14, 15, 16, 17, 12, 18, 19, 20, 21, 22, 23, 24, 25, 26, 27, 28, 29, 30, 31, 40, 41, 42, 43, 44, 45, 46, 47, 48, 49, 50, 51, 52, 53, 54, 55, 56, 57, 58, 59, 60] (by decide +kernel) (by decide +kernel)
set_option maxRecDepth 20000 in
theorem gX3_start_X3_isRight : GoodIn wsX3_start (wsV RX3 108 RX3 yX3_isRight wsX3_isRight) := goodIn_app (goodIn_of _ (by decide +kernel)) ggX3_start_X3_isRight
set_option maxRecDepth 20000 in
theorem ggX3_start_X3_four : GoodIn wsX3_start wsX3_four := goodIn_r _ [22, 23, 40, 41, 42, 43, 44, 45, 46, 47, 48, 49, 50, 51, 52, 53, 54, 55, 56, 57, 58, 59, 60] (by decide +kernel) (by decide +kernel)
set_option maxRecDepth 20000 in
theorem gX3_start_X3_four : GoodIn wsX3_start (wsV RX3 47 RX3 yX3_four wsX3_four) := goodIn_app (goodIn_of _ (by decide +kernel)) ggX3_start_X3_four
set_option maxRecDepth 20000 in
theorem ggX3_start_X3_reads : GoodIn wsX3_start wsX3_reads := goodIn_r _ [35, 23, 36, 5, 37, 38, 39, 15, 16, 17, 12, 18, 19, 20, 21, 22, 24, 25, 26, 27, 28, 29, 30, 31, 40, 41, 42, 43, 44, 45, 46, 47, 48, 49, 50, 51, 52, 53, 54, 55, 56, 57, 58, 59, 60] (by decide +kernel) (by decide +kernel)
set_option maxRecDepth 20000 in
theorem gX3_start_X3_reads : GoodIn wsX3_start (wsV RX3 114 RX3 yX3_reads wsX3_reads) := goodIn_app (goodIn_of _ (by decide +kernel)) ggX3_start_X3_reads
theorem dX3_start_0 : decode cX3_start 0 = .ok (.aload_n 0, 1) := by decide +kernel
theorem dX3_start_1 : decode cX3_start 1 = .ok (.iconst 0, 1) := by decide +kernel
theorem dX3_start_2 : decode cX3_start 2 = .ok (.putfield 43, 3) := by decide +kernel
theorem dX3_start_5 : decode cX3_start 5 = .ok (.aload_n 0, 1) := by decide +kernel
theorem dX3_start_6 : decode cX3_start 6 = .ok (.iconst 0, 1) := by decide +kernel
theorem dX3_start_7 : decode cX3_start 7 = .ok (.invokevirtual 108, 3) := by decide +kernel
theorem dX3_start_10 : decode cX3_start 10 = .ok (.istore_n 1, 1) := by decide +kernel
theorem dX3_start_11 : decode cX3_start 11 = .ok (.aload_n 0, 1) := by decide +kernel
theorem dX3_start_12 : decode cX3_start 12 = .ok (.iconst 1, 1) := by decide +kernel
theorem dX3_start_13 : decode cX3_start 13 = .ok (.invokevirtual 108, 3) := by decide +kernel
theorem dX3_start_16 : decode cX3_start 16 = .ok (.istore_n 2, 1) := by decide +kernel
theorem dX3_start_17 : decode cX3_start 17 = .ok (.aload_n 0, 1) := by decide +kernel
theorem dX3_start_18 : decode cX3_start 18 = .ok (.getfield 67, 3) := by decide +kernel
theorem dX3_start_21 : decode cX3_start 21 = .ok (.ifCond .eq 11, 3) := by decide +kernel
theorem dX3_start_24 : decode cX3_start 24 = .ok (.iload_n 1, 1) := by decide +kernel
theorem dX3_start_25 : decode cX3_start 25 = .ok (.ifCond .ne 10, 3) := by decide +kernel
theorem dX3_start_28 : decode cX3_start 28 = .ok (.iload_n 2, 1) := by decide +kernel
theorem dX3_start_29 : decode cX3_start 29 = .ok (.ifCond .ne 6, 3) := by decide +kernel
theorem dX3_start_32 : decode cX3_start 32 = .ok (.bipush (-3), 2) := by decide +kernel
theorem dX3_start_34 : decode cX3_start 34 = .ok (.ireturn, 1) := by decide +kernel
theorem dX3_start_35 : decode cX3_start 35 = .ok (.iload_n 1, 1) := by decide +kernel
theorem dX3_start_36 : decode cX3_start 36 = .ok (.ifCond .eq 25, 3) := by decide +kernel
theorem dX3_start_39 : decode cX3_start 39 = .ok (.iload_n 2, 1) := by decide +kernel
theorem dX3_start_40 : decode cX3_start 40 = .ok (.ifCond .eq 17, 3) := by decide +kernel
theorem dX3_start_43 : decode cX3_start 43 = .ok (.aload_n 0, 1) := by decide +kernel
theorem dX3_start_44 : decode cX3_start 44 = .ok (.iconst 0, 1) := by decide +kernel
theorem dX3_start_45 : decode cX3_start 45 = .ok (.invokevirtual 47, 3) := by decide +kernel
theorem dX3_start_48 : decode cX3_start 48 = .ok (.aload_n 0, 1) := by decide +kernel
theorem dX3_start_49 : decode cX3_start 49 = .ok (.bipush 64, 2) := by decide +kernel
theorem dX3_start_51 : decode cX3_start 51 = .ok (.invokevirtual 47, 3) := by decide +kernel
theorem dX3_start_54 : decode cX3_start 54 = .ok (.if_icmp .lt 7, 3) := by decide +kernel
theorem dX3_start_57 : decode cX3_start 57 = .ok (.iconst 0, 1) := by decide +kernel
theorem dX3_start_58 : decode cX3_start 58 = .ok (.goto 4, 3) := by decide +kernel
theorem dX3_start_61 : decode cX3_start 61 = .ok (.iconst 1, 1) := by decide +kernel
theorem dX3_start_62 : decode cX3_start 62 = .ok (.istore_n 3, 1) := by decide +kernel
theorem dX3_start_63 : decode cX3_start 63 = .ok (.aload_n 0, 1) := by decide +kernel
theorem dX3_start_64 : decode cX3_start 64 = .ok (.aload_n 0, 1) := by decide +kernel
