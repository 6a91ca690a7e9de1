theorem dX0_init_0 : decode cX0_init 0 = .ok (.aload_n 0, 1) := by decide +kernel
theorem dX0_init_1 : decode cX0_init 1 = .ok (.invokespecial 3, 3) := by decide +kernel
theorem dX0_init_4 : decode cX0_init 4 = .ok (.iconst 0, 1) := by decide +kernel
theorem dX0_init_5 : decode cX0_init 5 = .ok (.bipush 40, 2) := by decide +kernel
theorem dX0_init_7 : decode cX0_init 7 = .ok (.iload_n 1, 1) := by decide +kernel
theorem dX0_init_8 : decode cX0_init 8 = .ok (.invokestatic 9, 3) := by decide +kernel
theorem dX0_init_11 : decode cX0_init 11 = .ok (.invokestatic 15, 3) := by decide +kernel
theorem dX0_init_14 : decode cX0_init 14 = .ok (.istore_n 2, 1) := by decide +kernel
theorem dX0_init_15 : decode cX0_init 15 = .ok (.iload_n 2, 1) := by decide +kernel
theorem dX0_init_16 : decode cX0_init 16 = .ok (.bipush 27, 2) := by decide +kernel
theorem dX0_init_18 : decode cX0_init 18 = .ok (.imul, 1) := by decide +kernel
theorem dX0_init_19 : decode cX0_init 19 = .ok (.istore_n 3, 1) := by decide +kernel
theorem dX0_init_20 : decode cX0_init 20 = .ok (.aload_n 0, 1) := by decide +kernel
theorem dX0_init_21 : decode cX0_init 21 = .ok (.iload_n 3, 1) := by decide +kernel
theorem dX0_init_22 : decode cX0_init 22 = .ok (.newarray .int, 2) := by decide +kernel
theorem dX0_init_24 : decode cX0_init 24 = .ok (.putfield 18, 3) := by decide +kernel
theorem dX0_init_27 : decode cX0_init 27 = .ok (.aload_n 0, 1) := by decide +kernel
theorem dX0_init_28 : decode cX0_init 28 = .ok (.iload_n 3, 1) := by decide +kernel
theorem dX0_init_29 : decode cX0_init 29 = .ok (.newarray .int, 2) := by decide +kernel
theorem dX0_init_31 : decode cX0_init 31 = .ok (.putfield 24, 3) := by decide +kernel
theorem dX0_init_34 : decode cX0_init 34 = .ok (.aload_n 0, 1) := by decide +kernel
theorem dX0_init_35 : decode cX0_init 35 = .ok (.iload_n 3, 1) := by decide +kernel
theorem dX0_init_36 : decode cX0_init 36 = .ok (.newarray .int, 2) := by decide +kernel
theorem dX0_init_38 : decode cX0_init 38 = .ok (.putfield 27, 3) := by decide +kernel
theorem dX0_init_41 : decode cX0_init 41 = .ok (.aload_n 0, 1) := by decide +kernel
theorem dX0_init_42 : decode cX0_init 42 = .ok (.iload_n 3, 1) := by decide +kernel
theorem dX0_init_43 : decode cX0_init 43 = .ok (.newarray .int, 2) := by decide +kernel
theorem dX0_init_45 : decode cX0_init 45 = .ok (.putfield 30, 3) := by decide +kernel
theorem dX0_init_48 : decode cX0_init 48 = .ok (.aload_n 0, 1) := by decide +kernel
theorem dX0_init_49 : decode cX0_init 49 = .ok (.iload_n 2, 1) := by decide +kernel
theorem dX0_init_50 : decode cX0_init 50 = .ok (.bipush 55, 2) := by decide +kernel
theorem dX0_init_52 : decode cX0_init 52 = .ok (.imul, 1) := by decide +kernel
theorem dX0_init_53 : decode cX0_init 53 = .ok (.newarray .byte, 2) := by decide +kernel
theorem dX0_init_55 : decode cX0_init 55 = .ok (.putfield 33, 3) := by decide +kernel
theorem dX0_init_58 : decode cX0_init 58 = .ok (.return_, 1) := by decide +kernel
theorem dX0_holds_0 : decode cX0_holds 0 = .ok (.iload_n 1, 1) := by decide +kernel
theorem dX0_holds_1 : decode cX0_holds 1 = .ok (.ifCond .lt 15, 3) := by decide +kernel
theorem dX0_holds_4 : decode cX0_holds 4 = .ok (.iload_n 1, 1) := by decide +kernel
theorem dX0_holds_5 : decode cX0_holds 5 = .ok (.aload_n 0, 1) := by decide +kernel
theorem dX0_holds_6 : decode cX0_holds 6 = .ok (.getfield 37, 3) := by decide +kernel
theorem dX0_holds_9 : decode cX0_holds 9 = .ok (.if_icmp .ge 7, 3) := by decide +kernel
theorem dX0_holds_12 : decode cX0_holds 12 = .ok (.iconst 1, 1) := by decide +kernel
theorem dX0_holds_13 : decode cX0_holds 13 = .ok (.goto 4, 3) := by decide +kernel
theorem dX0_holds_16 : decode cX0_holds 16 = .ok (.iconst 0, 1) := by decide +kernel
theorem dX0_holds_17 : decode cX0_holds 17 = .ok (.ireturn, 1) := by decide +kernel
theorem dX0_clear_0 : decode cX0_clear 0 = .ok (.aload_n 0, 1) := by decide +kernel
theorem dX0_clear_1 : decode cX0_clear 1 = .ok (.iconst 0, 1) := by decide +kernel
theorem dX0_clear_2 : decode cX0_clear 2 = .ok (.putfield 37, 3) := by decide +kernel
theorem dX0_clear_5 : decode cX0_clear 5 = .ok (.aload_n 0, 1) := by decide +kernel
theorem dX0_clear_6 : decode cX0_clear 6 = .ok (.iconst 0, 1) := by decide +kernel
theorem dX0_clear_7 : decode cX0_clear 7 = .ok (.putfield 41, 3) := by decide +kernel
theorem dX0_clear_10 : decode cX0_clear 10 = .ok (.aload_n 0, 1) := by decide +kernel
theorem dX0_clear_11 : decode cX0_clear 11 = .ok (.iconst 0, 1) := by decide +kernel
theorem dX0_clear_12 : decode cX0_clear 12 = .ok (.putfield 44, 3) := by decide +kernel
theorem dX0_clear_15 : decode cX0_clear 15 = .ok (.return_, 1) := by decide +kernel
theorem dX0_open_0 : decode cX0_open 0 = .ok (.aload_n 0, 1) := by decide +kernel
theorem dX0_open_1 : decode cX0_open 1 = .ok (.getfield 37, 3) := by decide +kernel
theorem dX0_open_4 : decode cX0_open 4 = .ok (.aload_n 0, 1) := by decide +kernel
theorem dX0_open_5 : decode cX0_open 5 = .ok (.getfield 18, 3) := by decide +kernel
theorem dX0_open_8 : decode cX0_open 8 = .ok (.arraylength, 1) := by decide +kernel
theorem dX0_open_9 : decode cX0_open 9 = .ok (.if_icmp .lt 4, 3) := by decide +kernel
theorem dX0_open_12 : decode cX0_open 12 = .ok (.return_, 1) := by decide +kernel
theorem dX0_open_13 : decode cX0_open 13 = .ok (.aload_n 0, 1) := by decide +kernel
theorem dX0_open_14 : decode cX0_open 14 = .ok (.getfield 18, 3) := by decide +kernel
theorem dX0_open_17 : decode cX0_open 17 = .ok (.aload_n 0, 1) := by decide +kernel
theorem dX0_open_18 : decode cX0_open 18 = .ok (.getfield 37, 3) := by decide +kernel
theorem dX0_open_21 : decode cX0_open 21 = .ok (.iload_n 1, 1) := by decide +kernel
theorem dX0_open_22 : decode cX0_open 22 = .ok (.iastore, 1) := by decide +kernel
theorem dX0_open_23 : decode cX0_open 23 = .ok (.aload_n 0, 1) := by decide +kernel
theorem dX0_open_24 : decode cX0_open 24 = .ok (.getfield 24, 3) := by decide +kernel
theorem dX0_open_27 : decode cX0_open 27 = .ok (.aload_n 0, 1) := by decide +kernel
theorem dX0_open_28 : decode cX0_open 28 = .ok (.getfield 37, 3) := by decide +kernel
theorem dX0_open_31 : decode cX0_open 31 = .ok (.iconst 0, 1) := by decide +kernel
theorem dX0_open_32 : decode cX0_open 32 = .ok (.iastore, 1) := by decide +kernel
theorem dX0_open_33 : decode cX0_open 33 = .ok (.aload_n 0, 1) := by decide +kernel
theorem dX0_open_34 : decode cX0_open 34 = .ok (.getfield 27, 3) := by decide +kernel
theorem dX0_open_37 : decode cX0_open 37 = .ok (.aload_n 0, 1) := by decide +kernel
theorem dX0_open_38 : decode cX0_open 38 = .ok (.getfield 37, 3) := by decide +kernel
theorem dX0_open_41 : decode cX0_open 41 = .ok (.iload_n 2, 1) := by decide +kernel
theorem dX0_open_42 : decode cX0_open 42 = .ok (.iastore, 1) := by decide +kernel
theorem dX0_open_43 : decode cX0_open 43 = .ok (.aload_n 0, 1) := by decide +kernel
theorem dX0_open_44 : decode cX0_open 44 = .ok (.getfield 30, 3) := by decide +kernel
theorem dX0_open_47 : decode cX0_open 47 = .ok (.aload_n 0, 1) := by decide +kernel
theorem dX0_open_48 : decode cX0_open 48 = .ok (.getfield 37, 3) := by decide +kernel
theorem dX0_open_51 : decode cX0_open 51 = .ok (.aload_n 0, 1) := by decide +kernel
theorem dX0_open_52 : decode cX0_open 52 = .ok (.getfield 44, 3) := by decide +kernel
theorem dX0_open_55 : decode cX0_open 55 = .ok (.iastore, 1) := by decide +kernel
theorem dX0_open_56 : decode cX0_open 56 = .ok (.aload_n 0, 1) := by decide +kernel
theorem dX0_open_57 : decode cX0_open 57 = .ok (.dup, 1) := by decide +kernel
theorem dX0_open_58 : decode cX0_open 58 = .ok (.getfield 37, 3) := by decide +kernel
theorem dX0_open_61 : decode cX0_open 61 = .ok (.iconst 1, 1) := by decide +kernel
theorem dX0_open_62 : decode cX0_open 62 = .ok (.iadd, 1) := by decide +kernel
theorem dX0_open_63 : decode cX0_open 63 = .ok (.putfield 37, 3) := by decide +kernel
theorem dX0_open_66 : decode cX0_open 66 = .ok (.return_, 1) := by decide +kernel
theorem dX0_extend_0 : decode cX0_extend 0 = .ok (.aload_n 0, 1) := by decide +kernel
theorem dX0_extend_1 : decode cX0_extend 1 = .ok (.getfield 37, 3) := by decide +kernel
theorem dX0_extend_4 : decode cX0_extend 4 = .ok (.ifCond .eq 15, 3) := by decide +kernel
theorem dX0_extend_7 : decode cX0_extend 7 = .ok (.aload_n 0, 1) := by decide +kernel
theorem dX0_extend_8 : decode cX0_extend 8 = .ok (.getfield 44, 3) := by decide +kernel
theorem dX0_extend_11 : decode cX0_extend 11 = .ok (.aload_n 0, 1) := by decide +kernel
theorem dX0_extend_12 : decode cX0_extend 12 = .ok (.getfield 33, 3) := by decide +kernel
theorem dX0_extend_15 : decode cX0_extend 15 = .ok (.arraylength, 1) := by decide +kernel
theorem dX0_extend_16 : decode cX0_extend 16 = .ok (.if_icmp .lt 4, 3) := by decide +kernel
theorem dX0_extend_19 : decode cX0_extend 19 = .ok (.return_, 1) := by decide +kernel
theorem dX0_extend_20 : decode cX0_extend 20 = .ok (.aload_n 0, 1) := by decide +kernel
theorem dX0_extend_21 : decode cX0_extend 21 = .ok (.getfield 33, 3) := by decide +kernel
theorem dX0_extend_24 : decode cX0_extend 24 = .ok (.aload_n 0, 1) := by decide +kernel
theorem dX0_extend_25 : decode cX0_extend 25 = .ok (.getfield 44, 3) := by decide +kernel
theorem dX0_extend_28 : decode cX0_extend 28 = .ok (.iload_n 1, 1) := by decide +kernel
theorem dX0_extend_29 : decode cX0_extend 29 = .ok (.i2b, 1) := by decide +kernel
theorem dX0_extend_30 : decode cX0_extend 30 = .ok (.bastore, 1) := by decide +kernel
theorem dX0_extend_31 : decode cX0_extend 31 = .ok (.aload_n 0, 1) := by decide +kernel
theorem dX0_extend_32 : decode cX0_extend 32 = .ok (.dup, 1) := by decide +kernel
theorem dX0_extend_33 : decode cX0_extend 33 = .ok (.getfield 44, 3) := by decide +kernel
theorem dX0_extend_36 : decode cX0_extend 36 = .ok (.iconst 1, 1) := by decide +kernel
theorem dX0_extend_37 : decode cX0_extend 37 = .ok (.iadd, 1) := by decide +kernel
theorem dX0_extend_38 : decode cX0_extend 38 = .ok (.putfield 44, 3) := by decide +kernel
theorem dX0_extend_41 : decode cX0_extend 41 = .ok (.aload_n 0, 1) := by decide +kernel
theorem dX0_extend_42 : decode cX0_extend 42 = .ok (.getfield 24, 3) := by decide +kernel
theorem dX0_extend_45 : decode cX0_extend 45 = .ok (.aload_n 0, 1) := by decide +kernel
theorem dX0_extend_46 : decode cX0_extend 46 = .ok (.getfield 37, 3) := by decide +kernel
theorem dX0_extend_49 : decode cX0_extend 49 = .ok (.iconst 1, 1) := by decide +kernel
theorem dX0_extend_50 : decode cX0_extend 50 = .ok (.isub, 1) := by decide +kernel
theorem dX0_extend_51 : decode cX0_extend 51 = .ok (.dup2, 1) := by decide +kernel
theorem dX0_extend_52 : decode cX0_extend 52 = .ok (.iaload, 1) := by decide +kernel
theorem dX0_extend_53 : decode cX0_extend 53 = .ok (.iconst 1, 1) := by decide +kernel
theorem dX0_extend_54 : decode cX0_extend 54 = .ok (.iadd, 1) := by decide +kernel
theorem dX0_extend_55 : decode cX0_extend 55 = .ok (.iastore, 1) := by decide +kernel
theorem dX0_extend_56 : decode cX0_extend 56 = .ok (.return_, 1) := by decide +kernel
set_option maxRecDepth 20000 in
theorem ggX0_byteOf_X0_holds : GoodIn wsX0_byteOf wsX0_holds := goodIn_r _ [8, 9, 10, 11, 12, 13, 14, 15, 16, 17] (by decide +kernel) (by decide +kernel)
set_option maxRecDepth 20000 in
theorem gX0_byteOf_X0_holds : GoodIn wsX0_byteOf (wsV RX0 47 RX0 yX0_holds wsX0_holds) := goodIn_app (goodIn_of _ (by decide +kernel)) ggX0_byteOf_X0_holds
theorem dX0_byteOf_0 : decode cX0_byteOf 0 = .ok (.aload_n 0, 1) := by decide +kernel
theorem dX0_byteOf_1 : decode cX0_byteOf 1 = .ok (.iload_n 1, 1) := by decide +kernel
theorem dX0_byteOf_2 : decode cX0_byteOf 2 = .ok (.invokevirtual 47, 3) := by decide +kernel
theorem dX0_byteOf_5 : decode cX0_byteOf 5 = .ok (.ifCond .eq 17, 3) := by decide +kernel
theorem dX0_byteOf_8 : decode cX0_byteOf 8 = .ok (.iload_n 2, 1) := by decide +kernel
theorem dX0_byteOf_9 : decode cX0_byteOf 9 = .ok (.ifCond .lt 13, 3) := by decide +kernel
theorem dX0_byteOf_12 : decode cX0_byteOf 12 = .ok (.iload_n 2, 1) := by decide +kernel
theorem dX0_byteOf_13 : decode cX0_byteOf 13 = .ok (.aload_n 0, 1) := by decide +kernel
theorem dX0_byteOf_14 : decode cX0_byteOf 14 = .ok (.getfield 24, 3) := by decide +kernel
theorem dX0_byteOf_17 : decode cX0_byteOf 17 = .ok (.iload_n 1, 1) := by decide +kernel
theorem dX0_byteOf_18 : decode cX0_byteOf 18 = .ok (.iaload, 1) := by decide +kernel
theorem dX0_byteOf_19 : decode cX0_byteOf 19 = .ok (.if_icmp .lt 5, 3) := by decide +kernel
theorem dX0_byteOf_22 : decode cX0_byteOf 22 = .ok (.iconst (-1), 1) := by decide +kernel
theorem dX0_byteOf_23 : decode cX0_byteOf 23 = .ok (.ireturn, 1) := by decide +kernel
theorem dX0_byteOf_24 : decode cX0_byteOf 24 = .ok (.aload_n 0, 1) := by decide +kernel
theorem dX0_byteOf_25 : decode cX0_byteOf 25 = .ok (.getfield 33, 3) := by decide +kernel
theorem dX0_byteOf_28 : decode cX0_byteOf 28 = .ok (.aload_n 0, 1) := by decide +kernel
theorem dX0_byteOf_29 : decode cX0_byteOf 29 = .ok (.getfield 30, 3) := by decide +kernel
theorem dX0_byteOf_32 : decode cX0_byteOf 32 = .ok (.iload_n 1, 1) := by decide +kernel
theorem dX0_byteOf_33 : decode cX0_byteOf 33 = .ok (.iaload, 1) := by decide +kernel
theorem dX0_byteOf_34 : decode cX0_byteOf 34 = .ok (.iload_n 2, 1) := by decide +kernel
theorem dX0_byteOf_35 : decode cX0_byteOf 35 = .ok (.iadd, 1) := by decide +kernel
theorem dX0_byteOf_36 : decode cX0_byteOf 36 = .ok (.baload, 1) := by decide +kernel
theorem dX0_byteOf_37 : decode cX0_byteOf 37 = .ok (.sipush 255, 3) := by decide +kernel
theorem dX0_byteOf_40 : decode cX0_byteOf 40 = .ok (.iand, 1) := by decide +kernel
theorem dX0_byteOf_41 : decode cX0_byteOf 41 = .ok (.ireturn, 1) := by decide +kernel
theorem dX1_init_0 : decode cX1_init 0 = .ok (.aload_n 0, 1) := by decide +kernel
theorem dX1_init_1 : decode cX1_init 1 = .ok (.invokespecial 3, 3) := by decide +kernel
theorem dX1_init_4 : decode cX1_init 4 = .ok (.aload_n 0, 1) := by decide +kernel
theorem dX1_init_5 : decode cX1_init 5 = .ok (.iconst 0, 1) := by decide +kernel
theorem dX1_init_6 : decode cX1_init 6 = .ok (.bipush 40, 2) := by decide +kernel
theorem dX1_init_8 : decode cX1_init 8 = .ok (.iload_n 1, 1) := by decide +kernel
theorem dX1_init_9 : decode cX1_init 9 = .ok (.invokestatic 9, 3) := by decide +kernel
theorem dX1_init_12 : decode cX1_init 12 = .ok (.invokestatic 15, 3) := by decide +kernel
theorem dX1_init_15 : decode cX1_init 15 = .ok (.putfield 18, 3) := by decide +kernel
theorem dX1_init_18 : decode cX1_init 18 = .ok (.aload_n 0, 1) := by decide +kernel
theorem dX1_init_19 : decode cX1_init 19 = .ok (.aload_n 0, 1) := by decide +kernel
theorem dX1_init_20 : decode cX1_init 20 = .ok (.getfield 18, 3) := by decide +kernel
theorem dX1_init_23 : decode cX1_init 23 = .ok (.bipush 64, 2) := by decide +kernel
theorem dX1_init_25 : decode cX1_init 25 = .ok (.imul, 1) := by decide +kernel
theorem dX1_init_26 : decode cX1_init 26 = .ok (.newarray .byte, 2) := by decide +kernel
theorem dX1_init_28 : decode cX1_init 28 = .ok (.putfield 24, 3) := by decide +kernel
theorem dX1_init_31 : decode cX1_init 31 = .ok (.return_, 1) := by decide +kernel
theorem dX1_holds_0 : decode cX1_holds 0 = .ok (.iload_n 1, 1) := by decide +kernel
theorem dX1_holds_1 : decode cX1_holds 1 = .ok (.ifCond .lt 25, 3) := by decide +kernel
theorem dX1_holds_4 : decode cX1_holds 4 = .ok (.iload_n 1, 1) := by decide +kernel
theorem dX1_holds_5 : decode cX1_holds 5 = .ok (.aload_n 0, 1) := by decide +kernel
theorem dX1_holds_6 : decode cX1_holds 6 = .ok (.getfield 18, 3) := by decide +kernel
theorem dX1_holds_9 : decode cX1_holds 9 = .ok (.if_icmp .ge 17, 3) := by decide +kernel
theorem dX1_holds_12 : decode cX1_holds 12 = .ok (.iload_n 2, 1) := by decide +kernel
theorem dX1_holds_13 : decode cX1_holds 13 = .ok (.ifCond .lt 13, 3) := by decide +kernel
theorem dX1_holds_16 : decode cX1_holds 16 = .ok (.iload_n 2, 1) := by decide +kernel
theorem dX1_holds_17 : decode cX1_holds 17 = .ok (.bipush 64, 2) := by decide +kernel
theorem dX1_holds_19 : decode cX1_holds 19 = .ok (.if_icmp .ge 7, 3) := by decide +kernel
theorem dX1_holds_22 : decode cX1_holds 22 = .ok (.iconst 1, 1) := by decide +kernel
theorem dX1_holds_23 : decode cX1_holds 23 = .ok (.goto 4, 3) := by decide +kernel
theorem dX1_holds_26 : decode cX1_holds 26 = .ok (.iconst 0, 1) := by decide +kernel
theorem dX1_holds_27 : decode cX1_holds 27 = .ok (.ireturn, 1) := by decide +kernel
set_option maxRecDepth 20000 in
theorem ggX1_byteAt_X1_holds : GoodIn wsX1_byteAt wsX1_holds := goodIn_r _ [6, 7, 8, 9] (by decide +kernel) (by decide +kernel)
set_option maxRecDepth 20000 in
theorem gX1_byteAt_X1_holds : GoodIn wsX1_byteAt (wsV RX1 28 RX1 yX1_holds wsX1_holds) := goodIn_app (goodIn_of _ (by decide +kernel)) ggX1_byteAt_X1_holds
theorem dX1_byteAt_0 : decode cX1_byteAt 0 = .ok (.aload_n 0, 1) := by decide +kernel
theorem dX1_byteAt_1 : decode cX1_byteAt 1 = .ok (.iload_n 1, 1) := by decide +kernel
theorem dX1_byteAt_2 : decode cX1_byteAt 2 = .ok (.iload_n 2, 1) := by decide +kernel
theorem dX1_byteAt_3 : decode cX1_byteAt 3 = .ok (.invokevirtual 28, 3) := by decide +kernel
theorem dX1_byteAt_6 : decode cX1_byteAt 6 = .ok (.ifCond .eq 21, 3) := by decide +kernel
theorem dX1_byteAt_9 : decode cX1_byteAt 9 = .ok (.aload_n 0, 1) := by decide +kernel
theorem dX1_byteAt_10 : decode cX1_byteAt 10 = .ok (.getfield 24, 3) := by decide +kernel
theorem dX1_byteAt_13 : decode cX1_byteAt 13 = .ok (.iload_n 1, 1) := by decide +kernel
theorem dX1_byteAt_14 : decode cX1_byteAt 14 = .ok (.bipush 64, 2) := by decide +kernel
theorem dX1_byteAt_16 : decode cX1_byteAt 16 = .ok (.imul, 1) := by decide +kernel
theorem dX1_byteAt_17 : decode cX1_byteAt 17 = .ok (.iload_n 2, 1) := by decide +kernel
theorem dX1_byteAt_18 : decode cX1_byteAt 18 = .ok (.iadd, 1) := by decide +kernel
theorem dX1_byteAt_19 : decode cX1_byteAt 19 = .ok (.baload, 1) := by decide +kernel
theorem dX1_byteAt_20 : decode cX1_byteAt 20 = .ok (.sipush 255, 3) := by decide +kernel
theorem dX1_byteAt_23 : decode cX1_byteAt 23 = .ok (.iand, 1) := by decide +kernel
theorem dX1_byteAt_24 : decode cX1_byteAt 24 = .ok (.goto 4, 3) := by decide +kernel
theorem dX1_byteAt_27 : decode cX1_byteAt 27 = .ok (.iconst (-1), 1) := by decide +kernel
theorem dX1_byteAt_28 : decode cX1_byteAt 28 = .ok (.ireturn, 1) := by decide +kernel
set_option maxRecDepth 20000 in
theorem ggX1_put_X1_holds : GoodIn wsX1_put wsX1_holds := goodIn_r _ [6, 7, 8, 9] (by decide +kernel) (by decide +kernel)
set_option maxRecDepth 20000 in
theorem gX1_put_X1_holds : GoodIn wsX1_put (wsV RX1 28 RX1 yX1_holds wsX1_holds) := goodIn_app (goodIn_of _ (by decide +kernel)) ggX1_put_X1_holds
theorem dX1_put_0 : decode cX1_put 0 = .ok (.aload_n 0, 1) := by decide +kernel
theorem dX1_put_1 : decode cX1_put 1 = .ok (.iload_n 1, 1) := by decide +kernel
theorem dX1_put_2 : decode cX1_put 2 = .ok (.iload_n 2, 1) := by decide +kernel
theorem dX1_put_3 : decode cX1_put 3 = .ok (.invokevirtual 28, 3) := by decide +kernel
theorem dX1_put_6 : decode cX1_put 6 = .ok (.ifCond .eq 16, 3) := by decide +kernel
theorem dX1_put_9 : decode cX1_put 9 = .ok (.aload_n 0, 1) := by decide +kernel
theorem dX1_put_10 : decode cX1_put 10 = .ok (.getfield 24, 3) := by decide +kernel
theorem dX1_put_13 : decode cX1_put 13 = .ok (.iload_n 1, 1) := by decide +kernel
theorem dX1_put_14 : decode cX1_put 14 = .ok (.bipush 64, 2) := by decide +kernel
theorem dX1_put_16 : decode cX1_put 16 = .ok (.imul, 1) := by decide +kernel
theorem dX1_put_17 : decode cX1_put 17 = .ok (.iload_n 2, 1) := by decide +kernel
theorem dX1_put_18 : decode cX1_put 18 = .ok (.iadd, 1) := by decide +kernel
theorem dX1_put_19 : decode cX1_put 19 = .ok (.iload_n 3, 1) := by decide +kernel
theorem dX1_put_20 : decode cX1_put 20 = .ok (.i2b, 1) := by decide +kernel
theorem dX1_put_21 : decode cX1_put 21 = .ok (.bastore, 1) := by decide +kernel
theorem dX1_put_22 : decode cX1_put 22 = .ok (.return_, 1) := by decide +kernel
set_option maxRecDepth 20000 in
theorem ggX1_numberAt_X1_byteAt : GoodIn wsX1_numberAt wsX1_byteAt := goodIn_r _ [5, 6, 7, 8, 9, 4, 10, 11, 12, 13] (by decide +kernel) (by decide +kernel)
set_option maxRecDepth 20000 in
theorem gX1_numberAt_X1_byteAt : GoodIn wsX1_numberAt (wsV RX1 32 RX1 yX1_byteAt wsX1_byteAt) := goodIn_app (goodIn_of _ (by decide +kernel)) ggX1_numberAt_X1_byteAt
theorem dX1_numberAt_0 : decode cX1_numberAt 0 = .ok (.iconst 0, 1) := by decide +kernel
theorem dX1_numberAt_1 : decode cX1_numberAt 1 = .ok (.istore_n 3, 1) := by decide +kernel
theorem dX1_numberAt_2 : decode cX1_numberAt 2 = .ok (.iconst 0, 1) := by decide +kernel
theorem dX1_numberAt_3 : decode cX1_numberAt 3 = .ok (.istore 4, 2) := by decide +kernel
theorem dX1_numberAt_5 : decode cX1_numberAt 5 = .ok (.iload 4, 2) := by decide +kernel
theorem dX1_numberAt_7 : decode cX1_numberAt 7 = .ok (.iconst 4, 1) := by decide +kernel
theorem dX1_numberAt_8 : decode cX1_numberAt 8 = .ok (.if_icmp .ge 28, 3) := by decide +kernel
theorem dX1_numberAt_11 : decode cX1_numberAt 11 = .ok (.iload_n 3, 1) := by decide +kernel
theorem dX1_numberAt_12 : decode cX1_numberAt 12 = .ok (.bipush 8, 2) := by decide +kernel
theorem dX1_numberAt_14 : decode cX1_numberAt 14 = .ok (.ishl, 1) := by decide +kernel
theorem dX1_numberAt_15 : decode cX1_numberAt 15 = .ok (.aload_n 0, 1) := by decide +kernel
theorem dX1_numberAt_16 : decode cX1_numberAt 16 = .ok (.iload_n 1, 1) := by decide +kernel
theorem dX1_numberAt_17 : decode cX1_numberAt 17 = .ok (.iload_n 2, 1) := by decide +kernel
theorem dX1_numberAt_18 : decode cX1_numberAt 18 = .ok (.iload 4, 2) := by decide +kernel
theorem dX1_numberAt_20 : decode cX1_numberAt 20 = .ok (.iadd, 1) := by decide +kernel
theorem dX1_numberAt_21 : decode cX1_numberAt 21 = .ok (.invokevirtual 32, 3) := by decide +kernel
theorem dX1_numberAt_24 : decode cX1_numberAt 24 = .ok (.sipush 255, 3) := by decide +kernel
theorem dX1_numberAt_27 : decode cX1_numberAt 27 = .ok (.iand, 1) := by decide +kernel
theorem dX1_numberAt_28 : decode cX1_numberAt 28 = .ok (.ior, 1) := by decide +kernel
theorem dX1_numberAt_29 : decode cX1_numberAt 29 = .ok (.istore_n 3, 1) := by decide +kernel
theorem dX1_numberAt_30 : decode cX1_numberAt 30 = .ok (.iinc 4 1, 3) := by decide +kernel
theorem dX1_numberAt_33 : decode cX1_numberAt 33 = .ok (.goto (-28), 3) := by decide +kernel
theorem dX1_numberAt_36 : decode cX1_numberAt 36 = .ok (.iload_n 3, 1) := by decide +kernel
theorem dX1_numberAt_37 : decode cX1_numberAt 37 = .ok (.ireturn, 1) := by decide +kernel
set_option maxRecDepth 20000 in
theorem ggX1_unsignedAt_X1_numberAt : GoodIn wsX1_unsignedAt wsX1_numberAt := goodIn_r _ [6, 7, 8, 9, 5, 10, 11, 12, 13, 14, 15, 16, 17, 18] (by decide +kernel) (by decide +kernel)
set_option maxRecDepth 20000 in
theorem gX1_unsignedAt_X1_numberAt : GoodIn wsX1_unsignedAt (wsV RX1 35 RX1 yX1_numberAt wsX1_numberAt) := goodIn_app (goodIn_of _ (by decide +kernel)) ggX1_unsignedAt_X1_numberAt
theorem dX1_unsignedAt_0 : decode cX1_unsignedAt 0 = .ok (.aload_n 0, 1) := by decide +kernel
theorem dX1_unsignedAt_1 : decode cX1_unsignedAt 1 = .ok (.iload_n 1, 1) := by decide +kernel
theorem dX1_unsignedAt_2 : decode cX1_unsignedAt 2 = .ok (.iload_n 2, 1) := by decide +kernel
theorem dX1_unsignedAt_3 : decode cX1_unsignedAt 3 = .ok (.invokevirtual 35, 3) := by decide +kernel
theorem dX1_unsignedAt_6 : decode cX1_unsignedAt 6 = .ok (.i2l, 1) := by decide +kernel
theorem dX1_unsignedAt_7 : decode cX1_unsignedAt 7 = .ok (.ldc2_w 38, 3) := by decide +kernel
theorem dX1_unsignedAt_10 : decode cX1_unsignedAt 10 = .ok (.land, 1) := by decide +kernel
theorem dX1_unsignedAt_11 : decode cX1_unsignedAt 11 = .ok (.lreturn, 1) := by decide +kernel
set_option maxRecDepth 20000 in
theorem ggX1_putNumber_X1_put : GoodIn wsX1_putNumber wsX1_put := goodIn_r _ [5, 6, 7, 8, 9, 4, 10, 11, 12, 13] (by decide +kernel) (by decide +kernel)
set_option maxRecDepth 20000 in
theorem gX1_putNumber_X1_put : GoodIn wsX1_putNumber (wsV RX1 40 RX1 yX1_put wsX1_put) := goodIn_app (goodIn_of _ (by decide +kernel)) ggX1_putNumber_X1_put
theorem dX1_putNumber_0 : decode cX1_putNumber 0 = .ok (.iconst 0, 1) := by decide +kernel
theorem dX1_putNumber_1 : decode cX1_putNumber 1 = .ok (.istore 4, 2) := by decide +kernel
theorem dX1_putNumber_3 : decode cX1_putNumber 3 = .ok (.iload 4, 2) := by decide +kernel
theorem dX1_putNumber_5 : decode cX1_putNumber 5 = .ok (.iconst 4, 1) := by decide +kernel
theorem dX1_putNumber_6 : decode cX1_putNumber 6 = .ok (.if_icmp .ge 28, 3) := by decide +kernel
theorem dX1_putNumber_9 : decode cX1_putNumber 9 = .ok (.aload_n 0, 1) := by decide +kernel
theorem dX1_putNumber_10 : decode cX1_putNumber 10 = .ok (.iload_n 1, 1) := by decide +kernel
theorem dX1_putNumber_11 : decode cX1_putNumber 11 = .ok (.iload_n 2, 1) := by decide +kernel
theorem dX1_putNumber_12 : decode cX1_putNumber 12 = .ok (.iload 4, 2) := by decide +kernel
theorem dX1_putNumber_14 : decode cX1_putNumber 14 = .ok (.iadd, 1) := by decide +kernel
theorem dX1_putNumber_15 : decode cX1_putNumber 15 = .ok (.iload_n 3, 1) := by decide +kernel
theorem dX1_putNumber_16 : decode cX1_putNumber 16 = .ok (.bipush 24, 2) := by decide +kernel
theorem dX1_putNumber_18 : decode cX1_putNumber 18 = .ok (.bipush 8, 2) := by decide +kernel
theorem dX1_putNumber_20 : decode cX1_putNumber 20 = .ok (.iload 4, 2) := by decide +kernel
theorem dX1_putNumber_22 : decode cX1_putNumber 22 = .ok (.imul, 1) := by decide +kernel
theorem dX1_putNumber_23 : decode cX1_putNumber 23 = .ok (.isub, 1) := by decide +kernel
theorem dX1_putNumber_24 : decode cX1_putNumber 24 = .ok (.iushr, 1) := by decide +kernel
theorem dX1_putNumber_25 : decode cX1_putNumber 25 = .ok (.invokevirtual 40, 3) := by decide +kernel
theorem dX1_putNumber_28 : decode cX1_putNumber 28 = .ok (.iinc 4 1, 3) := by decide +kernel
theorem dX1_putNumber_31 : decode cX1_putNumber 31 = .ok (.goto (-28), 3) := by decide +kernel
theorem dX1_putNumber_34 : decode cX1_putNumber 34 = .ok (.return_, 1) := by decide +kernel
set_option maxRecDepth 20000 in
theorem ggX1_sumOf_X1_holds : GoodIn wsX1_sumOf wsX1_holds := goodIn_r _ [7, 8, 9, 10] (by decide +kernel) (by decide +kernel)
set_option maxRecDepth 20000 in
theorem gX1_sumOf_X1_holds : GoodIn wsX1_sumOf (wsV RX1 28 RX1 yX1_holds wsX1_holds) := goodIn_app (goodIn_of _ (by decide +kernel)) ggX1_sumOf_X1_holds
theorem dX1_sumOf_0 : decode cX1_sumOf 0 = .ok (.iconst 0, 1) := by decide +kernel
theorem dX1_sumOf_1 : decode cX1_sumOf 1 = .ok (.istore_n 2, 1) := by decide +kernel
theorem dX1_sumOf_2 : decode cX1_sumOf 2 = .ok (.aload_n 0, 1) := by decide +kernel
theorem dX1_sumOf_3 : decode cX1_sumOf 3 = .ok (.iload_n 1, 1) := by decide +kernel
theorem dX1_sumOf_4 : decode cX1_sumOf 4 = .ok (.iconst 0, 1) := by decide +kernel
theorem dX1_sumOf_5 : decode cX1_sumOf 5 = .ok (.invokevirtual 28, 3) := by decide +kernel
theorem dX1_sumOf_8 : decode cX1_sumOf 8 = .ok (.ifCond .ne 5, 3) := by decide +kernel
theorem dX1_sumOf_11 : decode cX1_sumOf 11 = .ok (.iload_n 2, 1) := by decide +kernel
theorem dX1_sumOf_12 : decode cX1_sumOf 12 = .ok (.ireturn, 1) := by decide +kernel
theorem dX1_sumOf_13 : decode cX1_sumOf 13 = .ok (.iload_n 1, 1) := by decide +kernel
theorem dX1_sumOf_14 : decode cX1_sumOf 14 = .ok (.bipush 64, 2) := by decide +kernel
theorem dX1_sumOf_16 : decode cX1_sumOf 16 = .ok (.imul, 1) := by decide +kernel
theorem dX1_sumOf_17 : decode cX1_sumOf 17 = .ok (.istore_n 3, 1) := by decide +kernel
theorem dX1_sumOf_18 : decode cX1_sumOf 18 = .ok (.iload_n 3, 1) := by decide +kernel
theorem dX1_sumOf_19 : decode cX1_sumOf 19 = .ok (.istore 4, 2) := by decide +kernel
theorem dX1_sumOf_21 : decode cX1_sumOf 21 = .ok (.iload 4, 2) := by decide +kernel
theorem dX1_sumOf_23 : decode cX1_sumOf 23 = .ok (.iload_n 3, 1) := by decide +kernel
theorem dX1_sumOf_24 : decode cX1_sumOf 24 = .ok (.bipush 60, 2) := by decide +kernel
theorem dX1_sumOf_26 : decode cX1_sumOf 26 = .ok (.iadd, 1) := by decide +kernel
theorem dX1_sumOf_27 : decode cX1_sumOf 27 = .ok (.if_icmp .ge 39, 3) := by decide +kernel
theorem dX1_sumOf_30 : decode cX1_sumOf 30 = .ok (.iload_n 2, 1) := by decide +kernel
theorem dX1_sumOf_31 : decode cX1_sumOf 31 = .ok (.aload_n 0, 1) := by decide +kernel
theorem dX1_sumOf_32 : decode cX1_sumOf 32 = .ok (.getfield 24, 3) := by decide +kernel
theorem dX1_sumOf_35 : decode cX1_sumOf 35 = .ok (.iload 4, 2) := by decide +kernel
theorem dX1_sumOf_37 : decode cX1_sumOf 37 = .ok (.baload, 1) := by decide +kernel
theorem dX1_sumOf_38 : decode cX1_sumOf 38 = .ok (.sipush 255, 3) := by decide +kernel
theorem dX1_sumOf_41 : decode cX1_sumOf 41 = .ok (.iand, 1) := by decide +kernel
theorem dX1_sumOf_42 : decode cX1_sumOf 42 = .ok (.ixor, 1) := by decide +kernel
theorem dX1_sumOf_43 : decode cX1_sumOf 43 = .ok (.istore 5, 2) := by decide +kernel
theorem dX1_sumOf_45 : decode cX1_sumOf 45 = .ok (.iload 5, 2) := by decide +kernel
theorem dX1_sumOf_47 : decode cX1_sumOf 47 = .ok (.bipush 13, 2) := by decide +kernel
theorem dX1_sumOf_49 : decode cX1_sumOf 49 = .ok (.ishl, 1) := by decide +kernel
theorem dX1_sumOf_50 : decode cX1_sumOf 50 = .ok (.iload 5, 2) := by decide +kernel
theorem dX1_sumOf_52 : decode cX1_sumOf 52 = .ok (.bipush 19, 2) := by decide +kernel
theorem dX1_sumOf_54 : decode cX1_sumOf 54 = .ok (.iushr, 1) := by decide +kernel
theorem dX1_sumOf_55 : decode cX1_sumOf 55 = .ok (.ior, 1) := by decide +kernel
theorem dX1_sumOf_56 : decode cX1_sumOf 56 = .ok (.ldc 44, 2) := by decide +kernel
theorem dX1_sumOf_58 : decode cX1_sumOf 58 = .ok (.imul, 1) := by decide +kernel
theorem dX1_sumOf_59 : decode cX1_sumOf 59 = .ok (.istore_n 2, 1) := by decide +kernel
theorem dX1_sumOf_60 : decode cX1_sumOf 60 = .ok (.iinc 4 1, 3) := by decide +kernel
theorem dX1_sumOf_63 : decode cX1_sumOf 63 = .ok (.goto (-42), 3) := by decide +kernel
theorem dX1_sumOf_66 : decode cX1_sumOf 66 = .ok (.iload_n 2, 1) := by decide +kernel
theorem dX1_sumOf_67 : decode cX1_sumOf 67 = .ok (.ireturn, 1) := by decide +kernel
set_option maxRecDepth 20000 in
theorem ggX1_sumIsRight_X1_numberAt : GoodIn wsX1_sumIsRight wsX1_numberAt := goodIn_r _ [5, 6, 7, 8, 4, 9, 10, 11, 12, 13, 14, 15, 21, 22] (by decide +kernel) (by decide +kernel)
set_option maxRecDepth 20000 in
theorem gX1_sumIsRight_X1_numberAt : GoodIn wsX1_sumIsRight (wsV RX1 35 RX1 yX1_numberAt wsX1_numberAt) := goodIn_app (goodIn_of _ (by decide +kernel)) ggX1_sumIsRight_X1_numberAt
set_option maxRecDepth 20000 in
theorem ggX1_sumIsRight_X1_sumOf : GoodIn wsX1_sumIsRight wsX1_sumOf := goodIn_r _ [19, 10, 20, 11, 12, 13, 4, 14, 15, 21, 22] (by decide +kernel) (by decide +kernel)
set_option maxRecDepth 20000 in
theorem gX1_sumIsRight_X1_sumOf : GoodIn wsX1_sumIsRight (wsV RX1 45 RX1 yX1_sumOf wsX1_sumOf) := goodIn_app (goodIn_of _ (by decide +kernel)) ggX1_sumIsRight_X1_sumOf
theorem dX1_sumIsRight_0 : decode cX1_sumIsRight 0 = .ok (.aload_n 0, 1) := by decide +kernel
theorem dX1_sumIsRight_1 : decode cX1_sumIsRight 1 = .ok (.iload_n 1, 1) := by decide +kernel
theorem dX1_sumIsRight_2 : decode cX1_sumIsRight 2 = .ok (.bipush 60, 2) := by decide +kernel
theorem dX1_sumIsRight_4 : decode cX1_sumIsRight 4 = .ok (.invokevirtual 35, 3) := by decide +kernel
theorem dX1_sumIsRight_7 : decode cX1_sumIsRight 7 = .ok (.aload_n 0, 1) := by decide +kernel
theorem dX1_sumIsRight_8 : decode cX1_sumIsRight 8 = .ok (.iload_n 1, 1) := by decide +kernel
theorem dX1_sumIsRight_9 : decode cX1_sumIsRight 9 = .ok (.invokevirtual 45, 3) := by decide +kernel
theorem dX1_sumIsRight_12 : decode cX1_sumIsRight 12 = .ok (.if_icmp .ne 7, 3) := by decide +kernel
theorem dX1_sumIsRight_15 : decode cX1_sumIsRight 15 = .ok (.iconst 1, 1) := by decide +kernel
theorem dX1_sumIsRight_16 : decode cX1_sumIsRight 16 = .ok (.goto 4, 3) := by decide +kernel
theorem dX1_sumIsRight_19 : decode cX1_sumIsRight 19 = .ok (.iconst 0, 1) := by decide +kernel
theorem dX1_sumIsRight_20 : decode cX1_sumIsRight 20 = .ok (.ireturn, 1) := by decide +kernel
set_option maxRecDepth 20000 in
theorem ggX1_seal_X1_sumOf : GoodIn wsX1_seal wsX1_sumOf := goodIn_r _ [5, 6, 7, 8, 9, 10, 4, 11, 12, 21, 22] (by decide +kernel) (by decide +kernel)
set_option maxRecDepth 20000 in
theorem gX1_seal_X1_sumOf : GoodIn wsX1_seal (wsV RX1 45 RX1 yX1_sumOf wsX1_sumOf) := goodIn_app (goodIn_of _ (by decide +kernel)) ggX1_seal_X1_sumOf
set_option maxRecDepth 20000 in
theorem ggX1_seal_X1_putNumber : GoodIn wsX1_seal wsX1_putNumber := goodIn_r _ [16, 17, 18, 19, 4, 20, 6, 8, 9, 10, 11, 12, 21, 22] (by decide +kernel) (by decide +kernel)
set_option maxRecDepth 20000 in
theorem gX1_seal_X1_putNumber : GoodIn wsX1_seal (wsV RX1 49 RX1 yX1_putNumber wsX1_putNumber) := goodIn_app (goodIn_of _ (by decide +kernel)) ggX1_seal_X1_putNumber
theorem dX1_seal_0 : decode cX1_seal 0 = .ok (.aload_n 0, 1) := by decide +kernel
theorem dX1_seal_1 : decode cX1_seal 1 = .ok (.iload_n 1, 1) := by decide +kernel
theorem dX1_seal_2 : decode cX1_seal 2 = .ok (.bipush 60, 2) := by decide +kernel
theorem dX1_seal_4 : decode cX1_seal 4 = .ok (.aload_n 0, 1) := by decide +kernel
theorem dX1_seal_5 : decode cX1_seal 5 = .ok (.iload_n 1, 1) := by decide +kernel
theorem dX1_seal_6 : decode cX1_seal 6 = .ok (.invokevirtual 45, 3) := by decide +kernel
theorem dX1_seal_9 : decode cX1_seal 9 = .ok (.invokevirtual 49, 3) := by decide +kernel
theorem dX1_seal_12 : decode cX1_seal 12 = .ok (.return_, 1) := by decide +kernel
set_option maxRecDepth 20000 in
theorem ggX1_clearSector_X1_put : GoodIn wsX1_clearSector wsX1_put := goodIn_r _ [5, 6, 7, 8, 9, 4, 10, 11, 12, 13] (by decide +kernel) (by decide +kernel)
set_option maxRecDepth 20000 in
theorem gX1_clearSector_X1_put : GoodIn wsX1_clearSector (wsV RX1 40 RX1 yX1_put wsX1_put) := goodIn_app (goodIn_of _ (by decide +kernel)) ggX1_clearSector_X1_put
theorem dX1_clearSector_0 : decode cX1_clearSector 0 = .ok (.iconst 0, 1) := by decide +kernel
theorem dX1_clearSector_1 : decode cX1_clearSector 1 = .ok (.istore_n 2, 1) := by decide +kernel
theorem dX1_clearSector_2 : decode cX1_clearSector 2 = .ok (.iload_n 2, 1) := by decide +kernel
theorem dX1_clearSector_3 : decode cX1_clearSector 3 = .ok (.bipush 64, 2) := by decide +kernel
theorem dX1_clearSector_5 : decode cX1_clearSector 5 = .ok (.if_icmp .ge 16, 3) := by decide +kernel
theorem dX1_clearSector_8 : decode cX1_clearSector 8 = .ok (.aload_n 0, 1) := by decide +kernel
theorem dX1_clearSector_9 : decode cX1_clearSector 9 = .ok (.iload_n 1, 1) := by decide +kernel
theorem dX1_clearSector_10 : decode cX1_clearSector 10 = .ok (.iload_n 2, 1) := by decide +kernel
theorem dX1_clearSector_11 : decode cX1_clearSector 11 = .ok (.iconst 0, 1) := by decide +kernel
theorem dX1_clearSector_12 : decode cX1_clearSector 12 = .ok (.invokevirtual 40, 3) := by decide +kernel
theorem dX1_clearSector_15 : decode cX1_clearSector 15 = .ok (.iinc 2 1, 3) := by decide +kernel
theorem dX1_clearSector_18 : decode cX1_clearSector 18 = .ok (.goto (-16), 3) := by decide +kernel
theorem dX1_clearSector_21 : decode cX1_clearSector 21 = .ok (.return_, 1) := by decide +kernel
set_option maxRecDepth 20000 in
theorem ggX1_copyPart_X1_holds : GoodIn wsX1_copyPart wsX1_holds := goodIn_r _ [10, 11, 12, 13] (by decide +kernel) (by decide +kernel)
set_option maxRecDepth 20000 in
theorem gX1_copyPart_X1_holds : GoodIn wsX1_copyPart (wsV RX1 28 RX1 yX1_holds wsX1_holds) := goodIn_app (goodIn_of _ (by decide +kernel)) ggX1_copyPart_X1_holds
theorem dX1_copyPart_0 : decode cX1_copyPart 0 = .ok (.iload_n 3, 1) := by decide +kernel
theorem dX1_copyPart_1 : decode cX1_copyPart 1 = .ok (.ifCond .lt 33, 3) := by decide +kernel
theorem dX1_copyPart_4 : decode cX1_copyPart 4 = .ok (.iload_n 3, 1) := by decide +kernel
theorem dX1_copyPart_5 : decode cX1_copyPart 5 = .ok (.iload 4, 2) := by decide +kernel
theorem dX1_copyPart_7 : decode cX1_copyPart 7 = .ok (.if_icmp .ge 27, 3) := by decide +kernel
theorem dX1_copyPart_10 : decode cX1_copyPart 10 = .ok (.aload_n 0, 1) := by decide +kernel
theorem dX1_copyPart_11 : decode cX1_copyPart 11 = .ok (.iload_n 2, 1) := by decide +kernel
theorem dX1_copyPart_12 : decode cX1_copyPart 12 = .ok (.iload 4, 2) := by decide +kernel
theorem dX1_copyPart_14 : decode cX1_copyPart 14 = .ok (.iconst 1, 1) := by decide +kernel
theorem dX1_copyPart_15 : decode cX1_copyPart 15 = .ok (.isub, 1) := by decide +kernel
theorem dX1_copyPart_16 : decode cX1_copyPart 16 = .ok (.invokevirtual 28, 3) := by decide +kernel
theorem dX1_copyPart_19 : decode cX1_copyPart 19 = .ok (.ifCond .eq 15, 3) := by decide +kernel
theorem dX1_copyPart_22 : decode cX1_copyPart 22 = .ok (.aload_n 1, 1) := by decide +kernel
theorem dX1_copyPart_23 : decode cX1_copyPart 23 = .ok (.iload_n 2, 1) := by decide +kernel
theorem dX1_copyPart_24 : decode cX1_copyPart 24 = .ok (.iload 4, 2) := by decide +kernel
theorem dX1_copyPart_26 : decode cX1_copyPart 26 = .ok (.iconst 1, 1) := by decide +kernel
theorem dX1_copyPart_27 : decode cX1_copyPart 27 = .ok (.isub, 1) := by decide +kernel
theorem dX1_copyPart_28 : decode cX1_copyPart 28 = .ok (.invokevirtual 28, 3) := by decide +kernel
theorem dX1_copyPart_31 : decode cX1_copyPart 31 = .ok (.ifCond .ne 4, 3) := by decide +kernel
theorem dX1_copyPart_34 : decode cX1_copyPart 34 = .ok (.return_, 1) := by decide +kernel
theorem dX1_copyPart_35 : decode cX1_copyPart 35 = .ok (.iload_n 2, 1) := by decide +kernel
theorem dX1_copyPart_36 : decode cX1_copyPart 36 = .ok (.bipush 64, 2) := by decide +kernel
theorem dX1_copyPart_38 : decode cX1_copyPart 38 = .ok (.imul, 1) := by decide +kernel
theorem dX1_copyPart_39 : decode cX1_copyPart 39 = .ok (.iload_n 3, 1) := by decide +kernel
theorem dX1_copyPart_40 : decode cX1_copyPart 40 = .ok (.iadd, 1) := by decide +kernel
theorem dX1_copyPart_41 : decode cX1_copyPart 41 = .ok (.istore 5, 2) := by decide +kernel
theorem dX1_copyPart_43 : decode cX1_copyPart 43 = .ok (.aload_n 1, 1) := by decide +kernel
theorem dX1_copyPart_44 : decode cX1_copyPart 44 = .ok (.getfield 24, 3) := by decide +kernel
theorem dX1_copyPart_47 : decode cX1_copyPart 47 = .ok (.iload 5, 2) := by decide +kernel
theorem dX1_copyPart_49 : decode cX1_copyPart 49 = .ok (.aload_n 0, 1) := by decide +kernel
theorem dX1_copyPart_50 : decode cX1_copyPart 50 = .ok (.getfield 24, 3) := by decide +kernel
theorem dX1_copyPart_53 : decode cX1_copyPart 53 = .ok (.iload 5, 2) := by decide +kernel
theorem dX1_copyPart_55 : decode cX1_copyPart 55 = .ok (.iload 4, 2) := by decide +kernel
theorem dX1_copyPart_57 : decode cX1_copyPart 57 = .ok (.iload_n 3, 1) := by decide +kernel
theorem dX1_copyPart_58 : decode cX1_copyPart 58 = .ok (.isub, 1) := by decide +kernel
theorem dX1_copyPart_59 : decode cX1_copyPart 59 = .ok (.invokestatic 52, 3) := by decide +kernel
theorem dX1_copyPart_62 : decode cX1_copyPart 62 = .ok (.return_, 1) := by decide +kernel
set_option maxRecDepth 20000 in
theorem ggX1_copyAll_X1_copyPart : GoodIn wsX1_copyAll wsX1_copyPart := goodIn_r _ [6, 7, 8, 9, 10, 11, 12, 13, 14, 5, 15, 1, 16, 17] (by decide +kernel) (by decide +kernel)
set_option maxRecDepth 20000 in
theorem gX1_copyAll_X1_copyPart : GoodIn wsX1_copyAll (wsV RX1 58 RX1 yX1_copyPart wsX1_copyPart) := goodIn_app (goodIn_of _ (by decide +kernel)) ggX1_copyAll_X1_copyPart
theorem dX1_copyAll_0 : decode cX1_copyAll 0 = .ok (.iconst 0, 1) := by decide +kernel
theorem dX1_copyAll_1 : decode cX1_copyAll 1 = .ok (.istore_n 2, 1) := by decide +kernel
theorem dX1_copyAll_2 : decode cX1_copyAll 2 = .ok (.iload_n 2, 1) := by decide +kernel
theorem dX1_copyAll_3 : decode cX1_copyAll 3 = .ok (.aload_n 0, 1) := by decide +kernel
theorem dX1_copyAll_4 : decode cX1_copyAll 4 = .ok (.getfield 18, 3) := by decide +kernel
theorem dX1_copyAll_7 : decode cX1_copyAll 7 = .ok (.if_icmp .ge 18, 3) := by decide +kernel
theorem dX1_copyAll_10 : decode cX1_copyAll 10 = .ok (.aload_n 0, 1) := by decide +kernel
theorem dX1_copyAll_11 : decode cX1_copyAll 11 = .ok (.aload_n 1, 1) := by decide +kernel
theorem dX1_copyAll_12 : decode cX1_copyAll 12 = .ok (.iload_n 2, 1) := by decide +kernel
theorem dX1_copyAll_13 : decode cX1_copyAll 13 = .ok (.iconst 0, 1) := by decide +kernel
theorem dX1_copyAll_14 : decode cX1_copyAll 14 = .ok (.bipush 64, 2) := by decide +kernel
theorem dX1_copyAll_16 : decode cX1_copyAll 16 = .ok (.invokevirtual 58, 3) := by decide +kernel
theorem dX1_copyAll_19 : decode cX1_copyAll 19 = .ok (.iinc 2 1, 3) := by decide +kernel
theorem dX1_copyAll_22 : decode cX1_copyAll 22 = .ok (.goto (-20), 3) := by decide +kernel
theorem dX1_copyAll_25 : decode cX1_copyAll 25 = .ok (.return_, 1) := by decide +kernel
set_option maxRecDepth 20000 in
theorem ggX1_sameSector_X1_byteAt : GoodIn wsX1_sameSector wsX1_byteAt := goodIn_r _ [5, 6, 7, 8, 9, 4, 10, 11, 12, 13] (by decide +kernel) (by decide +kernel)
set_option maxRecDepth 20000 in
theorem gX1_sameSector_X1_byteAt : GoodIn wsX1_sameSector (wsV RX1 32 RX1 yX1_byteAt wsX1_byteAt) := goodIn_app (goodIn_of _ (by decide +kernel)) ggX1_sameSector_X1_byteAt
theorem dX1_sameSector_0 : decode cX1_sameSector 0 = .ok (.iconst 0, 1) := by decide +kernel
theorem dX1_sameSector_1 : decode cX1_sameSector 1 = .ok (.istore_n 3, 1) := by decide +kernel
theorem dX1_sameSector_2 : decode cX1_sameSector 2 = .ok (.iload_n 3, 1) := by decide +kernel
theorem dX1_sameSector_3 : decode cX1_sameSector 3 = .ok (.bipush 64, 2) := by decide +kernel
theorem dX1_sameSector_5 : decode cX1_sameSector 5 = .ok (.if_icmp .ge 26, 3) := by decide +kernel
theorem dX1_sameSector_8 : decode cX1_sameSector 8 = .ok (.aload_n 0, 1) := by decide +kernel
theorem dX1_sameSector_9 : decode cX1_sameSector 9 = .ok (.iload_n 2, 1) := by decide +kernel
theorem dX1_sameSector_10 : decode cX1_sameSector 10 = .ok (.iload_n 3, 1) := by decide +kernel
theorem dX1_sameSector_11 : decode cX1_sameSector 11 = .ok (.invokevirtual 32, 3) := by decide +kernel
theorem dX1_sameSector_14 : decode cX1_sameSector 14 = .ok (.aload_n 1, 1) := by decide +kernel
theorem dX1_sameSector_15 : decode cX1_sameSector 15 = .ok (.iload_n 2, 1) := by decide +kernel
theorem dX1_sameSector_16 : decode cX1_sameSector 16 = .ok (.iload_n 3, 1) := by decide +kernel
theorem dX1_sameSector_17 : decode cX1_sameSector 17 = .ok (.invokevirtual 32, 3) := by decide +kernel
theorem dX1_sameSector_20 : decode cX1_sameSector 20 = .ok (.if_icmp .eq 5, 3) := by decide +kernel
theorem dX1_sameSector_23 : decode cX1_sameSector 23 = .ok (.iconst 0, 1) := by decide +kernel
theorem dX1_sameSector_24 : decode cX1_sameSector 24 = .ok (.ireturn, 1) := by decide +kernel
theorem dX1_sameSector_25 : decode cX1_sameSector 25 = .ok (.iinc 3 1, 3) := by decide +kernel
theorem dX1_sameSector_28 : decode cX1_sameSector 28 = .ok (.goto (-26), 3) := by decide +kernel
theorem dX1_sameSector_31 : decode cX1_sameSector 31 = .ok (.iconst 1, 1) := by decide +kernel
theorem dX1_sameSector_32 : decode cX1_sameSector 32 = .ok (.ireturn, 1) := by decide +kernel
set_option maxRecDepth 20000 in
theorem ggX2_init_X1_init : GoodIn wsX2_init wsX1_init := goodIn_r _ [27, 28, 2, 3, 29, 5, 6, 7, 30, 9, 10, 31, 22, 32, 45, 46] (by decide +kernel) (by decide +kernel)
set_option maxRecDepth 20000 in
theorem gX2_init_X1_init : GoodIn wsX2_init (wsX1_init) := ggX2_init_X1_init
set_option maxRecDepth 20000 in
theorem ggX2_init_X0_init : GoodIn wsX2_init wsX0_init := goodIn_r _ [35, 36, 2, 3, 37, 5, 6, 7, 38, 9, 10, 39, 40, 41, 42, 43, 22, 44, 63, 64, 65, 66, 67, 68, 69, 70] (by decide +kernel) (by decide +kernel)
set_option maxRecDepth 20000 in
theorem gX2_init_X0_init : GoodIn wsX2_init (wsX0_init) := ggX2_init_X0_init
theorem dX2_init_0 : decode cX2_init 0 = .ok (.aload_n 0, 1) := by decide +kernel
theorem dX2_init_1 : decode cX2_init 1 = .ok (.invokespecial 3, 3) := by decide +kernel
theorem dX2_init_4 : decode cX2_init 4 = .ok (.iconst 3, 1) := by decide +kernel
theorem dX2_init_5 : decode cX2_init 5 = .ok (.bipush 40, 2) := by decide +kernel
theorem dX2_init_7 : decode cX2_init 7 = .ok (.iload_n 1, 1) := by decide +kernel
theorem dX2_init_8 : decode cX2_init 8 = .ok (.invokestatic 9, 3) := by decide +kernel
theorem dX2_init_11 : decode cX2_init 11 = .ok (.invokestatic 15, 3) := by decide +kernel
theorem dX2_init_14 : decode cX2_init 14 = .ok (.istore_n 2, 1) := by decide +kernel
theorem dX2_init_15 : decode cX2_init 15 = .ok (.aload_n 0, 1) := by decide +kernel
theorem dX2_init_16 : decode cX2_init 16 = .ok (.new 18, 3) := by decide +kernel
theorem dX2_init_19 : decode cX2_init 19 = .ok (.dup, 1) := by decide +kernel
theorem dX2_init_20 : decode cX2_init 20 = .ok (.iload_n 2, 1) := by decide +kernel
theorem dX2_init_21 : decode cX2_init 21 = .ok (.invokespecial 20, 3) := by decide +kernel
theorem dX2_init_24 : decode cX2_init 24 = .ok (.putfield 23, 3) := by decide +kernel
theorem dX2_init_27 : decode cX2_init 27 = .ok (.aload_n 0, 1) := by decide +kernel
theorem dX2_init_28 : decode cX2_init 28 = .ok (.new 18, 3) := by decide +kernel
theorem dX2_init_31 : decode cX2_init 31 = .ok (.dup, 1) := by decide +kernel
theorem dX2_init_32 : decode cX2_init 32 = .ok (.iload_n 2, 1) := by decide +kernel
theorem dX2_init_33 : decode cX2_init 33 = .ok (.invokespecial 20, 3) := by decide +kernel
theorem dX2_init_36 : decode cX2_init 36 = .ok (.putfield 27, 3) := by decide +kernel
theorem dX2_init_39 : decode cX2_init 39 = .ok (.aload_n 0, 1) := by decide +kernel
theorem dX2_init_40 : decode cX2_init 40 = .ok (.new 18, 3) := by decide +kernel
theorem dX2_init_43 : decode cX2_init 43 = .ok (.dup, 1) := by decide +kernel
theorem dX2_init_44 : decode cX2_init 44 = .ok (.iload_n 2, 1) := by decide +kernel
theorem dX2_init_45 : decode cX2_init 45 = .ok (.invokespecial 20, 3) := by decide +kernel
theorem dX2_init_48 : decode cX2_init 48 = .ok (.putfield 30, 3) := by decide +kernel
theorem dX2_init_51 : decode cX2_init 51 = .ok (.aload_n 0, 1) := by decide +kernel
theorem dX2_init_52 : decode cX2_init 52 = .ok (.new 18, 3) := by decide +kernel
theorem dX2_init_55 : decode cX2_init 55 = .ok (.dup, 1) := by decide +kernel
theorem dX2_init_56 : decode cX2_init 56 = .ok (.iload_n 2, 1) := by decide +kernel
theorem dX2_init_57 : decode cX2_init 57 = .ok (.invokespecial 20, 3) := by decide +kernel
theorem dX2_init_60 : decode cX2_init 60 = .ok (.putfield 33, 3) := by decide +kernel
theorem dX2_init_63 : decode cX2_init 63 = .ok (.aload_n 0, 1) := by decide +kernel
theorem dX2_init_64 : decode cX2_init 64 = .ok (.new 36, 3) := by decide +kernel
theorem dX2_init_67 : decode cX2_init 67 = .ok (.dup, 1) := by decide +kernel
theorem dX2_init_68 : decode cX2_init 68 = .ok (.iload_n 2, 1) := by decide +kernel
theorem dX2_init_69 : decode cX2_init 69 = .ok (.iconst 2, 1) := by decide +kernel
theorem dX2_init_70 : decode cX2_init 70 = .ok (.isub, 1) := by decide +kernel
theorem dX2_init_71 : decode cX2_init 71 = .ok (.invokespecial 38, 3) := by decide +kernel
theorem dX2_init_74 : decode cX2_init 74 = .ok (.putfield 39, 3) := by decide +kernel
theorem dX2_init_77 : decode cX2_init 77 = .ok (.aload_n 0, 1) := by decide +kernel
theorem dX2_init_78 : decode cX2_init 78 = .ok (.bipush 40, 2) := by decide +kernel
theorem dX2_init_80 : decode cX2_init 80 = .ok (.newarray .byte, 2) := by decide +kernel
theorem dX2_init_82 : decode cX2_init 82 = .ok (.putfield 43, 3) := by decide +kernel
theorem dX2_init_85 : decode cX2_init 85 = .ok (.aload_n 0, 1) := by decide +kernel
theorem dX2_init_86 : decode cX2_init 86 = .ok (.iconst 1, 1) := by decide +kernel
theorem dX2_init_87 : decode cX2_init 87 = .ok (.putfield 47, 3) := by decide +kernel
theorem dX2_init_90 : decode cX2_init 90 = .ok (.return_, 1) := by decide +kernel
theorem dX2_add_0 : decode cX2_add 0 = .ok (.aload_n 0, 1) := by decide +kernel
theorem dX2_add_1 : decode cX2_add 1 = .ok (.getfield 51, 3) := by decide +kernel
theorem dX2_add_4 : decode cX2_add 4 = .ok (.aload_n 0, 1) := by decide +kernel
theorem dX2_add_5 : decode cX2_add 5 = .ok (.getfield 43, 3) := by decide +kernel
theorem dX2_add_8 : decode cX2_add 8 = .ok (.arraylength, 1) := by decide +kernel
theorem dX2_add_9 : decode cX2_add 9 = .ok (.if_icmp .lt 4, 3) := by decide +kernel
theorem dX2_add_12 : decode cX2_add 12 = .ok (.return_, 1) := by decide +kernel
theorem dX2_add_13 : decode cX2_add 13 = .ok (.aload_n 0, 1) := by decide +kernel
theorem dX2_add_14 : decode cX2_add 14 = .ok (.getfield 43, 3) := by decide +kernel
theorem dX2_add_17 : decode cX2_add 17 = .ok (.aload_n 0, 1) := by decide +kernel
theorem dX2_add_18 : decode cX2_add 18 = .ok (.getfield 51, 3) := by decide +kernel
theorem dX2_add_21 : decode cX2_add 21 = .ok (.iload_n 1, 1) := by decide +kernel
theorem dX2_add_22 : decode cX2_add 22 = .ok (.i2b, 1) := by decide +kernel
theorem dX2_add_23 : decode cX2_add 23 = .ok (.bastore, 1) := by decide +kernel
theorem dX2_add_24 : decode cX2_add 24 = .ok (.aload_n 0, 1) := by decide +kernel
theorem dX2_add_25 : decode cX2_add 25 = .ok (.dup, 1) := by decide +kernel
theorem dX2_add_26 : decode cX2_add 26 = .ok (.getfield 51, 3) := by decide +kernel
theorem dX2_add_29 : decode cX2_add 29 = .ok (.iconst 1, 1) := by decide +kernel
theorem dX2_add_30 : decode cX2_add 30 = .ok (.iadd, 1) := by decide +kernel
theorem dX2_add_31 : decode cX2_add 31 = .ok (.putfield 51, 3) := by decide +kernel
theorem dX2_add_34 : decode cX2_add 34 = .ok (.return_, 1) := by decide +kernel
set_option maxRecDepth 20000 in
theorem ggX2_end_X2_needsFreshSector : GoodIn wsX2_end wsX2_needsFreshSector := goodIn_r _ [9, 4, 10, 42, 43, 44, 45, 46, 47, 48, 49, 50, 51, 52, 53, 54, 55, 56, 57] (by decide +kernel) (by decide +kernel)
set_option maxRecDepth 20000 in
theorem gX2_end_X2_needsFreshSector : GoodIn wsX2_end (wsV RX2 55 RX2 yX2_needsFreshSector wsX2_needsFreshSector) := goodIn_app (goodIn_of _ (by decide +kernel)) ggX2_end_X2_needsFreshSector
set_option maxRecDepth 20000 in
theorem ggX2_end_X2_freeSectors : GoodIn wsX2_end wsX2_freeSectors := goodIn_r _ [14, 15, 16, 42, 43, 44, 45, 46, 47, 48, 49, 50, 51, 52, 53, 54, 55, 56, 57, 66, 67] (by decide +kernel) (by decide +kernel)
set_option maxRecDepth 20000 in
theorem gX2_end_X2_freeSectors : GoodIn wsX2_end (wsV RX2 62 RX2 yX2_freeSectors wsX2_freeSectors) := goodIn_app (goodIn_of _ (by decide +kernel)) ggX2_end_X2_freeSectors
set_option maxRecDepth 20000 in
theorem ggX2_end_X2_takeRoom : GoodIn wsX2_end wsX2_takeRoom := goodIn_r _ [20, 4, 10, 42, 43, 44, 45, 46, 47, 48, 49, 50, 51, 52, 53, 54, 55, 56, 57] (by decide +kernel) (by decide +kernel)
set_option maxRecDepth 20000 in
theorem gX2_end_X2_takeRoom : GoodIn wsX2_end (wsV RX2 69 RX2 yX2_takeRoom wsX2_takeRoom) := goodIn_app (goodIn_of _ (by decide +kernel)) ggX2_end_X2_takeRoom
set_option maxRecDepth 20000 in
theorem ggX2_end_X2_shelveCollected : GoodIn wsX2_end wsX2_shelveCollected := goodIn_r _ [24, 3, 2, 25, 26, 27, 28, 29, 30, 31, 32, 33, 34, 35, 36, 37, 38, 39, 40, 41, 42, 43, 44, 45, 46, 47, 48, 49, 50, 51, 52, 53, 54, 55, 56, 57, 58, 59, 60, 61, 62, 63, 64, 65] (by decide +kernel) (by decide +kernel)
set_option maxRecDepth 20000 in
theorem gX2_end_X2_shelveCollected : GoodIn wsX2_end (wsV RX2 73 RX2 yX2_shelveCollected wsX2_shelveCollected) := goodIn_app (goodIn_of _ (by decide +kernel)) ggX2_end_X2_shelveCollected
theorem dX2_end_0 : decode cX2_end 0 = .ok (.aload_n 0, 1) := by decide +kernel
theorem dX2_end_1 : decode cX2_end 1 = .ok (.getfield 47, 3) := by decide +kernel
theorem dX2_end_4 : decode cX2_end 4 = .ok (.ifCond .ne 6, 3) := by decide +kernel
theorem dX2_end_7 : decode cX2_end 7 = .ok (.bipush (-3), 2) := by decide +kernel
theorem dX2_end_9 : decode cX2_end 9 = .ok (.ireturn, 1) := by decide +kernel
theorem dX2_end_10 : decode cX2_end 10 = .ok (.iload_n 1, 1) := by decide +kernel
theorem dX2_end_11 : decode cX2_end 11 = .ok (.ifCond .lt 8, 3) := by decide +kernel
theorem dX2_end_14 : decode cX2_end 14 = .ok (.iload_n 1, 1) := by decide +kernel
theorem dX2_end_15 : decode cX2_end 15 = .ok (.iconst 3, 1) := by decide +kernel
theorem dX2_end_16 : decode cX2_end 16 = .ok (.if_icmp .le 6, 3) := by decide +kernel
theorem dX2_end_19 : decode cX2_end 19 = .ok (.bipush (-2), 2) := by decide +kernel
theorem dX2_end_21 : decode cX2_end 21 = .ok (.ireturn, 1) := by decide +kernel
theorem dX2_end_22 : decode cX2_end 22 = .ok (.iconst 2, 1) := by decide +kernel
theorem dX2_end_23 : decode cX2_end 23 = .ok (.aload_n 0, 1) := by decide +kernel
theorem dX2_end_24 : decode cX2_end 24 = .ok (.getfield 51, 3) := by decide +kernel
theorem dX2_end_27 : decode cX2_end 27 = .ok (.iadd, 1) := by decide +kernel
theorem dX2_end_28 : decode cX2_end 28 = .ok (.istore_n 2, 1) := by decide +kernel
theorem dX2_end_29 : decode cX2_end 29 = .ok (.aload_n 0, 1) := by decide +kernel
theorem dX2_end_30 : decode cX2_end 30 = .ok (.iload_n 2, 1) := by decide +kernel
theorem dX2_end_31 : decode cX2_end 31 = .ok (.invokevirtual 55, 3) := by decide +kernel
theorem dX2_end_34 : decode cX2_end 34 = .ok (.istore_n 3, 1) := by decide +kernel
theorem dX2_end_35 : decode cX2_end 35 = .ok (.aload_n 0, 1) := by decide +kernel
theorem dX2_end_36 : decode cX2_end 36 = .ok (.getfield 39, 3) := by decide +kernel
theorem dX2_end_39 : decode cX2_end 39 = .ok (.getfield 59, 3) := by decide +kernel
theorem dX2_end_42 : decode cX2_end 42 = .ok (.sipush 300, 3) := by decide +kernel
theorem dX2_end_45 : decode cX2_end 45 = .ok (.if_icmp .ge 18, 3) := by decide +kernel
theorem dX2_end_48 : decode cX2_end 48 = .ok (.iload_n 3, 1) := by decide +kernel
theorem dX2_end_49 : decode cX2_end 49 = .ok (.ifCond .eq 17, 3) := by decide +kernel
theorem dX2_end_52 : decode cX2_end 52 = .ok (.aload_n 0, 1) := by decide +kernel
theorem dX2_end_53 : decode cX2_end 53 = .ok (.invokevirtual 62, 3) := by decide +kernel
theorem dX2_end_56 : decode cX2_end 56 = .ok (.aload_n 0, 1) := by decide +kernel
theorem dX2_end_57 : decode cX2_end 57 = .ok (.getfield 66, 3) := by decide +kernel
theorem dX2_end_60 : decode cX2_end 60 = .ok (.if_icmp .gt 6, 3) := by decide +kernel
theorem dX2_end_63 : decode cX2_end 63 = .ok (.bipush (-4), 2) := by decide +kernel
theorem dX2_end_65 : decode cX2_end 65 = .ok (.ireturn, 1) := by decide +kernel
theorem dX2_end_66 : decode cX2_end 66 = .ok (.aload_n 0, 1) := by decide +kernel
theorem dX2_end_67 : decode cX2_end 67 = .ok (.iload_n 2, 1) := by decide +kernel
theorem dX2_end_68 : decode cX2_end 68 = .ok (.iload_n 3, 1) := by decide +kernel
theorem dX2_end_69 : decode cX2_end 69 = .ok (.invokevirtual 69, 3) := by decide +kernel
theorem dX2_end_72 : decode cX2_end 72 = .ok (.aload_n 0, 1) := by decide +kernel
theorem dX2_end_73 : decode cX2_end 73 = .ok (.iload_n 1, 1) := by decide +kernel
theorem dX2_end_74 : decode cX2_end 74 = .ok (.invokevirtual 73, 3) := by decide +kernel
theorem dX2_end_77 : decode cX2_end 77 = .ok (.aload_n 0, 1) := by decide +kernel
theorem dX2_end_78 : decode cX2_end 78 = .ok (.getfield 39, 3) := by decide +kernel
theorem dX2_end_81 : decode cX2_end 81 = .ok (.getfield 59, 3) := by decide +kernel
theorem dX2_end_84 : decode cX2_end 84 = .ok (.iconst 1, 1) := by decide +kernel
theorem dX2_end_85 : decode cX2_end 85 = .ok (.isub, 1) := by decide +kernel
theorem dX2_end_86 : decode cX2_end 86 = .ok (.ireturn, 1) := by decide +kernel
set_option maxRecDepth 20000 in
theorem ggX2_sync_X2_layDownRows : GoodIn wsX2_sync wsX2_layDownRows := goodIn_r _ [10, 11, 4, 12, 13, 14, 9, 15, 16, 3, 17, 18, 19, 20, 21, 2, 22, 23, 24, 25, 26, 27, 28, 29, 30, 31, 32, 33, 34, 35, 36, 37, 38, 39, 40, 41, 42, 43, 44, 45, 46, 47, 48, 49, 50, 51, 52, 53, 54, 55, 56, 57, 58, 59, 60, 61, 62, 63, 64, 65, 66, 67, 68, 69, 70, 71, 72, 73, 74, 75, 76, 77, 78, 79, 80, 81, 95, 96, 97, 98, 99, 100, 101, 102, 103, 104, 105, 106, 107, 108, 109, 110, 111, 112, 113, 114, 115, 116, 117, 118, 119, 120] (by decide +kernel) (by decide +kernel)
set_option maxRecDepth 20000 in
theorem gX2_sync_X2_layDownRows : GoodIn wsX2_sync (wsV RX2 85 RX2 yX2_layDownRows wsX2_layDownRows) := goodIn_app (goodIn_of _ (by decide +kernel)) ggX2_sync_X2_layDownRows
set_option maxRecDepth 20000 in
theorem ggX2_sync_X2_layDownHead : GoodIn wsX2_sync wsX2_layDownHead := goodIn_r _ [85, 2, 21, 3, 86, 87, 9, 88, 22, 23, 24, 25, 26, 27, 28, 29, 30, 31, 32, 33, 34, 35, 36, 37, 38, 39, 40, 59, 60, 61, 62, 63, 16, 64, 65, 66, 67, 68, 69, 70, 71, 72, 73, 74, 75, 76, 77, 78, 79, 80, 81, 95, 96, 97, 98, 99, 100, 101, 102, 103, 104, 105, 106, 107, 108, 109, 110, 119, 120] (by decide +kernel) (by decide +kernel)
set_option maxRecDepth 20000 in
theorem gX2_sync_X2_layDownHead : GoodIn wsX2_sync (wsV RX2 88 RX2 yX2_layDownHead wsX2_layDownHead) := goodIn_app (goodIn_of _ (by decide +kernel)) ggX2_sync_X2_layDownHead
set_option maxRecDepth 20000 in
theorem ggX2_sync_X2_forgetOpenSectors : GoodIn wsX2_sync wsX2_forgetOpenSectors := goodIn_r _ [92, 93, 94, 95, 96, 97, 98, 99, 100, 101, 102, 103, 104, 105, 106, 107, 108, 109, 110] (by decide +kernel) (by decide +kernel)
set_option maxRecDepth 20000 in
theorem gX2_sync_X2_forgetOpenSectors : GoodIn wsX2_sync (wsV RX2 94 RX2 yX2_forgetOpenSectors wsX2_forgetOpenSectors) := goodIn_app (goodIn_of _ (by decide +kernel)) ggX2_sync_X2_forgetOpenSectors
theorem dX2_sync_0 : decode cX2_sync 0 = .ok (.aload_n 0, 1) := by decide +kernel
theorem dX2_sync_1 : decode cX2_sync 1 = .ok (.getfield 47, 3) := by decide +kernel
theorem dX2_sync_4 : decode cX2_sync 4 = .ok (.ifCond .ne 6, 3) := by decide +kernel
theorem dX2_sync_7 : decode cX2_sync 7 = .ok (.bipush (-3), 2) := by decide +kernel
theorem dX2_sync_9 : decode cX2_sync 9 = .ok (.ireturn, 1) := by decide +kernel
theorem dX2_sync_10 : decode cX2_sync 10 = .ok (.aload_n 0, 1) := by decide +kernel
theorem dX2_sync_11 : decode cX2_sync 11 = .ok (.dup, 1) := by decide +kernel
theorem dX2_sync_12 : decode cX2_sync 12 = .ok (.getfield 76, 3) := by decide +kernel
theorem dX2_sync_15 : decode cX2_sync 15 = .ok (.iconst 1, 1) := by decide +kernel
theorem dX2_sync_16 : decode cX2_sync 16 = .ok (.iadd, 1) := by decide +kernel
theorem dX2_sync_17 : decode cX2_sync 17 = .ok (.putfield 76, 3) := by decide +kernel
theorem dX2_sync_20 : decode cX2_sync 20 = .ok (.aload_n 0, 1) := by decide +kernel
theorem dX2_sync_21 : decode cX2_sync 21 = .ok (.iconst 2, 1) := by decide +kernel
theorem dX2_sync_22 : decode cX2_sync 22 = .ok (.aload_n 0, 1) := by decide +kernel
theorem dX2_sync_23 : decode cX2_sync 23 = .ok (.getfield 79, 3) := by decide +kernel
theorem dX2_sync_26 : decode cX2_sync 26 = .ok (.iadd, 1) := by decide +kernel
theorem dX2_sync_27 : decode cX2_sync 27 = .ok (.putfield 82, 3) := by decide +kernel
theorem dX2_sync_30 : decode cX2_sync 30 = .ok (.aload_n 0, 1) := by decide +kernel
theorem dX2_sync_31 : decode cX2_sync 31 = .ok (.invokevirtual 85, 3) := by decide +kernel
theorem dX2_sync_34 : decode cX2_sync 34 = .ok (.istore_n 1, 1) := by decide +kernel
theorem dX2_sync_35 : decode cX2_sync 35 = .ok (.aload_n 0, 1) := by decide +kernel
theorem dX2_sync_36 : decode cX2_sync 36 = .ok (.dup, 1) := by decide +kernel
theorem dX2_sync_37 : decode cX2_sync 37 = .ok (.getfield 79, 3) := by decide +kernel
theorem dX2_sync_40 : decode cX2_sync 40 = .ok (.iload_n 1, 1) := by decide +kernel
theorem dX2_sync_41 : decode cX2_sync 41 = .ok (.iadd, 1) := by decide +kernel
theorem dX2_sync_42 : decode cX2_sync 42 = .ok (.putfield 79, 3) := by decide +kernel
theorem dX2_sync_45 : decode cX2_sync 45 = .ok (.aload_n 0, 1) := by decide +kernel
theorem dX2_sync_46 : decode cX2_sync 46 = .ok (.invokevirtual 88, 3) := by decide +kernel
theorem dX2_sync_49 : decode cX2_sync 49 = .ok (.aload_n 0, 1) := by decide +kernel
theorem dX2_sync_50 : decode cX2_sync 50 = .ok (.iload_n 1, 1) := by decide +kernel
theorem dX2_sync_51 : decode cX2_sync 51 = .ok (.iconst 1, 1) := by decide +kernel
theorem dX2_sync_52 : decode cX2_sync 52 = .ok (.iadd, 1) := by decide +kernel
theorem dX2_sync_53 : decode cX2_sync 53 = .ok (.putfield 91, 3) := by decide +kernel
theorem dX2_sync_56 : decode cX2_sync 56 = .ok (.aload_n 0, 1) := by decide +kernel
theorem dX2_sync_57 : decode cX2_sync 57 = .ok (.invokevirtual 94, 3) := by decide +kernel
theorem dX2_sync_60 : decode cX2_sync 60 = .ok (.aload_n 0, 1) := by decide +kernel
theorem dX2_sync_61 : decode cX2_sync 61 = .ok (.getfield 91, 3) := by decide +kernel
theorem dX2_sync_64 : decode cX2_sync 64 = .ok (.ireturn, 1) := by decide +kernel
set_option maxRecDepth 20000 in
theorem ggX2_cut_X2_sectorOfWrite : GoodIn wsX2_cut wsX2_sectorOfWrite := goodIn_r _ [7, 2, 8, 9, 10, 11, 6, 12, 55, 56, 57, 58, 59, 60, 61, 62, 63, 64, 65, 66, 67, 68, 69, 70] (by decide +kernel) (by decide +kernel)
set_option maxRecDepth 20000 in
theorem gX2_cut_X2_sectorOfWrite : GoodIn wsX2_cut (wsV RX2 97 RX2 yX2_sectorOfWrite wsX2_sectorOfWrite) := goodIn_app (goodIn_of _ (by decide +kernel)) ggX2_cut_X2_sectorOfWrite
set_option maxRecDepth 20000 in
theorem ggX2_cut_X2_breakOff : GoodIn wsX2_cut wsX2_breakOff := goodIn_r _ [16, 17, 18, 19, 20, 21, 22, 23, 24, 25, 26, 27, 28, 29, 30, 31, 32, 33, 34, 55, 56, 57, 58, 59, 60, 61, 62, 63, 64, 65, 66, 67, 68, 69, 70, 71, 72] (by decide +kernel) (by decide +kernel)
set_option maxRecDepth 20000 in
theorem gX2_cut_X2_breakOff : GoodIn wsX2_cut (wsV RX2 101 RX2 yX2_breakOff wsX2_breakOff) := goodIn_app (goodIn_of _ (by decide +kernel)) ggX2_cut_X2_breakOff
set_option maxRecDepth 20000 in
theorem ggX2_cut_X2_goOff : GoodIn wsX2_cut wsX2_goOff := goodIn_r _ [38, 39, 40, 1, 41, 42, 43, 44, 45, 46, 47, 48, 49, 50, 51, 6, 52, 53, 54, 55, 56, 57, 58, 59, 60, 61, 62, 63, 64, 65, 66, 67, 68, 69, 70, 73, 74, 75, 76, 77, 78, 79, 80] (by decide +kernel) (by decide +kernel)
set_option maxRecDepth 20000 in
theorem gX2_cut_X2_goOff : GoodIn wsX2_cut (wsV RX2 105 RX2 yX2_goOff wsX2_goOff) := goodIn_app (goodIn_of _ (by decide +kernel)) ggX2_cut_X2_goOff
theorem dX2_cut_0 : decode cX2_cut 0 = .ok (.aload_n 0, 1) := by decide +kernel
theorem dX2_cut_1 : decode cX2_cut 1 = .ok (.getfield 47, 3) := by decide +kernel
theorem dX2_cut_4 : decode cX2_cut 4 = .ok (.ifCond .eq 10, 3) := by decide +kernel
theorem dX2_cut_7 : decode cX2_cut 7 = .ok (.aload_n 0, 1) := by decide +kernel
theorem dX2_cut_8 : decode cX2_cut 8 = .ok (.getfield 91, 3) := by decide +kernel
theorem dX2_cut_11 : decode cX2_cut 11 = .ok (.ifCond .ne 6, 3) := by decide +kernel
theorem dX2_cut_14 : decode cX2_cut 14 = .ok (.bipush (-3), 2) := by decide +kernel
theorem dX2_cut_16 : decode cX2_cut 16 = .ok (.ireturn, 1) := by decide +kernel
theorem dX2_cut_17 : decode cX2_cut 17 = .ok (.iload_n 1, 1) := by decide +kernel
theorem dX2_cut_18 : decode cX2_cut 18 = .ok (.ifCond .lt 21, 3) := by decide +kernel
theorem dX2_cut_21 : decode cX2_cut 21 = .ok (.iload_n 1, 1) := by decide +kernel
theorem dX2_cut_22 : decode cX2_cut 22 = .ok (.aload_n 0, 1) := by decide +kernel
theorem dX2_cut_23 : decode cX2_cut 23 = .ok (.getfield 91, 3) := by decide +kernel
theorem dX2_cut_26 : decode cX2_cut 26 = .ok (.if_icmp .gt 13, 3) := by decide +kernel
theorem dX2_cut_29 : decode cX2_cut 29 = .ok (.iload_n 2, 1) := by decide +kernel
theorem dX2_cut_30 : decode cX2_cut 30 = .ok (.ifCond .lt 9, 3) := by decide +kernel
theorem dX2_cut_33 : decode cX2_cut 33 = .ok (.iload_n 2, 1) := by decide +kernel
theorem dX2_cut_34 : decode cX2_cut 34 = .ok (.bipush 64, 2) := by decide +kernel
theorem dX2_cut_36 : decode cX2_cut 36 = .ok (.if_icmp .le 6, 3) := by decide +kernel
theorem dX2_cut_39 : decode cX2_cut 39 = .ok (.bipush (-2), 2) := by decide +kernel
theorem dX2_cut_41 : decode cX2_cut 41 = .ok (.ireturn, 1) := by decide +kernel
theorem dX2_cut_42 : decode cX2_cut 42 = .ok (.iload_n 1, 1) := by decide +kernel
theorem dX2_cut_43 : decode cX2_cut 43 = .ok (.istore_n 3, 1) := by decide +kernel
theorem dX2_cut_44 : decode cX2_cut 44 = .ok (.iload_n 3, 1) := by decide +kernel
theorem dX2_cut_45 : decode cX2_cut 45 = .ok (.aload_n 0, 1) := by decide +kernel
theorem dX2_cut_46 : decode cX2_cut 46 = .ok (.getfield 91, 3) := by decide +kernel
theorem dX2_cut_49 : decode cX2_cut 49 = .ok (.if_icmp .ge 28, 3) := by decide +kernel
theorem dX2_cut_52 : decode cX2_cut 52 = .ok (.aload_n 0, 1) := by decide +kernel
theorem dX2_cut_53 : decode cX2_cut 53 = .ok (.aload_n 0, 1) := by decide +kernel
theorem dX2_cut_54 : decode cX2_cut 54 = .ok (.iload_n 3, 1) := by decide +kernel
theorem dX2_cut_55 : decode cX2_cut 55 = .ok (.invokevirtual 97, 3) := by decide +kernel
theorem dX2_cut_58 : decode cX2_cut 58 = .ok (.iload_n 3, 1) := by decide +kernel
theorem dX2_cut_59 : decode cX2_cut 59 = .ok (.iload_n 1, 1) := by decide +kernel
theorem dX2_cut_60 : decode cX2_cut 60 = .ok (.if_icmp .ne 7, 3) := by decide +kernel
theorem dX2_cut_63 : decode cX2_cut 63 = .ok (.iload_n 2, 1) := by decide +kernel
theorem dX2_cut_64 : decode cX2_cut 64 = .ok (.goto 4, 3) := by decide +kernel
theorem dX2_cut_67 : decode cX2_cut 67 = .ok (.iconst 0, 1) := by decide +kernel
theorem dX2_cut_68 : decode cX2_cut 68 = .ok (.invokevirtual 101, 3) := by decide +kernel
theorem dX2_cut_71 : decode cX2_cut 71 = .ok (.iinc 3 1, 3) := by decide +kernel
theorem dX2_cut_74 : decode cX2_cut 74 = .ok (.goto (-30), 3) := by decide +kernel
theorem dX2_cut_77 : decode cX2_cut 77 = .ok (.aload_n 0, 1) := by decide +kernel
theorem dX2_cut_78 : decode cX2_cut 78 = .ok (.invokevirtual 105, 3) := by decide +kernel
theorem dX2_cut_81 : decode cX2_cut 81 = .ok (.iconst 1, 1) := by decide +kernel
theorem dX2_cut_82 : decode cX2_cut 82 = .ok (.ireturn, 1) := by decide +kernel
set_option maxRecDepth 20000 in
theorem ggX2_off_X2_goOff : GoodIn wsX2_off wsX2_goOff := goodIn_r _ [7, 2, 8, 1, 9, 10, 11, 12, 13, 14, 15, 16, 17, 18, 19, 6, 20, 21, 22, 23, 24, 25, 26, 27, 28, 29, 30, 31, 32, 33, 34, 35, 36, 37, 38, 39, 40, 41, 42, 43, 44, 45, 46] (by decide +kernel) (by decide +kernel)
set_option maxRecDepth 20000 in
theorem gX2_off_X2_goOff : GoodIn wsX2_off (wsV RX2 105 RX2 yX2_goOff wsX2_goOff) := goodIn_app (goodIn_of _ (by decide +kernel)) ggX2_off_X2_goOff
theorem dX2_off_0 : decode cX2_off 0 = .ok (.aload_n 0, 1) := by decide +kernel
theorem dX2_off_1 : decode cX2_off 1 = .ok (.getfield 47, 3) := by decide +kernel
theorem dX2_off_4 : decode cX2_off 4 = .ok (.ifCond .ne 6, 3) := by decide +kernel
theorem dX2_off_7 : decode cX2_off 7 = .ok (.bipush (-3), 2) := by decide +kernel
theorem dX2_off_9 : decode cX2_off 9 = .ok (.ireturn, 1) := by decide +kernel
theorem dX2_off_10 : decode cX2_off 10 = .ok (.aload_n 0, 1) := by decide +kernel
theorem dX2_off_11 : decode cX2_off 11 = .ok (.getfield 39, 3) := by decide +kernel
theorem dX2_off_14 : decode cX2_off 14 = .ok (.getfield 59, 3) := by decide +kernel
theorem dX2_off_17 : decode cX2_off 17 = .ok (.aload_n 0, 1) := by decide +kernel
theorem dX2_off_18 : decode cX2_off 18 = .ok (.getfield 39, 3) := by decide +kernel
theorem dX2_off_21 : decode cX2_off 21 = .ok (.getfield 108, 3) := by decide +kernel
theorem dX2_off_24 : decode cX2_off 24 = .ok (.isub, 1) := by decide +kernel
theorem dX2_off_25 : decode cX2_off 25 = .ok (.istore_n 1, 1) := by decide +kernel
theorem dX2_off_26 : decode cX2_off 26 = .ok (.aload_n 0, 1) := by decide +kernel
theorem dX2_off_27 : decode cX2_off 27 = .ok (.invokevirtual 105, 3) := by decide +kernel
theorem dX2_off_30 : decode cX2_off 30 = .ok (.iload_n 1, 1) := by decide +kernel
theorem dX2_off_31 : decode cX2_off 31 = .ok (.ireturn, 1) := by decide +kernel
set_option maxRecDepth 20000 in
theorem ggX2_start_X2_latestRightHead : GoodIn wsX2_start wsX2_latestRightHead := goodIn_r _ [11, 2, 12, 13, 14, 10, 15, 16, 17, 18, 19, 20, 21, 22, 23, 24, 25, 26, 27, 28, 29, 30, 31, 32, 33, 34, 35, 36, 37, 38, 39, 40, 41, 42, 43, 44, 85, 86, 87, 88, 89, 90, 91, 92, 93, 94, 95, 96, 97, 98, 99, 100, 109, 110] (by decide +kernel) (by decide +kernel)
set_option maxRecDepth 20000 in
theorem gX2_start_X2_latestRightHead : GoodIn wsX2_start (wsV RX2 111 RX2 yX2_latestRightHead wsX2_latestRightHead) := goodIn_app (goodIn_of _ (by decide +kernel)) ggX2_start_X2_latestRightHead
set_option maxRecDepth 20000 in
theorem ggX2_start_X1_numberAt : GoodIn wsX2_start wsX1_numberAt := goodIn_r _ [24, 25, 26, 27, 19, 28, 29, 30, 31, 32, 33, 34, 109, 110] (by decide +kernel) (by decide +kernel)
set_option maxRecDepth 20000 in
theorem gX2_start_X1_numberAt : GoodIn wsX2_start (wsV RX2 114 RX1 yX1_numberAt wsX1_numberAt) := goodIn_app (goodIn_of _ (by decide +kernel)) ggX2_start_X1_numberAt
set_option maxRecDepth 20000 in
theorem ggX2_start_X2_readLog : GoodIn wsX2_start wsX2_readLog := goodIn_r _ [49, 6, 50, 4, 51, 52, 53, 54, 55, 56, 57, 58, 59, 60, 61, 10, 62, 2, 63, 64, 65, 66, 67, 26, 27, 19, 28, 29, 30, 31, 32, 33, 34, 16, 17, 18, 20, 21, 22, 23, 24, 25, 35, 36, 37, 38, 39, 68, 69, 70, 71, 72, 73, 74, 75, 76, 77, 78, 79, 80, 81, 82, 83, 84, 85, 86, 87, 88, 89, 90, 91, 92, 93, 94, 95, 96, 97, 98, 99, 100, 101, 102, 103, 104, 105, 106, 107, 108, 109, 110] (by decide +kernel) (by decide +kernel)
set_option maxRecDepth 20000 in
theorem gX2_start_X2_readLog : GoodIn wsX2_start (wsV RX2 117 RX2 yX2_readLog wsX2_readLog) := goodIn_app (goodIn_of _ (by decide +kernel)) ggX2_start_X2_readLog
theorem dX2_start_0 : decode cX2_start 0 = .ok (.aload_n 0, 1) := by decide +kernel
theorem dX2_start_1 : decode cX2_start 1 = .ok (.getfield 47, 3) := by decide +kernel
theorem dX2_start_4 : decode cX2_start 4 = .ok (.ifCond .eq 6, 3) := by decide +kernel
theorem dX2_start_7 : decode cX2_start 7 = .ok (.bipush (-3), 2) := by decide +kernel
theorem dX2_start_9 : decode cX2_start 9 = .ok (.ireturn, 1) := by decide +kernel
theorem dX2_start_10 : decode cX2_start 10 = .ok (.aload_n 0, 1) := by decide +kernel
theorem dX2_start_11 : decode cX2_start 11 = .ok (.invokevirtual 111, 3) := by decide +kernel
theorem dX2_start_14 : decode cX2_start 14 = .ok (.istore_n 1, 1) := by decide +kernel
theorem dX2_start_15 : decode cX2_start 15 = .ok (.iload_n 1, 1) := by decide +kernel
theorem dX2_start_16 : decode cX2_start 16 = .ok (.iconst (-1), 1) := by decide +kernel
theorem dX2_start_17 : decode cX2_start 17 = .ok (.if_icmp .ne 6, 3) := by decide +kernel
theorem dX2_start_20 : decode cX2_start 20 = .ok (.bipush (-3), 2) := by decide +kernel
theorem dX2_start_22 : decode cX2_start 22 = .ok (.ireturn, 1) := by decide +kernel
theorem dX2_start_23 : decode cX2_start 23 = .ok (.aload_n 0, 1) := by decide +kernel
theorem dX2_start_24 : decode cX2_start 24 = .ok (.aload_n 0, 1) := by decide +kernel
theorem dX2_start_25 : decode cX2_start 25 = .ok (.getfield 23, 3) := by decide +kernel
theorem dX2_start_28 : decode cX2_start 28 = .ok (.iload_n 1, 1) := by decide +kernel
theorem dX2_start_29 : decode cX2_start 29 = .ok (.iconst 0, 1) := by decide +kernel
theorem dX2_start_30 : decode cX2_start 30 = .ok (.invokevirtual 114, 3) := by decide +kernel
theorem dX2_start_33 : decode cX2_start 33 = .ok (.putfield 76, 3) := by decide +kernel
theorem dX2_start_36 : decode cX2_start 36 = .ok (.aload_n 0, 1) := by decide +kernel
theorem dX2_start_37 : decode cX2_start 37 = .ok (.aload_n 0, 1) := by decide +kernel
theorem dX2_start_38 : decode cX2_start 38 = .ok (.getfield 23, 3) := by decide +kernel
theorem dX2_start_41 : decode cX2_start 41 = .ok (.iload_n 1, 1) := by decide +kernel
theorem dX2_start_42 : decode cX2_start 42 = .ok (.iconst 4, 1) := by decide +kernel
theorem dX2_start_43 : decode cX2_start 43 = .ok (.invokevirtual 114, 3) := by decide +kernel
theorem dX2_start_46 : decode cX2_start 46 = .ok (.putfield 79, 3) := by decide +kernel
theorem dX2_start_49 : decode cX2_start 49 = .ok (.aload_n 0, 1) := by decide +kernel
theorem dX2_start_50 : decode cX2_start 50 = .ok (.iconst 0, 1) := by decide +kernel
theorem dX2_start_51 : decode cX2_start 51 = .ok (.putfield 91, 3) := by decide +kernel
theorem dX2_start_54 : decode cX2_start 54 = .ok (.aload_n 0, 1) := by decide +kernel
theorem dX2_start_55 : decode cX2_start 55 = .ok (.invokevirtual 117, 3) := by decide +kernel
theorem dX2_start_58 : decode cX2_start 58 = .ok (.aload_n 0, 1) := by decide +kernel
theorem dX2_start_59 : decode cX2_start 59 = .ok (.iconst 1, 1) := by decide +kernel
theorem dX2_start_60 : decode cX2_start 60 = .ok (.putfield 47, 3) := by decide +kernel
theorem dX2_start_63 : decode cX2_start 63 = .ok (.aload_n 0, 1) := by decide +kernel
theorem dX2_start_64 : decode cX2_start 64 = .ok (.getfield 39, 3) := by decide +kernel
theorem dX2_start_67 : decode cX2_start 67 = .ok (.getfield 59, 3) := by decide +kernel
theorem dX2_start_70 : decode cX2_start 70 = .ok (.ireturn, 1) := by decide +kernel
theorem dX2_rows_0 : decode cX2_rows 0 = .ok (.aload_n 0, 1) := by decide +kernel
theorem dX2_rows_1 : decode cX2_rows 1 = .ok (.getfield 39, 3) := by decide +kernel
theorem dX2_rows_4 : decode cX2_rows 4 = .ok (.getfield 59, 3) := by decide +kernel
theorem dX2_rows_7 : decode cX2_rows 7 = .ok (.ireturn, 1) := by decide +kernel
set_option maxRecDepth 20000 in
theorem ggX2_row_X0_holds : GoodIn wsX2_row wsX0_holds := goodIn_r _ [6, 7, 24, 25, 26, 27, 28, 29, 30, 31] (by decide +kernel) (by decide +kernel)
set_option maxRecDepth 20000 in
theorem gX2_row_X0_holds : GoodIn wsX2_row (wsV RX2 120 RX0 yX0_holds wsX0_holds) := goodIn_app (goodIn_of _ (by decide +kernel)) ggX2_row_X0_holds
theorem dX2_row_0 : decode cX2_row 0 = .ok (.aload_n 0, 1) := by decide +kernel
theorem dX2_row_1 : decode cX2_row 1 = .ok (.getfield 39, 3) := by decide +kernel
theorem dX2_row_4 : decode cX2_row 4 = .ok (.iload_n 1, 1) := by decide +kernel
theorem dX2_row_5 : decode cX2_row 5 = .ok (.invokevirtual 120, 3) := by decide +kernel
theorem dX2_row_8 : decode cX2_row 8 = .ok (.ifCond .ne 5, 3) := by decide +kernel
theorem dX2_row_11 : decode cX2_row 11 = .ok (.iconst (-1), 1) := by decide +kernel
theorem dX2_row_12 : decode cX2_row 12 = .ok (.ireturn, 1) := by decide +kernel
theorem dX2_row_13 : decode cX2_row 13 = .ok (.iload_n 2, 1) := by decide +kernel
theorem dX2_row_14 : decode cX2_row 14 = .ok (.tableswitch 56 0 2 #[26, 36, 46], 26) := by decide +kernel
theorem dX2_row_40 : decode cX2_row 40 = .ok (.aload_n 0, 1) := by decide +kernel
theorem dX2_row_41 : decode cX2_row 41 = .ok (.getfield 39, 3) := by decide +kernel
theorem dX2_row_44 : decode cX2_row 44 = .ok (.getfield 123, 3) := by decide +kernel
theorem dX2_row_47 : decode cX2_row 47 = .ok (.iload_n 1, 1) := by decide +kernel
theorem dX2_row_48 : decode cX2_row 48 = .ok (.iaload, 1) := by decide +kernel
theorem dX2_row_49 : decode cX2_row 49 = .ok (.ireturn, 1) := by decide +kernel
theorem dX2_row_50 : decode cX2_row 50 = .ok (.aload_n 0, 1) := by decide +kernel
theorem dX2_row_51 : decode cX2_row 51 = .ok (.getfield 39, 3) := by decide +kernel
theorem dX2_row_54 : decode cX2_row 54 = .ok (.getfield 127, 3) := by decide +kernel
theorem dX2_row_57 : decode cX2_row 57 = .ok (.iload_n 1, 1) := by decide +kernel
theorem dX2_row_58 : decode cX2_row 58 = .ok (.iaload, 1) := by decide +kernel
theorem dX2_row_59 : decode cX2_row 59 = .ok (.ireturn, 1) := by decide +kernel
theorem dX2_row_60 : decode cX2_row 60 = .ok (.aload_n 0, 1) := by decide +kernel
theorem dX2_row_61 : decode cX2_row 61 = .ok (.getfield 39, 3) := by decide +kernel
theorem dX2_row_64 : decode cX2_row 64 = .ok (.getfield 130, 3) := by decide +kernel
theorem dX2_row_67 : decode cX2_row 67 = .ok (.iload_n 1, 1) := by decide +kernel
theorem dX2_row_68 : decode cX2_row 68 = .ok (.iaload, 1) := by decide +kernel
theorem dX2_row_69 : decode cX2_row 69 = .ok (.ireturn, 1) := by decide +kernel
theorem dX2_row_70 : decode cX2_row 70 = .ok (.iconst (-1), 1) := by decide +kernel
theorem dX2_row_71 : decode cX2_row 71 = .ok (.ireturn, 1) := by decide +kernel
set_option maxRecDepth 20000 in
theorem ggX2_at_X0_holds : GoodIn wsX2_at wsX0_holds := goodIn_r _ [9, 10, 35, 36, 37, 38, 39, 40, 41, 42] (by decide +kernel) (by decide +kernel)
set_option maxRecDepth 20000 in
theorem gX2_at_X0_holds : GoodIn wsX2_at (wsV RX2 120 RX0 yX0_holds wsX0_holds) := goodIn_app (goodIn_of _ (by decide +kernel)) ggX2_at_X0_holds
set_option maxRecDepth 20000 in
theorem ggX2_at_X0_byteOf : GoodIn wsX2_at wsX0_byteOf := goodIn_r _ [14, 15, 16, 17, 18, 6, 7, 8, 9, 10, 35, 36, 37, 38, 39, 40, 41, 42] (by decide +kernel) (by decide +kernel)
set_option maxRecDepth 20000 in
theorem gX2_at_X0_byteOf : GoodIn wsX2_at (wsV RX2 140 RX0 yX0_byteOf wsX0_byteOf) := goodIn_app (goodIn_of _ (by decide +kernel)) ggX2_at_X0_byteOf
theorem dX2_at_0 : decode cX2_at 0 = .ok (.aload_n 0, 1) := by decide +kernel
theorem dX2_at_1 : decode cX2_at 1 = .ok (.getfield 39, 3) := by decide +kernel
theorem dX2_at_4 : decode cX2_at 4 = .ok (.iload_n 1, 1) := by decide +kernel
theorem dX2_at_5 : decode cX2_at 5 = .ok (.invokevirtual 120, 3) := by decide +kernel
theorem dX2_at_8 : decode cX2_at 8 = .ok (.ifCond .ne 5, 3) := by decide +kernel
theorem dX2_at_11 : decode cX2_at 11 = .ok (.iconst (-1), 1) := by decide +kernel
theorem dX2_at_12 : decode cX2_at 12 = .ok (.ireturn, 1) := by decide +kernel
theorem dX2_at_13 : decode cX2_at 13 = .ok (.iload_n 2, 1) := by decide +kernel
theorem dX2_at_14 : decode cX2_at 14 = .ok (.ifCond .lt 16, 3) := by decide +kernel
theorem dX2_at_17 : decode cX2_at 17 = .ok (.iload_n 2, 1) := by decide +kernel
theorem dX2_at_18 : decode cX2_at 18 = .ok (.aload_n 0, 1) := by decide +kernel
theorem dX2_at_19 : decode cX2_at 19 = .ok (.getfield 39, 3) := by decide +kernel
theorem dX2_at_22 : decode cX2_at 22 = .ok (.getfield 127, 3) := by decide +kernel
theorem dX2_at_25 : decode cX2_at 25 = .ok (.iload_n 1, 1) := by decide +kernel
theorem dX2_at_26 : decode cX2_at 26 = .ok (.iaload, 1) := by decide +kernel
theorem dX2_at_27 : decode cX2_at 27 = .ok (.if_icmp .lt 13, 3) := by decide +kernel
theorem dX2_at_30 : decode cX2_at 30 = .ok (.new 133, 3) := by decide +kernel
theorem dX2_at_33 : decode cX2_at 33 = .ok (.dup, 1) := by decide +kernel
theorem dX2_at_34 : decode cX2_at 34 = .ok (.ldc 135, 2) := by decide +kernel
theorem dX2_at_36 : decode cX2_at 36 = .ok (.invokespecial 137, 3) := by decide +kernel
theorem dX2_at_39 : decode cX2_at 39 = .ok (.athrow, 1) := by decide +kernel
theorem dX2_at_40 : decode cX2_at 40 = .ok (.aload_n 0, 1) := by decide +kernel
theorem dX2_at_41 : decode cX2_at 41 = .ok (.getfield 39, 3) := by decide +kernel
theorem dX2_at_44 : decode cX2_at 44 = .ok (.iload_n 1, 1) := by decide +kernel
theorem dX2_at_45 : decode cX2_at 45 = .ok (.iload_n 2, 1) := by decide +kernel
theorem dX2_at_46 : decode cX2_at 46 = .ok (.invokevirtual 140, 3) := by decide +kernel
theorem dX2_at_49 : decode cX2_at 49 = .ok (.ireturn, 1) := by decide +kernel
set_option maxRecDepth 20000 in
theorem ggX2_poke_X1_holds : GoodIn wsX2_poke wsX1_holds := goodIn_r _ [6, 7, 34, 35] (by decide +kernel) (by decide +kernel)
set_option maxRecDepth 20000 in
theorem gX2_poke_X1_holds : GoodIn wsX2_poke (wsV RX2 143 RX1 yX1_holds wsX1_holds) := goodIn_app (goodIn_of _ (by decide +kernel)) ggX2_poke_X1_holds
set_option maxRecDepth 20000 in
theorem ggX2_poke_X1_byteAt : GoodIn wsX2_poke wsX1_byteAt := goodIn_r _ [11, 12, 13, 3, 4, 5, 6, 7, 34, 35] (by decide +kernel) (by decide +kernel)
set_option maxRecDepth 20000 in
theorem gX2_poke_X1_byteAt : GoodIn wsX2_poke (wsV RX2 146 RX1 yX1_byteAt wsX1_byteAt) := goodIn_app (goodIn_of _ (by decide +kernel)) ggX2_poke_X1_byteAt
set_option maxRecDepth 20000 in
theorem ggX2_poke_X1_put : GoodIn wsX2_poke wsX1_put := goodIn_r _ [17, 12, 13, 3, 4, 5, 6, 7, 34, 35] (by decide +kernel) (by decide +kernel)
set_option maxRecDepth 20000 in
theorem gX2_poke_X1_put : GoodIn wsX2_poke (wsV RX2 149 RX1 yX1_put wsX1_put) := goodIn_app (goodIn_of _ (by decide +kernel)) ggX2_poke_X1_put
theorem dX2_poke_0 : decode cX2_poke 0 = .ok (.aload_n 0, 1) := by decide +kernel
theorem dX2_poke_1 : decode cX2_poke 1 = .ok (.getfield 23, 3) := by decide +kernel
theorem dX2_poke_4 : decode cX2_poke 4 = .ok (.iload_n 1, 1) := by decide +kernel
theorem dX2_poke_5 : decode cX2_poke 5 = .ok (.iload_n 2, 1) := by decide +kernel
theorem dX2_poke_6 : decode cX2_poke 6 = .ok (.invokevirtual 143, 3) := by decide +kernel
theorem dX2_poke_9 : decode cX2_poke 9 = .ok (.ifCond .ne 5, 3) := by decide +kernel
theorem dX2_poke_12 : decode cX2_poke 12 = .ok (.iconst (-1), 1) := by decide +kernel
theorem dX2_poke_13 : decode cX2_poke 13 = .ok (.ireturn, 1) := by decide +kernel
theorem dX2_poke_14 : decode cX2_poke 14 = .ok (.aload_n 0, 1) := by decide +kernel
theorem dX2_poke_15 : decode cX2_poke 15 = .ok (.getfield 23, 3) := by decide +kernel
theorem dX2_poke_18 : decode cX2_poke 18 = .ok (.iload_n 1, 1) := by decide +kernel
theorem dX2_poke_19 : decode cX2_poke 19 = .ok (.iload_n 2, 1) := by decide +kernel
theorem dX2_poke_20 : decode cX2_poke 20 = .ok (.aload_n 0, 1) := by decide +kernel
theorem dX2_poke_21 : decode cX2_poke 21 = .ok (.getfield 23, 3) := by decide +kernel
theorem dX2_poke_24 : decode cX2_poke 24 = .ok (.iload_n 1, 1) := by decide +kernel
theorem dX2_poke_25 : decode cX2_poke 25 = .ok (.iload_n 2, 1) := by decide +kernel
theorem dX2_poke_26 : decode cX2_poke 26 = .ok (.invokevirtual 146, 3) := by decide +kernel
theorem dX2_poke_29 : decode cX2_poke 29 = .ok (.iload_n 3, 1) := by decide +kernel
theorem dX2_poke_30 : decode cX2_poke 30 = .ok (.ixor, 1) := by decide +kernel
theorem dX2_poke_31 : decode cX2_poke 31 = .ok (.invokevirtual 149, 3) := by decide +kernel
theorem dX2_poke_34 : decode cX2_poke 34 = .ok (.aload_n 0, 1) := by decide +kernel
theorem dX2_poke_35 : decode cX2_poke 35 = .ok (.getfield 23, 3) := by decide +kernel
theorem dX2_poke_38 : decode cX2_poke 38 = .ok (.iload_n 1, 1) := by decide +kernel
theorem dX2_poke_39 : decode cX2_poke 39 = .ok (.iload_n 2, 1) := by decide +kernel
theorem dX2_poke_40 : decode cX2_poke 40 = .ok (.invokevirtual 146, 3) := by decide +kernel
theorem dX2_poke_43 : decode cX2_poke 43 = .ok (.ireturn, 1) := by decide +kernel
set_option maxRecDepth 20000 in
theorem ggX2_peek_X1_byteAt : GoodIn wsX2_peek wsX1_byteAt := goodIn_r _ [6, 7, 8, 9, 10, 5, 11, 12, 29, 30] (by decide +kernel) (by decide +kernel)
set_option maxRecDepth 20000 in
theorem gX2_peek_X1_byteAt : GoodIn wsX2_peek (wsV RX2 146 RX1 yX1_byteAt wsX1_byteAt) := goodIn_app (goodIn_of _ (by decide +kernel)) ggX2_peek_X1_byteAt
theorem dX2_peek_0 : decode cX2_peek 0 = .ok (.aload_n 0, 1) := by decide +kernel
theorem dX2_peek_1 : decode cX2_peek 1 = .ok (.getfield 23, 3) := by decide +kernel
theorem dX2_peek_4 : decode cX2_peek 4 = .ok (.iload_n 1, 1) := by decide +kernel
theorem dX2_peek_5 : decode cX2_peek 5 = .ok (.iload_n 2, 1) := by decide +kernel
theorem dX2_peek_6 : decode cX2_peek 6 = .ok (.invokevirtual 146, 3) := by decide +kernel
theorem dX2_peek_9 : decode cX2_peek 9 = .ok (.ireturn, 1) := by decide +kernel
set_option maxRecDepth 20000 in
theorem ggX2_wrong_X1_sumIsRight : GoodIn wsX2_wrong wsX1_sumIsRight := goodIn_r _ [6, 7, 8, 9, 5, 10, 11, 12, 13, 14, 15, 16, 17, 18, 19, 20, 21, 22, 23, 24, 25, 42, 43] (by decide +kernel) (by decide +kernel)
set_option maxRecDepth 20000 in
theorem gX2_wrong_X1_sumIsRight : GoodIn wsX2_wrong (wsV RX2 154 RX1 yX1_sumIsRight wsX1_sumIsRight) := goodIn_app (goodIn_of _ (by decide +kernel)) ggX2_wrong_X1_sumIsRight
