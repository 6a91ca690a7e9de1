theorem dX3_start_65 : decode cX3_start 65 = .ok (.bipush 64, 2) := by decide +kernel
theorem dX3_start_67 : decode cX3_start 67 = .ok (.iload_n 3, 1) := by decide +kernel
theorem dX3_start_68 : decode cX3_start 68 = .ok (.imul, 1) := by decide +kernel
theorem dX3_start_69 : decode cX3_start 69 = .ok (.invokevirtual 47, 3) := by decide +kernel
theorem dX3_start_72 : decode cX3_start 72 = .ok (.putfield 85, 3) := by decide +kernel
theorem dX3_start_75 : decode cX3_start 75 = .ok (.aload_n 0, 1) := by decide +kernel
theorem dX3_start_76 : decode cX3_start 76 = .ok (.aload_n 0, 1) := by decide +kernel
theorem dX3_start_77 : decode cX3_start 77 = .ok (.bipush 64, 2) := by decide +kernel
theorem dX3_start_79 : decode cX3_start 79 = .ok (.iload_n 3, 1) := by decide +kernel
theorem dX3_start_80 : decode cX3_start 80 = .ok (.imul, 1) := by decide +kernel
theorem dX3_start_81 : decode cX3_start 81 = .ok (.iconst 4, 1) := by decide +kernel
theorem dX3_start_82 : decode cX3_start 82 = .ok (.iadd, 1) := by decide +kernel
theorem dX3_start_83 : decode cX3_start 83 = .ok (.invokevirtual 47, 3) := by decide +kernel
theorem dX3_start_86 : decode cX3_start 86 = .ok (.putfield 78, 3) := by decide +kernel
theorem dX3_start_89 : decode cX3_start 89 = .ok (.aload_n 0, 1) := by decide +kernel
theorem dX3_start_90 : decode cX3_start 90 = .ok (.iconst 0, 1) := by decide +kernel
theorem dX3_start_91 : decode cX3_start 91 = .ok (.putfield 64, 3) := by decide +kernel
theorem dX3_start_94 : decode cX3_start 94 = .ok (.aload_n 0, 1) := by decide +kernel
theorem dX3_start_95 : decode cX3_start 95 = .ok (.iconst 0, 1) := by decide +kernel
theorem dX3_start_96 : decode cX3_start 96 = .ok (.putfield 111, 3) := by decide +kernel
theorem dX3_start_99 : decode cX3_start 99 = .ok (.iconst 2, 1) := by decide +kernel
theorem dX3_start_100 : decode cX3_start 100 = .ok (.istore 4, 2) := by decide +kernel
theorem dX3_start_102 : decode cX3_start 102 = .ok (.iload 4, 2) := by decide +kernel
theorem dX3_start_104 : decode cX3_start 104 = .ok (.iconst 2, 1) := by decide +kernel
theorem dX3_start_105 : decode cX3_start 105 = .ok (.aload_n 0, 1) := by decide +kernel
theorem dX3_start_106 : decode cX3_start 106 = .ok (.getfield 78, 3) := by decide +kernel
theorem dX3_start_109 : decode cX3_start 109 = .ok (.iadd, 1) := by decide +kernel
theorem dX3_start_110 : decode cX3_start 110 = .ok (.if_icmp .ge 32, 3) := by decide +kernel
theorem dX3_start_113 : decode cX3_start 113 = .ok (.aload_n 0, 1) := by decide +kernel
theorem dX3_start_114 : decode cX3_start 114 = .ok (.dup, 1) := by decide +kernel
theorem dX3_start_115 : decode cX3_start 115 = .ok (.getfield 111, 3) := by decide +kernel
theorem dX3_start_118 : decode cX3_start 118 = .ok (.aload_n 0, 1) := by decide +kernel
theorem dX3_start_119 : decode cX3_start 119 = .ok (.iload 4, 2) := by decide +kernel
theorem dX3_start_121 : decode cX3_start 121 = .ok (.invokevirtual 114, 3) := by decide +kernel
theorem dX3_start_124 : decode cX3_start 124 = .ok (.ifCond .eq 7, 3) := by decide +kernel
theorem dX3_start_127 : decode cX3_start 127 = .ok (.iconst 0, 1) := by decide +kernel
theorem dX3_start_128 : decode cX3_start 128 = .ok (.goto 4, 3) := by decide +kernel
theorem dX3_start_131 : decode cX3_start 131 = .ok (.iconst 1, 1) := by decide +kernel
theorem dX3_start_132 : decode cX3_start 132 = .ok (.iadd, 1) := by decide +kernel
theorem dX3_start_133 : decode cX3_start 133 = .ok (.putfield 111, 3) := by decide +kernel
theorem dX3_start_136 : decode cX3_start 136 = .ok (.iinc 4 1, 3) := by decide +kernel
theorem dX3_start_139 : decode cX3_start 139 = .ok (.goto (-37), 3) := by decide +kernel
theorem dX3_start_142 : decode cX3_start 142 = .ok (.aload_n 0, 1) := by decide +kernel
theorem dX3_start_143 : decode cX3_start 143 = .ok (.aload_n 0, 1) := by decide +kernel
theorem dX3_start_144 : decode cX3_start 144 = .ok (.getfield 64, 3) := by decide +kernel
theorem dX3_start_147 : decode cX3_start 147 = .ok (.putfield 61, 3) := by decide +kernel
theorem dX3_start_150 : decode cX3_start 150 = .ok (.aload_n 0, 1) := by decide +kernel
theorem dX3_start_151 : decode cX3_start 151 = .ok (.iconst 0, 1) := by decide +kernel
theorem dX3_start_152 : decode cX3_start 152 = .ok (.putfield 98, 3) := by decide +kernel
theorem dX3_start_155 : decode cX3_start 155 = .ok (.aload_n 0, 1) := by decide +kernel
theorem dX3_start_156 : decode cX3_start 156 = .ok (.iconst 0, 1) := by decide +kernel
theorem dX3_start_157 : decode cX3_start 157 = .ok (.putfield 67, 3) := by decide +kernel
theorem dX3_start_160 : decode cX3_start 160 = .ok (.aload_n 0, 1) := by decide +kernel
theorem dX3_start_161 : decode cX3_start 161 = .ok (.getfield 64, 3) := by decide +kernel
theorem dX3_start_164 : decode cX3_start 164 = .ok (.ireturn, 1) := by decide +kernel
theorem dX3_rows_0 : decode cX3_rows 0 = .ok (.aload_n 0, 1) := by decide +kernel
theorem dX3_rows_1 : decode cX3_rows 1 = .ok (.iconst 0, 1) := by decide +kernel
theorem dX3_rows_2 : decode cX3_rows 2 = .ok (.putfield 43, 3) := by decide +kernel
theorem dX3_rows_5 : decode cX3_rows 5 = .ok (.aload_n 0, 1) := by decide +kernel
theorem dX3_rows_6 : decode cX3_rows 6 = .ok (.getfield 64, 3) := by decide +kernel
theorem dX3_rows_9 : decode cX3_rows 9 = .ok (.ireturn, 1) := by decide +kernel
set_option maxRecDepth 20000 in
theorem ggX3_row_X3_in : GoodIn wsX3_row wsX3_in := goodIn_r _ [9] (by decide +kernel) (by decide +kernel)
set_option maxRecDepth 20000 in
theorem gX3_row_X3_in : GoodIn wsX3_row (va_wsS RX3 71 yX3_in wsX3_in) := goodIn_app (goodIn_of _ (by decide +kernel)) ggX3_row_X3_in
theorem dX3_row_0 : decode cX3_row 0 = .ok (.aload_n 0, 1) := by decide +kernel
theorem dX3_row_1 : decode cX3_row 1 = .ok (.iconst 0, 1) := by decide +kernel
theorem dX3_row_2 : decode cX3_row 2 = .ok (.putfield 43, 3) := by decide +kernel
theorem dX3_row_5 : decode cX3_row 5 = .ok (.iload_n 1, 1) := by decide +kernel
theorem dX3_row_6 : decode cX3_row 6 = .ok (.iconst 0, 1) := by decide +kernel
theorem dX3_row_7 : decode cX3_row 7 = .ok (.aload_n 0, 1) := by decide +kernel
theorem dX3_row_8 : decode cX3_row 8 = .ok (.getfield 64, 3) := by decide +kernel
theorem dX3_row_11 : decode cX3_row 11 = .ok (.iconst 1, 1) := by decide +kernel
theorem dX3_row_12 : decode cX3_row 12 = .ok (.isub, 1) := by decide +kernel
theorem dX3_row_13 : decode cX3_row 13 = .ok (.invokestatic 71, 3) := by decide +kernel
theorem dX3_row_16 : decode cX3_row 16 = .ok (.ifCond .ne 5, 3) := by decide +kernel
theorem dX3_row_19 : decode cX3_row 19 = .ok (.iconst (-1), 1) := by decide +kernel
theorem dX3_row_20 : decode cX3_row 20 = .ok (.ireturn, 1) := by decide +kernel
theorem dX3_row_21 : decode cX3_row 21 = .ok (.iload_n 2, 1) := by decide +kernel
theorem dX3_row_22 : decode cX3_row 22 = .ok (.ifCond .ne 12, 3) := by decide +kernel
theorem dX3_row_25 : decode cX3_row 25 = .ok (.aload_n 0, 1) := by decide +kernel
theorem dX3_row_26 : decode cX3_row 26 = .ok (.getfield 25, 3) := by decide +kernel
theorem dX3_row_29 : decode cX3_row 29 = .ok (.iload_n 1, 1) := by decide +kernel
theorem dX3_row_30 : decode cX3_row 30 = .ok (.iaload, 1) := by decide +kernel
theorem dX3_row_31 : decode cX3_row 31 = .ok (.goto 32, 3) := by decide +kernel
theorem dX3_row_34 : decode cX3_row 34 = .ok (.iload_n 2, 1) := by decide +kernel
theorem dX3_row_35 : decode cX3_row 35 = .ok (.iconst 1, 1) := by decide +kernel
theorem dX3_row_36 : decode cX3_row 36 = .ok (.if_icmp .ne 12, 3) := by decide +kernel
theorem dX3_row_39 : decode cX3_row 39 = .ok (.aload_n 0, 1) := by decide +kernel
theorem dX3_row_40 : decode cX3_row 40 = .ok (.getfield 29, 3) := by decide +kernel
theorem dX3_row_43 : decode cX3_row 43 = .ok (.iload_n 1, 1) := by decide +kernel
theorem dX3_row_44 : decode cX3_row 44 = .ok (.iaload, 1) := by decide +kernel
theorem dX3_row_45 : decode cX3_row 45 = .ok (.goto 18, 3) := by decide +kernel
theorem dX3_row_48 : decode cX3_row 48 = .ok (.iload_n 2, 1) := by decide +kernel
theorem dX3_row_49 : decode cX3_row 49 = .ok (.iconst 2, 1) := by decide +kernel
theorem dX3_row_50 : decode cX3_row 50 = .ok (.if_icmp .ne 12, 3) := by decide +kernel
theorem dX3_row_53 : decode cX3_row 53 = .ok (.aload_n 0, 1) := by decide +kernel
theorem dX3_row_54 : decode cX3_row 54 = .ok (.getfield 32, 3) := by decide +kernel
theorem dX3_row_57 : decode cX3_row 57 = .ok (.iload_n 1, 1) := by decide +kernel
theorem dX3_row_58 : decode cX3_row 58 = .ok (.iaload, 1) := by decide +kernel
theorem dX3_row_59 : decode cX3_row 59 = .ok (.goto 4, 3) := by decide +kernel
theorem dX3_row_62 : decode cX3_row 62 = .ok (.iconst (-1), 1) := by decide +kernel
theorem dX3_row_63 : decode cX3_row 63 = .ok (.ireturn, 1) := by decide +kernel
set_option maxRecDepth 20000 in
theorem ggX3_at_X3_in : GoodIn wsX3_at wsX3_in := goodIn_r _ [8] (by decide +kernel) (by decide +kernel)
set_option maxRecDepth 20000 in
theorem gX3_at_X3_in : GoodIn wsX3_at (va_wsS RX3 71 yX3_in wsX3_in) := goodIn_app (goodIn_of _ (by decide +kernel)) ggX3_at_X3_in
theorem dX3_at_0 : decode cX3_at 0 = .ok (.aload_n 0, 1) := by decide +kernel
theorem dX3_at_1 : decode cX3_at 1 = .ok (.iconst 0, 1) := by decide +kernel
theorem dX3_at_2 : decode cX3_at 2 = .ok (.putfield 43, 3) := by decide +kernel
theorem dX3_at_5 : decode cX3_at 5 = .ok (.iload_n 1, 1) := by decide +kernel
theorem dX3_at_6 : decode cX3_at 6 = .ok (.iconst 0, 1) := by decide +kernel
theorem dX3_at_7 : decode cX3_at 7 = .ok (.aload_n 0, 1) := by decide +kernel
theorem dX3_at_8 : decode cX3_at 8 = .ok (.getfield 64, 3) := by decide +kernel
theorem dX3_at_11 : decode cX3_at 11 = .ok (.iconst 1, 1) := by decide +kernel
theorem dX3_at_12 : decode cX3_at 12 = .ok (.isub, 1) := by decide +kernel
theorem dX3_at_13 : decode cX3_at 13 = .ok (.invokestatic 71, 3) := by decide +kernel
theorem dX3_at_16 : decode cX3_at 16 = .ok (.ifCond .ne 5, 3) := by decide +kernel
theorem dX3_at_19 : decode cX3_at 19 = .ok (.iconst (-1), 1) := by decide +kernel
theorem dX3_at_20 : decode cX3_at 20 = .ok (.ireturn, 1) := by decide +kernel
theorem dX3_at_21 : decode cX3_at 21 = .ok (.aload_n 0, 1) := by decide +kernel
theorem dX3_at_22 : decode cX3_at 22 = .ok (.iload_n 2, 1) := by decide +kernel
theorem dX3_at_23 : decode cX3_at 23 = .ok (.iconst 0, 1) := by decide +kernel
theorem dX3_at_24 : decode cX3_at 24 = .ok (.aload_n 0, 1) := by decide +kernel
theorem dX3_at_25 : decode cX3_at 25 = .ok (.getfield 29, 3) := by decide +kernel
theorem dX3_at_28 : decode cX3_at 28 = .ok (.iload_n 1, 1) := by decide +kernel
theorem dX3_at_29 : decode cX3_at 29 = .ok (.iaload, 1) := by decide +kernel
theorem dX3_at_30 : decode cX3_at 30 = .ok (.iconst 1, 1) := by decide +kernel
theorem dX3_at_31 : decode cX3_at 31 = .ok (.isub, 1) := by decide +kernel
theorem dX3_at_32 : decode cX3_at 32 = .ok (.invokestatic 71, 3) := by decide +kernel
theorem dX3_at_35 : decode cX3_at 35 = .ok (.ifCond .eq 7, 3) := by decide +kernel
theorem dX3_at_38 : decode cX3_at 38 = .ok (.iconst 0, 1) := by decide +kernel
theorem dX3_at_39 : decode cX3_at 39 = .ok (.goto 4, 3) := by decide +kernel
theorem dX3_at_42 : decode cX3_at 42 = .ok (.iconst 1, 1) := by decide +kernel
theorem dX3_at_43 : decode cX3_at 43 = .ok (.putfield 43, 3) := by decide +kernel
theorem dX3_at_46 : decode cX3_at 46 = .ok (.aload_n 0, 1) := by decide +kernel
theorem dX3_at_47 : decode cX3_at 47 = .ok (.getfield 43, 3) := by decide +kernel
theorem dX3_at_50 : decode cX3_at 50 = .ok (.ifCond .le 7, 3) := by decide +kernel
theorem dX3_at_53 : decode cX3_at 53 = .ok (.iconst 0, 1) := by decide +kernel
theorem dX3_at_54 : decode cX3_at 54 = .ok (.goto 18, 3) := by decide +kernel
theorem dX3_at_57 : decode cX3_at 57 = .ok (.aload_n 0, 1) := by decide +kernel
theorem dX3_at_58 : decode cX3_at 58 = .ok (.getfield 36, 3) := by decide +kernel
theorem dX3_at_61 : decode cX3_at 61 = .ok (.bipush 40, 2) := by decide +kernel
theorem dX3_at_63 : decode cX3_at 63 = .ok (.iload_n 1, 1) := by decide +kernel
theorem dX3_at_64 : decode cX3_at 64 = .ok (.imul, 1) := by decide +kernel
theorem dX3_at_65 : decode cX3_at 65 = .ok (.iload_n 2, 1) := by decide +kernel
theorem dX3_at_66 : decode cX3_at 66 = .ok (.iadd, 1) := by decide +kernel
theorem dX3_at_67 : decode cX3_at 67 = .ok (.baload, 1) := by decide +kernel
theorem dX3_at_68 : decode cX3_at 68 = .ok (.sipush 255, 3) := by decide +kernel
theorem dX3_at_71 : decode cX3_at 71 = .ok (.iand, 1) := by decide +kernel
theorem dX3_at_72 : decode cX3_at 72 = .ok (.ireturn, 1) := by decide +kernel
set_option maxRecDepth 20000 in
theorem ggX3_isByte_X3_in : GoodIn wsX3_isByte wsX3_in := goodIn_r _ [5] (by decide +kernel) (by decide +kernel)
set_option maxRecDepth 20000 in
theorem gX3_isByte_X3_in : GoodIn wsX3_isByte (va_wsS RX3 71 yX3_in wsX3_in) := goodIn_app (goodIn_of _ (by decide +kernel)) ggX3_isByte_X3_in
theorem dX3_isByte_0 : decode cX3_isByte 0 = .ok (.iload_n 1, 1) := by decide +kernel
theorem dX3_isByte_1 : decode cX3_isByte 1 = .ok (.iconst 0, 1) := by decide +kernel
theorem dX3_isByte_2 : decode cX3_isByte 2 = .ok (.aload_n 0, 1) := by decide +kernel
theorem dX3_isByte_3 : decode cX3_isByte 3 = .ok (.getfield 39, 3) := by decide +kernel
theorem dX3_isByte_6 : decode cX3_isByte 6 = .ok (.iconst 1, 1) := by decide +kernel
theorem dX3_isByte_7 : decode cX3_isByte 7 = .ok (.isub, 1) := by decide +kernel
theorem dX3_isByte_8 : decode cX3_isByte 8 = .ok (.invokestatic 71, 3) := by decide +kernel
theorem dX3_isByte_11 : decode cX3_isByte 11 = .ok (.ifCond .eq 17, 3) := by decide +kernel
theorem dX3_isByte_14 : decode cX3_isByte 14 = .ok (.iload_n 2, 1) := by decide +kernel
theorem dX3_isByte_15 : decode cX3_isByte 15 = .ok (.iconst 0, 1) := by decide +kernel
theorem dX3_isByte_16 : decode cX3_isByte 16 = .ok (.bipush 63, 2) := by decide +kernel
theorem dX3_isByte_18 : decode cX3_isByte 18 = .ok (.invokestatic 71, 3) := by decide +kernel
theorem dX3_isByte_21 : decode cX3_isByte 21 = .ok (.ifCond .eq 7, 3) := by decide +kernel
theorem dX3_isByte_24 : decode cX3_isByte 24 = .ok (.iconst 1, 1) := by decide +kernel
theorem dX3_isByte_25 : decode cX3_isByte 25 = .ok (.goto 4, 3) := by decide +kernel
theorem dX3_isByte_28 : decode cX3_isByte 28 = .ok (.iconst 0, 1) := by decide +kernel
theorem dX3_isByte_29 : decode cX3_isByte 29 = .ok (.ireturn, 1) := by decide +kernel
set_option maxRecDepth 20000 in
theorem ggX3_poke_X3_isByte : GoodIn wsX3_poke wsX3_isByte := goodIn_r _ [7, 8, 9, 10, 6, 11, 12, 13, 14, 15, 16, 17, 18, 19, 20, 21, 22, 23, 24, 25, 26, 27, 28, 29, 30, 31, 32] (by decide +kernel) (by decide +kernel)
set_option maxRecDepth 20000 in
theorem gX3_poke_X3_isByte : GoodIn wsX3_poke (wsV RX3 117 RX3 yX3_isByte wsX3_isByte) := goodIn_app (goodIn_of _ (by decide +kernel)) ggX3_poke_X3_isByte
theorem dX3_poke_0 : decode cX3_poke 0 = .ok (.aload_n 0, 1) := by decide +kernel
theorem dX3_poke_1 : decode cX3_poke 1 = .ok (.iconst 0, 1) := by decide +kernel
theorem dX3_poke_2 : decode cX3_poke 2 = .ok (.putfield 43, 3) := by decide +kernel
theorem dX3_poke_5 : decode cX3_poke 5 = .ok (.aload_n 0, 1) := by decide +kernel
theorem dX3_poke_6 : decode cX3_poke 6 = .ok (.iload_n 1, 1) := by decide +kernel
theorem dX3_poke_7 : decode cX3_poke 7 = .ok (.iload_n 2, 1) := by decide +kernel
theorem dX3_poke_8 : decode cX3_poke 8 = .ok (.invokevirtual 117, 3) := by decide +kernel
theorem dX3_poke_11 : decode cX3_poke 11 = .ok (.ifCond .ne 5, 3) := by decide +kernel
theorem dX3_poke_14 : decode cX3_poke 14 = .ok (.iconst (-1), 1) := by decide +kernel
theorem dX3_poke_15 : decode cX3_poke 15 = .ok (.ireturn, 1) := by decide +kernel
theorem dX3_poke_16 : decode cX3_poke 16 = .ok (.aload_n 0, 1) := by decide +kernel
theorem dX3_poke_17 : decode cX3_poke 17 = .ok (.getfield 7, 3) := by decide +kernel
theorem dX3_poke_20 : decode cX3_poke 20 = .ok (.bipush 64, 2) := by decide +kernel
theorem dX3_poke_22 : decode cX3_poke 22 = .ok (.iload_n 1, 1) := by decide +kernel
theorem dX3_poke_23 : decode cX3_poke 23 = .ok (.imul, 1) := by decide +kernel
theorem dX3_poke_24 : decode cX3_poke 24 = .ok (.iload_n 2, 1) := by decide +kernel
theorem dX3_poke_25 : decode cX3_poke 25 = .ok (.iadd, 1) := by decide +kernel
theorem dX3_poke_26 : decode cX3_poke 26 = .ok (.dup2, 1) := by decide +kernel
theorem dX3_poke_27 : decode cX3_poke 27 = .ok (.baload, 1) := by decide +kernel
theorem dX3_poke_28 : decode cX3_poke 28 = .ok (.iload_n 3, 1) := by decide +kernel
theorem dX3_poke_29 : decode cX3_poke 29 = .ok (.i2b, 1) := by decide +kernel
theorem dX3_poke_30 : decode cX3_poke 30 = .ok (.ixor, 1) := by decide +kernel
theorem dX3_poke_31 : decode cX3_poke 31 = .ok (.i2b, 1) := by decide +kernel
theorem dX3_poke_32 : decode cX3_poke 32 = .ok (.bastore, 1) := by decide +kernel
theorem dX3_poke_33 : decode cX3_poke 33 = .ok (.aload_n 0, 1) := by decide +kernel
theorem dX3_poke_34 : decode cX3_poke 34 = .ok (.getfield 7, 3) := by decide +kernel
theorem dX3_poke_37 : decode cX3_poke 37 = .ok (.bipush 64, 2) := by decide +kernel
theorem dX3_poke_39 : decode cX3_poke 39 = .ok (.iload_n 1, 1) := by decide +kernel
theorem dX3_poke_40 : decode cX3_poke 40 = .ok (.imul, 1) := by decide +kernel
theorem dX3_poke_41 : decode cX3_poke 41 = .ok (.iload_n 2, 1) := by decide +kernel
theorem dX3_poke_42 : decode cX3_poke 42 = .ok (.iadd, 1) := by decide +kernel
theorem dX3_poke_43 : decode cX3_poke 43 = .ok (.baload, 1) := by decide +kernel
theorem dX3_poke_44 : decode cX3_poke 44 = .ok (.sipush 255, 3) := by decide +kernel
theorem dX3_poke_47 : decode cX3_poke 47 = .ok (.iand, 1) := by decide +kernel
theorem dX3_poke_48 : decode cX3_poke 48 = .ok (.ireturn, 1) := by decide +kernel
set_option maxRecDepth 20000 in
theorem ggX3_peek_X3_isByte : GoodIn wsX3_peek wsX3_isByte := goodIn_r _ [7, 8, 9, 10, 6, 11, 12, 13, 14, 15, 16, 17, 18, 19, 20, 21, 22, 23, 24, 25, 26, 27, 28, 29, 30, 31, 32] (by decide +kernel) (by decide +kernel)
set_option maxRecDepth 20000 in
theorem gX3_peek_X3_isByte : GoodIn wsX3_peek (wsV RX3 117 RX3 yX3_isByte wsX3_isByte) := goodIn_app (goodIn_of _ (by decide +kernel)) ggX3_peek_X3_isByte
theorem dX3_peek_0 : decode cX3_peek 0 = .ok (.aload_n 0, 1) := by decide +kernel
theorem dX3_peek_1 : decode cX3_peek 1 = .ok (.iconst 0, 1) := by decide +kernel
theorem dX3_peek_2 : decode cX3_peek 2 = .ok (.putfield 43, 3) := by decide +kernel
theorem dX3_peek_5 : decode cX3_peek 5 = .ok (.aload_n 0, 1) := by decide +kernel
theorem dX3_peek_6 : decode cX3_peek 6 = .ok (.iload_n 1, 1) := by decide +kernel
theorem dX3_peek_7 : decode cX3_peek 7 = .ok (.iload_n 2, 1) := by decide +kernel
theorem dX3_peek_8 : decode cX3_peek 8 = .ok (.invokevirtual 117, 3) := by decide +kernel
theorem dX3_peek_11 : decode cX3_peek 11 = .ok (.ifCond .eq 21, 3) := by decide +kernel
theorem dX3_peek_14 : decode cX3_peek 14 = .ok (.aload_n 0, 1) := by decide +kernel
theorem dX3_peek_15 : decode cX3_peek 15 = .ok (.getfield 7, 3) := by decide +kernel
theorem dX3_peek_18 : decode cX3_peek 18 = .ok (.bipush 64, 2) := by decide +kernel
theorem dX3_peek_20 : decode cX3_peek 20 = .ok (.iload_n 1, 1) := by decide +kernel
theorem dX3_peek_21 : decode cX3_peek 21 = .ok (.imul, 1) := by decide +kernel
theorem dX3_peek_22 : decode cX3_peek 22 = .ok (.iload_n 2, 1) := by decide +kernel
theorem dX3_peek_23 : decode cX3_peek 23 = .ok (.iadd, 1) := by decide +kernel
theorem dX3_peek_24 : decode cX3_peek 24 = .ok (.baload, 1) := by decide +kernel
theorem dX3_peek_25 : decode cX3_peek 25 = .ok (.sipush 255, 3) := by decide +kernel
theorem dX3_peek_28 : decode cX3_peek 28 = .ok (.iand, 1) := by decide +kernel
theorem dX3_peek_29 : decode cX3_peek 29 = .ok (.goto 4, 3) := by decide +kernel
theorem dX3_peek_32 : decode cX3_peek 32 = .ok (.iconst (-1), 1) := by decide +kernel
theorem dX3_peek_33 : decode cX3_peek 33 = .ok (.ireturn, 1) := by decide +kernel
set_option maxRecDepth 20000 in
theorem ggX3_wrong_X3_isWhole : GoodIn wsX3_wrong wsX3_isWhole := goodIn_r _ [7, 8, 9, 10, 6, 11, 12, 13, 14, 15, 16, 17, 18, 19, 20, 21, 22, 23, 24, 25, 26, 27, 28, 29, 30, 31, 32, 33, 34, 35, 36, 37, 38] (by decide +kernel) (by decide +kernel)
set_option maxRecDepth 20000 in
theorem gX3_wrong_X3_isWhole : GoodIn wsX3_wrong (wsV RX3 104 RX3 yX3_isWhole wsX3_isWhole) := goodIn_app (goodIn_of _ (by decide +kernel)) ggX3_wrong_X3_isWhole
theorem dX3_wrong_0 : decode cX3_wrong 0 = .ok (.aload_n 0, 1) := by decide +kernel
theorem dX3_wrong_1 : decode cX3_wrong 1 = .ok (.iconst 0, 1) := by decide +kernel
theorem dX3_wrong_2 : decode cX3_wrong 2 = .ok (.putfield 43, 3) := by decide +kernel
theorem dX3_wrong_5 : decode cX3_wrong 5 = .ok (.iconst 0, 1) := by decide +kernel
theorem dX3_wrong_6 : decode cX3_wrong 6 = .ok (.istore_n 2, 1) := by decide +kernel
theorem dX3_wrong_7 : decode cX3_wrong 7 = .ok (.iconst 0, 1) := by decide +kernel
theorem dX3_wrong_8 : decode cX3_wrong 8 = .ok (.istore_n 3, 1) := by decide +kernel
theorem dX3_wrong_9 : decode cX3_wrong 9 = .ok (.iload_n 3, 1) := by decide +kernel
theorem dX3_wrong_10 : decode cX3_wrong 10 = .ok (.aload_n 0, 1) := by decide +kernel
theorem dX3_wrong_11 : decode cX3_wrong 11 = .ok (.getfield 39, 3) := by decide +kernel
theorem dX3_wrong_14 : decode cX3_wrong 14 = .ok (.if_icmp .ge 30, 3) := by decide +kernel
theorem dX3_wrong_17 : decode cX3_wrong 17 = .ok (.aload_n 0, 1) := by decide +kernel
theorem dX3_wrong_18 : decode cX3_wrong 18 = .ok (.iload_n 3, 1) := by decide +kernel
theorem dX3_wrong_19 : decode cX3_wrong 19 = .ok (.invokevirtual 104, 3) := by decide +kernel
theorem dX3_wrong_22 : decode cX3_wrong 22 = .ok (.ifCond .eq 6, 3) := by decide +kernel
theorem dX3_wrong_25 : decode cX3_wrong 25 = .ok (.goto 13, 3) := by decide +kernel
theorem dX3_wrong_28 : decode cX3_wrong 28 = .ok (.iload_n 2, 1) := by decide +kernel
theorem dX3_wrong_29 : decode cX3_wrong 29 = .ok (.iload_n 1, 1) := by decide +kernel
theorem dX3_wrong_30 : decode cX3_wrong 30 = .ok (.if_icmp .ne 5, 3) := by decide +kernel
theorem dX3_wrong_33 : decode cX3_wrong 33 = .ok (.iload_n 3, 1) := by decide +kernel
theorem dX3_wrong_34 : decode cX3_wrong 34 = .ok (.ireturn, 1) := by decide +kernel
theorem dX3_wrong_35 : decode cX3_wrong 35 = .ok (.iinc 2 1, 3) := by decide +kernel
theorem dX3_wrong_38 : decode cX3_wrong 38 = .ok (.iinc 3 1, 3) := by decide +kernel
theorem dX3_wrong_41 : decode cX3_wrong 41 = .ok (.goto (-32), 3) := by decide +kernel
theorem dX3_wrong_44 : decode cX3_wrong 44 = .ok (.iconst (-1), 1) := by decide +kernel
theorem dX3_wrong_45 : decode cX3_wrong 45 = .ok (.ireturn, 1) := by decide +kernel
theorem dX3_bad_0 : decode cX3_bad 0 = .ok (.aload_n 0, 1) := by decide +kernel
theorem dX3_bad_1 : decode cX3_bad 1 = .ok (.iconst 0, 1) := by decide +kernel
theorem dX3_bad_2 : decode cX3_bad 2 = .ok (.putfield 43, 3) := by decide +kernel
theorem dX3_bad_5 : decode cX3_bad 5 = .ok (.aload_n 0, 1) := by decide +kernel
theorem dX3_bad_6 : decode cX3_bad 6 = .ok (.getfield 111, 3) := by decide +kernel
theorem dX3_bad_9 : decode cX3_bad 9 = .ok (.ireturn, 1) := by decide +kernel
theorem dX3_backup_0 : decode cX3_backup 0 = .ok (.aload_n 0, 1) := by decide +kernel
theorem dX3_backup_1 : decode cX3_backup 1 = .ok (.iconst 0, 1) := by decide +kernel
theorem dX3_backup_2 : decode cX3_backup 2 = .ok (.putfield 43, 3) := by decide +kernel
theorem dX3_backup_5 : decode cX3_backup 5 = .ok (.aload_n 0, 1) := by decide +kernel
theorem dX3_backup_6 : decode cX3_backup 6 = .ok (.getfield 67, 3) := by decide +kernel
theorem dX3_backup_9 : decode cX3_backup 9 = .ok (.ifCond .eq 6, 3) := by decide +kernel
theorem dX3_backup_12 : decode cX3_backup 12 = .ok (.bipush (-3), 2) := by decide +kernel
theorem dX3_backup_14 : decode cX3_backup 14 = .ok (.ireturn, 1) := by decide +kernel
theorem dX3_backup_15 : decode cX3_backup 15 = .ok (.iconst 0, 1) := by decide +kernel
theorem dX3_backup_16 : decode cX3_backup 16 = .ok (.istore_n 1, 1) := by decide +kernel
theorem dX3_backup_17 : decode cX3_backup 17 = .ok (.iload_n 1, 1) := by decide +kernel
theorem dX3_backup_18 : decode cX3_backup 18 = .ok (.bipush 64, 2) := by decide +kernel
theorem dX3_backup_20 : decode cX3_backup 20 = .ok (.aload_n 0, 1) := by decide +kernel
theorem dX3_backup_21 : decode cX3_backup 21 = .ok (.getfield 39, 3) := by decide +kernel
theorem dX3_backup_24 : decode cX3_backup 24 = .ok (.imul, 1) := by decide +kernel
theorem dX3_backup_25 : decode cX3_backup 25 = .ok (.if_icmp .ge 21, 3) := by decide +kernel
theorem dX3_backup_28 : decode cX3_backup 28 = .ok (.aload_n 0, 1) := by decide +kernel
theorem dX3_backup_29 : decode cX3_backup 29 = .ok (.getfield 19, 3) := by decide +kernel
theorem dX3_backup_32 : decode cX3_backup 32 = .ok (.iload_n 1, 1) := by decide +kernel
theorem dX3_backup_33 : decode cX3_backup 33 = .ok (.aload_n 0, 1) := by decide +kernel
theorem dX3_backup_34 : decode cX3_backup 34 = .ok (.getfield 7, 3) := by decide +kernel
theorem dX3_backup_37 : decode cX3_backup 37 = .ok (.iload_n 1, 1) := by decide +kernel
theorem dX3_backup_38 : decode cX3_backup 38 = .ok (.baload, 1) := by decide +kernel
theorem dX3_backup_39 : decode cX3_backup 39 = .ok (.bastore, 1) := by decide +kernel
theorem dX3_backup_40 : decode cX3_backup 40 = .ok (.iinc 1 1, 3) := by decide +kernel
theorem dX3_backup_43 : decode cX3_backup 43 = .ok (.goto (-26), 3) := by decide +kernel
theorem dX3_backup_46 : decode cX3_backup 46 = .ok (.aload_n 0, 1) := by decide +kernel
theorem dX3_backup_47 : decode cX3_backup 47 = .ok (.iconst 1, 1) := by decide +kernel
theorem dX3_backup_48 : decode cX3_backup 48 = .ok (.putfield 121, 3) := by decide +kernel
theorem dX3_backup_51 : decode cX3_backup 51 = .ok (.aload_n 0, 1) := by decide +kernel
theorem dX3_backup_52 : decode cX3_backup 52 = .ok (.getfield 85, 3) := by decide +kernel
theorem dX3_backup_55 : decode cX3_backup 55 = .ok (.ireturn, 1) := by decide +kernel
theorem dX3_restore_0 : decode cX3_restore 0 = .ok (.aload_n 0, 1) := by decide +kernel
theorem dX3_restore_1 : decode cX3_restore 1 = .ok (.iconst 0, 1) := by decide +kernel
theorem dX3_restore_2 : decode cX3_restore 2 = .ok (.putfield 43, 3) := by decide +kernel
theorem dX3_restore_5 : decode cX3_restore 5 = .ok (.aload_n 0, 1) := by decide +kernel
theorem dX3_restore_6 : decode cX3_restore 6 = .ok (.getfield 67, 3) := by decide +kernel
theorem dX3_restore_9 : decode cX3_restore 9 = .ok (.ifCond .eq 10, 3) := by decide +kernel
theorem dX3_restore_12 : decode cX3_restore 12 = .ok (.aload_n 0, 1) := by decide +kernel
theorem dX3_restore_13 : decode cX3_restore 13 = .ok (.getfield 121, 3) := by decide +kernel
theorem dX3_restore_16 : decode cX3_restore 16 = .ok (.ifCond .ne 6, 3) := by decide +kernel
theorem dX3_restore_19 : decode cX3_restore 19 = .ok (.bipush (-3), 2) := by decide +kernel
theorem dX3_restore_21 : decode cX3_restore 21 = .ok (.ireturn, 1) := by decide +kernel
theorem dX3_restore_22 : decode cX3_restore 22 = .ok (.iconst 0, 1) := by decide +kernel
theorem dX3_restore_23 : decode cX3_restore 23 = .ok (.istore_n 1, 1) := by decide +kernel
theorem dX3_restore_24 : decode cX3_restore 24 = .ok (.iload_n 1, 1) := by decide +kernel
theorem dX3_restore_25 : decode cX3_restore 25 = .ok (.bipush 64, 2) := by decide +kernel
theorem dX3_restore_27 : decode cX3_restore 27 = .ok (.aload_n 0, 1) := by decide +kernel
theorem dX3_restore_28 : decode cX3_restore 28 = .ok (.getfield 39, 3) := by decide +kernel
theorem dX3_restore_31 : decode cX3_restore 31 = .ok (.imul, 1) := by decide +kernel
theorem dX3_restore_32 : decode cX3_restore 32 = .ok (.if_icmp .ge 21, 3) := by decide +kernel
theorem dX3_restore_35 : decode cX3_restore 35 = .ok (.aload_n 0, 1) := by decide +kernel
theorem dX3_restore_36 : decode cX3_restore 36 = .ok (.getfield 7, 3) := by decide +kernel
theorem dX3_restore_39 : decode cX3_restore 39 = .ok (.iload_n 1, 1) := by decide +kernel
theorem dX3_restore_40 : decode cX3_restore 40 = .ok (.aload_n 0, 1) := by decide +kernel
theorem dX3_restore_41 : decode cX3_restore 41 = .ok (.getfield 19, 3) := by decide +kernel
theorem dX3_restore_44 : decode cX3_restore 44 = .ok (.iload_n 1, 1) := by decide +kernel
theorem dX3_restore_45 : decode cX3_restore 45 = .ok (.baload, 1) := by decide +kernel
theorem dX3_restore_46 : decode cX3_restore 46 = .ok (.bastore, 1) := by decide +kernel
theorem dX3_restore_47 : decode cX3_restore 47 = .ok (.iinc 1 1, 3) := by decide +kernel
theorem dX3_restore_50 : decode cX3_restore 50 = .ok (.goto (-26), 3) := by decide +kernel
theorem dX3_restore_53 : decode cX3_restore 53 = .ok (.iconst 1, 1) := by decide +kernel
theorem dX3_restore_54 : decode cX3_restore 54 = .ok (.ireturn, 1) := by decide +kernel
theorem dX3_differ_0 : decode cX3_differ 0 = .ok (.aload_n 0, 1) := by decide +kernel
theorem dX3_differ_1 : decode cX3_differ 1 = .ok (.iconst 0, 1) := by decide +kernel
theorem dX3_differ_2 : decode cX3_differ 2 = .ok (.putfield 43, 3) := by decide +kernel
theorem dX3_differ_5 : decode cX3_differ 5 = .ok (.aload_n 0, 1) := by decide +kernel
theorem dX3_differ_6 : decode cX3_differ 6 = .ok (.getfield 121, 3) := by decide +kernel
theorem dX3_differ_9 : decode cX3_differ 9 = .ok (.ifCond .ne 5, 3) := by decide +kernel
theorem dX3_differ_12 : decode cX3_differ 12 = .ok (.iconst (-1), 1) := by decide +kernel
theorem dX3_differ_13 : decode cX3_differ 13 = .ok (.ireturn, 1) := by decide +kernel
theorem dX3_differ_14 : decode cX3_differ 14 = .ok (.iconst 0, 1) := by decide +kernel
theorem dX3_differ_15 : decode cX3_differ 15 = .ok (.istore_n 1, 1) := by decide +kernel
theorem dX3_differ_16 : decode cX3_differ 16 = .ok (.iconst 0, 1) := by decide +kernel
theorem dX3_differ_17 : decode cX3_differ 17 = .ok (.istore_n 2, 1) := by decide +kernel
theorem dX3_differ_18 : decode cX3_differ 18 = .ok (.iload_n 2, 1) := by decide +kernel
theorem dX3_differ_19 : decode cX3_differ 19 = .ok (.aload_n 0, 1) := by decide +kernel
theorem dX3_differ_20 : decode cX3_differ 20 = .ok (.getfield 39, 3) := by decide +kernel
theorem dX3_differ_23 : decode cX3_differ 23 = .ok (.if_icmp .ge 74, 3) := by decide +kernel
theorem dX3_differ_26 : decode cX3_differ 26 = .ok (.iconst 0, 1) := by decide +kernel
theorem dX3_differ_27 : decode cX3_differ 27 = .ok (.istore_n 3, 1) := by decide +kernel
theorem dX3_differ_28 : decode cX3_differ 28 = .ok (.bipush 64, 2) := by decide +kernel
theorem dX3_differ_30 : decode cX3_differ 30 = .ok (.iload_n 2, 1) := by decide +kernel
theorem dX3_differ_31 : decode cX3_differ 31 = .ok (.imul, 1) := by decide +kernel
theorem dX3_differ_32 : decode cX3_differ 32 = .ok (.istore 4, 2) := by decide +kernel
theorem dX3_differ_34 : decode cX3_differ 34 = .ok (.iload 4, 2) := by decide +kernel
theorem dX3_differ_36 : decode cX3_differ 36 = .ok (.bipush 64, 2) := by decide +kernel
theorem dX3_differ_38 : decode cX3_differ 38 = .ok (.iload_n 2, 1) := by decide +kernel
theorem dX3_differ_39 : decode cX3_differ 39 = .ok (.imul, 1) := by decide +kernel
theorem dX3_differ_40 : decode cX3_differ 40 = .ok (.bipush 64, 2) := by decide +kernel
theorem dX3_differ_42 : decode cX3_differ 42 = .ok (.iadd, 1) := by decide +kernel
theorem dX3_differ_43 : decode cX3_differ 43 = .ok (.if_icmp .ge 36, 3) := by decide +kernel
theorem dX3_differ_46 : decode cX3_differ 46 = .ok (.iload_n 3, 1) := by decide +kernel
theorem dX3_differ_47 : decode cX3_differ 47 = .ok (.ifCond .ne 20, 3) := by decide +kernel
theorem dX3_differ_50 : decode cX3_differ 50 = .ok (.aload_n 0, 1) := by decide +kernel
theorem dX3_differ_51 : decode cX3_differ 51 = .ok (.getfield 7, 3) := by decide +kernel
theorem dX3_differ_54 : decode cX3_differ 54 = .ok (.iload 4, 2) := by decide +kernel
theorem dX3_differ_56 : decode cX3_differ 56 = .ok (.baload, 1) := by decide +kernel
theorem dX3_differ_57 : decode cX3_differ 57 = .ok (.aload_n 0, 1) := by decide +kernel
theorem dX3_differ_58 : decode cX3_differ 58 = .ok (.getfield 19, 3) := by decide +kernel
theorem dX3_differ_61 : decode cX3_differ 61 = .ok (.iload 4, 2) := by decide +kernel
theorem dX3_differ_63 : decode cX3_differ 63 = .ok (.baload, 1) := by decide +kernel
theorem dX3_differ_64 : decode cX3_differ 64 = .ok (.if_icmp .eq 7, 3) := by decide +kernel
theorem dX3_differ_67 : decode cX3_differ 67 = .ok (.iconst 1, 1) := by decide +kernel
theorem dX3_differ_68 : decode cX3_differ 68 = .ok (.goto 4, 3) := by decide +kernel
theorem dX3_differ_71 : decode cX3_differ 71 = .ok (.iconst 0, 1) := by decide +kernel
theorem dX3_differ_72 : decode cX3_differ 72 = .ok (.istore_n 3, 1) := by decide +kernel
theorem dX3_differ_73 : decode cX3_differ 73 = .ok (.iinc 4 1, 3) := by decide +kernel
theorem dX3_differ_76 : decode cX3_differ 76 = .ok (.goto (-42), 3) := by decide +kernel
theorem dX3_differ_79 : decode cX3_differ 79 = .ok (.iload_n 1, 1) := by decide +kernel
theorem dX3_differ_80 : decode cX3_differ 80 = .ok (.iload_n 3, 1) := by decide +kernel
theorem dX3_differ_81 : decode cX3_differ 81 = .ok (.ifCond .eq 7, 3) := by decide +kernel
theorem dX3_differ_84 : decode cX3_differ 84 = .ok (.iconst 1, 1) := by decide +kernel
theorem dX3_differ_85 : decode cX3_differ 85 = .ok (.goto 4, 3) := by decide +kernel
theorem dX3_differ_88 : decode cX3_differ 88 = .ok (.iconst 0, 1) := by decide +kernel
theorem dX3_differ_89 : decode cX3_differ 89 = .ok (.iadd, 1) := by decide +kernel
theorem dX3_differ_90 : decode cX3_differ 90 = .ok (.istore_n 1, 1) := by decide +kernel
theorem dX3_differ_91 : decode cX3_differ 91 = .ok (.iinc 2 1, 3) := by decide +kernel
theorem dX3_differ_94 : decode cX3_differ 94 = .ok (.goto (-76), 3) := by decide +kernel
theorem dX3_differ_97 : decode cX3_differ 97 = .ok (.iload_n 1, 1) := by decide +kernel
theorem dX3_differ_98 : decode cX3_differ 98 = .ok (.ireturn, 1) := by decide +kernel
theorem dX3_state_0 : decode cX3_state 0 = .ok (.aload_n 0, 1) := by decide +kernel
theorem dX3_state_1 : decode cX3_state 1 = .ok (.iconst 0, 1) := by decide +kernel
theorem dX3_state_2 : decode cX3_state 2 = .ok (.putfield 43, 3) := by decide +kernel
theorem dX3_state_5 : decode cX3_state 5 = .ok (.iload_n 1, 1) := by decide +kernel
theorem dX3_state_6 : decode cX3_state 6 = .ok (.tableswitch 58 0 3 #[30, 35, 40, 53], 30) := by decide +kernel
theorem dX3_state_36 : decode cX3_state 36 = .ok (.aload_n 0, 1) := by decide +kernel
theorem dX3_state_37 : decode cX3_state 37 = .ok (.getfield 85, 3) := by decide +kernel
theorem dX3_state_40 : decode cX3_state 40 = .ok (.ireturn, 1) := by decide +kernel
theorem dX3_state_41 : decode cX3_state 41 = .ok (.aload_n 0, 1) := by decide +kernel
theorem dX3_state_42 : decode cX3_state 42 = .ok (.getfield 78, 3) := by decide +kernel
theorem dX3_state_45 : decode cX3_state 45 = .ok (.ireturn, 1) := by decide +kernel
theorem dX3_state_46 : decode cX3_state 46 = .ok (.aload_n 0, 1) := by decide +kernel
theorem dX3_state_47 : decode cX3_state 47 = .ok (.getfield 67, 3) := by decide +kernel
theorem dX3_state_50 : decode cX3_state 50 = .ok (.ifCond .eq 7, 3) := by decide +kernel
theorem dX3_state_53 : decode cX3_state 53 = .ok (.iconst 0, 1) := by decide +kernel
theorem dX3_state_54 : decode cX3_state 54 = .ok (.goto 4, 3) := by decide +kernel
theorem dX3_state_57 : decode cX3_state 57 = .ok (.iconst 1, 1) := by decide +kernel
theorem dX3_state_58 : decode cX3_state 58 = .ok (.ireturn, 1) := by decide +kernel
theorem dX3_state_59 : decode cX3_state 59 = .ok (.aload_n 0, 1) := by decide +kernel
theorem dX3_state_60 : decode cX3_state 60 = .ok (.getfield 39, 3) := by decide +kernel
theorem dX3_state_63 : decode cX3_state 63 = .ok (.ireturn, 1) := by decide +kernel
theorem dX3_state_64 : decode cX3_state 64 = .ok (.iconst (-1), 1) := by decide +kernel
theorem dX3_state_65 : decode cX3_state 65 = .ok (.ireturn, 1) := by decide +kernel
theorem dJx00060_init_a7421_0 : decode cJx00060_init_a7421 0 = .ok (.aload_n 0, 1) := by decide +kernel
theorem dJx00060_init_a7421_1 : decode cJx00060_init_a7421 1 = .ok (.aload_n 1, 1) := by decide +kernel
theorem dJx00060_init_a7421_2 : decode cJx00060_init_a7421 2 = .ok (.invokespecial 7, 3) := by decide +kernel
theorem dJx00060_init_a7421_5 : decode cJx00060_init_a7421 5 = .ok (.return_, 1) := by decide +kernel
theorem dJ9_max_7cf53_0 : decode cJ9_max_7cf53 0 = .ok (.iload_n 0, 1) := by decide +kernel
theorem dJ9_max_7cf53_1 : decode cJ9_max_7cf53 1 = .ok (.iload_n 1, 1) := by decide +kernel
theorem dJ9_max_7cf53_2 : decode cJ9_max_7cf53 2 = .ok (.if_icmp .lt 7, 3) := by decide +kernel
theorem dJ9_max_7cf53_5 : decode cJ9_max_7cf53 5 = .ok (.iload_n 0, 1) := by decide +kernel
theorem dJ9_max_7cf53_6 : decode cJ9_max_7cf53 6 = .ok (.goto 4, 3) := by decide +kernel
theorem dJ9_max_7cf53_9 : decode cJ9_max_7cf53 9 = .ok (.iload_n 1, 1) := by decide +kernel
theorem dJ9_max_7cf53_10 : decode cJ9_max_7cf53 10 = .ok (.ireturn, 1) := by decide +kernel
theorem dJ9_min_7cf53_0 : decode cJ9_min_7cf53 0 = .ok (.iload_n 0, 1) := by decide +kernel
theorem dJ9_min_7cf53_1 : decode cJ9_min_7cf53 1 = .ok (.iload_n 1, 1) := by decide +kernel
theorem dJ9_min_7cf53_2 : decode cJ9_min_7cf53 2 = .ok (.if_icmp .gt 7, 3) := by decide +kernel
theorem dJ9_min_7cf53_5 : decode cJ9_min_7cf53 5 = .ok (.iload_n 0, 1) := by decide +kernel
theorem dJ9_min_7cf53_6 : decode cJ9_min_7cf53 6 = .ok (.goto 4, 3) := by decide +kernel
theorem dJ9_min_7cf53_9 : decode cJ9_min_7cf53 9 = .ok (.iload_n 1, 1) := by decide +kernel
theorem dJ9_min_7cf53_10 : decode cJ9_min_7cf53 10 = .ok (.ireturn, 1) := by decide +kernel
theorem dL_cell_0 : decode cL_cell 0 = .ok (.iload_n 1, 1) := by decide +kernel
theorem dL_cell_1 : decode cL_cell 1 = .ok (.aload_n 0, 1) := by decide +kernel
theorem dL_cell_2 : decode cL_cell 2 = .ok (.arraylength, 1) := by decide +kernel
theorem dL_cell_3 : decode cL_cell 3 = .ok (.if_icmp .ge 9, 3) := by decide +kernel
theorem dL_cell_6 : decode cL_cell 6 = .ok (.aload_n 0, 1) := by decide +kernel
theorem dL_cell_7 : decode cL_cell 7 = .ok (.iload_n 1, 1) := by decide +kernel
theorem dL_cell_8 : decode cL_cell 8 = .ok (.iaload, 1) := by decide +kernel
theorem dL_cell_9 : decode cL_cell 9 = .ok (.goto 4, 3) := by decide +kernel
theorem dL_cell_12 : decode cL_cell 12 = .ok (.iconst 0, 1) := by decide +kernel
theorem dL_cell_13 : decode cL_cell 13 = .ok (.ireturn, 1) := by decide +kernel
set_option maxRecDepth 20000 in
theorem ggL_at_X2_at : GoodIn wsL_at wsX2_at := goodIn_r _ [5, 6, 7, 8, 9, 10, 11, 12, 13, 14, 15, 16, 17, 18, 19, 20, 21, 22, 23, 24, 25, 26, 27, 28, 29, 30, 31, 32, 33, 34, 35, 36, 37, 38, 39, 40, 41, 42, 43, 44, 45, 46, 47, 48, 49, 50, 51, 52, 53] (by decide +kernel) (by decide +kernel)
set_option maxRecDepth 20000 in
theorem gL_at_X2_at : GoodIn wsL_at (wsV RL 7 RX2 yX2_at wsX2_at) := goodIn_app (goodIn_of _ (by decide +kernel)) ggL_at_X2_at
theorem dL_at_0 : decode cL_at 0 = .ok (.aload_n 3, 1) := by decide +kernel
theorem dL_at_1 : decode cL_at 1 = .ok (.iconst 0, 1) := by decide +kernel
theorem dL_at_2 : decode cL_at 2 = .ok (.aload_n 0, 1) := by decide +kernel
theorem dL_at_3 : decode cL_at 3 = .ok (.iload_n 1, 1) := by decide +kernel
theorem dL_at_4 : decode cL_at 4 = .ok (.iload_n 2, 1) := by decide +kernel
theorem dL_at_5 : decode cL_at 5 = .ok (.invokevirtual 7, 3) := by decide +kernel
theorem dL_at_8 : decode cL_at 8 = .ok (.i2l, 1) := by decide +kernel
theorem dL_at_9 : decode cL_at 9 = .ok (.lastore, 1) := by decide +kernel
theorem dL_at_10 : decode cL_at 10 = .ok (.goto 7, 3) := by decide +kernel
theorem dL_at_13 : decode cL_at 13 = .ok (.astore 4, 2) := by decide +kernel
theorem dL_at_15 : decode cL_at 15 = .ok (.iconst 1, 1) := by decide +kernel
theorem dL_at_16 : decode cL_at 16 = .ok (.ireturn, 1) := by decide +kernel
theorem dL_at_17 : decode cL_at 17 = .ok (.iconst 0, 1) := by decide +kernel
theorem dL_at_18 : decode cL_at 18 = .ok (.ireturn, 1) := by decide +kernel
set_option maxRecDepth 20000 in
theorem ggL_law_L_cell : GoodIn wsL_law wsL_cell := goodIn_r _ [10] (by decide +kernel) (by decide +kernel)
set_option maxRecDepth 20000 in
theorem gL_law_L_cell : GoodIn wsL_law (va_wsS RL 15 yL_cell wsL_cell) := goodIn_app (goodIn_of _ (by decide +kernel)) ggL_law_L_cell
set_option maxRecDepth 20000 in
theorem ggL_law_X2_init : GoodIn wsL_law wsX2_init := goodIn_r _ [13, 14, 15, 16, 17, 18, 19, 20, 21, 22, 23, 24, 25, 26, 27, 28, 29, 30, 31, 32, 33, 34, 35, 36, 37, 38, 39, 40, 41, 42, 43, 44, 45, 46, 47, 48, 49, 50, 51, 52, 53, 54, 55, 56, 57, 491, 492, 454, 455, 456, 457, 458, 459, 460, 461, 462, 463, 464, 465, 466, 467, 468, 469, 493, 494, 495, 496, 497, 498, 499, 500] (by decide +kernel) (by decide +kernel)
set_option maxRecDepth 20000 in
theorem gL_law_X2_init : GoodIn wsL_law (wsX2_init) := ggL_law_X2_init
set_option maxRecDepth 20000 in
theorem ggL_law_X3_init : GoodIn wsL_law wsX3_init := goodIn_r _ [60, 61, 15, 16, 35, 62, 63, 64, 65, 66, 52, 67, 68, 69, 70, 71, 72, 470, 471, 472, 473, 474, 475, 476, 477, 478, 479, 480, 481, 482, 483, 484, 485, 486, 487, 488, 489, 490] (by decide +kernel) (by decide +kernel)
set_option maxRecDepth 20000 in
theorem gL_law_X3_init : GoodIn wsL_law (wsX3_init) := ggL_law_X3_init
set_option maxRecDepth 20000 in
theorem ggL_law_X2_add : GoodIn wsL_law wsX2_add := goodIn_r _ [76, 77, 36, 454, 455, 456, 457, 458, 459, 460, 461, 462, 463, 464, 465, 466, 467, 468, 469] (by decide +kernel) (by decide +kernel)
set_option maxRecDepth 20000 in
theorem gL_law_X2_add : GoodIn wsL_law (wsV RL 27 RX2 yX2_add wsX2_add) := goodIn_app (goodIn_of _ (by decide +kernel)) ggL_law_X2_add
set_option maxRecDepth 20000 in
theorem ggL_law_X3_add : GoodIn wsL_law wsX3_add := goodIn_r _ [81, 82, 83, 66, 470, 471, 472, 473, 474, 475, 476, 477, 478, 479, 480, 481, 482, 483, 484, 485, 486, 487, 488, 489, 490] (by decide +kernel) (by decide +kernel)
set_option maxRecDepth 20000 in
theorem gL_law_X3_add : GoodIn wsL_law (wsV RL 30 RX3 yX3_add wsX3_add) := goodIn_app (goodIn_of _ (by decide +kernel)) ggL_law_X3_add
set_option maxRecDepth 20000 in
theorem ggL_law_X2_end : GoodIn wsL_law wsX2_end := goodIn_r _ [87, 37, 77, 34, 88, 89, 90, 91, 2, 92, 93, 94, 95, 96, 97, 27, 98, 99, 100, 101, 102, 103, 104, 105, 106, 36, 107, 108, 109, 33, 110, 111, 53, 54, 55, 56, 112, 113, 114, 115, 116, 57, 454, 455, 456, 457, 458, 459, 460, 461, 462, 463, 464, 465, 466, 467, 468, 469, 493, 494, 495, 496, 497, 498, 499, 500, 491, 492] (by decide +kernel) (by decide +kernel)
set_option maxRecDepth 20000 in
theorem gL_law_X2_end : GoodIn wsL_law (wsV RL 31 RX2 yX2_end wsX2_end) := goodIn_app (goodIn_of _ (by decide +kernel)) ggL_law_X2_end
set_option maxRecDepth 20000 in
theorem ggL_law_X3_end : GoodIn wsL_law wsX3_end := goodIn_r _ [120, 82, 121, 122, 83, 72, 123, 67, 68, 69, 71, 66, 124, 125, 5, 126, 127, 128, 129, 130, 131, 470, 471, 472, 473, 474, 475, 476, 477, 478, 479, 480, 481, 482, 483, 484, 485, 486, 487, 488, 489, 490] (by decide +kernel) (by decide +kernel)
set_option maxRecDepth 20000 in
theorem gL_law_X3_end : GoodIn wsL_law (wsV RL 35 RX3 yX3_end wsX3_end) := goodIn_app (goodIn_of _ (by decide +kernel)) ggL_law_X3_end
set_option maxRecDepth 20000 in
theorem ggL_law_X2_sync : GoodIn wsL_law wsX2_sync := goodIn_r _ [135, 37, 136, 98, 137, 138, 139, 140, 141, 2, 142, 34, 94, 95, 96, 97, 27, 143, 144, 145, 146, 29, 147, 148, 149, 26, 150, 151, 152, 153, 154, 45, 155, 156, 157, 158, 44, 159, 160, 161, 162, 163, 164, 165, 166, 167, 168, 169, 170, 33, 171, 54, 57, 56, 172, 173, 174, 175, 111, 176, 177, 178, 179, 28, 180, 181, 182, 183, 184, 185, 186, 187, 188, 189, 190, 191, 192, 193, 194, 195, 196, 197, 198, 199, 200, 201, 202, 203, 204, 205, 206, 207, 208, 88, 93, 454, 455, 456, 457, 458, 459, 460, 461, 462, 463, 464, 465, 466, 467, 468, 469, 493, 494, 495, 496, 497, 498, 499, 500, 491, 492] (by decide +kernel) (by decide +kernel)
set_option maxRecDepth 20000 in
theorem gL_law_X2_sync : GoodIn wsL_law (wsV RL 36 RX2 yX2_sync wsX2_sync) := goodIn_app (goodIn_of _ (by decide +kernel)) ggL_law_X2_sync
set_option maxRecDepth 20000 in
theorem ggL_law_X3_sync : GoodIn wsL_law wsX3_sync := goodIn_r _ [212, 82, 121, 72, 63, 62, 213, 123, 214, 131, 122, 215, 64, 216, 217, 218, 5, 219, 68, 67, 71, 69, 220, 221, 222, 223, 224, 225, 226, 227, 228, 229, 230, 231, 232, 233, 234, 235, 236, 470, 471, 472, 473, 474, 475, 476, 477, 478, 479, 480, 481, 482, 483, 484, 485, 486, 487, 488, 489, 490] (by decide +kernel) (by decide +kernel)
set_option maxRecDepth 20000 in
theorem gL_law_X3_sync : GoodIn wsL_law (wsV RL 40 RX3 yX3_sync wsX3_sync) := goodIn_app (goodIn_of _ (by decide +kernel)) ggL_law_X3_sync
set_option maxRecDepth 20000 in
theorem ggL_law_X2_cut : GoodIn wsL_law wsX2_cut := goodIn_r _ [240, 37, 138, 241, 242, 243, 2, 244, 137, 136, 202, 203, 204, 245, 246, 247, 248, 27, 29, 28, 190, 191, 192, 26, 193, 45, 194, 195, 196, 197, 155, 156, 157, 158, 44, 249, 250, 251, 252, 34, 77, 253, 254, 255, 33, 256, 111, 257, 112, 205, 206, 207, 208, 88, 93, 454, 455, 456, 457, 458, 459, 460, 461, 462, 463, 464, 465, 466, 467, 468, 469, 491, 492, 493, 494, 495, 496, 497, 498, 499, 500] (by decide +kernel) (by decide +kernel)
set_option maxRecDepth 20000 in
theorem gL_law_X2_cut : GoodIn wsL_law (wsV RL 41 RX2 yX2_cut wsX2_cut) := goodIn_app (goodIn_of _ (by decide +kernel)) ggL_law_X2_cut
set_option maxRecDepth 20000 in
theorem ggL_law_X3_cut : GoodIn wsL_law wsX3_cut := goodIn_r _ [261, 82, 121, 215, 213, 214, 62, 64, 63, 124, 125, 5, 126, 262, 263, 264, 265, 122, 131, 83, 470, 471, 472, 473, 474, 475, 476, 477, 478, 479, 480, 481, 482, 483, 484, 485, 486, 487, 488, 489, 490] (by decide +kernel) (by decide +kernel)
set_option maxRecDepth 20000 in
theorem gL_law_X3_cut : GoodIn wsL_law (wsV RL 44 RX3 yX3_cut wsX3_cut) := goodIn_app (goodIn_of _ (by decide +kernel)) ggL_law_X3_cut
set_option maxRecDepth 20000 in
theorem ggL_law_X2_off : GoodIn wsL_law wsX2_off := goodIn_r _ [269, 37, 34, 249, 250, 251, 2, 252, 77, 253, 254, 255, 33, 256, 111, 257, 112, 205, 206, 207, 208, 88, 93, 454, 455, 456, 457, 458, 459, 460, 461, 462, 463, 464, 465, 466, 467, 468, 469, 493, 494, 495, 496, 497, 498, 499, 500] (by decide +kernel) (by decide +kernel)
set_option maxRecDepth 20000 in
theorem gL_law_X2_off : GoodIn wsL_law (wsV RL 45 RX2 yX2_off wsX2_off) := goodIn_app (goodIn_of _ (by decide +kernel)) ggL_law_X2_off
set_option maxRecDepth 20000 in
theorem ggL_law_X3_off : GoodIn wsL_law wsX3_off := goodIn_r _ [273, 82, 121, 122, 131, 262, 263, 264, 5, 265, 83, 215, 470, 471, 472, 473, 474, 475, 476, 477, 478, 479, 480, 481, 482, 483, 484, 485, 486, 487, 488, 489, 490] (by decide +kernel) (by decide +kernel)
set_option maxRecDepth 20000 in
theorem gL_law_X3_off : GoodIn wsL_law (wsV RL 48 RX3 yX3_off wsX3_off) := goodIn_app (goodIn_of _ (by decide +kernel)) ggL_law_X3_off
set_option maxRecDepth 20000 in
theorem ggL_law_X2_start : GoodIn wsL_law wsX2_start := goodIn_r _ [277, 37, 27, 136, 98, 138, 34, 278, 279, 280, 2, 281, 282, 283, 284, 285, 286, 287, 288, 26, 289, 290, 291, 292, 293, 294, 295, 296, 297, 45, 155, 156, 157, 158, 44, 184, 185, 186, 187, 188, 298, 299, 300, 301, 302, 303, 304, 305, 306, 307, 308, 253, 254, 255, 33, 256, 111, 257, 112, 309, 310, 311, 312, 21, 22, 19, 23, 313, 314, 315, 316, 317, 107, 108, 109, 110, 53, 54, 55, 56, 113, 114, 115, 116, 57, 454, 455, 456, 457, 458, 459, 460, 461, 462, 463, 464, 465, 466, 467, 468, 469, 493, 494, 495, 496, 497, 498, 499, 500, 491, 492] (by decide +kernel) (by decide +kernel)
set_option maxRecDepth 20000 in
theorem gL_law_X2_start : GoodIn wsL_law (wsV RL 49 RX2 yX2_start wsX2_start) := goodIn_app (goodIn_of _ (by decide +kernel)) ggL_law_X2_start
set_option maxRecDepth 20000 in
theorem ggL_law_X3_start : GoodIn wsL_law wsX3_start := goodIn_r _ [321, 82, 121, 213, 123, 122, 322, 131, 215, 323, 324, 325, 5, 326, 72, 327, 328, 329, 330, 331, 332, 333, 334, 62, 232, 233, 234, 235, 236, 124, 125, 126, 335, 336, 337, 338, 67, 68, 69, 71, 470, 471, 472, 473, 474, 475, 476, 477, 478, 479, 480, 481, 482, 483, 484, 485, 486, 487, 488, 489, 490] (by decide +kernel) (by decide +kernel)
set_option maxRecDepth 20000 in
theorem gL_law_X3_start : GoodIn wsL_law (wsV RL 52 RX3 yX3_start wsX3_start) := goodIn_app (goodIn_of _ (by decide +kernel)) ggL_law_X3_start
set_option maxRecDepth 20000 in
theorem ggL_law_X2_rows : GoodIn wsL_law wsX2_rows := goodIn_r _ [342, 34, 454, 455, 456, 457, 458, 459, 460, 461, 462, 463, 464, 465, 466, 467, 468, 469, 493, 494, 495, 496, 497, 498, 499, 500] (by decide +kernel) (by decide +kernel)
set_option maxRecDepth 20000 in
theorem gL_law_X2_rows : GoodIn wsL_law (wsV RL 53 RX2 yX2_rows wsX2_rows) := goodIn_app (goodIn_of _ (by decide +kernel)) ggL_law_X2_rows
set_option maxRecDepth 20000 in
theorem ggL_law_X3_rows : GoodIn wsL_law wsX3_rows := goodIn_r _ [346, 82, 122, 470, 471, 472, 473, 474, 475, 476, 477, 478, 479, 480, 481, 482, 483, 484, 485, 486, 487, 488, 489, 490] (by decide +kernel) (by decide +kernel)
set_option maxRecDepth 20000 in
theorem gL_law_X3_rows : GoodIn wsL_law (wsV RL 56 RX3 yX3_rows wsX3_rows) := goodIn_app (goodIn_of _ (by decide +kernel)) ggL_law_X3_rows
set_option maxRecDepth 20000 in
theorem ggL_law_X2_row : GoodIn wsL_law wsX2_row := goodIn_r _ [350, 34, 351, 173, 174, 33, 175, 111, 454, 455, 456, 457, 458, 459, 460, 461, 462, 463, 464, 465, 466, 467, 468, 469, 493, 494, 495, 496, 497, 498, 499, 500] (by decide +kernel) (by decide +kernel)
set_option maxRecDepth 20000 in
theorem gL_law_X2_row : GoodIn wsL_law (wsV RL 57 RX2 yX2_row wsX2_row) := goodIn_app (goodIn_of _ (by decide +kernel)) ggL_law_X2_row
set_option maxRecDepth 20000 in
theorem ggL_law_X3_row : GoodIn wsL_law wsX3_row := goodIn_r _ [355, 82, 122, 67, 68, 69, 124, 125, 5, 126, 470, 471, 472, 473, 474, 475, 476, 477, 478, 479, 480, 481, 482, 483, 484, 485, 486, 487, 488, 489, 490] (by decide +kernel) (by decide +kernel)
set_option maxRecDepth 20000 in
theorem gL_law_X3_row : GoodIn wsL_law (wsV RL 60 RX3 yX3_row wsX3_row) := goodIn_app (goodIn_of _ (by decide +kernel)) ggL_law_X3_row
set_option maxRecDepth 20000 in
theorem ggL_law_L_at : GoodIn wsL_law wsL_at := goodIn_r _ [358, 359, 360, 361, 2, 362, 34, 363, 364, 365, 351, 173, 174, 33, 175, 111, 168, 169, 170, 171, 54, 57, 56, 172, 454, 455, 456, 457, 458, 459, 460, 461, 462, 463, 464, 465, 466, 467, 468, 469, 493, 494, 495, 496, 497, 498, 499, 500, 501, 502, 503, 504, 505, 506] (by decide +kernel) (by decide +kernel)
set_option maxRecDepth 20000 in
theorem gL_law_L_at : GoodIn wsL_law (va_wsS RL 61 yL_at wsL_at) := goodIn_app (goodIn_of _ (by decide +kernel)) ggL_law_L_at
set_option maxRecDepth 20000 in
theorem ggL_law_X3_at : GoodIn wsL_law wsX3_at := goodIn_r _ [369, 82, 122, 68, 71, 124, 125, 5, 126, 470, 471, 472, 473, 474, 475, 476, 477, 478, 479, 480, 481, 482, 483, 484, 485, 486, 487, 488, 489, 490] (by decide +kernel) (by decide +kernel)
set_option maxRecDepth 20000 in
theorem gL_law_X3_at : GoodIn wsL_law (wsV RL 64 RX3 yX3_at wsX3_at) := goodIn_app (goodIn_of _ (by decide +kernel)) ggL_law_X3_at
set_option maxRecDepth 20000 in
theorem ggL_law_X3_thrown : GoodIn wsL_law wsX3_thrown := goodIn_r _ [373, 82, 470, 471, 472, 473, 474, 475, 476, 477, 478, 479, 480, 481, 482, 483, 484, 485, 486, 487, 488, 489, 490] (by decide +kernel) (by decide +kernel)
set_option maxRecDepth 20000 in
theorem gL_law_X3_thrown : GoodIn wsL_law (wsV RL 65 RX3 yX3_thrown wsX3_thrown) := goodIn_app (goodIn_of _ (by decide +kernel)) ggL_law_X3_thrown
set_option maxRecDepth 20000 in
theorem ggL_law_X2_poke : GoodIn wsL_law wsX2_poke := goodIn_r _ [377, 27, 378, 156, 157, 26, 158, 44, 313, 295, 296, 297, 45, 155, 167, 152, 153, 154, 454, 455, 456, 457, 458, 459, 460, 461, 462, 463, 464, 465, 466, 467, 468, 469, 491, 492] (by decide +kernel) (by decide +kernel)
set_option maxRecDepth 20000 in
theorem gL_law_X2_poke : GoodIn wsL_law (wsV RL 68 RX2 yX2_poke wsX2_poke) := goodIn_app (goodIn_of _ (by decide +kernel)) ggL_law_X2_poke
set_option maxRecDepth 20000 in
theorem ggL_law_X3_poke : GoodIn wsL_law wsX3_poke := goodIn_r _ [382, 82, 62, 383, 384, 385, 5, 386, 72, 124, 125, 126, 470, 471, 472, 473, 474, 475, 476, 477, 478, 479, 480, 481, 482, 483, 484, 485, 486, 487, 488, 489, 490] (by decide +kernel) (by decide +kernel)
set_option maxRecDepth 20000 in
theorem gL_law_X3_poke : GoodIn wsL_law (wsV RL 72 RX3 yX3_poke wsX3_poke) := goodIn_app (goodIn_of _ (by decide +kernel)) ggL_law_X3_poke
set_option maxRecDepth 20000 in
theorem ggL_law_X2_peek : GoodIn wsL_law wsX2_peek := goodIn_r _ [390, 27, 313, 295, 296, 26, 297, 45, 155, 156, 157, 158, 44, 454, 455, 456, 457, 458, 459, 460, 461, 462, 463, 464, 465, 466, 467, 468, 469, 491, 492] (by decide +kernel) (by decide +kernel)
set_option maxRecDepth 20000 in
theorem gL_law_X2_peek : GoodIn wsL_law (wsV RL 73 RX2 yX2_peek wsX2_peek) := goodIn_app (goodIn_of _ (by decide +kernel)) ggL_law_X2_peek
set_option maxRecDepth 20000 in
theorem ggL_law_X3_peek : GoodIn wsL_law wsX3_peek := goodIn_r _ [394, 82, 62, 383, 384, 385, 5, 386, 72, 124, 125, 126, 470, 471, 472, 473, 474, 475, 476, 477, 478, 479, 480, 481, 482, 483, 484, 485, 486, 487, 488, 489, 490] (by decide +kernel) (by decide +kernel)
set_option maxRecDepth 20000 in
theorem gL_law_X3_peek : GoodIn wsL_law (wsV RL 76 RX3 yX3_peek wsX3_peek) := goodIn_app (goodIn_of _ (by decide +kernel)) ggL_law_X3_peek
set_option maxRecDepth 20000 in
theorem ggL_law_X2_wrong : GoodIn wsL_law wsX2_wrong := goodIn_r _ [398, 27, 286, 287, 288, 26, 289, 290, 291, 292, 293, 294, 295, 296, 297, 45, 155, 156, 157, 158, 44, 184, 185, 186, 187, 188, 454, 455, 456, 457, 458, 459, 460, 461, 462, 463, 464, 465, 466, 467, 468, 469, 491, 492] (by decide +kernel) (by decide +kernel)
set_option maxRecDepth 20000 in
theorem gL_law_X2_wrong : GoodIn wsL_law (wsV RL 77 RX2 yX2_wrong wsX2_wrong) := goodIn_app (goodIn_of _ (by decide +kernel)) ggL_law_X2_wrong
set_option maxRecDepth 20000 in
theorem ggL_law_X3_wrong : GoodIn wsL_law wsX3_wrong := goodIn_r _ [402, 82, 72, 327, 328, 329, 5, 330, 331, 332, 333, 334, 62, 232, 233, 234, 235, 236, 470, 471, 472, 473, 474, 475, 476, 477, 478, 479, 480, 481, 482, 483, 484, 485, 486, 487, 488, 489, 490] (by decide +kernel) (by decide +kernel)
set_option maxRecDepth 20000 in
theorem gL_law_X3_wrong : GoodIn wsL_law (wsV RL 80 RX3 yX3_wrong wsX3_wrong) := goodIn_app (goodIn_of _ (by decide +kernel)) ggL_law_X3_wrong
set_option maxRecDepth 20000 in
theorem ggL_law_X2_bad : GoodIn wsL_law wsX2_bad := goodIn_r _ [406, 308, 454, 455, 456, 457, 458, 459, 460, 461, 462, 463, 464, 465, 466, 467, 468, 469] (by decide +kernel) (by decide +kernel)
set_option maxRecDepth 20000 in
theorem gL_law_X2_bad : GoodIn wsL_law (wsV RL 81 RX2 yX2_bad wsX2_bad) := goodIn_app (goodIn_of _ (by decide +kernel)) ggL_law_X2_bad
set_option maxRecDepth 20000 in
theorem ggL_law_X3_bad : GoodIn wsL_law wsX3_bad := goodIn_r _ [410, 82, 322, 470, 471, 472, 473, 474, 475, 476, 477, 478, 479, 480, 481, 482, 483, 484, 485, 486, 487, 488, 489, 490] (by decide +kernel) (by decide +kernel)
set_option maxRecDepth 20000 in
theorem gL_law_X3_bad : GoodIn wsL_law (wsV RL 84 RX3 yX3_bad wsX3_bad) := goodIn_app (goodIn_of _ (by decide +kernel)) ggL_law_X3_bad
set_option maxRecDepth 20000 in
theorem ggL_law_X2_backup : GoodIn wsL_law wsX2_backup := goodIn_r _ [414, 37, 30, 27, 415, 136, 416, 417, 418, 26, 419, 44, 420, 191, 192, 193, 45, 194, 195, 196, 197, 155, 156, 157, 158, 454, 455, 456, 457, 458, 459, 460, 461, 462, 463, 464, 465, 466, 467, 468, 469, 491, 492] (by decide +kernel) (by decide +kernel)
set_option maxRecDepth 20000 in
theorem gL_law_X2_backup : GoodIn wsL_law (wsV RL 85 RX2 yX2_backup wsX2_backup) := goodIn_app (goodIn_of _ (by decide +kernel)) ggL_law_X2_backup
set_option maxRecDepth 20000 in
theorem ggL_law_X3_backup : GoodIn wsL_law wsX3_backup := goodIn_r _ [424, 82, 121, 72, 65, 62, 425, 213, 470, 471, 472, 473, 474, 475, 476, 477, 478, 479, 480, 481, 482, 483, 484, 485, 486, 487, 488, 489, 490] (by decide +kernel) (by decide +kernel)
set_option maxRecDepth 20000 in
theorem gL_law_X3_backup : GoodIn wsL_law (wsV RL 88 RX3 yX3_backup wsX3_backup) := goodIn_app (goodIn_of _ (by decide +kernel)) ggL_law_X3_backup
set_option maxRecDepth 20000 in
theorem ggL_law_X2_restore : GoodIn wsL_law wsX2_restore := goodIn_r _ [429, 37, 415, 27, 30, 416, 417, 418, 26, 419, 44, 420, 191, 192, 193, 45, 194, 195, 196, 197, 155, 156, 157, 158, 454, 455, 456, 457, 458, 459, 460, 461, 462, 463, 464, 465, 466, 467, 468, 469, 491, 492] (by decide +kernel) (by decide +kernel)
set_option maxRecDepth 20000 in
theorem gL_law_X2_restore : GoodIn wsL_law (wsV RL 89 RX2 yX2_restore wsX2_restore) := goodIn_app (goodIn_of _ (by decide +kernel)) ggL_law_X2_restore
set_option maxRecDepth 20000 in
theorem ggL_law_X3_restore : GoodIn wsL_law wsX3_restore := goodIn_r _ [433, 82, 121, 425, 72, 62, 65, 470, 471, 472, 473, 474, 475, 476, 477, 478, 479, 480, 481, 482, 483, 484, 485, 486, 487, 488, 489, 490] (by decide +kernel) (by decide +kernel)
set_option maxRecDepth 20000 in
theorem gL_law_X3_restore : GoodIn wsL_law (wsV RL 92 RX3 yX3_restore wsX3_restore) := goodIn_app (goodIn_of _ (by decide +kernel)) ggL_law_X3_restore
set_option maxRecDepth 20000 in
theorem ggL_law_X2_differ : GoodIn wsL_law wsX2_differ := goodIn_r _ [437, 415, 27, 30, 438, 439, 440, 26, 441, 294, 295, 296, 297, 45, 155, 156, 157, 158, 44, 454, 455, 456, 457, 458, 459, 460, 461, 462, 463, 464, 465, 466, 467, 468, 469, 491, 492] (by decide +kernel) (by decide +kernel)
set_option maxRecDepth 20000 in
theorem gL_law_X2_differ : GoodIn wsL_law (wsV RL 93 RX2 yX2_differ wsX2_differ) := goodIn_app (goodIn_of _ (by decide +kernel)) ggL_law_X2_differ
set_option maxRecDepth 20000 in
theorem ggL_law_X3_differ : GoodIn wsL_law wsX3_differ := goodIn_r _ [445, 82, 425, 72, 62, 65, 470, 471, 472, 473, 474, 475, 476, 477, 478, 479, 480, 481, 482, 483, 484, 485, 486, 487, 488, 489, 490] (by decide +kernel) (by decide +kernel)
set_option maxRecDepth 20000 in
theorem gL_law_X3_differ : GoodIn wsL_law (wsV RL 96 RX3 yX3_differ wsX3_differ) := goodIn_app (goodIn_of _ (by decide +kernel)) ggL_law_X3_differ
set_option maxRecDepth 20000 in
theorem ggL_law_X2_state : GoodIn wsL_law wsX2_state := goodIn_r _ [449, 136, 98, 37, 27, 454, 455, 456, 457, 458, 459, 460, 461, 462, 463, 464, 465, 466, 467, 468, 469, 491, 492] (by decide +kernel) (by decide +kernel)
set_option maxRecDepth 20000 in
theorem gL_law_X2_state : GoodIn wsL_law (wsV RL 97 RX2 yX2_state wsX2_state) := goodIn_app (goodIn_of _ (by decide +kernel)) ggL_law_X2_state
set_option maxRecDepth 20000 in
theorem ggL_law_X3_state : GoodIn wsL_law wsX3_state := goodIn_r _ [453, 82, 213, 123, 121, 72, 470, 471, 472, 473, 474, 475, 476, 477, 478, 479, 480, 481, 482, 483, 484, 485, 486, 487, 488, 489, 490] (by decide +kernel) (by decide +kernel)
set_option maxRecDepth 20000 in
theorem gL_law_X3_state : GoodIn wsL_law (wsV RL 100 RX3 yX3_state wsX3_state) := goodIn_app (goodIn_of _ (by decide +kernel)) ggL_law_X3_state
theorem dL_law_0 : decode cL_law 0 = .ok (.new 8, 3) := by decide +kernel
theorem dL_law_3 : decode cL_law 3 = .ok (.dup, 1) := by decide +kernel
theorem dL_law_4 : decode cL_law 4 = .ok (.aload_n 0, 1) := by decide +kernel
theorem dL_law_5 : decode cL_law 5 = .ok (.iconst 0, 1) := by decide +kernel
theorem dL_law_6 : decode cL_law 6 = .ok (.invokestatic 15, 3) := by decide +kernel
theorem dL_law_9 : decode cL_law 9 = .ok (.invokespecial 21, 3) := by decide +kernel
theorem dL_law_12 : decode cL_law 12 = .ok (.astore_n 1, 1) := by decide +kernel
theorem dL_law_13 : decode cL_law 13 = .ok (.new 24, 3) := by decide +kernel
theorem dL_law_16 : decode cL_law 16 = .ok (.dup, 1) := by decide +kernel
theorem dL_law_17 : decode cL_law 17 = .ok (.aload_n 0, 1) := by decide +kernel
theorem dL_law_18 : decode cL_law 18 = .ok (.iconst 0, 1) := by decide +kernel
theorem dL_law_19 : decode cL_law 19 = .ok (.invokestatic 15, 3) := by decide +kernel
theorem dL_law_22 : decode cL_law 22 = .ok (.invokespecial 26, 3) := by decide +kernel
theorem dL_law_25 : decode cL_law 25 = .ok (.astore_n 2, 1) := by decide +kernel
theorem dL_law_26 : decode cL_law 26 = .ok (.iconst 1, 1) := by decide +kernel
theorem dL_law_27 : decode cL_law 27 = .ok (.newarray .long, 2) := by decide +kernel
theorem dL_law_29 : decode cL_law 29 = .ok (.astore_n 3, 1) := by decide +kernel
theorem dL_law_30 : decode cL_law 30 = .ok (.iconst 1, 1) := by decide +kernel
theorem dL_law_31 : decode cL_law 31 = .ok (.istore 4, 2) := by decide +kernel
theorem dL_law_33 : decode cL_law 33 = .ok (.iload 4, 2) := by decide +kernel
theorem dL_law_35 : decode cL_law 35 = .ok (.aload_n 0, 1) := by decide +kernel
theorem dL_law_36 : decode cL_law 36 = .ok (.arraylength, 1) := by decide +kernel
theorem dL_law_37 : decode cL_law 37 = .ok (.iconst 4, 1) := by decide +kernel
theorem dL_law_38 : decode cL_law 38 = .ok (.isub, 1) := by decide +kernel
theorem dL_law_39 : decode cL_law 39 = .ok (.if_icmp .gt 529, 3) := by decide +kernel
theorem dL_law_42 : decode cL_law 42 = .ok (.aload_n 0, 1) := by decide +kernel
theorem dL_law_43 : decode cL_law 43 = .ok (.iload 4, 2) := by decide +kernel
theorem dL_law_45 : decode cL_law 45 = .ok (.iaload, 1) := by decide +kernel
theorem dL_law_46 : decode cL_law 46 = .ok (.bipush 31, 2) := by decide +kernel
theorem dL_law_48 : decode cL_law 48 = .ok (.iand, 1) := by decide +kernel
theorem dL_law_49 : decode cL_law 49 = .ok (.tableswitch 513 0 16 #[83, 106, 131, 144, 181, 194, 207, 220, 257, 325, 374, 411, 436, 449, 462, 475, 488], 83) := by decide +kernel
theorem dL_law_132 : decode cL_law 132 = .ok (.aload_n 1, 1) := by decide +kernel
theorem dL_law_133 : decode cL_law 133 = .ok (.aload_n 0, 1) := by decide +kernel
theorem dL_law_134 : decode cL_law 134 = .ok (.iload 4, 2) := by decide +kernel
theorem dL_law_136 : decode cL_law 136 = .ok (.iconst 1, 1) := by decide +kernel
theorem dL_law_137 : decode cL_law 137 = .ok (.iadd, 1) := by decide +kernel
theorem dL_law_138 : decode cL_law 138 = .ok (.iaload, 1) := by decide +kernel
theorem dL_law_139 : decode cL_law 139 = .ok (.invokevirtual 27, 3) := by decide +kernel
theorem dL_law_142 : decode cL_law 142 = .ok (.aload_n 2, 1) := by decide +kernel
theorem dL_law_143 : decode cL_law 143 = .ok (.aload_n 0, 1) := by decide +kernel
theorem dL_law_144 : decode cL_law 144 = .ok (.iload 4, 2) := by decide +kernel
theorem dL_law_146 : decode cL_law 146 = .ok (.iconst 1, 1) := by decide +kernel
theorem dL_law_147 : decode cL_law 147 = .ok (.iadd, 1) := by decide +kernel
theorem dL_law_148 : decode cL_law 148 = .ok (.iaload, 1) := by decide +kernel
theorem dL_law_149 : decode cL_law 149 = .ok (.invokevirtual 30, 3) := by decide +kernel
theorem dL_law_152 : decode cL_law 152 = .ok (.goto 410, 3) := by decide +kernel
theorem dL_law_155 : decode cL_law 155 = .ok (.aload_n 1, 1) := by decide +kernel
theorem dL_law_156 : decode cL_law 156 = .ok (.aload_n 0, 1) := by decide +kernel
theorem dL_law_157 : decode cL_law 157 = .ok (.iload 4, 2) := by decide +kernel
theorem dL_law_159 : decode cL_law 159 = .ok (.iconst 1, 1) := by decide +kernel
theorem dL_law_160 : decode cL_law 160 = .ok (.iadd, 1) := by decide +kernel
theorem dL_law_161 : decode cL_law 161 = .ok (.iaload, 1) := by decide +kernel
theorem dL_law_162 : decode cL_law 162 = .ok (.invokevirtual 31, 3) := by decide +kernel
theorem dL_law_165 : decode cL_law 165 = .ok (.aload_n 2, 1) := by decide +kernel
theorem dL_law_166 : decode cL_law 166 = .ok (.aload_n 0, 1) := by decide +kernel
theorem dL_law_167 : decode cL_law 167 = .ok (.iload 4, 2) := by decide +kernel
theorem dL_law_169 : decode cL_law 169 = .ok (.iconst 1, 1) := by decide +kernel
theorem dL_law_170 : decode cL_law 170 = .ok (.iadd, 1) := by decide +kernel
theorem dL_law_171 : decode cL_law 171 = .ok (.iaload, 1) := by decide +kernel
theorem dL_law_172 : decode cL_law 172 = .ok (.invokevirtual 35, 3) := by decide +kernel
theorem dL_law_175 : decode cL_law 175 = .ok (.if_icmp .eq 387, 3) := by decide +kernel
theorem dL_law_178 : decode cL_law 178 = .ok (.iconst 0, 1) := by decide +kernel
theorem dL_law_179 : decode cL_law 179 = .ok (.ireturn, 1) := by decide +kernel
theorem dL_law_180 : decode cL_law 180 = .ok (.aload_n 1, 1) := by decide +kernel
theorem dL_law_181 : decode cL_law 181 = .ok (.invokevirtual 36, 3) := by decide +kernel
theorem dL_law_184 : decode cL_law 184 = .ok (.aload_n 2, 1) := by decide +kernel
theorem dL_law_185 : decode cL_law 185 = .ok (.invokevirtual 40, 3) := by decide +kernel
theorem dL_law_188 : decode cL_law 188 = .ok (.if_icmp .eq 374, 3) := by decide +kernel
theorem dL_law_191 : decode cL_law 191 = .ok (.iconst 0, 1) := by decide +kernel
theorem dL_law_192 : decode cL_law 192 = .ok (.ireturn, 1) := by decide +kernel
theorem dL_law_193 : decode cL_law 193 = .ok (.aload_n 1, 1) := by decide +kernel
theorem dL_law_194 : decode cL_law 194 = .ok (.aload_n 0, 1) := by decide +kernel
theorem dL_law_195 : decode cL_law 195 = .ok (.iload 4, 2) := by decide +kernel
theorem dL_law_197 : decode cL_law 197 = .ok (.iconst 1, 1) := by decide +kernel
theorem dL_law_198 : decode cL_law 198 = .ok (.iadd, 1) := by decide +kernel
theorem dL_law_199 : decode cL_law 199 = .ok (.iaload, 1) := by decide +kernel
theorem dL_law_200 : decode cL_law 200 = .ok (.aload_n 0, 1) := by decide +kernel
theorem dL_law_201 : decode cL_law 201 = .ok (.iload 4, 2) := by decide +kernel
theorem dL_law_203 : decode cL_law 203 = .ok (.iconst 2, 1) := by decide +kernel
theorem dL_law_204 : decode cL_law 204 = .ok (.iadd, 1) := by decide +kernel
theorem dL_law_205 : decode cL_law 205 = .ok (.iaload, 1) := by decide +kernel
theorem dL_law_206 : decode cL_law 206 = .ok (.invokevirtual 41, 3) := by decide +kernel
theorem dL_law_209 : decode cL_law 209 = .ok (.aload_n 2, 1) := by decide +kernel
theorem dL_law_210 : decode cL_law 210 = .ok (.aload_n 0, 1) := by decide +kernel
theorem dL_law_211 : decode cL_law 211 = .ok (.iload 4, 2) := by decide +kernel
theorem dL_law_213 : decode cL_law 213 = .ok (.iconst 1, 1) := by decide +kernel
theorem dL_law_214 : decode cL_law 214 = .ok (.iadd, 1) := by decide +kernel
theorem dL_law_215 : decode cL_law 215 = .ok (.iaload, 1) := by decide +kernel
theorem dL_law_216 : decode cL_law 216 = .ok (.aload_n 0, 1) := by decide +kernel
theorem dL_law_217 : decode cL_law 217 = .ok (.iload 4, 2) := by decide +kernel
theorem dL_law_219 : decode cL_law 219 = .ok (.iconst 2, 1) := by decide +kernel
theorem dL_law_220 : decode cL_law 220 = .ok (.iadd, 1) := by decide +kernel
theorem dL_law_221 : decode cL_law 221 = .ok (.iaload, 1) := by decide +kernel
theorem dL_law_222 : decode cL_law 222 = .ok (.invokevirtual 44, 3) := by decide +kernel
theorem dL_law_225 : decode cL_law 225 = .ok (.if_icmp .eq 337, 3) := by decide +kernel
theorem dL_law_228 : decode cL_law 228 = .ok (.iconst 0, 1) := by decide +kernel
theorem dL_law_229 : decode cL_law 229 = .ok (.ireturn, 1) := by decide +kernel
theorem dL_law_230 : decode cL_law 230 = .ok (.aload_n 1, 1) := by decide +kernel
theorem dL_law_231 : decode cL_law 231 = .ok (.invokevirtual 45, 3) := by decide +kernel
theorem dL_law_234 : decode cL_law 234 = .ok (.aload_n 2, 1) := by decide +kernel
theorem dL_law_235 : decode cL_law 235 = .ok (.invokevirtual 48, 3) := by decide +kernel
theorem dL_law_238 : decode cL_law 238 = .ok (.if_icmp .eq 324, 3) := by decide +kernel
theorem dL_law_241 : decode cL_law 241 = .ok (.iconst 0, 1) := by decide +kernel
theorem dL_law_242 : decode cL_law 242 = .ok (.ireturn, 1) := by decide +kernel
theorem dL_law_243 : decode cL_law 243 = .ok (.aload_n 1, 1) := by decide +kernel
theorem dL_law_244 : decode cL_law 244 = .ok (.invokevirtual 49, 3) := by decide +kernel
theorem dL_law_247 : decode cL_law 247 = .ok (.aload_n 2, 1) := by decide +kernel
theorem dL_law_248 : decode cL_law 248 = .ok (.invokevirtual 52, 3) := by decide +kernel
theorem dL_law_251 : decode cL_law 251 = .ok (.if_icmp .eq 311, 3) := by decide +kernel
theorem dL_law_254 : decode cL_law 254 = .ok (.iconst 0, 1) := by decide +kernel
theorem dL_law_255 : decode cL_law 255 = .ok (.ireturn, 1) := by decide +kernel
theorem dL_law_256 : decode cL_law 256 = .ok (.aload_n 1, 1) := by decide +kernel
theorem dL_law_257 : decode cL_law 257 = .ok (.invokevirtual 53, 3) := by decide +kernel
theorem dL_law_260 : decode cL_law 260 = .ok (.aload_n 2, 1) := by decide +kernel
theorem dL_law_261 : decode cL_law 261 = .ok (.invokevirtual 56, 3) := by decide +kernel
theorem dL_law_264 : decode cL_law 264 = .ok (.if_icmp .eq 298, 3) := by decide +kernel
theorem dL_law_267 : decode cL_law 267 = .ok (.iconst 0, 1) := by decide +kernel
theorem dL_law_268 : decode cL_law 268 = .ok (.ireturn, 1) := by decide +kernel
theorem dL_law_269 : decode cL_law 269 = .ok (.aload_n 1, 1) := by decide +kernel
theorem dL_law_270 : decode cL_law 270 = .ok (.aload_n 0, 1) := by decide +kernel
theorem dL_law_271 : decode cL_law 271 = .ok (.iload 4, 2) := by decide +kernel
theorem dL_law_273 : decode cL_law 273 = .ok (.iconst 1, 1) := by decide +kernel
theorem dL_law_274 : decode cL_law 274 = .ok (.iadd, 1) := by decide +kernel
theorem dL_law_275 : decode cL_law 275 = .ok (.iaload, 1) := by decide +kernel
theorem dL_law_276 : decode cL_law 276 = .ok (.aload_n 0, 1) := by decide +kernel
theorem dL_law_277 : decode cL_law 277 = .ok (.iload 4, 2) := by decide +kernel
theorem dL_law_279 : decode cL_law 279 = .ok (.iconst 2, 1) := by decide +kernel
theorem dL_law_280 : decode cL_law 280 = .ok (.iadd, 1) := by decide +kernel
theorem dL_law_281 : decode cL_law 281 = .ok (.iaload, 1) := by decide +kernel
theorem dL_law_282 : decode cL_law 282 = .ok (.invokevirtual 57, 3) := by decide +kernel
theorem dL_law_285 : decode cL_law 285 = .ok (.aload_n 2, 1) := by decide +kernel
theorem dL_law_286 : decode cL_law 286 = .ok (.aload_n 0, 1) := by decide +kernel
theorem dL_law_287 : decode cL_law 287 = .ok (.iload 4, 2) := by decide +kernel
theorem dL_law_289 : decode cL_law 289 = .ok (.iconst 1, 1) := by decide +kernel
theorem dL_law_290 : decode cL_law 290 = .ok (.iadd, 1) := by decide +kernel
theorem dL_law_291 : decode cL_law 291 = .ok (.iaload, 1) := by decide +kernel
theorem dL_law_292 : decode cL_law 292 = .ok (.aload_n 0, 1) := by decide +kernel
theorem dL_law_293 : decode cL_law 293 = .ok (.iload 4, 2) := by decide +kernel
theorem dL_law_295 : decode cL_law 295 = .ok (.iconst 2, 1) := by decide +kernel
theorem dL_law_296 : decode cL_law 296 = .ok (.iadd, 1) := by decide +kernel
theorem dL_law_297 : decode cL_law 297 = .ok (.iaload, 1) := by decide +kernel
theorem dL_law_298 : decode cL_law 298 = .ok (.invokevirtual 60, 3) := by decide +kernel
theorem dL_law_301 : decode cL_law 301 = .ok (.if_icmp .eq 261, 3) := by decide +kernel
theorem dL_law_304 : decode cL_law 304 = .ok (.iconst 0, 1) := by decide +kernel
theorem dL_law_305 : decode cL_law 305 = .ok (.ireturn, 1) := by decide +kernel
theorem dL_law_306 : decode cL_law 306 = .ok (.aload_n 1, 1) := by decide +kernel
theorem dL_law_307 : decode cL_law 307 = .ok (.aload_n 0, 1) := by decide +kernel
theorem dL_law_308 : decode cL_law 308 = .ok (.iload 4, 2) := by decide +kernel
theorem dL_law_310 : decode cL_law 310 = .ok (.iconst 1, 1) := by decide +kernel
theorem dL_law_311 : decode cL_law 311 = .ok (.iadd, 1) := by decide +kernel
theorem dL_law_312 : decode cL_law 312 = .ok (.iaload, 1) := by decide +kernel
theorem dL_law_313 : decode cL_law 313 = .ok (.aload_n 0, 1) := by decide +kernel
theorem dL_law_314 : decode cL_law 314 = .ok (.iload 4, 2) := by decide +kernel
theorem dL_law_316 : decode cL_law 316 = .ok (.iconst 2, 1) := by decide +kernel
theorem dL_law_317 : decode cL_law 317 = .ok (.iadd, 1) := by decide +kernel
theorem dL_law_318 : decode cL_law 318 = .ok (.iaload, 1) := by decide +kernel
theorem dL_law_319 : decode cL_law 319 = .ok (.aload_n 3, 1) := by decide +kernel
theorem dL_law_320 : decode cL_law 320 = .ok (.invokestatic 61, 3) := by decide +kernel
theorem dL_law_323 : decode cL_law 323 = .ok (.istore 5, 2) := by decide +kernel
theorem dL_law_325 : decode cL_law 325 = .ok (.aload_n 2, 1) := by decide +kernel
theorem dL_law_326 : decode cL_law 326 = .ok (.aload_n 0, 1) := by decide +kernel
theorem dL_law_327 : decode cL_law 327 = .ok (.iload 4, 2) := by decide +kernel
theorem dL_law_329 : decode cL_law 329 = .ok (.iconst 1, 1) := by decide +kernel
theorem dL_law_330 : decode cL_law 330 = .ok (.iadd, 1) := by decide +kernel
theorem dL_law_331 : decode cL_law 331 = .ok (.iaload, 1) := by decide +kernel
theorem dL_law_332 : decode cL_law 332 = .ok (.aload_n 0, 1) := by decide +kernel
theorem dL_law_333 : decode cL_law 333 = .ok (.iload 4, 2) := by decide +kernel
theorem dL_law_335 : decode cL_law 335 = .ok (.iconst 2, 1) := by decide +kernel
theorem dL_law_336 : decode cL_law 336 = .ok (.iadd, 1) := by decide +kernel
theorem dL_law_337 : decode cL_law 337 = .ok (.iaload, 1) := by decide +kernel
theorem dL_law_338 : decode cL_law 338 = .ok (.invokevirtual 64, 3) := by decide +kernel
theorem dL_law_341 : decode cL_law 341 = .ok (.istore 6, 2) := by decide +kernel
theorem dL_law_343 : decode cL_law 343 = .ok (.aload_n 2, 1) := by decide +kernel
theorem dL_law_344 : decode cL_law 344 = .ok (.invokevirtual 65, 3) := by decide +kernel
theorem dL_law_347 : decode cL_law 347 = .ok (.iload 5, 2) := by decide +kernel
theorem dL_law_349 : decode cL_law 349 = .ok (.if_icmp .eq 5, 3) := by decide +kernel
theorem dL_law_352 : decode cL_law 352 = .ok (.iconst 0, 1) := by decide +kernel
theorem dL_law_353 : decode cL_law 353 = .ok (.ireturn, 1) := by decide +kernel
theorem dL_law_354 : decode cL_law 354 = .ok (.iload 5, 2) := by decide +kernel
theorem dL_law_356 : decode cL_law 356 = .ok (.ifCond .ne 15, 3) := by decide +kernel
theorem dL_law_359 : decode cL_law 359 = .ok (.aload_n 3, 1) := by decide +kernel
theorem dL_law_360 : decode cL_law 360 = .ok (.iconst 0, 1) := by decide +kernel
theorem dL_law_361 : decode cL_law 361 = .ok (.laload, 1) := by decide +kernel
theorem dL_law_362 : decode cL_law 362 = .ok (.iload 6, 2) := by decide +kernel
theorem dL_law_364 : decode cL_law 364 = .ok (.i2l, 1) := by decide +kernel
theorem dL_law_365 : decode cL_law 365 = .ok (.lcmp, 1) := by decide +kernel
theorem dL_law_366 : decode cL_law 366 = .ok (.ifCond .eq 5, 3) := by decide +kernel
theorem dL_law_369 : decode cL_law 369 = .ok (.iconst 0, 1) := by decide +kernel
theorem dL_law_370 : decode cL_law 370 = .ok (.ireturn, 1) := by decide +kernel
theorem dL_law_371 : decode cL_law 371 = .ok (.goto 191, 3) := by decide +kernel
theorem dL_law_374 : decode cL_law 374 = .ok (.aload_n 1, 1) := by decide +kernel
theorem dL_law_375 : decode cL_law 375 = .ok (.aload_n 0, 1) := by decide +kernel
theorem dL_law_376 : decode cL_law 376 = .ok (.iload 4, 2) := by decide +kernel
theorem dL_law_378 : decode cL_law 378 = .ok (.iconst 1, 1) := by decide +kernel
theorem dL_law_379 : decode cL_law 379 = .ok (.iadd, 1) := by decide +kernel
theorem dL_law_380 : decode cL_law 380 = .ok (.iaload, 1) := by decide +kernel
theorem dL_law_381 : decode cL_law 381 = .ok (.aload_n 0, 1) := by decide +kernel
theorem dL_law_382 : decode cL_law 382 = .ok (.iload 4, 2) := by decide +kernel
theorem dL_law_384 : decode cL_law 384 = .ok (.iconst 2, 1) := by decide +kernel
theorem dL_law_385 : decode cL_law 385 = .ok (.iadd, 1) := by decide +kernel
theorem dL_law_386 : decode cL_law 386 = .ok (.iaload, 1) := by decide +kernel
theorem dL_law_387 : decode cL_law 387 = .ok (.aload_n 0, 1) := by decide +kernel
theorem dL_law_388 : decode cL_law 388 = .ok (.iload 4, 2) := by decide +kernel
theorem dL_law_390 : decode cL_law 390 = .ok (.iconst 3, 1) := by decide +kernel
theorem dL_law_391 : decode cL_law 391 = .ok (.iadd, 1) := by decide +kernel
theorem dL_law_392 : decode cL_law 392 = .ok (.iaload, 1) := by decide +kernel
theorem dL_law_393 : decode cL_law 393 = .ok (.invokevirtual 68, 3) := by decide +kernel
theorem dL_law_396 : decode cL_law 396 = .ok (.aload_n 2, 1) := by decide +kernel
theorem dL_law_397 : decode cL_law 397 = .ok (.aload_n 0, 1) := by decide +kernel
theorem dL_law_398 : decode cL_law 398 = .ok (.iload 4, 2) := by decide +kernel
theorem dL_law_400 : decode cL_law 400 = .ok (.iconst 1, 1) := by decide +kernel
theorem dL_law_401 : decode cL_law 401 = .ok (.iadd, 1) := by decide +kernel
theorem dL_law_402 : decode cL_law 402 = .ok (.iaload, 1) := by decide +kernel
theorem dL_law_403 : decode cL_law 403 = .ok (.aload_n 0, 1) := by decide +kernel
theorem dL_law_404 : decode cL_law 404 = .ok (.iload 4, 2) := by decide +kernel
theorem dL_law_406 : decode cL_law 406 = .ok (.iconst 2, 1) := by decide +kernel
theorem dL_law_407 : decode cL_law 407 = .ok (.iadd, 1) := by decide +kernel
theorem dL_law_408 : decode cL_law 408 = .ok (.iaload, 1) := by decide +kernel
theorem dL_law_409 : decode cL_law 409 = .ok (.aload_n 0, 1) := by decide +kernel
theorem dL_law_410 : decode cL_law 410 = .ok (.iload 4, 2) := by decide +kernel
theorem dL_law_412 : decode cL_law 412 = .ok (.iconst 3, 1) := by decide +kernel
theorem dL_law_413 : decode cL_law 413 = .ok (.iadd, 1) := by decide +kernel
theorem dL_law_414 : decode cL_law 414 = .ok (.iaload, 1) := by decide +kernel
theorem dL_law_415 : decode cL_law 415 = .ok (.invokevirtual 72, 3) := by decide +kernel
theorem dL_law_418 : decode cL_law 418 = .ok (.if_icmp .eq 144, 3) := by decide +kernel
theorem dL_law_421 : decode cL_law 421 = .ok (.iconst 0, 1) := by decide +kernel
theorem dL_law_422 : decode cL_law 422 = .ok (.ireturn, 1) := by decide +kernel
theorem dL_law_423 : decode cL_law 423 = .ok (.aload_n 1, 1) := by decide +kernel
theorem dL_law_424 : decode cL_law 424 = .ok (.aload_n 0, 1) := by decide +kernel
theorem dL_law_425 : decode cL_law 425 = .ok (.iload 4, 2) := by decide +kernel
theorem dL_law_427 : decode cL_law 427 = .ok (.iconst 1, 1) := by decide +kernel
theorem dL_law_428 : decode cL_law 428 = .ok (.iadd, 1) := by decide +kernel
theorem dL_law_429 : decode cL_law 429 = .ok (.iaload, 1) := by decide +kernel
theorem dL_law_430 : decode cL_law 430 = .ok (.aload_n 0, 1) := by decide +kernel
theorem dL_law_431 : decode cL_law 431 = .ok (.iload 4, 2) := by decide +kernel
theorem dL_law_433 : decode cL_law 433 = .ok (.iconst 2, 1) := by decide +kernel
theorem dL_law_434 : decode cL_law 434 = .ok (.iadd, 1) := by decide +kernel
theorem dL_law_435 : decode cL_law 435 = .ok (.iaload, 1) := by decide +kernel
theorem dL_law_436 : decode cL_law 436 = .ok (.invokevirtual 73, 3) := by decide +kernel
theorem dL_law_439 : decode cL_law 439 = .ok (.aload_n 2, 1) := by decide +kernel
theorem dL_law_440 : decode cL_law 440 = .ok (.aload_n 0, 1) := by decide +kernel
theorem dL_law_441 : decode cL_law 441 = .ok (.iload 4, 2) := by decide +kernel
theorem dL_law_443 : decode cL_law 443 = .ok (.iconst 1, 1) := by decide +kernel
theorem dL_law_444 : decode cL_law 444 = .ok (.iadd, 1) := by decide +kernel
theorem dL_law_445 : decode cL_law 445 = .ok (.iaload, 1) := by decide +kernel
theorem dL_law_446 : decode cL_law 446 = .ok (.aload_n 0, 1) := by decide +kernel
theorem dL_law_447 : decode cL_law 447 = .ok (.iload 4, 2) := by decide +kernel
theorem dL_law_449 : decode cL_law 449 = .ok (.iconst 2, 1) := by decide +kernel
theorem dL_law_450 : decode cL_law 450 = .ok (.iadd, 1) := by decide +kernel
theorem dL_law_451 : decode cL_law 451 = .ok (.iaload, 1) := by decide +kernel
theorem dL_law_452 : decode cL_law 452 = .ok (.invokevirtual 76, 3) := by decide +kernel
theorem dL_law_455 : decode cL_law 455 = .ok (.if_icmp .eq 107, 3) := by decide +kernel
theorem dL_law_458 : decode cL_law 458 = .ok (.iconst 0, 1) := by decide +kernel
theorem dL_law_459 : decode cL_law 459 = .ok (.ireturn, 1) := by decide +kernel
theorem dL_law_460 : decode cL_law 460 = .ok (.aload_n 1, 1) := by decide +kernel
theorem dL_law_461 : decode cL_law 461 = .ok (.aload_n 0, 1) := by decide +kernel
theorem dL_law_462 : decode cL_law 462 = .ok (.iload 4, 2) := by decide +kernel
theorem dL_law_464 : decode cL_law 464 = .ok (.iconst 1, 1) := by decide +kernel
theorem dL_law_465 : decode cL_law 465 = .ok (.iadd, 1) := by decide +kernel
theorem dL_law_466 : decode cL_law 466 = .ok (.iaload, 1) := by decide +kernel
theorem dL_law_467 : decode cL_law 467 = .ok (.invokevirtual 77, 3) := by decide +kernel
theorem dL_law_470 : decode cL_law 470 = .ok (.aload_n 2, 1) := by decide +kernel
theorem dL_law_471 : decode cL_law 471 = .ok (.aload_n 0, 1) := by decide +kernel
theorem dL_law_472 : decode cL_law 472 = .ok (.iload 4, 2) := by decide +kernel
theorem dL_law_474 : decode cL_law 474 = .ok (.iconst 1, 1) := by decide +kernel
theorem dL_law_475 : decode cL_law 475 = .ok (.iadd, 1) := by decide +kernel
theorem dL_law_476 : decode cL_law 476 = .ok (.iaload, 1) := by decide +kernel
theorem dL_law_477 : decode cL_law 477 = .ok (.invokevirtual 80, 3) := by decide +kernel
theorem dL_law_480 : decode cL_law 480 = .ok (.if_icmp .eq 82, 3) := by decide +kernel
theorem dL_law_483 : decode cL_law 483 = .ok (.iconst 0, 1) := by decide +kernel
theorem dL_law_484 : decode cL_law 484 = .ok (.ireturn, 1) := by decide +kernel
theorem dL_law_485 : decode cL_law 485 = .ok (.aload_n 1, 1) := by decide +kernel
theorem dL_law_486 : decode cL_law 486 = .ok (.invokevirtual 81, 3) := by decide +kernel
theorem dL_law_489 : decode cL_law 489 = .ok (.aload_n 2, 1) := by decide +kernel
theorem dL_law_490 : decode cL_law 490 = .ok (.invokevirtual 84, 3) := by decide +kernel
theorem dL_law_493 : decode cL_law 493 = .ok (.if_icmp .eq 69, 3) := by decide +kernel
theorem dL_law_496 : decode cL_law 496 = .ok (.iconst 0, 1) := by decide +kernel
theorem dL_law_497 : decode cL_law 497 = .ok (.ireturn, 1) := by decide +kernel
theorem dL_law_498 : decode cL_law 498 = .ok (.aload_n 1, 1) := by decide +kernel
theorem dL_law_499 : decode cL_law 499 = .ok (.invokevirtual 85, 3) := by decide +kernel
theorem dL_law_502 : decode cL_law 502 = .ok (.aload_n 2, 1) := by decide +kernel
theorem dL_law_503 : decode cL_law 503 = .ok (.invokevirtual 88, 3) := by decide +kernel
theorem dL_law_506 : decode cL_law 506 = .ok (.if_icmp .eq 56, 3) := by decide +kernel
theorem dL_law_509 : decode cL_law 509 = .ok (.iconst 0, 1) := by decide +kernel
theorem dL_law_510 : decode cL_law 510 = .ok (.ireturn, 1) := by decide +kernel
theorem dL_law_511 : decode cL_law 511 = .ok (.aload_n 1, 1) := by decide +kernel
theorem dL_law_512 : decode cL_law 512 = .ok (.invokevirtual 89, 3) := by decide +kernel
theorem dL_law_515 : decode cL_law 515 = .ok (.aload_n 2, 1) := by decide +kernel
theorem dL_law_516 : decode cL_law 516 = .ok (.invokevirtual 92, 3) := by decide +kernel
theorem dL_law_519 : decode cL_law 519 = .ok (.if_icmp .eq 43, 3) := by decide +kernel
theorem dL_law_522 : decode cL_law 522 = .ok (.iconst 0, 1) := by decide +kernel
theorem dL_law_523 : decode cL_law 523 = .ok (.ireturn, 1) := by decide +kernel
theorem dL_law_524 : decode cL_law 524 = .ok (.aload_n 1, 1) := by decide +kernel
theorem dL_law_525 : decode cL_law 525 = .ok (.invokevirtual 93, 3) := by decide +kernel
theorem dL_law_528 : decode cL_law 528 = .ok (.aload_n 2, 1) := by decide +kernel
theorem dL_law_529 : decode cL_law 529 = .ok (.invokevirtual 96, 3) := by decide +kernel
theorem dL_law_532 : decode cL_law 532 = .ok (.if_icmp .eq 30, 3) := by decide +kernel
theorem dL_law_535 : decode cL_law 535 = .ok (.iconst 0, 1) := by decide +kernel
theorem dL_law_536 : decode cL_law 536 = .ok (.ireturn, 1) := by decide +kernel
theorem dL_law_537 : decode cL_law 537 = .ok (.aload_n 1, 1) := by decide +kernel
theorem dL_law_538 : decode cL_law 538 = .ok (.aload_n 0, 1) := by decide +kernel
theorem dL_law_539 : decode cL_law 539 = .ok (.iload 4, 2) := by decide +kernel
theorem dL_law_541 : decode cL_law 541 = .ok (.iconst 1, 1) := by decide +kernel
theorem dL_law_542 : decode cL_law 542 = .ok (.iadd, 1) := by decide +kernel
theorem dL_law_543 : decode cL_law 543 = .ok (.iaload, 1) := by decide +kernel
theorem dL_law_544 : decode cL_law 544 = .ok (.invokevirtual 97, 3) := by decide +kernel
theorem dL_law_547 : decode cL_law 547 = .ok (.aload_n 2, 1) := by decide +kernel
theorem dL_law_548 : decode cL_law 548 = .ok (.aload_n 0, 1) := by decide +kernel
theorem dL_law_549 : decode cL_law 549 = .ok (.iload 4, 2) := by decide +kernel
theorem dL_law_551 : decode cL_law 551 = .ok (.iconst 1, 1) := by decide +kernel
theorem dL_law_552 : decode cL_law 552 = .ok (.iadd, 1) := by decide +kernel
theorem dL_law_553 : decode cL_law 553 = .ok (.iaload, 1) := by decide +kernel
theorem dL_law_554 : decode cL_law 554 = .ok (.invokevirtual 100, 3) := by decide +kernel
theorem dL_law_557 : decode cL_law 557 = .ok (.if_icmp .eq 5, 3) := by decide +kernel
theorem dL_law_560 : decode cL_law 560 = .ok (.iconst 0, 1) := by decide +kernel
theorem dL_law_561 : decode cL_law 561 = .ok (.ireturn, 1) := by decide +kernel
theorem dL_law_562 : decode cL_law 562 = .ok (.iinc 4 4, 3) := by decide +kernel
theorem dL_law_565 : decode cL_law 565 = .ok (.goto (-532), 3) := by decide +kernel
theorem dL_law_568 : decode cL_law 568 = .ok (.iconst 1, 1) := by decide +kernel
theorem dL_law_569 : decode cL_law 569 = .ok (.ireturn, 1) := by decide +kernel
abbrev vwCl : List vw_C := [(RJx00060, TJx00060, 6), (RX0, TX0, 8), (RX1, TX1, 2), (RX2, TX2, 16), (RX3, TX3, 21)]

