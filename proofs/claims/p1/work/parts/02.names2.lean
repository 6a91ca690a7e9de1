theorem dX2_wrong_0 : decode cX2_wrong 0 = .ok (.iconst 0, 1) := by decide +kernel
theorem dX2_wrong_1 : decode cX2_wrong 1 = .ok (.istore_n 2, 1) := by decide +kernel
theorem dX2_wrong_2 : decode cX2_wrong 2 = .ok (.iconst 0, 1) := by decide +kernel
theorem dX2_wrong_3 : decode cX2_wrong 3 = .ok (.istore_n 3, 1) := by decide +kernel
theorem dX2_wrong_4 : decode cX2_wrong 4 = .ok (.iload_n 3, 1) := by decide +kernel
theorem dX2_wrong_5 : decode cX2_wrong 5 = .ok (.aload_n 0, 1) := by decide +kernel
theorem dX2_wrong_6 : decode cX2_wrong 6 = .ok (.getfield 23, 3) := by decide +kernel
theorem dX2_wrong_9 : decode cX2_wrong 9 = .ok (.getfield 153, 3) := by decide +kernel
theorem dX2_wrong_12 : decode cX2_wrong 12 = .ok (.if_icmp .ge 30, 3) := by decide +kernel
theorem dX2_wrong_15 : decode cX2_wrong 15 = .ok (.aload_n 0, 1) := by decide +kernel
theorem dX2_wrong_16 : decode cX2_wrong 16 = .ok (.getfield 23, 3) := by decide +kernel
theorem dX2_wrong_19 : decode cX2_wrong 19 = .ok (.iload_n 3, 1) := by decide +kernel
theorem dX2_wrong_20 : decode cX2_wrong 20 = .ok (.invokevirtual 154, 3) := by decide +kernel
theorem dX2_wrong_23 : decode cX2_wrong 23 = .ok (.ifCond .ne 13, 3) := by decide +kernel
theorem dX2_wrong_26 : decode cX2_wrong 26 = .ok (.iload_n 2, 1) := by decide +kernel
theorem dX2_wrong_27 : decode cX2_wrong 27 = .ok (.iload_n 1, 1) := by decide +kernel
theorem dX2_wrong_28 : decode cX2_wrong 28 = .ok (.if_icmp .ne 5, 3) := by decide +kernel
theorem dX2_wrong_31 : decode cX2_wrong 31 = .ok (.iload_n 3, 1) := by decide +kernel
theorem dX2_wrong_32 : decode cX2_wrong 32 = .ok (.ireturn, 1) := by decide +kernel
theorem dX2_wrong_33 : decode cX2_wrong 33 = .ok (.iinc 2 1, 3) := by decide +kernel
theorem dX2_wrong_36 : decode cX2_wrong 36 = .ok (.iinc 3 1, 3) := by decide +kernel
theorem dX2_wrong_39 : decode cX2_wrong 39 = .ok (.goto (-35), 3) := by decide +kernel
theorem dX2_wrong_42 : decode cX2_wrong 42 = .ok (.iconst (-1), 1) := by decide +kernel
theorem dX2_wrong_43 : decode cX2_wrong 43 = .ok (.ireturn, 1) := by decide +kernel
theorem dX2_bad_0 : decode cX2_bad 0 = .ok (.aload_n 0, 1) := by decide +kernel
theorem dX2_bad_1 : decode cX2_bad 1 = .ok (.getfield 157, 3) := by decide +kernel
theorem dX2_bad_4 : decode cX2_bad 4 = .ok (.ireturn, 1) := by decide +kernel
set_option maxRecDepth 20000 in
theorem ggX2_backup_X1_copyAll : GoodIn wsX2_backup wsX1_copyAll := goodIn_r _ [10, 11, 12, 13, 14, 9, 15, 16, 17, 18, 19, 20, 21, 22, 23, 24, 41, 42] (by decide +kernel) (by decide +kernel)
set_option maxRecDepth 20000 in
theorem gX2_backup_X1_copyAll : GoodIn wsX2_backup (wsV RX2 160 RX1 yX1_copyAll wsX1_copyAll) := goodIn_app (goodIn_of _ (by decide +kernel)) ggX2_backup_X1_copyAll
theorem dX2_backup_0 : decode cX2_backup 0 = .ok (.aload_n 0, 1) := by decide +kernel
theorem dX2_backup_1 : decode cX2_backup 1 = .ok (.getfield 47, 3) := by decide +kernel
theorem dX2_backup_4 : decode cX2_backup 4 = .ok (.ifCond .ne 6, 3) := by decide +kernel
theorem dX2_backup_7 : decode cX2_backup 7 = .ok (.bipush (-3), 2) := by decide +kernel
theorem dX2_backup_9 : decode cX2_backup 9 = .ok (.ireturn, 1) := by decide +kernel
theorem dX2_backup_10 : decode cX2_backup 10 = .ok (.aload_n 0, 1) := by decide +kernel
theorem dX2_backup_11 : decode cX2_backup 11 = .ok (.getfield 33, 3) := by decide +kernel
theorem dX2_backup_14 : decode cX2_backup 14 = .ok (.aload_n 0, 1) := by decide +kernel
theorem dX2_backup_15 : decode cX2_backup 15 = .ok (.getfield 23, 3) := by decide +kernel
theorem dX2_backup_18 : decode cX2_backup 18 = .ok (.invokevirtual 160, 3) := by decide +kernel
theorem dX2_backup_21 : decode cX2_backup 21 = .ok (.aload_n 0, 1) := by decide +kernel
theorem dX2_backup_22 : decode cX2_backup 22 = .ok (.iconst 1, 1) := by decide +kernel
theorem dX2_backup_23 : decode cX2_backup 23 = .ok (.putfield 164, 3) := by decide +kernel
theorem dX2_backup_26 : decode cX2_backup 26 = .ok (.aload_n 0, 1) := by decide +kernel
theorem dX2_backup_27 : decode cX2_backup 27 = .ok (.getfield 76, 3) := by decide +kernel
theorem dX2_backup_30 : decode cX2_backup 30 = .ok (.ireturn, 1) := by decide +kernel
set_option maxRecDepth 20000 in
theorem ggX2_restore_X1_copyAll : GoodIn wsX2_restore wsX1_copyAll := goodIn_r _ [9, 10, 11, 12, 13, 8, 14, 15, 16, 17, 18, 19, 20, 21, 22, 23, 40, 41] (by decide +kernel) (by decide +kernel)
set_option maxRecDepth 20000 in
theorem gX2_restore_X1_copyAll : GoodIn wsX2_restore (wsV RX2 160 RX1 yX1_copyAll wsX1_copyAll) := goodIn_app (goodIn_of _ (by decide +kernel)) ggX2_restore_X1_copyAll
theorem dX2_restore_0 : decode cX2_restore 0 = .ok (.aload_n 0, 1) := by decide +kernel
theorem dX2_restore_1 : decode cX2_restore 1 = .ok (.getfield 47, 3) := by decide +kernel
theorem dX2_restore_4 : decode cX2_restore 4 = .ok (.ifCond .ne 10, 3) := by decide +kernel
theorem dX2_restore_7 : decode cX2_restore 7 = .ok (.aload_n 0, 1) := by decide +kernel
theorem dX2_restore_8 : decode cX2_restore 8 = .ok (.getfield 164, 3) := by decide +kernel
theorem dX2_restore_11 : decode cX2_restore 11 = .ok (.ifCond .ne 6, 3) := by decide +kernel
theorem dX2_restore_14 : decode cX2_restore 14 = .ok (.bipush (-3), 2) := by decide +kernel
theorem dX2_restore_16 : decode cX2_restore 16 = .ok (.ireturn, 1) := by decide +kernel
theorem dX2_restore_17 : decode cX2_restore 17 = .ok (.aload_n 0, 1) := by decide +kernel
theorem dX2_restore_18 : decode cX2_restore 18 = .ok (.getfield 23, 3) := by decide +kernel
theorem dX2_restore_21 : decode cX2_restore 21 = .ok (.aload_n 0, 1) := by decide +kernel
theorem dX2_restore_22 : decode cX2_restore 22 = .ok (.getfield 33, 3) := by decide +kernel
theorem dX2_restore_25 : decode cX2_restore 25 = .ok (.invokevirtual 160, 3) := by decide +kernel
theorem dX2_restore_28 : decode cX2_restore 28 = .ok (.iconst 1, 1) := by decide +kernel
theorem dX2_restore_29 : decode cX2_restore 29 = .ok (.ireturn, 1) := by decide +kernel
set_option maxRecDepth 20000 in
theorem ggX2_differ_X1_sameSector : GoodIn wsX2_differ wsX1_sameSector := goodIn_r _ [8, 9, 10, 11, 7, 12, 13, 14, 15, 16, 17, 18, 35, 36] (by decide +kernel) (by decide +kernel)
set_option maxRecDepth 20000 in
theorem gX2_differ_X1_sameSector : GoodIn wsX2_differ (wsV RX2 167 RX1 yX1_sameSector wsX1_sameSector) := goodIn_app (goodIn_of _ (by decide +kernel)) ggX2_differ_X1_sameSector
theorem dX2_differ_0 : decode cX2_differ 0 = .ok (.aload_n 0, 1) := by decide +kernel
theorem dX2_differ_1 : decode cX2_differ 1 = .ok (.getfield 164, 3) := by decide +kernel
theorem dX2_differ_4 : decode cX2_differ 4 = .ok (.ifCond .ne 5, 3) := by decide +kernel
theorem dX2_differ_7 : decode cX2_differ 7 = .ok (.iconst (-1), 1) := by decide +kernel
theorem dX2_differ_8 : decode cX2_differ 8 = .ok (.ireturn, 1) := by decide +kernel
theorem dX2_differ_9 : decode cX2_differ 9 = .ok (.iconst 0, 1) := by decide +kernel
theorem dX2_differ_10 : decode cX2_differ 10 = .ok (.istore_n 1, 1) := by decide +kernel
theorem dX2_differ_11 : decode cX2_differ 11 = .ok (.iconst 0, 1) := by decide +kernel
theorem dX2_differ_12 : decode cX2_differ 12 = .ok (.istore_n 2, 1) := by decide +kernel
theorem dX2_differ_13 : decode cX2_differ 13 = .ok (.iload_n 2, 1) := by decide +kernel
theorem dX2_differ_14 : decode cX2_differ 14 = .ok (.aload_n 0, 1) := by decide +kernel
theorem dX2_differ_15 : decode cX2_differ 15 = .ok (.getfield 23, 3) := by decide +kernel
theorem dX2_differ_18 : decode cX2_differ 18 = .ok (.getfield 153, 3) := by decide +kernel
theorem dX2_differ_21 : decode cX2_differ 21 = .ok (.if_icmp .ge 27, 3) := by decide +kernel
theorem dX2_differ_24 : decode cX2_differ 24 = .ok (.aload_n 0, 1) := by decide +kernel
theorem dX2_differ_25 : decode cX2_differ 25 = .ok (.getfield 23, 3) := by decide +kernel
theorem dX2_differ_28 : decode cX2_differ 28 = .ok (.aload_n 0, 1) := by decide +kernel
theorem dX2_differ_29 : decode cX2_differ 29 = .ok (.getfield 33, 3) := by decide +kernel
theorem dX2_differ_32 : decode cX2_differ 32 = .ok (.iload_n 2, 1) := by decide +kernel
theorem dX2_differ_33 : decode cX2_differ 33 = .ok (.invokevirtual 167, 3) := by decide +kernel
theorem dX2_differ_36 : decode cX2_differ 36 = .ok (.ifCond .ne 6, 3) := by decide +kernel
theorem dX2_differ_39 : decode cX2_differ 39 = .ok (.iinc 1 1, 3) := by decide +kernel
theorem dX2_differ_42 : decode cX2_differ 42 = .ok (.iinc 2 1, 3) := by decide +kernel
theorem dX2_differ_45 : decode cX2_differ 45 = .ok (.goto (-32), 3) := by decide +kernel
theorem dX2_differ_48 : decode cX2_differ 48 = .ok (.iload_n 1, 1) := by decide +kernel
theorem dX2_differ_49 : decode cX2_differ 49 = .ok (.ireturn, 1) := by decide +kernel
theorem dX2_state_0 : decode cX2_state 0 = .ok (.iload_n 1, 1) := by decide +kernel
theorem dX2_state_1 : decode cX2_state 1 = .ok (.tableswitch 62 0 3 #[31, 36, 41, 54], 31) := by decide +kernel
theorem dX2_state_32 : decode cX2_state 32 = .ok (.aload_n 0, 1) := by decide +kernel
theorem dX2_state_33 : decode cX2_state 33 = .ok (.getfield 76, 3) := by decide +kernel
theorem dX2_state_36 : decode cX2_state 36 = .ok (.ireturn, 1) := by decide +kernel
theorem dX2_state_37 : decode cX2_state 37 = .ok (.aload_n 0, 1) := by decide +kernel
theorem dX2_state_38 : decode cX2_state 38 = .ok (.getfield 79, 3) := by decide +kernel
theorem dX2_state_41 : decode cX2_state 41 = .ok (.ireturn, 1) := by decide +kernel
theorem dX2_state_42 : decode cX2_state 42 = .ok (.aload_n 0, 1) := by decide +kernel
theorem dX2_state_43 : decode cX2_state 43 = .ok (.getfield 47, 3) := by decide +kernel
theorem dX2_state_46 : decode cX2_state 46 = .ok (.ifCond .eq 7, 3) := by decide +kernel
theorem dX2_state_49 : decode cX2_state 49 = .ok (.iconst 1, 1) := by decide +kernel
theorem dX2_state_50 : decode cX2_state 50 = .ok (.goto 4, 3) := by decide +kernel
theorem dX2_state_53 : decode cX2_state 53 = .ok (.iconst 0, 1) := by decide +kernel
theorem dX2_state_54 : decode cX2_state 54 = .ok (.ireturn, 1) := by decide +kernel
theorem dX2_state_55 : decode cX2_state 55 = .ok (.aload_n 0, 1) := by decide +kernel
theorem dX2_state_56 : decode cX2_state 56 = .ok (.getfield 23, 3) := by decide +kernel
theorem dX2_state_59 : decode cX2_state 59 = .ok (.getfield 153, 3) := by decide +kernel
theorem dX2_state_62 : decode cX2_state 62 = .ok (.ireturn, 1) := by decide +kernel
theorem dX2_state_63 : decode cX2_state 63 = .ok (.iconst (-1), 1) := by decide +kernel
theorem dX2_state_64 : decode cX2_state 64 = .ok (.ireturn, 1) := by decide +kernel
theorem dX2_freeSectors_0 : decode cX2_freeSectors 0 = .ok (.aload_n 0, 1) := by decide +kernel
theorem dX2_freeSectors_1 : decode cX2_freeSectors 1 = .ok (.getfield 23, 3) := by decide +kernel
theorem dX2_freeSectors_4 : decode cX2_freeSectors 4 = .ok (.getfield 153, 3) := by decide +kernel
theorem dX2_freeSectors_7 : decode cX2_freeSectors 7 = .ok (.iconst 2, 1) := by decide +kernel
theorem dX2_freeSectors_8 : decode cX2_freeSectors 8 = .ok (.isub, 1) := by decide +kernel
theorem dX2_freeSectors_9 : decode cX2_freeSectors 9 = .ok (.aload_n 0, 1) := by decide +kernel
theorem dX2_freeSectors_10 : decode cX2_freeSectors 10 = .ok (.getfield 79, 3) := by decide +kernel
theorem dX2_freeSectors_13 : decode cX2_freeSectors 13 = .ok (.isub, 1) := by decide +kernel
theorem dX2_freeSectors_14 : decode cX2_freeSectors 14 = .ok (.ireturn, 1) := by decide +kernel
theorem dX2_needsFreshSector_0 : decode cX2_needsFreshSector 0 = .ok (.aload_n 0, 1) := by decide +kernel
theorem dX2_needsFreshSector_1 : decode cX2_needsFreshSector 1 = .ok (.getfield 66, 3) := by decide +kernel
theorem dX2_needsFreshSector_4 : decode cX2_needsFreshSector 4 = .ok (.ifCond .eq 14, 3) := by decide +kernel
theorem dX2_needsFreshSector_7 : decode cX2_needsFreshSector 7 = .ok (.aload_n 0, 1) := by decide +kernel
theorem dX2_needsFreshSector_8 : decode cX2_needsFreshSector 8 = .ok (.getfield 171, 3) := by decide +kernel
theorem dX2_needsFreshSector_11 : decode cX2_needsFreshSector 11 = .ok (.iload_n 1, 1) := by decide +kernel
theorem dX2_needsFreshSector_12 : decode cX2_needsFreshSector 12 = .ok (.iadd, 1) := by decide +kernel
theorem dX2_needsFreshSector_13 : decode cX2_needsFreshSector 13 = .ok (.bipush 55, 2) := by decide +kernel
theorem dX2_needsFreshSector_15 : decode cX2_needsFreshSector 15 = .ok (.if_icmp .le 7, 3) := by decide +kernel
theorem dX2_needsFreshSector_18 : decode cX2_needsFreshSector 18 = .ok (.iconst 1, 1) := by decide +kernel
theorem dX2_needsFreshSector_19 : decode cX2_needsFreshSector 19 = .ok (.goto 4, 3) := by decide +kernel
theorem dX2_needsFreshSector_22 : decode cX2_needsFreshSector 22 = .ok (.iconst 0, 1) := by decide +kernel
theorem dX2_needsFreshSector_23 : decode cX2_needsFreshSector 23 = .ok (.ireturn, 1) := by decide +kernel
theorem dX2_takeRoom_0 : decode cX2_takeRoom 0 = .ok (.iload_n 2, 1) := by decide +kernel
theorem dX2_takeRoom_1 : decode cX2_takeRoom 1 = .ok (.ifCond .eq 18, 3) := by decide +kernel
theorem dX2_takeRoom_4 : decode cX2_takeRoom 4 = .ok (.aload_n 0, 1) := by decide +kernel
theorem dX2_takeRoom_5 : decode cX2_takeRoom 5 = .ok (.dup, 1) := by decide +kernel
theorem dX2_takeRoom_6 : decode cX2_takeRoom 6 = .ok (.getfield 66, 3) := by decide +kernel
theorem dX2_takeRoom_9 : decode cX2_takeRoom 9 = .ok (.iconst 1, 1) := by decide +kernel
theorem dX2_takeRoom_10 : decode cX2_takeRoom 10 = .ok (.iadd, 1) := by decide +kernel
theorem dX2_takeRoom_11 : decode cX2_takeRoom 11 = .ok (.putfield 66, 3) := by decide +kernel
theorem dX2_takeRoom_14 : decode cX2_takeRoom 14 = .ok (.aload_n 0, 1) := by decide +kernel
theorem dX2_takeRoom_15 : decode cX2_takeRoom 15 = .ok (.iconst 0, 1) := by decide +kernel
theorem dX2_takeRoom_16 : decode cX2_takeRoom 16 = .ok (.putfield 171, 3) := by decide +kernel
theorem dX2_takeRoom_19 : decode cX2_takeRoom 19 = .ok (.aload_n 0, 1) := by decide +kernel
theorem dX2_takeRoom_20 : decode cX2_takeRoom 20 = .ok (.dup, 1) := by decide +kernel
theorem dX2_takeRoom_21 : decode cX2_takeRoom 21 = .ok (.getfield 171, 3) := by decide +kernel
theorem dX2_takeRoom_24 : decode cX2_takeRoom 24 = .ok (.iload_n 1, 1) := by decide +kernel
theorem dX2_takeRoom_25 : decode cX2_takeRoom 25 = .ok (.iadd, 1) := by decide +kernel
theorem dX2_takeRoom_26 : decode cX2_takeRoom 26 = .ok (.putfield 171, 3) := by decide +kernel
theorem dX2_takeRoom_29 : decode cX2_takeRoom 29 = .ok (.return_, 1) := by decide +kernel
theorem dX2_forgetOpenSectors_0 : decode cX2_forgetOpenSectors 0 = .ok (.aload_n 0, 1) := by decide +kernel
theorem dX2_forgetOpenSectors_1 : decode cX2_forgetOpenSectors 1 = .ok (.iconst 0, 1) := by decide +kernel
theorem dX2_forgetOpenSectors_2 : decode cX2_forgetOpenSectors 2 = .ok (.putfield 66, 3) := by decide +kernel
theorem dX2_forgetOpenSectors_5 : decode cX2_forgetOpenSectors 5 = .ok (.aload_n 0, 1) := by decide +kernel
theorem dX2_forgetOpenSectors_6 : decode cX2_forgetOpenSectors 6 = .ok (.iconst 0, 1) := by decide +kernel
theorem dX2_forgetOpenSectors_7 : decode cX2_forgetOpenSectors 7 = .ok (.putfield 171, 3) := by decide +kernel
theorem dX2_forgetOpenSectors_10 : decode cX2_forgetOpenSectors 10 = .ok (.return_, 1) := by decide +kernel
set_option maxRecDepth 20000 in
theorem ggX2_shelveCollected_X0_open : GoodIn wsX2_shelveCollected wsX0_open := goodIn_r _ [8, 9, 10, 11, 12, 13, 14, 36, 37, 38, 39, 40, 41, 42, 43] (by decide +kernel) (by decide +kernel)
set_option maxRecDepth 20000 in
theorem gX2_shelveCollected_X0_open : GoodIn wsX2_shelveCollected (wsV RX2 174 RX0 yX0_open wsX0_open) := goodIn_app (goodIn_of _ (by decide +kernel)) ggX2_shelveCollected_X0_open
set_option maxRecDepth 20000 in
theorem ggX2_shelveCollected_X0_extend : GoodIn wsX2_shelveCollected wsX0_extend := goodIn_r _ [18, 9, 14, 19, 11, 36, 37, 38, 39, 40, 41, 42, 43] (by decide +kernel) (by decide +kernel)
set_option maxRecDepth 20000 in
theorem gX2_shelveCollected_X0_extend : GoodIn wsX2_shelveCollected (wsV RX2 177 RX0 yX0_extend wsX0_extend) := goodIn_app (goodIn_of _ (by decide +kernel)) ggX2_shelveCollected_X0_extend
theorem dX2_shelveCollected_0 : decode cX2_shelveCollected 0 = .ok (.aload_n 0, 1) := by decide +kernel
theorem dX2_shelveCollected_1 : decode cX2_shelveCollected 1 = .ok (.getfield 39, 3) := by decide +kernel
theorem dX2_shelveCollected_4 : decode cX2_shelveCollected 4 = .ok (.iload_n 1, 1) := by decide +kernel
theorem dX2_shelveCollected_5 : decode cX2_shelveCollected 5 = .ok (.iconst (-1), 1) := by decide +kernel
theorem dX2_shelveCollected_6 : decode cX2_shelveCollected 6 = .ok (.invokevirtual 174, 3) := by decide +kernel
theorem dX2_shelveCollected_9 : decode cX2_shelveCollected 9 = .ok (.iconst 0, 1) := by decide +kernel
theorem dX2_shelveCollected_10 : decode cX2_shelveCollected 10 = .ok (.istore_n 2, 1) := by decide +kernel
theorem dX2_shelveCollected_11 : decode cX2_shelveCollected 11 = .ok (.iload_n 2, 1) := by decide +kernel
theorem dX2_shelveCollected_12 : decode cX2_shelveCollected 12 = .ok (.aload_n 0, 1) := by decide +kernel
theorem dX2_shelveCollected_13 : decode cX2_shelveCollected 13 = .ok (.getfield 51, 3) := by decide +kernel
theorem dX2_shelveCollected_16 : decode cX2_shelveCollected 16 = .ok (.if_icmp .ge 31, 3) := by decide +kernel
theorem dX2_shelveCollected_19 : decode cX2_shelveCollected 19 = .ok (.iload_n 2, 1) := by decide +kernel
theorem dX2_shelveCollected_20 : decode cX2_shelveCollected 20 = .ok (.aload_n 0, 1) := by decide +kernel
theorem dX2_shelveCollected_21 : decode cX2_shelveCollected 21 = .ok (.getfield 43, 3) := by decide +kernel
theorem dX2_shelveCollected_24 : decode cX2_shelveCollected 24 = .ok (.arraylength, 1) := by decide +kernel
theorem dX2_shelveCollected_25 : decode cX2_shelveCollected 25 = .ok (.if_icmp .ge 22, 3) := by decide +kernel
theorem dX2_shelveCollected_28 : decode cX2_shelveCollected 28 = .ok (.aload_n 0, 1) := by decide +kernel
theorem dX2_shelveCollected_29 : decode cX2_shelveCollected 29 = .ok (.getfield 39, 3) := by decide +kernel
theorem dX2_shelveCollected_32 : decode cX2_shelveCollected 32 = .ok (.aload_n 0, 1) := by decide +kernel
theorem dX2_shelveCollected_33 : decode cX2_shelveCollected 33 = .ok (.getfield 43, 3) := by decide +kernel
theorem dX2_shelveCollected_36 : decode cX2_shelveCollected 36 = .ok (.iload_n 2, 1) := by decide +kernel
theorem dX2_shelveCollected_37 : decode cX2_shelveCollected 37 = .ok (.baload, 1) := by decide +kernel
theorem dX2_shelveCollected_38 : decode cX2_shelveCollected 38 = .ok (.invokevirtual 177, 3) := by decide +kernel
theorem dX2_shelveCollected_41 : decode cX2_shelveCollected 41 = .ok (.iinc 2 1, 3) := by decide +kernel
theorem dX2_shelveCollected_44 : decode cX2_shelveCollected 44 = .ok (.goto (-33), 3) := by decide +kernel
theorem dX2_shelveCollected_47 : decode cX2_shelveCollected 47 = .ok (.aload_n 0, 1) := by decide +kernel
theorem dX2_shelveCollected_48 : decode cX2_shelveCollected 48 = .ok (.iconst 0, 1) := by decide +kernel
theorem dX2_shelveCollected_49 : decode cX2_shelveCollected 49 = .ok (.putfield 51, 3) := by decide +kernel
theorem dX2_shelveCollected_52 : decode cX2_shelveCollected 52 = .ok (.return_, 1) := by decide +kernel
set_option maxRecDepth 20000 in
theorem ggX2_layDownRows_X2_freeSectors : GoodIn wsX2_layDownRows wsX2_freeSectors := goodIn_r _ [7, 8, 9, 76, 77, 78, 79, 80, 81, 82, 83, 84, 85, 86, 87, 88, 89, 90, 91, 100, 101] (by decide +kernel) (by decide +kernel)
set_option maxRecDepth 20000 in
theorem gX2_layDownRows_X2_freeSectors : GoodIn wsX2_layDownRows (wsV RX2 62 RX2 yX2_freeSectors wsX2_freeSectors) := goodIn_app (goodIn_of _ (by decide +kernel)) ggX2_layDownRows_X2_freeSectors
set_option maxRecDepth 20000 in
theorem ggX2_layDownRows_X2_layDownSector : GoodIn wsX2_layDownRows wsX2_layDownSector := goodIn_r _ [13, 14, 15, 1, 16, 17, 18, 19, 20, 21, 22, 23, 24, 25, 26, 27, 28, 29, 30, 31, 32, 33, 34, 35, 36, 37, 6, 38, 39, 40, 41, 42, 43, 44, 45, 46, 47, 48, 49, 50, 51, 52, 53, 54, 55, 56, 57, 8, 58, 59, 60, 61, 62, 63, 64, 65, 66, 67, 68, 69, 70, 71, 72, 73, 74, 75, 76, 77, 78, 79, 80, 81, 82, 83, 84, 85, 86, 87, 88, 89, 90, 91, 92, 93, 94, 95, 96, 97, 98, 99, 100, 101] (by decide +kernel) (by decide +kernel)
set_option maxRecDepth 20000 in
theorem gX2_layDownRows_X2_layDownSector : GoodIn wsX2_layDownRows (wsV RX2 180 RX2 yX2_layDownSector wsX2_layDownSector) := goodIn_app (goodIn_of _ (by decide +kernel)) ggX2_layDownRows_X2_layDownSector
theorem dX2_layDownRows_0 : decode cX2_layDownRows 0 = .ok (.aload_n 0, 1) := by decide +kernel
theorem dX2_layDownRows_1 : decode cX2_layDownRows 1 = .ok (.invokevirtual 62, 3) := by decide +kernel
theorem dX2_layDownRows_4 : decode cX2_layDownRows 4 = .ok (.istore_n 1, 1) := by decide +kernel
theorem dX2_layDownRows_5 : decode cX2_layDownRows 5 = .ok (.iconst 0, 1) := by decide +kernel
theorem dX2_layDownRows_6 : decode cX2_layDownRows 6 = .ok (.istore_n 2, 1) := by decide +kernel
theorem dX2_layDownRows_7 : decode cX2_layDownRows 7 = .ok (.iload_n 2, 1) := by decide +kernel
theorem dX2_layDownRows_8 : decode cX2_layDownRows 8 = .ok (.iload_n 1, 1) := by decide +kernel
theorem dX2_layDownRows_9 : decode cX2_layDownRows 9 = .ok (.if_icmp .ge 36, 3) := by decide +kernel
theorem dX2_layDownRows_12 : decode cX2_layDownRows 12 = .ok (.aload_n 0, 1) := by decide +kernel
theorem dX2_layDownRows_13 : decode cX2_layDownRows 13 = .ok (.getfield 39, 3) := by decide +kernel
theorem dX2_layDownRows_16 : decode cX2_layDownRows 16 = .ok (.getfield 108, 3) := by decide +kernel
theorem dX2_layDownRows_19 : decode cX2_layDownRows 19 = .ok (.aload_n 0, 1) := by decide +kernel
theorem dX2_layDownRows_20 : decode cX2_layDownRows 20 = .ok (.getfield 39, 3) := by decide +kernel
theorem dX2_layDownRows_23 : decode cX2_layDownRows 23 = .ok (.getfield 59, 3) := by decide +kernel
theorem dX2_layDownRows_26 : decode cX2_layDownRows 26 = .ok (.if_icmp .ge 19, 3) := by decide +kernel
theorem dX2_layDownRows_29 : decode cX2_layDownRows 29 = .ok (.aload_n 0, 1) := by decide +kernel
theorem dX2_layDownRows_30 : decode cX2_layDownRows 30 = .ok (.aload_n 0, 1) := by decide +kernel
theorem dX2_layDownRows_31 : decode cX2_layDownRows 31 = .ok (.getfield 82, 3) := by decide +kernel
theorem dX2_layDownRows_34 : decode cX2_layDownRows 34 = .ok (.iload_n 2, 1) := by decide +kernel
theorem dX2_layDownRows_35 : decode cX2_layDownRows 35 = .ok (.iadd, 1) := by decide +kernel
theorem dX2_layDownRows_36 : decode cX2_layDownRows 36 = .ok (.invokevirtual 180, 3) := by decide +kernel
theorem dX2_layDownRows_39 : decode cX2_layDownRows 39 = .ok (.iinc 2 1, 3) := by decide +kernel
theorem dX2_layDownRows_42 : decode cX2_layDownRows 42 = .ok (.goto (-35), 3) := by decide +kernel
theorem dX2_layDownRows_45 : decode cX2_layDownRows 45 = .ok (.iload_n 2, 1) := by decide +kernel
theorem dX2_layDownRows_46 : decode cX2_layDownRows 46 = .ok (.ireturn, 1) := by decide +kernel
set_option maxRecDepth 20000 in
theorem ggX2_layDownSector_X1_clearSector : GoodIn wsX2_layDownSector wsX1_clearSector := goodIn_r _ [8, 9, 10, 11, 7, 12, 13, 14, 15, 16, 17, 18, 90, 91] (by decide +kernel) (by decide +kernel)
set_option maxRecDepth 20000 in
theorem gX2_layDownSector_X1_clearSector : GoodIn wsX2_layDownSector (wsV RX2 183 RX1 yX1_clearSector wsX1_clearSector) := goodIn_app (goodIn_of _ (by decide +kernel)) ggX2_layDownSector_X1_clearSector
set_option maxRecDepth 20000 in
theorem ggX2_layDownSector_X1_putNumber : GoodIn wsX2_layDownSector wsX1_putNumber := goodIn_r _ [22, 9, 10, 11, 7, 12, 13, 14, 15, 16, 17, 18, 90, 91] (by decide +kernel) (by decide +kernel)
set_option maxRecDepth 20000 in
theorem gX2_layDownSector_X1_putNumber : GoodIn wsX2_layDownSector (wsV RX2 186 RX1 yX1_putNumber wsX1_putNumber) := goodIn_app (goodIn_of _ (by decide +kernel)) ggX2_layDownSector_X1_putNumber
set_option maxRecDepth 20000 in
theorem ggX2_layDownSector_X2_layDownRow : GoodIn wsX2_layDownSector wsX2_layDownRow := goodIn_r _ [27, 3, 1, 28, 10, 11, 7, 12, 13, 14, 15, 16, 17, 18, 29, 30, 31, 32, 33, 34, 35, 36, 37, 38, 39, 40, 41, 66, 67, 68, 69, 70, 71, 72, 73, 74, 75, 76, 77, 78, 79, 80, 81, 82, 83, 84, 85, 86, 87, 88, 89, 90, 91] (by decide +kernel) (by decide +kernel)
set_option maxRecDepth 20000 in
theorem gX2_layDownSector_X2_layDownRow : GoodIn wsX2_layDownSector (wsV RX2 189 RX2 yX2_layDownRow wsX2_layDownRow) := goodIn_app (goodIn_of _ (by decide +kernel)) ggX2_layDownSector_X2_layDownRow
set_option maxRecDepth 20000 in
theorem ggX2_layDownSector_X1_put : GoodIn wsX2_layDownSector wsX1_put := goodIn_r _ [12, 13, 14, 15, 16, 7, 17, 18, 90, 91] (by decide +kernel) (by decide +kernel)
set_option maxRecDepth 20000 in
theorem gX2_layDownSector_X1_put : GoodIn wsX2_layDownSector (wsV RX2 149 RX1 yX1_put wsX1_put) := goodIn_app (goodIn_of _ (by decide +kernel)) ggX2_layDownSector_X1_put
set_option maxRecDepth 20000 in
theorem ggX2_layDownSector_X2_writeThrough : GoodIn wsX2_layDownSector wsX2_writeThrough := goodIn_r _ [45, 1, 46, 47, 48, 49, 50, 7, 51, 52, 53, 54, 55, 13, 56, 14, 15, 16, 17, 18, 57, 20, 21, 22, 9, 10, 11, 12, 58, 59, 60, 61, 62, 63, 64, 65, 66, 67, 68, 69, 70, 71, 72, 73, 74, 75, 76, 77, 78, 79, 80, 81, 90, 91] (by decide +kernel) (by decide +kernel)
set_option maxRecDepth 20000 in
theorem gX2_layDownSector_X2_writeThrough : GoodIn wsX2_layDownSector (wsV RX2 192 RX2 yX2_writeThrough wsX2_writeThrough) := goodIn_app (goodIn_of _ (by decide +kernel)) ggX2_layDownSector_X2_writeThrough
theorem dX2_layDownSector_0 : decode cX2_layDownSector 0 = .ok (.aload_n 0, 1) := by decide +kernel
theorem dX2_layDownSector_1 : decode cX2_layDownSector 1 = .ok (.getfield 30, 3) := by decide +kernel
theorem dX2_layDownSector_4 : decode cX2_layDownSector 4 = .ok (.iload_n 1, 1) := by decide +kernel
theorem dX2_layDownSector_5 : decode cX2_layDownSector 5 = .ok (.invokevirtual 183, 3) := by decide +kernel
theorem dX2_layDownSector_8 : decode cX2_layDownSector 8 = .ok (.aload_n 0, 1) := by decide +kernel
theorem dX2_layDownSector_9 : decode cX2_layDownSector 9 = .ok (.getfield 30, 3) := by decide +kernel
theorem dX2_layDownSector_12 : decode cX2_layDownSector 12 = .ok (.iload_n 1, 1) := by decide +kernel
theorem dX2_layDownSector_13 : decode cX2_layDownSector 13 = .ok (.iconst 0, 1) := by decide +kernel
theorem dX2_layDownSector_14 : decode cX2_layDownSector 14 = .ok (.aload_n 0, 1) := by decide +kernel
theorem dX2_layDownSector_15 : decode cX2_layDownSector 15 = .ok (.getfield 76, 3) := by decide +kernel
theorem dX2_layDownSector_18 : decode cX2_layDownSector 18 = .ok (.invokevirtual 186, 3) := by decide +kernel
theorem dX2_layDownSector_21 : decode cX2_layDownSector 21 = .ok (.iconst 0, 1) := by decide +kernel
theorem dX2_layDownSector_22 : decode cX2_layDownSector 22 = .ok (.istore_n 2, 1) := by decide +kernel
theorem dX2_layDownSector_23 : decode cX2_layDownSector 23 = .ok (.aload_n 0, 1) := by decide +kernel
theorem dX2_layDownSector_24 : decode cX2_layDownSector 24 = .ok (.getfield 39, 3) := by decide +kernel
theorem dX2_layDownSector_27 : decode cX2_layDownSector 27 = .ok (.getfield 108, 3) := by decide +kernel
theorem dX2_layDownSector_30 : decode cX2_layDownSector 30 = .ok (.istore_n 3, 1) := by decide +kernel
theorem dX2_layDownSector_31 : decode cX2_layDownSector 31 = .ok (.iload_n 3, 1) := by decide +kernel
theorem dX2_layDownSector_32 : decode cX2_layDownSector 32 = .ok (.aload_n 0, 1) := by decide +kernel
theorem dX2_layDownSector_33 : decode cX2_layDownSector 33 = .ok (.getfield 39, 3) := by decide +kernel
theorem dX2_layDownSector_36 : decode cX2_layDownSector 36 = .ok (.getfield 59, 3) := by decide +kernel
theorem dX2_layDownSector_39 : decode cX2_layDownSector 39 = .ok (.if_icmp .ge 48, 3) := by decide +kernel
theorem dX2_layDownSector_42 : decode cX2_layDownSector 42 = .ok (.iconst 2, 1) := by decide +kernel
theorem dX2_layDownSector_43 : decode cX2_layDownSector 43 = .ok (.aload_n 0, 1) := by decide +kernel
theorem dX2_layDownSector_44 : decode cX2_layDownSector 44 = .ok (.getfield 39, 3) := by decide +kernel
theorem dX2_layDownSector_47 : decode cX2_layDownSector 47 = .ok (.getfield 127, 3) := by decide +kernel
theorem dX2_layDownSector_50 : decode cX2_layDownSector 50 = .ok (.iload_n 3, 1) := by decide +kernel
theorem dX2_layDownSector_51 : decode cX2_layDownSector 51 = .ok (.iaload, 1) := by decide +kernel
theorem dX2_layDownSector_52 : decode cX2_layDownSector 52 = .ok (.iadd, 1) := by decide +kernel
theorem dX2_layDownSector_53 : decode cX2_layDownSector 53 = .ok (.istore 4, 2) := by decide +kernel
theorem dX2_layDownSector_55 : decode cX2_layDownSector 55 = .ok (.iload_n 2, 1) := by decide +kernel
theorem dX2_layDownSector_56 : decode cX2_layDownSector 56 = .ok (.iload 4, 2) := by decide +kernel
theorem dX2_layDownSector_58 : decode cX2_layDownSector 58 = .ok (.iadd, 1) := by decide +kernel
theorem dX2_layDownSector_59 : decode cX2_layDownSector 59 = .ok (.bipush 55, 2) := by decide +kernel
theorem dX2_layDownSector_61 : decode cX2_layDownSector 61 = .ok (.if_icmp .le 6, 3) := by decide +kernel
theorem dX2_layDownSector_64 : decode cX2_layDownSector 64 = .ok (.goto 23, 3) := by decide +kernel
theorem dX2_layDownSector_67 : decode cX2_layDownSector 67 = .ok (.aload_n 0, 1) := by decide +kernel
theorem dX2_layDownSector_68 : decode cX2_layDownSector 68 = .ok (.iload_n 3, 1) := by decide +kernel
theorem dX2_layDownSector_69 : decode cX2_layDownSector 69 = .ok (.iload_n 1, 1) := by decide +kernel
theorem dX2_layDownSector_70 : decode cX2_layDownSector 70 = .ok (.iconst 5, 1) := by decide +kernel
theorem dX2_layDownSector_71 : decode cX2_layDownSector 71 = .ok (.iload_n 2, 1) := by decide +kernel
theorem dX2_layDownSector_72 : decode cX2_layDownSector 72 = .ok (.iadd, 1) := by decide +kernel
theorem dX2_layDownSector_73 : decode cX2_layDownSector 73 = .ok (.invokevirtual 189, 3) := by decide +kernel
theorem dX2_layDownSector_76 : decode cX2_layDownSector 76 = .ok (.iload_n 2, 1) := by decide +kernel
theorem dX2_layDownSector_77 : decode cX2_layDownSector 77 = .ok (.iload 4, 2) := by decide +kernel
theorem dX2_layDownSector_79 : decode cX2_layDownSector 79 = .ok (.iadd, 1) := by decide +kernel
theorem dX2_layDownSector_80 : decode cX2_layDownSector 80 = .ok (.istore_n 2, 1) := by decide +kernel
theorem dX2_layDownSector_81 : decode cX2_layDownSector 81 = .ok (.iinc 3 1, 3) := by decide +kernel
theorem dX2_layDownSector_84 : decode cX2_layDownSector 84 = .ok (.goto (-53), 3) := by decide +kernel
theorem dX2_layDownSector_87 : decode cX2_layDownSector 87 = .ok (.aload_n 0, 1) := by decide +kernel
theorem dX2_layDownSector_88 : decode cX2_layDownSector 88 = .ok (.getfield 30, 3) := by decide +kernel
theorem dX2_layDownSector_91 : decode cX2_layDownSector 91 = .ok (.iload_n 1, 1) := by decide +kernel
theorem dX2_layDownSector_92 : decode cX2_layDownSector 92 = .ok (.iconst 4, 1) := by decide +kernel
theorem dX2_layDownSector_93 : decode cX2_layDownSector 93 = .ok (.iload_n 2, 1) := by decide +kernel
theorem dX2_layDownSector_94 : decode cX2_layDownSector 94 = .ok (.invokevirtual 149, 3) := by decide +kernel
theorem dX2_layDownSector_97 : decode cX2_layDownSector 97 = .ok (.aload_n 0, 1) := by decide +kernel
theorem dX2_layDownSector_98 : decode cX2_layDownSector 98 = .ok (.iload_n 1, 1) := by decide +kernel
theorem dX2_layDownSector_99 : decode cX2_layDownSector 99 = .ok (.invokevirtual 192, 3) := by decide +kernel
theorem dX2_layDownSector_102 : decode cX2_layDownSector 102 = .ok (.return_, 1) := by decide +kernel
set_option maxRecDepth 20000 in
theorem ggX2_layDownRow_X1_put : GoodIn wsX2_layDownRow wsX1_put := goodIn_r _ [7, 8, 9, 10, 11, 6, 12, 13, 51, 52] (by decide +kernel) (by decide +kernel)
set_option maxRecDepth 20000 in
theorem gX2_layDownRow_X1_put : GoodIn wsX2_layDownRow (wsV RX2 149 RX1 yX1_put wsX1_put) := goodIn_app (goodIn_of _ (by decide +kernel)) ggX2_layDownRow_X1_put
set_option maxRecDepth 20000 in
theorem ggX2_layDownRow_X0_byteOf : GoodIn wsX2_layDownRow wsX0_byteOf := goodIn_r _ [18, 19, 20, 21, 22, 23, 24, 17, 25, 26, 43, 44, 45, 46, 47, 48, 49, 50] (by decide +kernel) (by decide +kernel)
set_option maxRecDepth 20000 in
theorem gX2_layDownRow_X0_byteOf : GoodIn wsX2_layDownRow (wsV RX2 140 RX0 yX0_byteOf wsX0_byteOf) := goodIn_app (goodIn_of _ (by decide +kernel)) ggX2_layDownRow_X0_byteOf
theorem dX2_layDownRow_0 : decode cX2_layDownRow 0 = .ok (.aload_n 0, 1) := by decide +kernel
theorem dX2_layDownRow_1 : decode cX2_layDownRow 1 = .ok (.getfield 39, 3) := by decide +kernel
theorem dX2_layDownRow_4 : decode cX2_layDownRow 4 = .ok (.getfield 127, 3) := by decide +kernel
theorem dX2_layDownRow_7 : decode cX2_layDownRow 7 = .ok (.iload_n 1, 1) := by decide +kernel
theorem dX2_layDownRow_8 : decode cX2_layDownRow 8 = .ok (.iaload, 1) := by decide +kernel
theorem dX2_layDownRow_9 : decode cX2_layDownRow 9 = .ok (.istore 4, 2) := by decide +kernel
theorem dX2_layDownRow_11 : decode cX2_layDownRow 11 = .ok (.aload_n 0, 1) := by decide +kernel
theorem dX2_layDownRow_12 : decode cX2_layDownRow 12 = .ok (.getfield 30, 3) := by decide +kernel
theorem dX2_layDownRow_15 : decode cX2_layDownRow 15 = .ok (.iload_n 2, 1) := by decide +kernel
theorem dX2_layDownRow_16 : decode cX2_layDownRow 16 = .ok (.iload_n 3, 1) := by decide +kernel
theorem dX2_layDownRow_17 : decode cX2_layDownRow 17 = .ok (.aload_n 0, 1) := by decide +kernel
theorem dX2_layDownRow_18 : decode cX2_layDownRow 18 = .ok (.getfield 39, 3) := by decide +kernel
theorem dX2_layDownRow_21 : decode cX2_layDownRow 21 = .ok (.getfield 123, 3) := by decide +kernel
theorem dX2_layDownRow_24 : decode cX2_layDownRow 24 = .ok (.iload_n 1, 1) := by decide +kernel
theorem dX2_layDownRow_25 : decode cX2_layDownRow 25 = .ok (.iaload, 1) := by decide +kernel
theorem dX2_layDownRow_26 : decode cX2_layDownRow 26 = .ok (.invokevirtual 149, 3) := by decide +kernel
theorem dX2_layDownRow_29 : decode cX2_layDownRow 29 = .ok (.aload_n 0, 1) := by decide +kernel
theorem dX2_layDownRow_30 : decode cX2_layDownRow 30 = .ok (.getfield 30, 3) := by decide +kernel
theorem dX2_layDownRow_33 : decode cX2_layDownRow 33 = .ok (.iload_n 2, 1) := by decide +kernel
theorem dX2_layDownRow_34 : decode cX2_layDownRow 34 = .ok (.iload_n 3, 1) := by decide +kernel
theorem dX2_layDownRow_35 : decode cX2_layDownRow 35 = .ok (.iconst 1, 1) := by decide +kernel
theorem dX2_layDownRow_36 : decode cX2_layDownRow 36 = .ok (.iadd, 1) := by decide +kernel
theorem dX2_layDownRow_37 : decode cX2_layDownRow 37 = .ok (.iload 4, 2) := by decide +kernel
theorem dX2_layDownRow_39 : decode cX2_layDownRow 39 = .ok (.invokevirtual 149, 3) := by decide +kernel
theorem dX2_layDownRow_42 : decode cX2_layDownRow 42 = .ok (.iconst 0, 1) := by decide +kernel
theorem dX2_layDownRow_43 : decode cX2_layDownRow 43 = .ok (.istore 5, 2) := by decide +kernel
theorem dX2_layDownRow_45 : decode cX2_layDownRow 45 = .ok (.iload 5, 2) := by decide +kernel
theorem dX2_layDownRow_47 : decode cX2_layDownRow 47 = .ok (.iload 4, 2) := by decide +kernel
theorem dX2_layDownRow_49 : decode cX2_layDownRow 49 = .ok (.if_icmp .ge 33, 3) := by decide +kernel
theorem dX2_layDownRow_52 : decode cX2_layDownRow 52 = .ok (.aload_n 0, 1) := by decide +kernel
theorem dX2_layDownRow_53 : decode cX2_layDownRow 53 = .ok (.getfield 30, 3) := by decide +kernel
theorem dX2_layDownRow_56 : decode cX2_layDownRow 56 = .ok (.iload_n 2, 1) := by decide +kernel
theorem dX2_layDownRow_57 : decode cX2_layDownRow 57 = .ok (.iload_n 3, 1) := by decide +kernel
theorem dX2_layDownRow_58 : decode cX2_layDownRow 58 = .ok (.iconst 2, 1) := by decide +kernel
theorem dX2_layDownRow_59 : decode cX2_layDownRow 59 = .ok (.iadd, 1) := by decide +kernel
theorem dX2_layDownRow_60 : decode cX2_layDownRow 60 = .ok (.iload 5, 2) := by decide +kernel
theorem dX2_layDownRow_62 : decode cX2_layDownRow 62 = .ok (.iadd, 1) := by decide +kernel
theorem dX2_layDownRow_63 : decode cX2_layDownRow 63 = .ok (.aload_n 0, 1) := by decide +kernel
theorem dX2_layDownRow_64 : decode cX2_layDownRow 64 = .ok (.getfield 39, 3) := by decide +kernel
theorem dX2_layDownRow_67 : decode cX2_layDownRow 67 = .ok (.iload_n 1, 1) := by decide +kernel
theorem dX2_layDownRow_68 : decode cX2_layDownRow 68 = .ok (.iload 5, 2) := by decide +kernel
theorem dX2_layDownRow_70 : decode cX2_layDownRow 70 = .ok (.invokevirtual 140, 3) := by decide +kernel
theorem dX2_layDownRow_73 : decode cX2_layDownRow 73 = .ok (.invokevirtual 149, 3) := by decide +kernel
theorem dX2_layDownRow_76 : decode cX2_layDownRow 76 = .ok (.iinc 5 1, 3) := by decide +kernel
theorem dX2_layDownRow_79 : decode cX2_layDownRow 79 = .ok (.goto (-34), 3) := by decide +kernel
theorem dX2_layDownRow_82 : decode cX2_layDownRow 82 = .ok (.aload_n 0, 1) := by decide +kernel
theorem dX2_layDownRow_83 : decode cX2_layDownRow 83 = .ok (.getfield 39, 3) := by decide +kernel
theorem dX2_layDownRow_86 : decode cX2_layDownRow 86 = .ok (.getfield 130, 3) := by decide +kernel
theorem dX2_layDownRow_89 : decode cX2_layDownRow 89 = .ok (.iload_n 1, 1) := by decide +kernel
theorem dX2_layDownRow_90 : decode cX2_layDownRow 90 = .ok (.iload_n 2, 1) := by decide +kernel
theorem dX2_layDownRow_91 : decode cX2_layDownRow 91 = .ok (.iastore, 1) := by decide +kernel
theorem dX2_layDownRow_92 : decode cX2_layDownRow 92 = .ok (.aload_n 0, 1) := by decide +kernel
theorem dX2_layDownRow_93 : decode cX2_layDownRow 93 = .ok (.getfield 39, 3) := by decide +kernel
theorem dX2_layDownRow_96 : decode cX2_layDownRow 96 = .ok (.iload_n 1, 1) := by decide +kernel
theorem dX2_layDownRow_97 : decode cX2_layDownRow 97 = .ok (.iconst 1, 1) := by decide +kernel
theorem dX2_layDownRow_98 : decode cX2_layDownRow 98 = .ok (.iadd, 1) := by decide +kernel
theorem dX2_layDownRow_99 : decode cX2_layDownRow 99 = .ok (.putfield 108, 3) := by decide +kernel
theorem dX2_layDownRow_102 : decode cX2_layDownRow 102 = .ok (.return_, 1) := by decide +kernel
set_option maxRecDepth 20000 in
theorem ggX2_layDownHead_X2_headOf : GoodIn wsX2_layDownHead wsX2_headOf := goodIn_r _ [7] (by decide +kernel) (by decide +kernel)
set_option maxRecDepth 20000 in
theorem gX2_layDownHead_X2_headOf : GoodIn wsX2_layDownHead (va_wsS RX2 195 yX2_headOf wsX2_headOf) := goodIn_app (goodIn_of _ (by decide +kernel)) ggX2_layDownHead_X2_headOf
set_option maxRecDepth 20000 in
theorem ggX2_layDownHead_X1_clearSector : GoodIn wsX2_layDownHead wsX1_clearSector := goodIn_r _ [12, 13, 14, 15, 11, 16, 17, 18, 19, 20, 21, 22, 67, 68] (by decide +kernel) (by decide +kernel)
set_option maxRecDepth 20000 in
theorem gX2_layDownHead_X1_clearSector : GoodIn wsX2_layDownHead (wsV RX2 183 RX1 yX1_clearSector wsX1_clearSector) := goodIn_app (goodIn_of _ (by decide +kernel)) ggX2_layDownHead_X1_clearSector
set_option maxRecDepth 20000 in
theorem ggX2_layDownHead_X1_putNumber : GoodIn wsX2_layDownHead wsX1_putNumber := goodIn_r _ [26, 13, 14, 15, 11, 16, 17, 18, 19, 20, 21, 22, 67, 68] (by decide +kernel) (by decide +kernel)
set_option maxRecDepth 20000 in
theorem gX2_layDownHead_X1_putNumber : GoodIn wsX2_layDownHead (wsV RX2 186 RX1 yX1_putNumber wsX1_putNumber) := goodIn_app (goodIn_of _ (by decide +kernel)) ggX2_layDownHead_X1_putNumber
set_option maxRecDepth 20000 in
theorem ggX2_layDownHead_X2_writeThrough : GoodIn wsX2_layDownHead wsX2_writeThrough := goodIn_r _ [30, 2, 31, 32, 33, 34, 35, 11, 36, 37, 38, 39, 40, 17, 41, 18, 19, 20, 21, 22, 42, 24, 25, 26, 13, 14, 15, 16, 43, 44, 45, 46, 47, 48, 49, 50, 51, 52, 53, 54, 55, 56, 57, 58, 59, 60, 61, 62, 63, 64, 65, 66, 67, 68] (by decide +kernel) (by decide +kernel)
set_option maxRecDepth 20000 in
theorem gX2_layDownHead_X2_writeThrough : GoodIn wsX2_layDownHead (wsV RX2 192 RX2 yX2_writeThrough wsX2_writeThrough) := goodIn_app (goodIn_of _ (by decide +kernel)) ggX2_layDownHead_X2_writeThrough
theorem dX2_layDownHead_0 : decode cX2_layDownHead 0 = .ok (.aload_n 0, 1) := by decide +kernel
theorem dX2_layDownHead_1 : decode cX2_layDownHead 1 = .ok (.getfield 76, 3) := by decide +kernel
theorem dX2_layDownHead_4 : decode cX2_layDownHead 4 = .ok (.invokestatic 195, 3) := by decide +kernel
theorem dX2_layDownHead_7 : decode cX2_layDownHead 7 = .ok (.istore_n 1, 1) := by decide +kernel
theorem dX2_layDownHead_8 : decode cX2_layDownHead 8 = .ok (.aload_n 0, 1) := by decide +kernel
theorem dX2_layDownHead_9 : decode cX2_layDownHead 9 = .ok (.getfield 30, 3) := by decide +kernel
theorem dX2_layDownHead_12 : decode cX2_layDownHead 12 = .ok (.iload_n 1, 1) := by decide +kernel
theorem dX2_layDownHead_13 : decode cX2_layDownHead 13 = .ok (.invokevirtual 183, 3) := by decide +kernel
theorem dX2_layDownHead_16 : decode cX2_layDownHead 16 = .ok (.aload_n 0, 1) := by decide +kernel
theorem dX2_layDownHead_17 : decode cX2_layDownHead 17 = .ok (.getfield 30, 3) := by decide +kernel
theorem dX2_layDownHead_20 : decode cX2_layDownHead 20 = .ok (.iload_n 1, 1) := by decide +kernel
theorem dX2_layDownHead_21 : decode cX2_layDownHead 21 = .ok (.iconst 0, 1) := by decide +kernel
theorem dX2_layDownHead_22 : decode cX2_layDownHead 22 = .ok (.aload_n 0, 1) := by decide +kernel
theorem dX2_layDownHead_23 : decode cX2_layDownHead 23 = .ok (.getfield 76, 3) := by decide +kernel
theorem dX2_layDownHead_26 : decode cX2_layDownHead 26 = .ok (.invokevirtual 186, 3) := by decide +kernel
theorem dX2_layDownHead_29 : decode cX2_layDownHead 29 = .ok (.aload_n 0, 1) := by decide +kernel
theorem dX2_layDownHead_30 : decode cX2_layDownHead 30 = .ok (.getfield 30, 3) := by decide +kernel
theorem dX2_layDownHead_33 : decode cX2_layDownHead 33 = .ok (.iload_n 1, 1) := by decide +kernel
theorem dX2_layDownHead_34 : decode cX2_layDownHead 34 = .ok (.iconst 4, 1) := by decide +kernel
theorem dX2_layDownHead_35 : decode cX2_layDownHead 35 = .ok (.aload_n 0, 1) := by decide +kernel
theorem dX2_layDownHead_36 : decode cX2_layDownHead 36 = .ok (.getfield 79, 3) := by decide +kernel
theorem dX2_layDownHead_39 : decode cX2_layDownHead 39 = .ok (.invokevirtual 186, 3) := by decide +kernel
theorem dX2_layDownHead_42 : decode cX2_layDownHead 42 = .ok (.aload_n 0, 1) := by decide +kernel
theorem dX2_layDownHead_43 : decode cX2_layDownHead 43 = .ok (.iload_n 1, 1) := by decide +kernel
theorem dX2_layDownHead_44 : decode cX2_layDownHead 44 = .ok (.invokevirtual 192, 3) := by decide +kernel
theorem dX2_layDownHead_47 : decode cX2_layDownHead 47 = .ok (.return_, 1) := by decide +kernel
set_option maxRecDepth 20000 in
theorem ggX2_writeThrough_X1_seal : GoodIn wsX2_writeThrough wsX1_seal := goodIn_r _ [8, 9, 10, 11, 7, 12, 13, 14, 15, 16, 17, 18, 19, 20, 21, 22, 23, 24, 25, 26, 27, 52, 53] (by decide +kernel) (by decide +kernel)
set_option maxRecDepth 20000 in
theorem gX2_writeThrough_X1_seal : GoodIn wsX2_writeThrough (wsV RX2 198 RX1 yX1_seal wsX1_seal) := goodIn_app (goodIn_of _ (by decide +kernel)) ggX2_writeThrough_X1_seal
set_option maxRecDepth 20000 in
theorem ggX2_writeThrough_X1_copyPart : GoodIn wsX2_writeThrough wsX1_copyPart := goodIn_r _ [31, 13, 32, 33, 34, 35, 15, 16, 17, 7, 18, 19, 52, 53] (by decide +kernel) (by decide +kernel)
set_option maxRecDepth 20000 in
theorem gX2_writeThrough_X1_copyPart : GoodIn wsX2_writeThrough (wsV RX2 201 RX1 yX1_copyPart wsX1_copyPart) := goodIn_app (goodIn_of _ (by decide +kernel)) ggX2_writeThrough_X1_copyPart
theorem dX2_writeThrough_0 : decode cX2_writeThrough 0 = .ok (.aload_n 0, 1) := by decide +kernel
theorem dX2_writeThrough_1 : decode cX2_writeThrough 1 = .ok (.getfield 30, 3) := by decide +kernel
theorem dX2_writeThrough_4 : decode cX2_writeThrough 4 = .ok (.iload_n 1, 1) := by decide +kernel
theorem dX2_writeThrough_5 : decode cX2_writeThrough 5 = .ok (.invokevirtual 198, 3) := by decide +kernel
theorem dX2_writeThrough_8 : decode cX2_writeThrough 8 = .ok (.aload_n 0, 1) := by decide +kernel
theorem dX2_writeThrough_9 : decode cX2_writeThrough 9 = .ok (.getfield 27, 3) := by decide +kernel
theorem dX2_writeThrough_12 : decode cX2_writeThrough 12 = .ok (.aload_n 0, 1) := by decide +kernel
theorem dX2_writeThrough_13 : decode cX2_writeThrough 13 = .ok (.getfield 23, 3) := by decide +kernel
theorem dX2_writeThrough_16 : decode cX2_writeThrough 16 = .ok (.iload_n 1, 1) := by decide +kernel
theorem dX2_writeThrough_17 : decode cX2_writeThrough 17 = .ok (.iconst 0, 1) := by decide +kernel
theorem dX2_writeThrough_18 : decode cX2_writeThrough 18 = .ok (.bipush 64, 2) := by decide +kernel
theorem dX2_writeThrough_20 : decode cX2_writeThrough 20 = .ok (.invokevirtual 201, 3) := by decide +kernel
theorem dX2_writeThrough_23 : decode cX2_writeThrough 23 = .ok (.aload_n 0, 1) := by decide +kernel
theorem dX2_writeThrough_24 : decode cX2_writeThrough 24 = .ok (.getfield 23, 3) := by decide +kernel
theorem dX2_writeThrough_27 : decode cX2_writeThrough 27 = .ok (.aload_n 0, 1) := by decide +kernel
theorem dX2_writeThrough_28 : decode cX2_writeThrough 28 = .ok (.getfield 30, 3) := by decide +kernel
theorem dX2_writeThrough_31 : decode cX2_writeThrough 31 = .ok (.iload_n 1, 1) := by decide +kernel
theorem dX2_writeThrough_32 : decode cX2_writeThrough 32 = .ok (.iconst 0, 1) := by decide +kernel
theorem dX2_writeThrough_33 : decode cX2_writeThrough 33 = .ok (.bipush 64, 2) := by decide +kernel
theorem dX2_writeThrough_35 : decode cX2_writeThrough 35 = .ok (.invokevirtual 201, 3) := by decide +kernel
theorem dX2_writeThrough_38 : decode cX2_writeThrough 38 = .ok (.return_, 1) := by decide +kernel
theorem dX2_headOf_0 : decode cX2_headOf 0 = .ok (.iload_n 0, 1) := by decide +kernel
theorem dX2_headOf_1 : decode cX2_headOf 1 = .ok (.iconst 1, 1) := by decide +kernel
theorem dX2_headOf_2 : decode cX2_headOf 2 = .ok (.iand, 1) := by decide +kernel
theorem dX2_headOf_3 : decode cX2_headOf 3 = .ok (.ireturn, 1) := by decide +kernel
set_option maxRecDepth 20000 in
theorem ggX2_sectorOfWrite_X2_headOf : GoodIn wsX2_sectorOfWrite wsX2_headOf := goodIn_r _ [7] (by decide +kernel) (by decide +kernel)
set_option maxRecDepth 20000 in
theorem gX2_sectorOfWrite_X2_headOf : GoodIn wsX2_sectorOfWrite (va_wsS RX2 195 yX2_headOf wsX2_headOf) := goodIn_app (goodIn_of _ (by decide +kernel)) ggX2_sectorOfWrite_X2_headOf
theorem dX2_sectorOfWrite_0 : decode cX2_sectorOfWrite 0 = .ok (.iload_n 1, 1) := by decide +kernel
theorem dX2_sectorOfWrite_1 : decode cX2_sectorOfWrite 1 = .ok (.aload_n 0, 1) := by decide +kernel
theorem dX2_sectorOfWrite_2 : decode cX2_sectorOfWrite 2 = .ok (.getfield 91, 3) := by decide +kernel
theorem dX2_sectorOfWrite_5 : decode cX2_sectorOfWrite 5 = .ok (.iconst 1, 1) := by decide +kernel
theorem dX2_sectorOfWrite_6 : decode cX2_sectorOfWrite 6 = .ok (.isub, 1) := by decide +kernel
theorem dX2_sectorOfWrite_7 : decode cX2_sectorOfWrite 7 = .ok (.if_icmp .ge 12, 3) := by decide +kernel
theorem dX2_sectorOfWrite_10 : decode cX2_sectorOfWrite 10 = .ok (.aload_n 0, 1) := by decide +kernel
theorem dX2_sectorOfWrite_11 : decode cX2_sectorOfWrite 11 = .ok (.getfield 82, 3) := by decide +kernel
theorem dX2_sectorOfWrite_14 : decode cX2_sectorOfWrite 14 = .ok (.iload_n 1, 1) := by decide +kernel
theorem dX2_sectorOfWrite_15 : decode cX2_sectorOfWrite 15 = .ok (.iadd, 1) := by decide +kernel
theorem dX2_sectorOfWrite_16 : decode cX2_sectorOfWrite 16 = .ok (.goto 10, 3) := by decide +kernel
theorem dX2_sectorOfWrite_19 : decode cX2_sectorOfWrite 19 = .ok (.aload_n 0, 1) := by decide +kernel
theorem dX2_sectorOfWrite_20 : decode cX2_sectorOfWrite 20 = .ok (.getfield 76, 3) := by decide +kernel
theorem dX2_sectorOfWrite_23 : decode cX2_sectorOfWrite 23 = .ok (.invokestatic 195, 3) := by decide +kernel
theorem dX2_sectorOfWrite_26 : decode cX2_sectorOfWrite 26 = .ok (.ireturn, 1) := by decide +kernel
set_option maxRecDepth 20000 in
theorem ggX2_breakOff_X1_copyPart : GoodIn wsX2_breakOff wsX1_copyPart := goodIn_r _ [8, 9, 10, 11, 12, 13, 14, 15, 16, 7, 17, 18, 35, 36] (by decide +kernel) (by decide +kernel)
set_option maxRecDepth 20000 in
theorem gX2_breakOff_X1_copyPart : GoodIn wsX2_breakOff (wsV RX2 201 RX1 yX1_copyPart wsX1_copyPart) := goodIn_app (goodIn_of _ (by decide +kernel)) ggX2_breakOff_X1_copyPart
theorem dX2_breakOff_0 : decode cX2_breakOff 0 = .ok (.aload_n 0, 1) := by decide +kernel
theorem dX2_breakOff_1 : decode cX2_breakOff 1 = .ok (.getfield 23, 3) := by decide +kernel
theorem dX2_breakOff_4 : decode cX2_breakOff 4 = .ok (.aload_n 0, 1) := by decide +kernel
theorem dX2_breakOff_5 : decode cX2_breakOff 5 = .ok (.getfield 30, 3) := by decide +kernel
theorem dX2_breakOff_8 : decode cX2_breakOff 8 = .ok (.iload_n 1, 1) := by decide +kernel
theorem dX2_breakOff_9 : decode cX2_breakOff 9 = .ok (.iconst 0, 1) := by decide +kernel
theorem dX2_breakOff_10 : decode cX2_breakOff 10 = .ok (.iload_n 2, 1) := by decide +kernel
theorem dX2_breakOff_11 : decode cX2_breakOff 11 = .ok (.invokevirtual 201, 3) := by decide +kernel
theorem dX2_breakOff_14 : decode cX2_breakOff 14 = .ok (.aload_n 0, 1) := by decide +kernel
theorem dX2_breakOff_15 : decode cX2_breakOff 15 = .ok (.getfield 23, 3) := by decide +kernel
theorem dX2_breakOff_18 : decode cX2_breakOff 18 = .ok (.aload_n 0, 1) := by decide +kernel
theorem dX2_breakOff_19 : decode cX2_breakOff 19 = .ok (.getfield 27, 3) := by decide +kernel
theorem dX2_breakOff_22 : decode cX2_breakOff 22 = .ok (.iload_n 1, 1) := by decide +kernel
theorem dX2_breakOff_23 : decode cX2_breakOff 23 = .ok (.iload_n 2, 1) := by decide +kernel
theorem dX2_breakOff_24 : decode cX2_breakOff 24 = .ok (.bipush 64, 2) := by decide +kernel
theorem dX2_breakOff_26 : decode cX2_breakOff 26 = .ok (.invokevirtual 201, 3) := by decide +kernel
theorem dX2_breakOff_29 : decode cX2_breakOff 29 = .ok (.return_, 1) := by decide +kernel
set_option maxRecDepth 20000 in
theorem ggX2_goOff_X0_clear : GoodIn wsX2_goOff wsX0_clear := goodIn_r _ [8, 9, 10, 11, 35, 36, 37, 38, 39, 40, 41, 42] (by decide +kernel) (by decide +kernel)
set_option maxRecDepth 20000 in
theorem gX2_goOff_X0_clear : GoodIn wsX2_goOff (wsV RX2 205 RX0 yX0_clear wsX0_clear) := goodIn_app (goodIn_of _ (by decide +kernel)) ggX2_goOff_X0_clear
set_option maxRecDepth 20000 in
theorem ggX2_goOff_X2_forgetOpenSectors : GoodIn wsX2_goOff wsX2_forgetOpenSectors := goodIn_r _ [16, 17, 18, 19, 20, 21, 22, 23, 24, 25, 26, 27, 28, 29, 30, 31, 32, 33, 34] (by decide +kernel) (by decide +kernel)
set_option maxRecDepth 20000 in
theorem gX2_goOff_X2_forgetOpenSectors : GoodIn wsX2_goOff (wsV RX2 94 RX2 yX2_forgetOpenSectors wsX2_forgetOpenSectors) := goodIn_app (goodIn_of _ (by decide +kernel)) ggX2_goOff_X2_forgetOpenSectors
theorem dX2_goOff_0 : decode cX2_goOff 0 = .ok (.aload_n 0, 1) := by decide +kernel
theorem dX2_goOff_1 : decode cX2_goOff 1 = .ok (.getfield 39, 3) := by decide +kernel
theorem dX2_goOff_4 : decode cX2_goOff 4 = .ok (.invokevirtual 205, 3) := by decide +kernel
theorem dX2_goOff_7 : decode cX2_goOff 7 = .ok (.aload_n 0, 1) := by decide +kernel
theorem dX2_goOff_8 : decode cX2_goOff 8 = .ok (.iconst 0, 1) := by decide +kernel
theorem dX2_goOff_9 : decode cX2_goOff 9 = .ok (.putfield 51, 3) := by decide +kernel
theorem dX2_goOff_12 : decode cX2_goOff 12 = .ok (.aload_n 0, 1) := by decide +kernel
theorem dX2_goOff_13 : decode cX2_goOff 13 = .ok (.invokevirtual 94, 3) := by decide +kernel
theorem dX2_goOff_16 : decode cX2_goOff 16 = .ok (.aload_n 0, 1) := by decide +kernel
theorem dX2_goOff_17 : decode cX2_goOff 17 = .ok (.iconst 0, 1) := by decide +kernel
theorem dX2_goOff_18 : decode cX2_goOff 18 = .ok (.putfield 47, 3) := by decide +kernel
theorem dX2_goOff_21 : decode cX2_goOff 21 = .ok (.return_, 1) := by decide +kernel
set_option maxRecDepth 20000 in
theorem ggX2_latestRightHead_X2_headIsRight : GoodIn wsX2_latestRightHead wsX2_headIsRight := goodIn_r _ [6, 1, 7, 8, 9, 10, 11, 12, 13, 14, 15, 16, 17, 18, 19, 20, 21, 22, 23, 24, 25, 26, 27, 28, 29, 30, 31, 32, 33, 34, 35, 36, 37, 38, 39, 40, 41, 42, 43, 44, 45, 46, 47, 48, 49, 50, 51, 52, 53] (by decide +kernel) (by decide +kernel)
set_option maxRecDepth 20000 in
theorem gX2_latestRightHead_X2_headIsRight : GoodIn wsX2_latestRightHead (wsV RX2 208 RX2 yX2_headIsRight wsX2_headIsRight) := goodIn_app (goodIn_of _ (by decide +kernel)) ggX2_latestRightHead_X2_headIsRight
set_option maxRecDepth 20000 in
theorem ggX2_latestRightHead_X1_unsignedAt : GoodIn wsX2_latestRightHead wsX1_unsignedAt := goodIn_r _ [34, 35, 12, 13, 14, 10, 15, 16, 17, 18, 19, 20, 21, 22, 23, 24, 25, 52, 53] (by decide +kernel) (by decide +kernel)
set_option maxRecDepth 20000 in
theorem gX2_latestRightHead_X1_unsignedAt : GoodIn wsX2_latestRightHead (wsV RX2 211 RX1 yX1_unsignedAt wsX1_unsignedAt) := goodIn_app (goodIn_of _ (by decide +kernel)) ggX2_latestRightHead_X1_unsignedAt
theorem dX2_latestRightHead_0 : decode cX2_latestRightHead 0 = .ok (.aload_n 0, 1) := by decide +kernel
theorem dX2_latestRightHead_1 : decode cX2_latestRightHead 1 = .ok (.iconst 0, 1) := by decide +kernel
theorem dX2_latestRightHead_2 : decode cX2_latestRightHead 2 = .ok (.invokevirtual 208, 3) := by decide +kernel
theorem dX2_latestRightHead_5 : decode cX2_latestRightHead 5 = .ok (.istore_n 1, 1) := by decide +kernel
theorem dX2_latestRightHead_6 : decode cX2_latestRightHead 6 = .ok (.aload_n 0, 1) := by decide +kernel
theorem dX2_latestRightHead_7 : decode cX2_latestRightHead 7 = .ok (.iconst 1, 1) := by decide +kernel
theorem dX2_latestRightHead_8 : decode cX2_latestRightHead 8 = .ok (.invokevirtual 208, 3) := by decide +kernel
theorem dX2_latestRightHead_11 : decode cX2_latestRightHead 11 = .ok (.istore_n 2, 1) := by decide +kernel
theorem dX2_latestRightHead_12 : decode cX2_latestRightHead 12 = .ok (.iload_n 1, 1) := by decide +kernel
theorem dX2_latestRightHead_13 : decode cX2_latestRightHead 13 = .ok (.ifCond .eq 35, 3) := by decide +kernel
theorem dX2_latestRightHead_16 : decode cX2_latestRightHead 16 = .ok (.iload_n 2, 1) := by decide +kernel
theorem dX2_latestRightHead_17 : decode cX2_latestRightHead 17 = .ok (.ifCond .eq 31, 3) := by decide +kernel
theorem dX2_latestRightHead_20 : decode cX2_latestRightHead 20 = .ok (.aload_n 0, 1) := by decide +kernel
theorem dX2_latestRightHead_21 : decode cX2_latestRightHead 21 = .ok (.getfield 23, 3) := by decide +kernel
theorem dX2_latestRightHead_24 : decode cX2_latestRightHead 24 = .ok (.iconst 1, 1) := by decide +kernel
theorem dX2_latestRightHead_25 : decode cX2_latestRightHead 25 = .ok (.iconst 0, 1) := by decide +kernel
theorem dX2_latestRightHead_26 : decode cX2_latestRightHead 26 = .ok (.invokevirtual 211, 3) := by decide +kernel
theorem dX2_latestRightHead_29 : decode cX2_latestRightHead 29 = .ok (.aload_n 0, 1) := by decide +kernel
theorem dX2_latestRightHead_30 : decode cX2_latestRightHead 30 = .ok (.getfield 23, 3) := by decide +kernel
theorem dX2_latestRightHead_33 : decode cX2_latestRightHead 33 = .ok (.iconst 0, 1) := by decide +kernel
theorem dX2_latestRightHead_34 : decode cX2_latestRightHead 34 = .ok (.iconst 0, 1) := by decide +kernel
theorem dX2_latestRightHead_35 : decode cX2_latestRightHead 35 = .ok (.invokevirtual 211, 3) := by decide +kernel
theorem dX2_latestRightHead_38 : decode cX2_latestRightHead 38 = .ok (.lcmp, 1) := by decide +kernel
theorem dX2_latestRightHead_39 : decode cX2_latestRightHead 39 = .ok (.ifCond .le 7, 3) := by decide +kernel
theorem dX2_latestRightHead_42 : decode cX2_latestRightHead 42 = .ok (.iconst 1, 1) := by decide +kernel
theorem dX2_latestRightHead_43 : decode cX2_latestRightHead 43 = .ok (.goto 4, 3) := by decide +kernel
theorem dX2_latestRightHead_46 : decode cX2_latestRightHead 46 = .ok (.iconst 0, 1) := by decide +kernel
theorem dX2_latestRightHead_47 : decode cX2_latestRightHead 47 = .ok (.ireturn, 1) := by decide +kernel
theorem dX2_latestRightHead_48 : decode cX2_latestRightHead 48 = .ok (.iload_n 1, 1) := by decide +kernel
theorem dX2_latestRightHead_49 : decode cX2_latestRightHead 49 = .ok (.ifCond .eq 5, 3) := by decide +kernel
theorem dX2_latestRightHead_52 : decode cX2_latestRightHead 52 = .ok (.iconst 0, 1) := by decide +kernel
theorem dX2_latestRightHead_53 : decode cX2_latestRightHead 53 = .ok (.ireturn, 1) := by decide +kernel
theorem dX2_latestRightHead_54 : decode cX2_latestRightHead 54 = .ok (.iload_n 2, 1) := by decide +kernel
theorem dX2_latestRightHead_55 : decode cX2_latestRightHead 55 = .ok (.ifCond .eq 7, 3) := by decide +kernel
theorem dX2_latestRightHead_58 : decode cX2_latestRightHead 58 = .ok (.iconst 1, 1) := by decide +kernel
theorem dX2_latestRightHead_59 : decode cX2_latestRightHead 59 = .ok (.goto 4, 3) := by decide +kernel
theorem dX2_latestRightHead_62 : decode cX2_latestRightHead 62 = .ok (.iconst (-1), 1) := by decide +kernel
theorem dX2_latestRightHead_63 : decode cX2_latestRightHead 63 = .ok (.ireturn, 1) := by decide +kernel
set_option maxRecDepth 20000 in
theorem ggX2_headIsRight_X1_sumIsRight : GoodIn wsX2_headIsRight wsX1_sumIsRight := goodIn_r _ [6, 7, 8, 9, 5, 10, 11, 12, 13, 14, 15, 16, 17, 18, 19, 20, 21, 22, 23, 24, 25, 47, 48] (by decide +kernel) (by decide +kernel)
set_option maxRecDepth 20000 in
theorem gX2_headIsRight_X1_sumIsRight : GoodIn wsX2_headIsRight (wsV RX2 154 RX1 yX1_sumIsRight wsX1_sumIsRight) := goodIn_app (goodIn_of _ (by decide +kernel)) ggX2_headIsRight_X1_sumIsRight
set_option maxRecDepth 20000 in
theorem ggX2_headIsRight_X1_unsignedAt : GoodIn wsX2_headIsRight wsX1_unsignedAt := goodIn_r _ [29, 30, 7, 8, 9, 5, 10, 11, 12, 13, 14, 15, 16, 17, 18, 19, 20, 47, 48] (by decide +kernel) (by decide +kernel)
set_option maxRecDepth 20000 in
theorem gX2_headIsRight_X1_unsignedAt : GoodIn wsX2_headIsRight (wsV RX2 211 RX1 yX1_unsignedAt wsX1_unsignedAt) := goodIn_app (goodIn_of _ (by decide +kernel)) ggX2_headIsRight_X1_unsignedAt
theorem dX2_headIsRight_0 : decode cX2_headIsRight 0 = .ok (.aload_n 0, 1) := by decide +kernel
theorem dX2_headIsRight_1 : decode cX2_headIsRight 1 = .ok (.getfield 23, 3) := by decide +kernel
theorem dX2_headIsRight_4 : decode cX2_headIsRight 4 = .ok (.iload_n 1, 1) := by decide +kernel
theorem dX2_headIsRight_5 : decode cX2_headIsRight 5 = .ok (.invokevirtual 154, 3) := by decide +kernel
theorem dX2_headIsRight_8 : decode cX2_headIsRight 8 = .ok (.ifCond .eq 30, 3) := by decide +kernel
theorem dX2_headIsRight_11 : decode cX2_headIsRight 11 = .ok (.aload_n 0, 1) := by decide +kernel
theorem dX2_headIsRight_12 : decode cX2_headIsRight 12 = .ok (.getfield 23, 3) := by decide +kernel
theorem dX2_headIsRight_15 : decode cX2_headIsRight 15 = .ok (.iload_n 1, 1) := by decide +kernel
theorem dX2_headIsRight_16 : decode cX2_headIsRight 16 = .ok (.iconst 4, 1) := by decide +kernel
theorem dX2_headIsRight_17 : decode cX2_headIsRight 17 = .ok (.invokevirtual 211, 3) := by decide +kernel
theorem dX2_headIsRight_20 : decode cX2_headIsRight 20 = .ok (.aload_n 0, 1) := by decide +kernel
theorem dX2_headIsRight_21 : decode cX2_headIsRight 21 = .ok (.getfield 23, 3) := by decide +kernel
theorem dX2_headIsRight_24 : decode cX2_headIsRight 24 = .ok (.getfield 153, 3) := by decide +kernel
theorem dX2_headIsRight_27 : decode cX2_headIsRight 27 = .ok (.iconst 2, 1) := by decide +kernel
theorem dX2_headIsRight_28 : decode cX2_headIsRight 28 = .ok (.isub, 1) := by decide +kernel
theorem dX2_headIsRight_29 : decode cX2_headIsRight 29 = .ok (.i2l, 1) := by decide +kernel
theorem dX2_headIsRight_30 : decode cX2_headIsRight 30 = .ok (.lcmp, 1) := by decide +kernel
theorem dX2_headIsRight_31 : decode cX2_headIsRight 31 = .ok (.ifCond .gt 7, 3) := by decide +kernel
theorem dX2_headIsRight_34 : decode cX2_headIsRight 34 = .ok (.iconst 1, 1) := by decide +kernel
theorem dX2_headIsRight_35 : decode cX2_headIsRight 35 = .ok (.goto 4, 3) := by decide +kernel
theorem dX2_headIsRight_38 : decode cX2_headIsRight 38 = .ok (.iconst 0, 1) := by decide +kernel
theorem dX2_headIsRight_39 : decode cX2_headIsRight 39 = .ok (.ireturn, 1) := by decide +kernel
set_option maxRecDepth 20000 in
theorem ggX2_readLog_X0_clear : GoodIn wsX2_readLog wsX0_clear := goodIn_r _ [8, 9, 10, 11, 80, 81, 82, 83, 84, 85, 86, 87] (by decide +kernel) (by decide +kernel)
set_option maxRecDepth 20000 in
theorem gX2_readLog_X0_clear : GoodIn wsX2_readLog (wsV RX2 205 RX0 yX0_clear wsX0_clear) := goodIn_app (goodIn_of _ (by decide +kernel)) ggX2_readLog_X0_clear
set_option maxRecDepth 20000 in
theorem ggX2_readLog_X2_hasWholeRows : GoodIn wsX2_readLog wsX2_hasWholeRows := goodIn_r _ [16, 17, 18, 19, 20, 21, 22, 23, 24, 25, 26, 27, 28, 29, 30, 31, 32, 33, 34, 35, 36, 37, 38, 39, 40, 41, 42, 43, 44, 45, 46, 64, 65, 66, 67, 68, 69, 70, 71, 72, 73, 74, 75, 76, 77, 78, 79, 88, 89] (by decide +kernel) (by decide +kernel)
set_option maxRecDepth 20000 in
theorem gX2_readLog_X2_hasWholeRows : GoodIn wsX2_readLog (wsV RX2 215 RX2 yX2_hasWholeRows wsX2_hasWholeRows) := goodIn_app (goodIn_of _ (by decide +kernel)) ggX2_readLog_X2_hasWholeRows
set_option maxRecDepth 20000 in
theorem ggX2_readLog_X2_readRows : GoodIn wsX2_readLog wsX2_readRows := goodIn_r _ [50, 17, 18, 19, 20, 21, 1, 22, 23, 24, 25, 26, 27, 28, 29, 30, 31, 32, 51, 52, 53, 7, 54, 9, 55, 56, 57, 58, 11, 59, 60, 61, 62, 63, 64, 65, 66, 67, 68, 69, 70, 71, 72, 73, 74, 75, 76, 77, 78, 79, 88, 89, 80, 81, 82, 83, 84, 85, 86, 87] (by decide +kernel) (by decide +kernel)
set_option maxRecDepth 20000 in
theorem gX2_readLog_X2_readRows : GoodIn wsX2_readLog (wsV RX2 218 RX2 yX2_readRows wsX2_readRows) := goodIn_app (goodIn_of _ (by decide +kernel)) ggX2_readLog_X2_readRows
theorem dX2_readLog_0 : decode cX2_readLog 0 = .ok (.aload_n 0, 1) := by decide +kernel
theorem dX2_readLog_1 : decode cX2_readLog 1 = .ok (.getfield 39, 3) := by decide +kernel
theorem dX2_readLog_4 : decode cX2_readLog 4 = .ok (.invokevirtual 205, 3) := by decide +kernel
theorem dX2_readLog_7 : decode cX2_readLog 7 = .ok (.aload_n 0, 1) := by decide +kernel
theorem dX2_readLog_8 : decode cX2_readLog 8 = .ok (.iconst 0, 1) := by decide +kernel
theorem dX2_readLog_9 : decode cX2_readLog 9 = .ok (.putfield 157, 3) := by decide +kernel
theorem dX2_readLog_12 : decode cX2_readLog 12 = .ok (.iconst 0, 1) := by decide +kernel
theorem dX2_readLog_13 : decode cX2_readLog 13 = .ok (.istore_n 1, 1) := by decide +kernel
theorem dX2_readLog_14 : decode cX2_readLog 14 = .ok (.iload_n 1, 1) := by decide +kernel
theorem dX2_readLog_15 : decode cX2_readLog 15 = .ok (.aload_n 0, 1) := by decide +kernel
theorem dX2_readLog_16 : decode cX2_readLog 16 = .ok (.getfield 79, 3) := by decide +kernel
theorem dX2_readLog_19 : decode cX2_readLog 19 = .ok (.if_icmp .ge 39, 3) := by decide +kernel
theorem dX2_readLog_22 : decode cX2_readLog 22 = .ok (.iconst 2, 1) := by decide +kernel
theorem dX2_readLog_23 : decode cX2_readLog 23 = .ok (.iload_n 1, 1) := by decide +kernel
theorem dX2_readLog_24 : decode cX2_readLog 24 = .ok (.iadd, 1) := by decide +kernel
theorem dX2_readLog_25 : decode cX2_readLog 25 = .ok (.istore_n 2, 1) := by decide +kernel
theorem dX2_readLog_26 : decode cX2_readLog 26 = .ok (.aload_n 0, 1) := by decide +kernel
theorem dX2_readLog_27 : decode cX2_readLog 27 = .ok (.iload_n 2, 1) := by decide +kernel
theorem dX2_readLog_28 : decode cX2_readLog 28 = .ok (.invokevirtual 215, 3) := by decide +kernel
theorem dX2_readLog_31 : decode cX2_readLog 31 = .ok (.ifCond .eq 11, 3) := by decide +kernel
theorem dX2_readLog_34 : decode cX2_readLog 34 = .ok (.aload_n 0, 1) := by decide +kernel
theorem dX2_readLog_35 : decode cX2_readLog 35 = .ok (.iload_n 2, 1) := by decide +kernel
theorem dX2_readLog_36 : decode cX2_readLog 36 = .ok (.invokevirtual 218, 3) := by decide +kernel
theorem dX2_readLog_39 : decode cX2_readLog 39 = .ok (.goto 13, 3) := by decide +kernel
theorem dX2_readLog_42 : decode cX2_readLog 42 = .ok (.aload_n 0, 1) := by decide +kernel
theorem dX2_readLog_43 : decode cX2_readLog 43 = .ok (.dup, 1) := by decide +kernel
theorem dX2_readLog_44 : decode cX2_readLog 44 = .ok (.getfield 157, 3) := by decide +kernel
theorem dX2_readLog_47 : decode cX2_readLog 47 = .ok (.iconst 1, 1) := by decide +kernel
theorem dX2_readLog_48 : decode cX2_readLog 48 = .ok (.iadd, 1) := by decide +kernel
theorem dX2_readLog_49 : decode cX2_readLog 49 = .ok (.putfield 157, 3) := by decide +kernel
theorem dX2_readLog_52 : decode cX2_readLog 52 = .ok (.iinc 1 1, 3) := by decide +kernel
theorem dX2_readLog_55 : decode cX2_readLog 55 = .ok (.goto (-41), 3) := by decide +kernel
theorem dX2_readLog_58 : decode cX2_readLog 58 = .ok (.aload_n 0, 1) := by decide +kernel
theorem dX2_readLog_59 : decode cX2_readLog 59 = .ok (.getfield 39, 3) := by decide +kernel
theorem dX2_readLog_62 : decode cX2_readLog 62 = .ok (.aload_n 0, 1) := by decide +kernel
theorem dX2_readLog_63 : decode cX2_readLog 63 = .ok (.getfield 39, 3) := by decide +kernel
theorem dX2_readLog_66 : decode cX2_readLog 66 = .ok (.getfield 59, 3) := by decide +kernel
theorem dX2_readLog_69 : decode cX2_readLog 69 = .ok (.putfield 108, 3) := by decide +kernel
theorem dX2_readLog_72 : decode cX2_readLog 72 = .ok (.return_, 1) := by decide +kernel
set_option maxRecDepth 20000 in
theorem ggX2_hasWholeRows_X1_byteAt : GoodIn wsX2_hasWholeRows wsX1_byteAt := goodIn_r _ [10, 11, 12, 13, 14, 9, 15, 16, 47, 48] (by decide +kernel) (by decide +kernel)
set_option maxRecDepth 20000 in
theorem gX2_hasWholeRows_X1_byteAt : GoodIn wsX2_hasWholeRows (wsV RX2 146 RX1 yX1_byteAt wsX1_byteAt) := goodIn_app (goodIn_of _ (by decide +kernel)) ggX2_hasWholeRows_X1_byteAt
set_option maxRecDepth 20000 in
theorem ggX2_hasWholeRows_X1_sumIsRight : GoodIn wsX2_hasWholeRows wsX1_sumIsRight := goodIn_r _ [20, 21, 22, 23, 9, 24, 25, 7, 8, 10, 11, 12, 13, 14, 15, 16, 26, 27, 28, 29, 30, 47, 48] (by decide +kernel) (by decide +kernel)
set_option maxRecDepth 20000 in
theorem gX2_hasWholeRows_X1_sumIsRight : GoodIn wsX2_hasWholeRows (wsV RX2 154 RX1 yX1_sumIsRight wsX1_sumIsRight) := goodIn_app (goodIn_of _ (by decide +kernel)) ggX2_hasWholeRows_X1_sumIsRight
theorem dX2_hasWholeRows_0 : decode cX2_hasWholeRows 0 = .ok (.aload_n 0, 1) := by decide +kernel
theorem dX2_hasWholeRows_1 : decode cX2_hasWholeRows 1 = .ok (.getfield 23, 3) := by decide +kernel
theorem dX2_hasWholeRows_4 : decode cX2_hasWholeRows 4 = .ok (.iload_n 1, 1) := by decide +kernel
theorem dX2_hasWholeRows_5 : decode cX2_hasWholeRows 5 = .ok (.iconst 4, 1) := by decide +kernel
theorem dX2_hasWholeRows_6 : decode cX2_hasWholeRows 6 = .ok (.invokevirtual 146, 3) := by decide +kernel
theorem dX2_hasWholeRows_9 : decode cX2_hasWholeRows 9 = .ok (.istore_n 2, 1) := by decide +kernel
theorem dX2_hasWholeRows_10 : decode cX2_hasWholeRows 10 = .ok (.aload_n 0, 1) := by decide +kernel
theorem dX2_hasWholeRows_11 : decode cX2_hasWholeRows 11 = .ok (.getfield 23, 3) := by decide +kernel
theorem dX2_hasWholeRows_14 : decode cX2_hasWholeRows 14 = .ok (.iload_n 1, 1) := by decide +kernel
theorem dX2_hasWholeRows_15 : decode cX2_hasWholeRows 15 = .ok (.invokevirtual 154, 3) := by decide +kernel
theorem dX2_hasWholeRows_18 : decode cX2_hasWholeRows 18 = .ok (.ifCond .eq 9, 3) := by decide +kernel
theorem dX2_hasWholeRows_21 : decode cX2_hasWholeRows 21 = .ok (.iload_n 2, 1) := by decide +kernel
theorem dX2_hasWholeRows_22 : decode cX2_hasWholeRows 22 = .ok (.bipush 55, 2) := by decide +kernel
theorem dX2_hasWholeRows_24 : decode cX2_hasWholeRows 24 = .ok (.if_icmp .le 5, 3) := by decide +kernel
theorem dX2_hasWholeRows_27 : decode cX2_hasWholeRows 27 = .ok (.iconst 0, 1) := by decide +kernel
theorem dX2_hasWholeRows_28 : decode cX2_hasWholeRows 28 = .ok (.ireturn, 1) := by decide +kernel
theorem dX2_hasWholeRows_29 : decode cX2_hasWholeRows 29 = .ok (.iconst 5, 1) := by decide +kernel
theorem dX2_hasWholeRows_30 : decode cX2_hasWholeRows 30 = .ok (.iload_n 2, 1) := by decide +kernel
theorem dX2_hasWholeRows_31 : decode cX2_hasWholeRows 31 = .ok (.iadd, 1) := by decide +kernel
theorem dX2_hasWholeRows_32 : decode cX2_hasWholeRows 32 = .ok (.istore_n 3, 1) := by decide +kernel
theorem dX2_hasWholeRows_33 : decode cX2_hasWholeRows 33 = .ok (.iconst 5, 1) := by decide +kernel
theorem dX2_hasWholeRows_34 : decode cX2_hasWholeRows 34 = .ok (.istore 4, 2) := by decide +kernel
theorem dX2_hasWholeRows_36 : decode cX2_hasWholeRows 36 = .ok (.iload 4, 2) := by decide +kernel
theorem dX2_hasWholeRows_38 : decode cX2_hasWholeRows 38 = .ok (.iload_n 3, 1) := by decide +kernel
theorem dX2_hasWholeRows_39 : decode cX2_hasWholeRows 39 = .ok (.if_icmp .ge 60, 3) := by decide +kernel
theorem dX2_hasWholeRows_42 : decode cX2_hasWholeRows 42 = .ok (.aload_n 0, 1) := by decide +kernel
theorem dX2_hasWholeRows_43 : decode cX2_hasWholeRows 43 = .ok (.getfield 23, 3) := by decide +kernel
theorem dX2_hasWholeRows_46 : decode cX2_hasWholeRows 46 = .ok (.iload_n 1, 1) := by decide +kernel
theorem dX2_hasWholeRows_47 : decode cX2_hasWholeRows 47 = .ok (.iload 4, 2) := by decide +kernel
theorem dX2_hasWholeRows_49 : decode cX2_hasWholeRows 49 = .ok (.invokevirtual 146, 3) := by decide +kernel
theorem dX2_hasWholeRows_52 : decode cX2_hasWholeRows 52 = .ok (.istore 5, 2) := by decide +kernel
theorem dX2_hasWholeRows_54 : decode cX2_hasWholeRows 54 = .ok (.aload_n 0, 1) := by decide +kernel
theorem dX2_hasWholeRows_55 : decode cX2_hasWholeRows 55 = .ok (.getfield 23, 3) := by decide +kernel
theorem dX2_hasWholeRows_58 : decode cX2_hasWholeRows 58 = .ok (.iload_n 1, 1) := by decide +kernel
theorem dX2_hasWholeRows_59 : decode cX2_hasWholeRows 59 = .ok (.iload 4, 2) := by decide +kernel
theorem dX2_hasWholeRows_61 : decode cX2_hasWholeRows 61 = .ok (.iconst 1, 1) := by decide +kernel
theorem dX2_hasWholeRows_62 : decode cX2_hasWholeRows 62 = .ok (.iadd, 1) := by decide +kernel
theorem dX2_hasWholeRows_63 : decode cX2_hasWholeRows 63 = .ok (.invokevirtual 146, 3) := by decide +kernel
theorem dX2_hasWholeRows_66 : decode cX2_hasWholeRows 66 = .ok (.istore 6, 2) := by decide +kernel
theorem dX2_hasWholeRows_68 : decode cX2_hasWholeRows 68 = .ok (.iload 5, 2) := by decide +kernel
theorem dX2_hasWholeRows_70 : decode cX2_hasWholeRows 70 = .ok (.iconst 3, 1) := by decide +kernel
theorem dX2_hasWholeRows_71 : decode cX2_hasWholeRows 71 = .ok (.if_icmp .gt 10, 3) := by decide +kernel
theorem dX2_hasWholeRows_74 : decode cX2_hasWholeRows 74 = .ok (.iload 6, 2) := by decide +kernel
theorem dX2_hasWholeRows_76 : decode cX2_hasWholeRows 76 = .ok (.bipush 40, 2) := by decide +kernel
theorem dX2_hasWholeRows_78 : decode cX2_hasWholeRows 78 = .ok (.if_icmp .le 5, 3) := by decide +kernel
theorem dX2_hasWholeRows_81 : decode cX2_hasWholeRows 81 = .ok (.iconst 0, 1) := by decide +kernel
theorem dX2_hasWholeRows_82 : decode cX2_hasWholeRows 82 = .ok (.ireturn, 1) := by decide +kernel
theorem dX2_hasWholeRows_83 : decode cX2_hasWholeRows 83 = .ok (.iload 4, 2) := by decide +kernel
theorem dX2_hasWholeRows_85 : decode cX2_hasWholeRows 85 = .ok (.iconst 2, 1) := by decide +kernel
theorem dX2_hasWholeRows_86 : decode cX2_hasWholeRows 86 = .ok (.iconst 0, 1) := by decide +kernel
theorem dX2_hasWholeRows_87 : decode cX2_hasWholeRows 87 = .ok (.iload 6, 2) := by decide +kernel
theorem dX2_hasWholeRows_89 : decode cX2_hasWholeRows 89 = .ok (.invokestatic 15, 3) := by decide +kernel
theorem dX2_hasWholeRows_92 : decode cX2_hasWholeRows 92 = .ok (.iadd, 1) := by decide +kernel
theorem dX2_hasWholeRows_93 : decode cX2_hasWholeRows 93 = .ok (.iadd, 1) := by decide +kernel
theorem dX2_hasWholeRows_94 : decode cX2_hasWholeRows 94 = .ok (.istore 4, 2) := by decide +kernel
theorem dX2_hasWholeRows_96 : decode cX2_hasWholeRows 96 = .ok (.goto (-60), 3) := by decide +kernel
theorem dX2_hasWholeRows_99 : decode cX2_hasWholeRows 99 = .ok (.iload 4, 2) := by decide +kernel
theorem dX2_hasWholeRows_101 : decode cX2_hasWholeRows 101 = .ok (.iload_n 3, 1) := by decide +kernel
theorem dX2_hasWholeRows_102 : decode cX2_hasWholeRows 102 = .ok (.if_icmp .ne 7, 3) := by decide +kernel
theorem dX2_hasWholeRows_105 : decode cX2_hasWholeRows 105 = .ok (.iconst 1, 1) := by decide +kernel
theorem dX2_hasWholeRows_106 : decode cX2_hasWholeRows 106 = .ok (.goto 4, 3) := by decide +kernel
theorem dX2_hasWholeRows_109 : decode cX2_hasWholeRows 109 = .ok (.iconst 0, 1) := by decide +kernel
theorem dX2_hasWholeRows_110 : decode cX2_hasWholeRows 110 = .ok (.ireturn, 1) := by decide +kernel
set_option maxRecDepth 20000 in
theorem ggX2_readRows_X1_byteAt : GoodIn wsX2_readRows wsX1_byteAt := goodIn_r _ [11, 12, 13, 14, 15, 10, 16, 17, 50, 51] (by decide +kernel) (by decide +kernel)
set_option maxRecDepth 20000 in
theorem gX2_readRows_X1_byteAt : GoodIn wsX2_readRows (wsV RX2 146 RX1 yX1_byteAt wsX1_byteAt) := goodIn_app (goodIn_of _ (by decide +kernel)) ggX2_readRows_X1_byteAt
set_option maxRecDepth 20000 in
theorem ggX2_readRows_X0_open : GoodIn wsX2_readRows wsX0_open := goodIn_r _ [22, 23, 24, 25, 26, 27, 28, 52, 53, 54, 55, 56, 57, 58, 59] (by decide +kernel) (by decide +kernel)
set_option maxRecDepth 20000 in
theorem gX2_readRows_X0_open : GoodIn wsX2_readRows (wsV RX2 174 RX0 yX0_open wsX0_open) := goodIn_app (goodIn_of _ (by decide +kernel)) ggX2_readRows_X0_open
set_option maxRecDepth 20000 in
theorem ggX2_readRows_X0_extend : GoodIn wsX2_readRows wsX0_extend := goodIn_r _ [32, 23, 28, 33, 25, 52, 53, 54, 55, 56, 57, 58, 59] (by decide +kernel) (by decide +kernel)
set_option maxRecDepth 20000 in
theorem gX2_readRows_X0_extend : GoodIn wsX2_readRows (wsV RX2 177 RX0 yX0_extend wsX0_extend) := goodIn_app (goodIn_of _ (by decide +kernel)) ggX2_readRows_X0_extend
theorem dX2_readRows_0 : decode cX2_readRows 0 = .ok (.iconst 5, 1) := by decide +kernel
theorem dX2_readRows_1 : decode cX2_readRows 1 = .ok (.aload_n 0, 1) := by decide +kernel
theorem dX2_readRows_2 : decode cX2_readRows 2 = .ok (.getfield 23, 3) := by decide +kernel
theorem dX2_readRows_5 : decode cX2_readRows 5 = .ok (.iload_n 1, 1) := by decide +kernel
theorem dX2_readRows_6 : decode cX2_readRows 6 = .ok (.iconst 4, 1) := by decide +kernel
theorem dX2_readRows_7 : decode cX2_readRows 7 = .ok (.invokevirtual 146, 3) := by decide +kernel
theorem dX2_readRows_10 : decode cX2_readRows 10 = .ok (.iadd, 1) := by decide +kernel
theorem dX2_readRows_11 : decode cX2_readRows 11 = .ok (.istore_n 2, 1) := by decide +kernel
theorem dX2_readRows_12 : decode cX2_readRows 12 = .ok (.iconst 5, 1) := by decide +kernel
theorem dX2_readRows_13 : decode cX2_readRows 13 = .ok (.istore_n 3, 1) := by decide +kernel
theorem dX2_readRows_14 : decode cX2_readRows 14 = .ok (.iload_n 3, 1) := by decide +kernel
theorem dX2_readRows_15 : decode cX2_readRows 15 = .ok (.iload_n 2, 1) := by decide +kernel
theorem dX2_readRows_16 : decode cX2_readRows 16 = .ok (.if_icmp .ge 84, 3) := by decide +kernel
theorem dX2_readRows_19 : decode cX2_readRows 19 = .ok (.iconst 0, 1) := by decide +kernel
theorem dX2_readRows_20 : decode cX2_readRows 20 = .ok (.aload_n 0, 1) := by decide +kernel
theorem dX2_readRows_21 : decode cX2_readRows 21 = .ok (.getfield 23, 3) := by decide +kernel
theorem dX2_readRows_24 : decode cX2_readRows 24 = .ok (.iload_n 1, 1) := by decide +kernel
theorem dX2_readRows_25 : decode cX2_readRows 25 = .ok (.iload_n 3, 1) := by decide +kernel
theorem dX2_readRows_26 : decode cX2_readRows 26 = .ok (.iconst 1, 1) := by decide +kernel
theorem dX2_readRows_27 : decode cX2_readRows 27 = .ok (.iadd, 1) := by decide +kernel
theorem dX2_readRows_28 : decode cX2_readRows 28 = .ok (.invokevirtual 146, 3) := by decide +kernel
theorem dX2_readRows_31 : decode cX2_readRows 31 = .ok (.invokestatic 15, 3) := by decide +kernel
theorem dX2_readRows_34 : decode cX2_readRows 34 = .ok (.istore 4, 2) := by decide +kernel
theorem dX2_readRows_36 : decode cX2_readRows 36 = .ok (.aload_n 0, 1) := by decide +kernel
theorem dX2_readRows_37 : decode cX2_readRows 37 = .ok (.getfield 39, 3) := by decide +kernel
theorem dX2_readRows_40 : decode cX2_readRows 40 = .ok (.aload_n 0, 1) := by decide +kernel
theorem dX2_readRows_41 : decode cX2_readRows 41 = .ok (.getfield 23, 3) := by decide +kernel
theorem dX2_readRows_44 : decode cX2_readRows 44 = .ok (.iload_n 1, 1) := by decide +kernel
theorem dX2_readRows_45 : decode cX2_readRows 45 = .ok (.iload_n 3, 1) := by decide +kernel
theorem dX2_readRows_46 : decode cX2_readRows 46 = .ok (.invokevirtual 146, 3) := by decide +kernel
theorem dX2_readRows_49 : decode cX2_readRows 49 = .ok (.iload_n 1, 1) := by decide +kernel
theorem dX2_readRows_50 : decode cX2_readRows 50 = .ok (.invokevirtual 174, 3) := by decide +kernel
theorem dX2_readRows_53 : decode cX2_readRows 53 = .ok (.iconst 0, 1) := by decide +kernel
theorem dX2_readRows_54 : decode cX2_readRows 54 = .ok (.istore 5, 2) := by decide +kernel
theorem dX2_readRows_56 : decode cX2_readRows 56 = .ok (.iload 5, 2) := by decide +kernel
theorem dX2_readRows_58 : decode cX2_readRows 58 = .ok (.iload 4, 2) := by decide +kernel
theorem dX2_readRows_60 : decode cX2_readRows 60 = .ok (.if_icmp .ge 30, 3) := by decide +kernel
theorem dX2_readRows_63 : decode cX2_readRows 63 = .ok (.aload_n 0, 1) := by decide +kernel
theorem dX2_readRows_64 : decode cX2_readRows 64 = .ok (.getfield 39, 3) := by decide +kernel
theorem dX2_readRows_67 : decode cX2_readRows 67 = .ok (.aload_n 0, 1) := by decide +kernel
theorem dX2_readRows_68 : decode cX2_readRows 68 = .ok (.getfield 23, 3) := by decide +kernel
theorem dX2_readRows_71 : decode cX2_readRows 71 = .ok (.iload_n 1, 1) := by decide +kernel
theorem dX2_readRows_72 : decode cX2_readRows 72 = .ok (.iload_n 3, 1) := by decide +kernel
theorem dX2_readRows_73 : decode cX2_readRows 73 = .ok (.iconst 2, 1) := by decide +kernel
theorem dX2_readRows_74 : decode cX2_readRows 74 = .ok (.iadd, 1) := by decide +kernel
theorem dX2_readRows_75 : decode cX2_readRows 75 = .ok (.iload 5, 2) := by decide +kernel
theorem dX2_readRows_77 : decode cX2_readRows 77 = .ok (.iadd, 1) := by decide +kernel
theorem dX2_readRows_78 : decode cX2_readRows 78 = .ok (.invokevirtual 146, 3) := by decide +kernel
theorem dX2_readRows_81 : decode cX2_readRows 81 = .ok (.invokevirtual 177, 3) := by decide +kernel
theorem dX2_readRows_84 : decode cX2_readRows 84 = .ok (.iinc 5 1, 3) := by decide +kernel
theorem dX2_readRows_87 : decode cX2_readRows 87 = .ok (.goto (-31), 3) := by decide +kernel
theorem dX2_readRows_90 : decode cX2_readRows 90 = .ok (.iload_n 3, 1) := by decide +kernel
theorem dX2_readRows_91 : decode cX2_readRows 91 = .ok (.iconst 2, 1) := by decide +kernel
theorem dX2_readRows_92 : decode cX2_readRows 92 = .ok (.iload 4, 2) := by decide +kernel
theorem dX2_readRows_94 : decode cX2_readRows 94 = .ok (.iadd, 1) := by decide +kernel
theorem dX2_readRows_95 : decode cX2_readRows 95 = .ok (.iadd, 1) := by decide +kernel
theorem dX2_readRows_96 : decode cX2_readRows 96 = .ok (.istore_n 3, 1) := by decide +kernel
theorem dX2_readRows_97 : decode cX2_readRows 97 = .ok (.goto (-83), 3) := by decide +kernel
theorem dX2_readRows_100 : decode cX2_readRows 100 = .ok (.return_, 1) := by decide +kernel
theorem dX3_init_0 : decode cX3_init 0 = .ok (.aload_n 0, 1) := by decide +kernel
theorem dX3_init_1 : decode cX3_init 1 = .ok (.invokespecial 1, 3) := by decide +kernel
theorem dX3_init_4 : decode cX3_init 4 = .ok (.aload_n 0, 1) := by decide +kernel
theorem dX3_init_5 : decode cX3_init 5 = .ok (.sipush 2560, 3) := by decide +kernel
theorem dX3_init_8 : decode cX3_init 8 = .ok (.newarray .byte, 2) := by decide +kernel
theorem dX3_init_10 : decode cX3_init 10 = .ok (.putfield 7, 3) := by decide +kernel
theorem dX3_init_13 : decode cX3_init 13 = .ok (.aload_n 0, 1) := by decide +kernel
theorem dX3_init_14 : decode cX3_init 14 = .ok (.sipush 2560, 3) := by decide +kernel
theorem dX3_init_17 : decode cX3_init 17 = .ok (.newarray .byte, 2) := by decide +kernel
theorem dX3_init_19 : decode cX3_init 19 = .ok (.putfield 13, 3) := by decide +kernel
theorem dX3_init_22 : decode cX3_init 22 = .ok (.aload_n 0, 1) := by decide +kernel
theorem dX3_init_23 : decode cX3_init 23 = .ok (.sipush 2560, 3) := by decide +kernel
theorem dX3_init_26 : decode cX3_init 26 = .ok (.newarray .byte, 2) := by decide +kernel
theorem dX3_init_28 : decode cX3_init 28 = .ok (.putfield 16, 3) := by decide +kernel
theorem dX3_init_31 : decode cX3_init 31 = .ok (.aload_n 0, 1) := by decide +kernel
theorem dX3_init_32 : decode cX3_init 32 = .ok (.sipush 2560, 3) := by decide +kernel
theorem dX3_init_35 : decode cX3_init 35 = .ok (.newarray .byte, 2) := by decide +kernel
theorem dX3_init_37 : decode cX3_init 37 = .ok (.putfield 19, 3) := by decide +kernel
theorem dX3_init_40 : decode cX3_init 40 = .ok (.aload_n 0, 1) := by decide +kernel
theorem dX3_init_41 : decode cX3_init 41 = .ok (.bipush 40, 2) := by decide +kernel
theorem dX3_init_43 : decode cX3_init 43 = .ok (.newarray .byte, 2) := by decide +kernel
theorem dX3_init_45 : decode cX3_init 45 = .ok (.putfield 22, 3) := by decide +kernel
theorem dX3_init_48 : decode cX3_init 48 = .ok (.aload_n 0, 1) := by decide +kernel
theorem dX3_init_49 : decode cX3_init 49 = .ok (.sipush 1100, 3) := by decide +kernel
theorem dX3_init_52 : decode cX3_init 52 = .ok (.newarray .int, 2) := by decide +kernel
theorem dX3_init_54 : decode cX3_init 54 = .ok (.putfield 25, 3) := by decide +kernel
theorem dX3_init_57 : decode cX3_init 57 = .ok (.aload_n 0, 1) := by decide +kernel
theorem dX3_init_58 : decode cX3_init 58 = .ok (.sipush 1100, 3) := by decide +kernel
theorem dX3_init_61 : decode cX3_init 61 = .ok (.newarray .int, 2) := by decide +kernel
theorem dX3_init_63 : decode cX3_init 63 = .ok (.putfield 29, 3) := by decide +kernel
theorem dX3_init_66 : decode cX3_init 66 = .ok (.aload_n 0, 1) := by decide +kernel
theorem dX3_init_67 : decode cX3_init 67 = .ok (.sipush 1100, 3) := by decide +kernel
theorem dX3_init_70 : decode cX3_init 70 = .ok (.newarray .int, 2) := by decide +kernel
theorem dX3_init_72 : decode cX3_init 72 = .ok (.putfield 32, 3) := by decide +kernel
theorem dX3_init_75 : decode cX3_init 75 = .ok (.aload_n 0, 1) := by decide +kernel
theorem dX3_init_76 : decode cX3_init 76 = .ok (.ldc 35, 2) := by decide +kernel
theorem dX3_init_78 : decode cX3_init 78 = .ok (.newarray .byte, 2) := by decide +kernel
theorem dX3_init_80 : decode cX3_init 80 = .ok (.putfield 36, 3) := by decide +kernel
theorem dX3_init_83 : decode cX3_init 83 = .ok (.aload_n 0, 1) := by decide +kernel
theorem dX3_init_84 : decode cX3_init 84 = .ok (.iload_n 1, 1) := by decide +kernel
theorem dX3_init_85 : decode cX3_init 85 = .ok (.iconst 3, 1) := by decide +kernel
theorem dX3_init_86 : decode cX3_init 86 = .ok (.if_icmp .ge 7, 3) := by decide +kernel
theorem dX3_init_89 : decode cX3_init 89 = .ok (.iconst 3, 1) := by decide +kernel
theorem dX3_init_90 : decode cX3_init 90 = .ok (.goto 15, 3) := by decide +kernel
theorem dX3_init_93 : decode cX3_init 93 = .ok (.iload_n 1, 1) := by decide +kernel
theorem dX3_init_94 : decode cX3_init 94 = .ok (.bipush 40, 2) := by decide +kernel
theorem dX3_init_96 : decode cX3_init 96 = .ok (.if_icmp .le 8, 3) := by decide +kernel
theorem dX3_init_99 : decode cX3_init 99 = .ok (.bipush 40, 2) := by decide +kernel
theorem dX3_init_101 : decode cX3_init 101 = .ok (.goto 4, 3) := by decide +kernel
theorem dX3_init_104 : decode cX3_init 104 = .ok (.iload_n 1, 1) := by decide +kernel
theorem dX3_init_105 : decode cX3_init 105 = .ok (.putfield 39, 3) := by decide +kernel
theorem dX3_init_108 : decode cX3_init 108 = .ok (.return_, 1) := by decide +kernel
theorem dX3_thrown_0 : decode cX3_thrown 0 = .ok (.aload_n 0, 1) := by decide +kernel
theorem dX3_thrown_1 : decode cX3_thrown 1 = .ok (.getfield 43, 3) := by decide +kernel
theorem dX3_thrown_4 : decode cX3_thrown 4 = .ok (.ireturn, 1) := by decide +kernel
theorem dX3_in_0 : decode cX3_in 0 = .ok (.iload_n 0, 1) := by decide +kernel
theorem dX3_in_1 : decode cX3_in 1 = .ok (.iload_n 1, 1) := by decide +kernel
theorem dX3_in_2 : decode cX3_in 2 = .ok (.if_icmp .lt 12, 3) := by decide +kernel
theorem dX3_in_5 : decode cX3_in 5 = .ok (.iload_n 0, 1) := by decide +kernel
theorem dX3_in_6 : decode cX3_in 6 = .ok (.iload_n 2, 1) := by decide +kernel
theorem dX3_in_7 : decode cX3_in 7 = .ok (.if_icmp .gt 7, 3) := by decide +kernel
theorem dX3_in_10 : decode cX3_in 10 = .ok (.iconst 1, 1) := by decide +kernel
theorem dX3_in_11 : decode cX3_in 11 = .ok (.goto 4, 3) := by decide +kernel
theorem dX3_in_14 : decode cX3_in 14 = .ok (.iconst 0, 1) := by decide +kernel
theorem dX3_in_15 : decode cX3_in 15 = .ok (.ireturn, 1) := by decide +kernel
theorem dX3_sumOf_0 : decode cX3_sumOf 0 = .ok (.iconst 0, 1) := by decide +kernel
theorem dX3_sumOf_1 : decode cX3_sumOf 1 = .ok (.istore_n 2, 1) := by decide +kernel
theorem dX3_sumOf_2 : decode cX3_sumOf 2 = .ok (.iconst 0, 1) := by decide +kernel
theorem dX3_sumOf_3 : decode cX3_sumOf 3 = .ok (.istore_n 3, 1) := by decide +kernel
theorem dX3_sumOf_4 : decode cX3_sumOf 4 = .ok (.iload_n 3, 1) := by decide +kernel
theorem dX3_sumOf_5 : decode cX3_sumOf 5 = .ok (.bipush 60, 2) := by decide +kernel
theorem dX3_sumOf_7 : decode cX3_sumOf 7 = .ok (.if_icmp .ge 40, 3) := by decide +kernel
theorem dX3_sumOf_10 : decode cX3_sumOf 10 = .ok (.iload_n 2, 1) := by decide +kernel
theorem dX3_sumOf_11 : decode cX3_sumOf 11 = .ok (.aload_n 0, 1) := by decide +kernel
theorem dX3_sumOf_12 : decode cX3_sumOf 12 = .ok (.getfield 7, 3) := by decide +kernel
theorem dX3_sumOf_15 : decode cX3_sumOf 15 = .ok (.bipush 64, 2) := by decide +kernel
theorem dX3_sumOf_17 : decode cX3_sumOf 17 = .ok (.iload_n 1, 1) := by decide +kernel
theorem dX3_sumOf_18 : decode cX3_sumOf 18 = .ok (.imul, 1) := by decide +kernel
theorem dX3_sumOf_19 : decode cX3_sumOf 19 = .ok (.iload_n 3, 1) := by decide +kernel
theorem dX3_sumOf_20 : decode cX3_sumOf 20 = .ok (.iadd, 1) := by decide +kernel
theorem dX3_sumOf_21 : decode cX3_sumOf 21 = .ok (.baload, 1) := by decide +kernel
theorem dX3_sumOf_22 : decode cX3_sumOf 22 = .ok (.sipush 255, 3) := by decide +kernel
theorem dX3_sumOf_25 : decode cX3_sumOf 25 = .ok (.iand, 1) := by decide +kernel
theorem dX3_sumOf_26 : decode cX3_sumOf 26 = .ok (.ixor, 1) := by decide +kernel
theorem dX3_sumOf_27 : decode cX3_sumOf 27 = .ok (.istore_n 2, 1) := by decide +kernel
theorem dX3_sumOf_28 : decode cX3_sumOf 28 = .ok (.iload_n 2, 1) := by decide +kernel
theorem dX3_sumOf_29 : decode cX3_sumOf 29 = .ok (.bipush 13, 2) := by decide +kernel
theorem dX3_sumOf_31 : decode cX3_sumOf 31 = .ok (.ishl, 1) := by decide +kernel
theorem dX3_sumOf_32 : decode cX3_sumOf 32 = .ok (.iload_n 2, 1) := by decide +kernel
theorem dX3_sumOf_33 : decode cX3_sumOf 33 = .ok (.bipush 19, 2) := by decide +kernel
theorem dX3_sumOf_35 : decode cX3_sumOf 35 = .ok (.iushr, 1) := by decide +kernel
theorem dX3_sumOf_36 : decode cX3_sumOf 36 = .ok (.ior, 1) := by decide +kernel
theorem dX3_sumOf_37 : decode cX3_sumOf 37 = .ok (.ldc 46, 2) := by decide +kernel
theorem dX3_sumOf_39 : decode cX3_sumOf 39 = .ok (.imul, 1) := by decide +kernel
theorem dX3_sumOf_40 : decode cX3_sumOf 40 = .ok (.istore_n 2, 1) := by decide +kernel
theorem dX3_sumOf_41 : decode cX3_sumOf 41 = .ok (.iinc 3 1, 3) := by decide +kernel
theorem dX3_sumOf_44 : decode cX3_sumOf 44 = .ok (.goto (-40), 3) := by decide +kernel
theorem dX3_sumOf_47 : decode cX3_sumOf 47 = .ok (.iload_n 2, 1) := by decide +kernel
theorem dX3_sumOf_48 : decode cX3_sumOf 48 = .ok (.ireturn, 1) := by decide +kernel
theorem dX3_four_0 : decode cX3_four 0 = .ok (.iconst 0, 1) := by decide +kernel
theorem dX3_four_1 : decode cX3_four 1 = .ok (.istore_n 2, 1) := by decide +kernel
theorem dX3_four_2 : decode cX3_four 2 = .ok (.iconst 0, 1) := by decide +kernel
theorem dX3_four_3 : decode cX3_four 3 = .ok (.istore_n 3, 1) := by decide +kernel
theorem dX3_four_4 : decode cX3_four 4 = .ok (.iload_n 3, 1) := by decide +kernel
theorem dX3_four_5 : decode cX3_four 5 = .ok (.iconst 4, 1) := by decide +kernel
theorem dX3_four_6 : decode cX3_four 6 = .ok (.if_icmp .ge 27, 3) := by decide +kernel
theorem dX3_four_9 : decode cX3_four 9 = .ok (.iload_n 2, 1) := by decide +kernel
theorem dX3_four_10 : decode cX3_four 10 = .ok (.bipush 8, 2) := by decide +kernel
theorem dX3_four_12 : decode cX3_four 12 = .ok (.ishl, 1) := by decide +kernel
theorem dX3_four_13 : decode cX3_four 13 = .ok (.aload_n 0, 1) := by decide +kernel
theorem dX3_four_14 : decode cX3_four 14 = .ok (.getfield 7, 3) := by decide +kernel
theorem dX3_four_17 : decode cX3_four 17 = .ok (.iload_n 1, 1) := by decide +kernel
theorem dX3_four_18 : decode cX3_four 18 = .ok (.iload_n 3, 1) := by decide +kernel
theorem dX3_four_19 : decode cX3_four 19 = .ok (.iadd, 1) := by decide +kernel
theorem dX3_four_20 : decode cX3_four 20 = .ok (.baload, 1) := by decide +kernel
theorem dX3_four_21 : decode cX3_four 21 = .ok (.sipush 255, 3) := by decide +kernel
theorem dX3_four_24 : decode cX3_four 24 = .ok (.iand, 1) := by decide +kernel
theorem dX3_four_25 : decode cX3_four 25 = .ok (.ior, 1) := by decide +kernel
theorem dX3_four_26 : decode cX3_four 26 = .ok (.istore_n 2, 1) := by decide +kernel
theorem dX3_four_27 : decode cX3_four 27 = .ok (.iinc 3 1, 3) := by decide +kernel
theorem dX3_four_30 : decode cX3_four 30 = .ok (.goto (-26), 3) := by decide +kernel
theorem dX3_four_33 : decode cX3_four 33 = .ok (.iload_n 2, 1) := by decide +kernel
theorem dX3_four_34 : decode cX3_four 34 = .ok (.ireturn, 1) := by decide +kernel
theorem dX3_putFour_0 : decode cX3_putFour 0 = .ok (.iconst 0, 1) := by decide +kernel
theorem dX3_putFour_1 : decode cX3_putFour 1 = .ok (.istore_n 3, 1) := by decide +kernel
theorem dX3_putFour_2 : decode cX3_putFour 2 = .ok (.iload_n 3, 1) := by decide +kernel
theorem dX3_putFour_3 : decode cX3_putFour 3 = .ok (.iconst 4, 1) := by decide +kernel
theorem dX3_putFour_4 : decode cX3_putFour 4 = .ok (.if_icmp .ge 27, 3) := by decide +kernel
theorem dX3_putFour_7 : decode cX3_putFour 7 = .ok (.aload_n 0, 1) := by decide +kernel
theorem dX3_putFour_8 : decode cX3_putFour 8 = .ok (.getfield 7, 3) := by decide +kernel
theorem dX3_putFour_11 : decode cX3_putFour 11 = .ok (.iload_n 1, 1) := by decide +kernel
theorem dX3_putFour_12 : decode cX3_putFour 12 = .ok (.iload_n 3, 1) := by decide +kernel
theorem dX3_putFour_13 : decode cX3_putFour 13 = .ok (.iadd, 1) := by decide +kernel
theorem dX3_putFour_14 : decode cX3_putFour 14 = .ok (.iload_n 2, 1) := by decide +kernel
theorem dX3_putFour_15 : decode cX3_putFour 15 = .ok (.bipush 24, 2) := by decide +kernel
theorem dX3_putFour_17 : decode cX3_putFour 17 = .ok (.bipush 8, 2) := by decide +kernel
