theorem dX8_init_0 : decode cX8_init 0 = .ok (.aload_n 0, 1) := by decide +kernel
theorem dX8_init_1 : decode cX8_init 1 = .ok (.invokespecial 1, 3) := by decide +kernel
theorem dX8_init_4 : decode cX8_init 4 = .ok (.aload_n 0, 1) := by decide +kernel
theorem dX8_init_5 : decode cX8_init 5 = .ok (.sipush 372, 3) := by decide +kernel
theorem dX8_init_8 : decode cX8_init 8 = .ok (.newarray .int, 2) := by decide +kernel
theorem dX8_init_10 : decode cX8_init 10 = .ok (.putfield 7, 3) := by decide +kernel
theorem dX8_init_13 : decode cX8_init 13 = .ok (.aload_n 0, 1) := by decide +kernel
theorem dX8_init_14 : decode cX8_init 14 = .ok (.sipush 372, 3) := by decide +kernel
theorem dX8_init_17 : decode cX8_init 17 = .ok (.newarray .int, 2) := by decide +kernel
theorem dX8_init_19 : decode cX8_init 19 = .ok (.putfield 13, 3) := by decide +kernel
theorem dX8_init_22 : decode cX8_init 22 = .ok (.aload_n 0, 1) := by decide +kernel
theorem dX8_init_23 : decode cX8_init 23 = .ok (.bipush 38, 2) := by decide +kernel
theorem dX8_init_25 : decode cX8_init 25 = .ok (.newarray .int, 2) := by decide +kernel
theorem dX8_init_27 : decode cX8_init 27 = .ok (.putfield 16, 3) := by decide +kernel
theorem dX8_init_30 : decode cX8_init 30 = .ok (.aload_n 0, 1) := by decide +kernel
theorem dX8_init_31 : decode cX8_init 31 = .ok (.bipush 7, 2) := by decide +kernel
theorem dX8_init_33 : decode cX8_init 33 = .ok (.newarray .int, 2) := by decide +kernel
theorem dX8_init_35 : decode cX8_init 35 = .ok (.putfield 19, 3) := by decide +kernel
theorem dX8_init_38 : decode cX8_init 38 = .ok (.aload_n 0, 1) := by decide +kernel
theorem dX8_init_39 : decode cX8_init 39 = .ok (.bipush 124, 2) := by decide +kernel
theorem dX8_init_41 : decode cX8_init 41 = .ok (.newarray .int, 2) := by decide +kernel
theorem dX8_init_43 : decode cX8_init 43 = .ok (.putfield 22, 3) := by decide +kernel
theorem dX8_init_46 : decode cX8_init 46 = .ok (.aload_n 0, 1) := by decide +kernel
theorem dX8_init_47 : decode cX8_init 47 = .ok (.sipush 128, 3) := by decide +kernel
theorem dX8_init_50 : decode cX8_init 50 = .ok (.newarray .int, 2) := by decide +kernel
theorem dX8_init_52 : decode cX8_init 52 = .ok (.putfield 25, 3) := by decide +kernel
theorem dX8_init_55 : decode cX8_init 55 = .ok (.aload_n 0, 1) := by decide +kernel
theorem dX8_init_56 : decode cX8_init 56 = .ok (.bipush 64, 2) := by decide +kernel
theorem dX8_init_58 : decode cX8_init 58 = .ok (.newarray .int, 2) := by decide +kernel
theorem dX8_init_60 : decode cX8_init 60 = .ok (.putfield 28, 3) := by decide +kernel
theorem dX8_init_63 : decode cX8_init 63 = .ok (.aload_n 0, 1) := by decide +kernel
theorem dX8_init_64 : decode cX8_init 64 = .ok (.bipush 30, 2) := by decide +kernel
theorem dX8_init_66 : decode cX8_init 66 = .ok (.newarray .int, 2) := by decide +kernel
theorem dX8_init_68 : decode cX8_init 68 = .ok (.putfield 31, 3) := by decide +kernel
theorem dX8_init_71 : decode cX8_init 71 = .ok (.aload_n 0, 1) := by decide +kernel
theorem dX8_init_72 : decode cX8_init 72 = .ok (.iconst 4, 1) := by decide +kernel
theorem dX8_init_73 : decode cX8_init 73 = .ok (.newarray .int, 2) := by decide +kernel
theorem dX8_init_75 : decode cX8_init 75 = .ok (.putfield 34, 3) := by decide +kernel
theorem dX8_init_78 : decode cX8_init 78 = .ok (.aload_n 0, 1) := by decide +kernel
theorem dX8_init_79 : decode cX8_init 79 = .ok (.iconst 4, 1) := by decide +kernel
theorem dX8_init_80 : decode cX8_init 80 = .ok (.newarray .int, 2) := by decide +kernel
theorem dX8_init_82 : decode cX8_init 82 = .ok (.putfield 37, 3) := by decide +kernel
theorem dX8_init_85 : decode cX8_init 85 = .ok (.aload_n 0, 1) := by decide +kernel
theorem dX8_init_86 : decode cX8_init 86 = .ok (.bipush 96, 2) := by decide +kernel
theorem dX8_init_88 : decode cX8_init 88 = .ok (.newarray .int, 2) := by decide +kernel
theorem dX8_init_90 : decode cX8_init 90 = .ok (.putfield 40, 3) := by decide +kernel
theorem dX8_init_93 : decode cX8_init 93 = .ok (.aload_n 0, 1) := by decide +kernel
theorem dX8_init_94 : decode cX8_init 94 = .ok (.bipush 24, 2) := by decide +kernel
theorem dX8_init_96 : decode cX8_init 96 = .ok (.newarray .int, 2) := by decide +kernel
theorem dX8_init_98 : decode cX8_init 98 = .ok (.putfield 43, 3) := by decide +kernel
theorem dX8_init_101 : decode cX8_init 101 = .ok (.aload_n 0, 1) := by decide +kernel
theorem dX8_init_102 : decode cX8_init 102 = .ok (.getfield 7, 3) := by decide +kernel
theorem dX8_init_105 : decode cX8_init 105 = .ok (.iconst 2, 1) := by decide +kernel
theorem dX8_init_106 : decode cX8_init 106 = .ok (.iconst 1, 1) := by decide +kernel
theorem dX8_init_107 : decode cX8_init 107 = .ok (.iastore, 1) := by decide +kernel
theorem dX8_init_108 : decode cX8_init 108 = .ok (.return_, 1) := by decide +kernel
theorem dX8_error_0 : decode cX8_error 0 = .ok (.aload_n 0, 1) := by decide +kernel
theorem dX8_error_1 : decode cX8_error 1 = .ok (.getfield 19, 3) := by decide +kernel
theorem dX8_error_4 : decode cX8_error 4 = .ok (.iload_n 1, 1) := by decide +kernel
theorem dX8_error_5 : decode cX8_error 5 = .ok (.dup2, 1) := by decide +kernel
theorem dX8_error_6 : decode cX8_error 6 = .ok (.iaload, 1) := by decide +kernel
theorem dX8_error_7 : decode cX8_error 7 = .ok (.iconst 1, 1) := by decide +kernel
theorem dX8_error_8 : decode cX8_error 8 = .ok (.iadd, 1) := by decide +kernel
theorem dX8_error_9 : decode cX8_error 9 = .ok (.iastore, 1) := by decide +kernel
theorem dX8_error_10 : decode cX8_error 10 = .ok (.ldc 46, 2) := by decide +kernel
theorem dX8_error_12 : decode cX8_error 12 = .ok (.iload_n 1, 1) := by decide +kernel
theorem dX8_error_13 : decode cX8_error 13 = .ok (.isub, 1) := by decide +kernel
theorem dX8_error_14 : decode cX8_error 14 = .ok (.ireturn, 1) := by decide +kernel
theorem dX8_in_0 : decode cX8_in 0 = .ok (.iload_n 0, 1) := by decide +kernel
theorem dX8_in_1 : decode cX8_in 1 = .ok (.iload_n 1, 1) := by decide +kernel
theorem dX8_in_2 : decode cX8_in 2 = .ok (.if_icmp .lt 12, 3) := by decide +kernel
theorem dX8_in_5 : decode cX8_in 5 = .ok (.iload_n 0, 1) := by decide +kernel
theorem dX8_in_6 : decode cX8_in 6 = .ok (.iload_n 2, 1) := by decide +kernel
theorem dX8_in_7 : decode cX8_in 7 = .ok (.if_icmp .gt 7, 3) := by decide +kernel
theorem dX8_in_10 : decode cX8_in 10 = .ok (.iconst 1, 1) := by decide +kernel
theorem dX8_in_11 : decode cX8_in 11 = .ok (.goto 4, 3) := by decide +kernel
theorem dX8_in_14 : decode cX8_in 14 = .ok (.iconst 0, 1) := by decide +kernel
theorem dX8_in_15 : decode cX8_in 15 = .ok (.ireturn, 1) := by decide +kernel
theorem dX8_held_0 : decode cX8_held 0 = .ok (.iload_n 0, 1) := by decide +kernel
theorem dX8_held_1 : decode cX8_held 1 = .ok (.iload_n 1, 1) := by decide +kernel
theorem dX8_held_2 : decode cX8_held 2 = .ok (.if_icmp .ge 7, 3) := by decide +kernel
theorem dX8_held_5 : decode cX8_held 5 = .ok (.iload_n 1, 1) := by decide +kernel
theorem dX8_held_6 : decode cX8_held 6 = .ok (.goto 13, 3) := by decide +kernel
theorem dX8_held_9 : decode cX8_held 9 = .ok (.iload_n 0, 1) := by decide +kernel
theorem dX8_held_10 : decode cX8_held 10 = .ok (.iload_n 2, 1) := by decide +kernel
theorem dX8_held_11 : decode cX8_held 11 = .ok (.if_icmp .le 7, 3) := by decide +kernel
theorem dX8_held_14 : decode cX8_held 14 = .ok (.iload_n 2, 1) := by decide +kernel
theorem dX8_held_15 : decode cX8_held 15 = .ok (.goto 4, 3) := by decide +kernel
theorem dX8_held_18 : decode cX8_held 18 = .ok (.iload_n 0, 1) := by decide +kernel
theorem dX8_held_19 : decode cX8_held 19 = .ok (.ireturn, 1) := by decide +kernel
theorem dX8_copyAll_0 : decode cX8_copyAll 0 = .ok (.iconst 0, 1) := by decide +kernel
theorem dX8_copyAll_1 : decode cX8_copyAll 1 = .ok (.istore_n 2, 1) := by decide +kernel
theorem dX8_copyAll_2 : decode cX8_copyAll 2 = .ok (.iload_n 2, 1) := by decide +kernel
theorem dX8_copyAll_3 : decode cX8_copyAll 3 = .ok (.sipush 372, 3) := by decide +kernel
theorem dX8_copyAll_6 : decode cX8_copyAll 6 = .ok (.if_icmp .ge 15, 3) := by decide +kernel
theorem dX8_copyAll_9 : decode cX8_copyAll 9 = .ok (.aload_n 1, 1) := by decide +kernel
theorem dX8_copyAll_10 : decode cX8_copyAll 10 = .ok (.iload_n 2, 1) := by decide +kernel
theorem dX8_copyAll_11 : decode cX8_copyAll 11 = .ok (.aload_n 0, 1) := by decide +kernel
theorem dX8_copyAll_12 : decode cX8_copyAll 12 = .ok (.iload_n 2, 1) := by decide +kernel
theorem dX8_copyAll_13 : decode cX8_copyAll 13 = .ok (.iaload, 1) := by decide +kernel
theorem dX8_copyAll_14 : decode cX8_copyAll 14 = .ok (.iastore, 1) := by decide +kernel
theorem dX8_copyAll_15 : decode cX8_copyAll 15 = .ok (.iinc 2 1, 3) := by decide +kernel
theorem dX8_copyAll_18 : decode cX8_copyAll 18 = .ok (.goto (-16), 3) := by decide +kernel
theorem dX8_copyAll_21 : decode cX8_copyAll 21 = .ok (.return_, 1) := by decide +kernel
theorem dX8_layDown_0 : decode cX8_layDown 0 = .ok (.iconst 0, 1) := by decide +kernel
theorem dX8_layDown_1 : decode cX8_layDown 1 = .ok (.istore_n 1, 1) := by decide +kernel
theorem dX8_layDown_2 : decode cX8_layDown 2 = .ok (.iload_n 1, 1) := by decide +kernel
theorem dX8_layDown_3 : decode cX8_layDown 3 = .ok (.bipush 38, 2) := by decide +kernel
theorem dX8_layDown_5 : decode cX8_layDown 5 = .ok (.if_icmp .ge 21, 3) := by decide +kernel
theorem dX8_layDown_8 : decode cX8_layDown 8 = .ok (.aload_n 0, 1) := by decide +kernel
theorem dX8_layDown_9 : decode cX8_layDown 9 = .ok (.getfield 16, 3) := by decide +kernel
theorem dX8_layDown_12 : decode cX8_layDown 12 = .ok (.iload_n 1, 1) := by decide +kernel
theorem dX8_layDown_13 : decode cX8_layDown 13 = .ok (.aload_n 0, 1) := by decide +kernel
theorem dX8_layDown_14 : decode cX8_layDown 14 = .ok (.getfield 7, 3) := by decide +kernel
theorem dX8_layDown_17 : decode cX8_layDown 17 = .ok (.iload_n 1, 1) := by decide +kernel
theorem dX8_layDown_18 : decode cX8_layDown 18 = .ok (.iaload, 1) := by decide +kernel
theorem dX8_layDown_19 : decode cX8_layDown 19 = .ok (.iastore, 1) := by decide +kernel
theorem dX8_layDown_20 : decode cX8_layDown 20 = .ok (.iinc 1 1, 3) := by decide +kernel
theorem dX8_layDown_23 : decode cX8_layDown 23 = .ok (.goto (-21), 3) := by decide +kernel
theorem dX8_layDown_26 : decode cX8_layDown 26 = .ok (.return_, 1) := by decide +kernel
theorem dX8_layBack_0 : decode cX8_layBack 0 = .ok (.iconst 0, 1) := by decide +kernel
theorem dX8_layBack_1 : decode cX8_layBack 1 = .ok (.istore_n 1, 1) := by decide +kernel
theorem dX8_layBack_2 : decode cX8_layBack 2 = .ok (.iload_n 1, 1) := by decide +kernel
theorem dX8_layBack_3 : decode cX8_layBack 3 = .ok (.bipush 38, 2) := by decide +kernel
theorem dX8_layBack_5 : decode cX8_layBack 5 = .ok (.if_icmp .ge 21, 3) := by decide +kernel
theorem dX8_layBack_8 : decode cX8_layBack 8 = .ok (.aload_n 0, 1) := by decide +kernel
theorem dX8_layBack_9 : decode cX8_layBack 9 = .ok (.getfield 7, 3) := by decide +kernel
theorem dX8_layBack_12 : decode cX8_layBack 12 = .ok (.iload_n 1, 1) := by decide +kernel
theorem dX8_layBack_13 : decode cX8_layBack 13 = .ok (.aload_n 0, 1) := by decide +kernel
theorem dX8_layBack_14 : decode cX8_layBack 14 = .ok (.getfield 16, 3) := by decide +kernel
theorem dX8_layBack_17 : decode cX8_layBack 17 = .ok (.iload_n 1, 1) := by decide +kernel
theorem dX8_layBack_18 : decode cX8_layBack 18 = .ok (.iaload, 1) := by decide +kernel
theorem dX8_layBack_19 : decode cX8_layBack 19 = .ok (.iastore, 1) := by decide +kernel
theorem dX8_layBack_20 : decode cX8_layBack 20 = .ok (.iinc 1 1, 3) := by decide +kernel
theorem dX8_layBack_23 : decode cX8_layBack 23 = .ok (.goto (-21), 3) := by decide +kernel
theorem dX8_layBack_26 : decode cX8_layBack 26 = .ok (.return_, 1) := by decide +kernel
theorem dX8_isPerson_0 : decode cX8_isPerson 0 = .ok (.iload_n 1, 1) := by decide +kernel
theorem dX8_isPerson_1 : decode cX8_isPerson 1 = .ok (.iconst 0, 1) := by decide +kernel
theorem dX8_isPerson_2 : decode cX8_isPerson 2 = .ok (.aload_n 0, 1) := by decide +kernel
theorem dX8_isPerson_3 : decode cX8_isPerson 3 = .ok (.getfield 7, 3) := by decide +kernel
theorem dX8_isPerson_6 : decode cX8_isPerson 6 = .ok (.iconst 5, 1) := by decide +kernel
theorem dX8_isPerson_7 : decode cX8_isPerson 7 = .ok (.iaload, 1) := by decide +kernel
theorem dX8_isPerson_8 : decode cX8_isPerson 8 = .ok (.iconst 1, 1) := by decide +kernel
theorem dX8_isPerson_9 : decode cX8_isPerson 9 = .ok (.isub, 1) := by decide +kernel
theorem dX8_isPerson_10 : decode cX8_isPerson 10 = .ok (.invokestatic 47, 3) := by decide +kernel
theorem dX8_isPerson_13 : decode cX8_isPerson 13 = .ok (.ireturn, 1) := by decide +kernel
theorem dX8_isCell_0 : decode cX8_isCell 0 = .ok (.iload_n 0, 1) := by decide +kernel
theorem dX8_isCell_1 : decode cX8_isCell 1 = .ok (.iconst 0, 1) := by decide +kernel
theorem dX8_isCell_2 : decode cX8_isCell 2 = .ok (.bipush 15, 2) := by decide +kernel
theorem dX8_isCell_4 : decode cX8_isCell 4 = .ok (.invokestatic 47, 3) := by decide +kernel
theorem dX8_isCell_7 : decode cX8_isCell 7 = .ok (.ireturn, 1) := by decide +kernel
theorem dX8_its_0 : decode cX8_its 0 = .ok (.aload_n 0, 1) := by decide +kernel
theorem dX8_its_1 : decode cX8_its 1 = .ok (.getfield 7, 3) := by decide +kernel
theorem dX8_its_4 : decode cX8_its 4 = .ok (.bipush 8, 2) := by decide +kernel
theorem dX8_its_6 : decode cX8_its 6 = .ok (.iconst 5, 1) := by decide +kernel
theorem dX8_its_7 : decode cX8_its 7 = .ok (.iload_n 1, 1) := by decide +kernel
theorem dX8_its_8 : decode cX8_its 8 = .ok (.imul, 1) := by decide +kernel
theorem dX8_its_9 : decode cX8_its 9 = .ok (.iadd, 1) := by decide +kernel
theorem dX8_its_10 : decode cX8_its 10 = .ok (.iload_n 2, 1) := by decide +kernel
theorem dX8_its_11 : decode cX8_its 11 = .ok (.iadd, 1) := by decide +kernel
theorem dX8_its_12 : decode cX8_its 12 = .ok (.iaload, 1) := by decide +kernel
theorem dX8_its_13 : decode cX8_its 13 = .ok (.ireturn, 1) := by decide +kernel
theorem dX8_lays1_0 : decode cX8_lays1 0 = .ok (.aload_n 0, 1) := by decide +kernel
theorem dX8_lays1_1 : decode cX8_lays1 1 = .ok (.getfield 7, 3) := by decide +kernel
theorem dX8_lays1_4 : decode cX8_lays1 4 = .ok (.bipush 8, 2) := by decide +kernel
theorem dX8_lays1_6 : decode cX8_lays1 6 = .ok (.iconst 5, 1) := by decide +kernel
theorem dX8_lays1_7 : decode cX8_lays1 7 = .ok (.iload_n 1, 1) := by decide +kernel
theorem dX8_lays1_8 : decode cX8_lays1 8 = .ok (.imul, 1) := by decide +kernel
theorem dX8_lays1_9 : decode cX8_lays1 9 = .ok (.iadd, 1) := by decide +kernel
theorem dX8_lays1_10 : decode cX8_lays1 10 = .ok (.iload_n 2, 1) := by decide +kernel
theorem dX8_lays1_11 : decode cX8_lays1 11 = .ok (.iadd, 1) := by decide +kernel
theorem dX8_lays1_12 : decode cX8_lays1 12 = .ok (.iload_n 3, 1) := by decide +kernel
theorem dX8_lays1_13 : decode cX8_lays1 13 = .ok (.iastore, 1) := by decide +kernel
theorem dX8_lays1_14 : decode cX8_lays1 14 = .ok (.return_, 1) := by decide +kernel
theorem dX8_change1_0 : decode cX8_change1 0 = .ok (.aload_n 0, 1) := by decide +kernel
theorem dX8_change1_1 : decode cX8_change1 1 = .ok (.getfield 7, 3) := by decide +kernel
theorem dX8_change1_4 : decode cX8_change1 4 = .ok (.iload_n 1, 1) := by decide +kernel
theorem dX8_change1_5 : decode cX8_change1 5 = .ok (.iaload, 1) := by decide +kernel
theorem dX8_change1_6 : decode cX8_change1 6 = .ok (.istore_n 3, 1) := by decide +kernel
theorem dX8_change1_7 : decode cX8_change1 7 = .ok (.aload_n 0, 1) := by decide +kernel
theorem dX8_change1_8 : decode cX8_change1 8 = .ok (.getfield 7, 3) := by decide +kernel
theorem dX8_change1_11 : decode cX8_change1 11 = .ok (.iload_n 1, 1) := by decide +kernel
theorem dX8_change1_12 : decode cX8_change1 12 = .ok (.iload_n 2, 1) := by decide +kernel
theorem dX8_change1_13 : decode cX8_change1 13 = .ok (.iastore, 1) := by decide +kernel
theorem dX8_change1_14 : decode cX8_change1 14 = .ok (.iload_n 3, 1) := by decide +kernel
theorem dX8_change1_15 : decode cX8_change1 15 = .ok (.ireturn, 1) := by decide +kernel
theorem dX8_isDrop_0 : decode cX8_isDrop 0 = .ok (.aload_n 0, 1) := by decide +kernel
theorem dX8_isDrop_1 : decode cX8_isDrop 1 = .ok (.getfield 7, 3) := by decide +kernel
theorem dX8_isDrop_4 : decode cX8_isDrop 4 = .ok (.iconst 1, 1) := by decide +kernel
theorem dX8_isDrop_5 : decode cX8_isDrop 5 = .ok (.iaload, 1) := by decide +kernel
theorem dX8_isDrop_6 : decode cX8_isDrop 6 = .ok (.iload_n 1, 1) := by decide +kernel
theorem dX8_isDrop_7 : decode cX8_isDrop 7 = .ok (.ishr, 1) := by decide +kernel
theorem dX8_isDrop_8 : decode cX8_isDrop 8 = .ok (.iconst 1, 1) := by decide +kernel
theorem dX8_isDrop_9 : decode cX8_isDrop 9 = .ok (.iand, 1) := by decide +kernel
theorem dX8_isDrop_10 : decode cX8_isDrop 10 = .ok (.iconst 1, 1) := by decide +kernel
theorem dX8_isDrop_11 : decode cX8_isDrop 11 = .ok (.if_icmp .ne 7, 3) := by decide +kernel
theorem dX8_isDrop_14 : decode cX8_isDrop 14 = .ok (.iconst 1, 1) := by decide +kernel
theorem dX8_isDrop_15 : decode cX8_isDrop 15 = .ok (.goto 4, 3) := by decide +kernel
theorem dX8_isDrop_18 : decode cX8_isDrop 18 = .ok (.iconst 0, 1) := by decide +kernel
theorem dX8_isDrop_19 : decode cX8_isDrop 19 = .ok (.ireturn, 1) := by decide +kernel
theorem dX8_feed_0 : decode cX8_feed 0 = .ok (.iload_n 3, 1) := by decide +kernel
theorem dX8_feed_1 : decode cX8_feed 1 = .ok (.iconst 1, 1) := by decide +kernel
theorem dX8_feed_2 : decode cX8_feed 2 = .ok (.bipush 8, 2) := by decide +kernel
theorem dX8_feed_4 : decode cX8_feed 4 = .ok (.invokestatic 47, 3) := by decide +kernel
theorem dX8_feed_7 : decode cX8_feed 7 = .ok (.ifCond .ne 9, 3) := by decide +kernel
theorem dX8_feed_10 : decode cX8_feed 10 = .ok (.aload_n 0, 1) := by decide +kernel
theorem dX8_feed_11 : decode cX8_feed 11 = .ok (.iconst 1, 1) := by decide +kernel
theorem dX8_feed_12 : decode cX8_feed 12 = .ok (.invokevirtual 51, 3) := by decide +kernel
theorem dX8_feed_15 : decode cX8_feed 15 = .ok (.ireturn, 1) := by decide +kernel
theorem dX8_feed_16 : decode cX8_feed 16 = .ok (.aload_n 0, 1) := by decide +kernel
theorem dX8_feed_17 : decode cX8_feed 17 = .ok (.getfield 7, 3) := by decide +kernel
theorem dX8_feed_20 : decode cX8_feed 20 = .ok (.iconst 3, 1) := by decide +kernel
theorem dX8_feed_21 : decode cX8_feed 21 = .ok (.iaload, 1) := by decide +kernel
theorem dX8_feed_22 : decode cX8_feed 22 = .ok (.iload_n 3, 1) := by decide +kernel
theorem dX8_feed_23 : decode cX8_feed 23 = .ok (.iadd, 1) := by decide +kernel
theorem dX8_feed_24 : decode cX8_feed 24 = .ok (.bipush 60, 2) := by decide +kernel
theorem dX8_feed_26 : decode cX8_feed 26 = .ok (.if_icmp .le 9, 3) := by decide +kernel
theorem dX8_feed_29 : decode cX8_feed 29 = .ok (.aload_n 0, 1) := by decide +kernel
theorem dX8_feed_30 : decode cX8_feed 30 = .ok (.iconst 4, 1) := by decide +kernel
theorem dX8_feed_31 : decode cX8_feed 31 = .ok (.invokevirtual 51, 3) := by decide +kernel
theorem dX8_feed_34 : decode cX8_feed 34 = .ok (.ireturn, 1) := by decide +kernel
theorem dX8_feed_35 : decode cX8_feed 35 = .ok (.iconst 0, 1) := by decide +kernel
theorem dX8_feed_36 : decode cX8_feed 36 = .ok (.istore 4, 2) := by decide +kernel
theorem dX8_feed_38 : decode cX8_feed 38 = .ok (.iload 4, 2) := by decide +kernel
theorem dX8_feed_40 : decode cX8_feed 40 = .ok (.iload_n 3, 1) := by decide +kernel
theorem dX8_feed_41 : decode cX8_feed 41 = .ok (.if_icmp .ge 46, 3) := by decide +kernel
theorem dX8_feed_44 : decode cX8_feed 44 = .ok (.aload_n 0, 1) := by decide +kernel
theorem dX8_feed_45 : decode cX8_feed 45 = .ok (.getfield 7, 3) := by decide +kernel
theorem dX8_feed_48 : decode cX8_feed 48 = .ok (.sipush 288, 3) := by decide +kernel
theorem dX8_feed_51 : decode cX8_feed 51 = .ok (.aload_n 0, 1) := by decide +kernel
theorem dX8_feed_52 : decode cX8_feed 52 = .ok (.getfield 7, 3) := by decide +kernel
theorem dX8_feed_55 : decode cX8_feed 55 = .ok (.iconst 3, 1) := by decide +kernel
theorem dX8_feed_56 : decode cX8_feed 56 = .ok (.iaload, 1) := by decide +kernel
theorem dX8_feed_57 : decode cX8_feed 57 = .ok (.iadd, 1) := by decide +kernel
theorem dX8_feed_58 : decode cX8_feed 58 = .ok (.lload_n 1, 1) := by decide +kernel
theorem dX8_feed_59 : decode cX8_feed 59 = .ok (.bipush 8, 2) := by decide +kernel
theorem dX8_feed_61 : decode cX8_feed 61 = .ok (.iload 4, 2) := by decide +kernel
theorem dX8_feed_63 : decode cX8_feed 63 = .ok (.imul, 1) := by decide +kernel
theorem dX8_feed_64 : decode cX8_feed 64 = .ok (.lshr, 1) := by decide +kernel
theorem dX8_feed_65 : decode cX8_feed 65 = .ok (.ldc2_w 55, 3) := by decide +kernel
theorem dX8_feed_68 : decode cX8_feed 68 = .ok (.land, 1) := by decide +kernel
theorem dX8_feed_69 : decode cX8_feed 69 = .ok (.l2i, 1) := by decide +kernel
theorem dX8_feed_70 : decode cX8_feed 70 = .ok (.iastore, 1) := by decide +kernel
theorem dX8_feed_71 : decode cX8_feed 71 = .ok (.aload_n 0, 1) := by decide +kernel
theorem dX8_feed_72 : decode cX8_feed 72 = .ok (.getfield 7, 3) := by decide +kernel
theorem dX8_feed_75 : decode cX8_feed 75 = .ok (.iconst 3, 1) := by decide +kernel
theorem dX8_feed_76 : decode cX8_feed 76 = .ok (.dup2, 1) := by decide +kernel
theorem dX8_feed_77 : decode cX8_feed 77 = .ok (.iaload, 1) := by decide +kernel
theorem dX8_feed_78 : decode cX8_feed 78 = .ok (.iconst 1, 1) := by decide +kernel
theorem dX8_feed_79 : decode cX8_feed 79 = .ok (.iadd, 1) := by decide +kernel
theorem dX8_feed_80 : decode cX8_feed 80 = .ok (.iastore, 1) := by decide +kernel
theorem dX8_feed_81 : decode cX8_feed 81 = .ok (.iinc 4 1, 3) := by decide +kernel
theorem dX8_feed_84 : decode cX8_feed 84 = .ok (.goto (-46), 3) := by decide +kernel
theorem dX8_feed_87 : decode cX8_feed 87 = .ok (.aload_n 0, 1) := by decide +kernel
theorem dX8_feed_88 : decode cX8_feed 88 = .ok (.getfield 7, 3) := by decide +kernel
theorem dX8_feed_91 : decode cX8_feed 91 = .ok (.iconst 3, 1) := by decide +kernel
theorem dX8_feed_92 : decode cX8_feed 92 = .ok (.iaload, 1) := by decide +kernel
theorem dX8_feed_93 : decode cX8_feed 93 = .ok (.ireturn, 1) := by decide +kernel
theorem dX8_look_0 : decode cX8_look 0 = .ok (.aload_n 0, 1) := by decide +kernel
theorem dX8_look_1 : decode cX8_look 1 = .ok (.getfield 57, 3) := by decide +kernel
theorem dX8_look_4 : decode cX8_look 4 = .ok (.aload_n 0, 1) := by decide +kernel
theorem dX8_look_5 : decode cX8_look 5 = .ok (.getfield 7, 3) := by decide +kernel
theorem dX8_look_8 : decode cX8_look 8 = .ok (.iconst 3, 1) := by decide +kernel
theorem dX8_look_9 : decode cX8_look 9 = .ok (.iaload, 1) := by decide +kernel
theorem dX8_look_10 : decode cX8_look 10 = .ok (.if_icmp .ge 19, 3) := by decide +kernel
theorem dX8_look_13 : decode cX8_look 13 = .ok (.aload_n 0, 1) := by decide +kernel
theorem dX8_look_14 : decode cX8_look 14 = .ok (.getfield 7, 3) := by decide +kernel
theorem dX8_look_17 : decode cX8_look 17 = .ok (.sipush 288, 3) := by decide +kernel
theorem dX8_look_20 : decode cX8_look 20 = .ok (.aload_n 0, 1) := by decide +kernel
theorem dX8_look_21 : decode cX8_look 21 = .ok (.getfield 57, 3) := by decide +kernel
theorem dX8_look_24 : decode cX8_look 24 = .ok (.iadd, 1) := by decide +kernel
theorem dX8_look_25 : decode cX8_look 25 = .ok (.iaload, 1) := by decide +kernel
theorem dX8_look_26 : decode cX8_look 26 = .ok (.goto 4, 3) := by decide +kernel
theorem dX8_look_29 : decode cX8_look 29 = .ok (.iconst (-1), 1) := by decide +kernel
theorem dX8_look_30 : decode cX8_look 30 = .ok (.ireturn, 1) := by decide +kernel
theorem dX8_isName_0 : decode cX8_isName 0 = .ok (.iload_n 1, 1) := by decide +kernel
theorem dX8_isName_1 : decode cX8_isName 1 = .ok (.bipush 99, 2) := by decide +kernel
theorem dX8_isName_3 : decode cX8_isName 3 = .ok (.if_icmp .ne 5, 3) := by decide +kernel
theorem dX8_isName_6 : decode cX8_isName 6 = .ok (.iconst 1, 1) := by decide +kernel
theorem dX8_isName_7 : decode cX8_isName 7 = .ok (.ireturn, 1) := by decide +kernel
theorem dX8_isName_8 : decode cX8_isName 8 = .ok (.aload_n 0, 1) := by decide +kernel
theorem dX8_isName_9 : decode cX8_isName 9 = .ok (.getfield 61, 3) := by decide +kernel
theorem dX8_isName_12 : decode cX8_isName 12 = .ok (.ifCond .ne 23, 3) := by decide +kernel
theorem dX8_isName_15 : decode cX8_isName 15 = .ok (.iload_n 1, 1) := by decide +kernel
theorem dX8_isName_16 : decode cX8_isName 16 = .ok (.bipush 115, 2) := by decide +kernel
theorem dX8_isName_18 : decode cX8_isName 18 = .ok (.if_icmp .eq 9, 3) := by decide +kernel
theorem dX8_isName_21 : decode cX8_isName 21 = .ok (.iload_n 1, 1) := by decide +kernel
theorem dX8_isName_22 : decode cX8_isName 22 = .ok (.bipush 104, 2) := by decide +kernel
theorem dX8_isName_24 : decode cX8_isName 24 = .ok (.if_icmp .ne 7, 3) := by decide +kernel
theorem dX8_isName_27 : decode cX8_isName 27 = .ok (.iconst 1, 1) := by decide +kernel
theorem dX8_isName_28 : decode cX8_isName 28 = .ok (.goto 24, 3) := by decide +kernel
theorem dX8_isName_31 : decode cX8_isName 31 = .ok (.iconst 0, 1) := by decide +kernel
theorem dX8_isName_32 : decode cX8_isName 32 = .ok (.goto 20, 3) := by decide +kernel
theorem dX8_isName_35 : decode cX8_isName 35 = .ok (.iload_n 1, 1) := by decide +kernel
theorem dX8_isName_36 : decode cX8_isName 36 = .ok (.bipush 109, 2) := by decide +kernel
theorem dX8_isName_38 : decode cX8_isName 38 = .ok (.if_icmp .eq 9, 3) := by decide +kernel
theorem dX8_isName_41 : decode cX8_isName 41 = .ok (.iload_n 1, 1) := by decide +kernel
theorem dX8_isName_42 : decode cX8_isName 42 = .ok (.bipush 107, 2) := by decide +kernel
theorem dX8_isName_44 : decode cX8_isName 44 = .ok (.if_icmp .ne 7, 3) := by decide +kernel
theorem dX8_isName_47 : decode cX8_isName 47 = .ok (.iconst 1, 1) := by decide +kernel
theorem dX8_isName_48 : decode cX8_isName 48 = .ok (.goto 4, 3) := by decide +kernel
theorem dX8_isName_51 : decode cX8_isName 51 = .ok (.iconst 0, 1) := by decide +kernel
theorem dX8_isName_52 : decode cX8_isName 52 = .ok (.ireturn, 1) := by decide +kernel
theorem dX8_step1_0 : decode cX8_step1 0 = .ok (.aload_n 0, 1) := by decide +kernel
theorem dX8_step1_1 : decode cX8_step1 1 = .ok (.getfield 22, 3) := by decide +kernel
theorem dX8_step1_4 : decode cX8_step1 4 = .ok (.iconst 2, 1) := by decide +kernel
theorem dX8_step1_5 : decode cX8_step1 5 = .ok (.aload_n 0, 1) := by decide +kernel
theorem dX8_step1_6 : decode cX8_step1 6 = .ok (.getfield 64, 3) := by decide +kernel
theorem dX8_step1_9 : decode cX8_step1 9 = .ok (.imul, 1) := by decide +kernel
theorem dX8_step1_10 : decode cX8_step1 10 = .ok (.iload_n 1, 1) := by decide +kernel
theorem dX8_step1_11 : decode cX8_step1 11 = .ok (.iastore, 1) := by decide +kernel
theorem dX8_step1_12 : decode cX8_step1 12 = .ok (.aload_n 0, 1) := by decide +kernel
theorem dX8_step1_13 : decode cX8_step1 13 = .ok (.getfield 22, 3) := by decide +kernel
theorem dX8_step1_16 : decode cX8_step1 16 = .ok (.iconst 2, 1) := by decide +kernel
theorem dX8_step1_17 : decode cX8_step1 17 = .ok (.aload_n 0, 1) := by decide +kernel
theorem dX8_step1_18 : decode cX8_step1 18 = .ok (.getfield 64, 3) := by decide +kernel
theorem dX8_step1_21 : decode cX8_step1 21 = .ok (.imul, 1) := by decide +kernel
theorem dX8_step1_22 : decode cX8_step1 22 = .ok (.iconst 1, 1) := by decide +kernel
theorem dX8_step1_23 : decode cX8_step1 23 = .ok (.iadd, 1) := by decide +kernel
theorem dX8_step1_24 : decode cX8_step1 24 = .ok (.iload_n 2, 1) := by decide +kernel
theorem dX8_step1_25 : decode cX8_step1 25 = .ok (.iastore, 1) := by decide +kernel
theorem dX8_step1_26 : decode cX8_step1 26 = .ok (.aload_n 0, 1) := by decide +kernel
theorem dX8_step1_27 : decode cX8_step1 27 = .ok (.dup, 1) := by decide +kernel
theorem dX8_step1_28 : decode cX8_step1 28 = .ok (.getfield 64, 3) := by decide +kernel
theorem dX8_step1_31 : decode cX8_step1 31 = .ok (.iconst 1, 1) := by decide +kernel
theorem dX8_step1_32 : decode cX8_step1 32 = .ok (.iadd, 1) := by decide +kernel
theorem dX8_step1_33 : decode cX8_step1 33 = .ok (.putfield 64, 3) := by decide +kernel
theorem dX8_step1_36 : decode cX8_step1 36 = .ok (.return_, 1) := by decide +kernel
theorem dX8_whole_0 : decode cX8_whole 0 = .ok (.aload_n 0, 1) := by decide +kernel
theorem dX8_whole_1 : decode cX8_whole 1 = .ok (.invokevirtual 67, 3) := by decide +kernel
theorem dX8_whole_4 : decode cX8_whole 4 = .ok (.ifCond .ne 5, 3) := by decide +kernel
theorem dX8_whole_7 : decode cX8_whole 7 = .ok (.iconst 0, 1) := by decide +kernel
theorem dX8_whole_8 : decode cX8_whole 8 = .ok (.ireturn, 1) := by decide +kernel
theorem dX8_whole_9 : decode cX8_whole 9 = .ok (.aload_n 0, 1) := by decide +kernel
theorem dX8_whole_10 : decode cX8_whole 10 = .ok (.invokevirtual 71, 3) := by decide +kernel
theorem dX8_whole_13 : decode cX8_whole 13 = .ok (.bipush 124, 2) := by decide +kernel
theorem dX8_whole_15 : decode cX8_whole 15 = .ok (.if_icmp .ne 32, 3) := by decide +kernel
theorem dX8_whole_18 : decode cX8_whole 18 = .ok (.aload_n 0, 1) := by decide +kernel
theorem dX8_whole_19 : decode cX8_whole 19 = .ok (.dup, 1) := by decide +kernel
theorem dX8_whole_20 : decode cX8_whole 20 = .ok (.getfield 57, 3) := by decide +kernel
theorem dX8_whole_23 : decode cX8_whole 23 = .ok (.iconst 1, 1) := by decide +kernel
theorem dX8_whole_24 : decode cX8_whole 24 = .ok (.iadd, 1) := by decide +kernel
theorem dX8_whole_25 : decode cX8_whole 25 = .ok (.putfield 57, 3) := by decide +kernel
theorem dX8_whole_28 : decode cX8_whole 28 = .ok (.aload_n 0, 1) := by decide +kernel
theorem dX8_whole_29 : decode cX8_whole 29 = .ok (.invokevirtual 67, 3) := by decide +kernel
theorem dX8_whole_32 : decode cX8_whole 32 = .ok (.ifCond .ne 5, 3) := by decide +kernel
theorem dX8_whole_35 : decode cX8_whole 35 = .ok (.iconst 0, 1) := by decide +kernel
theorem dX8_whole_36 : decode cX8_whole 36 = .ok (.ireturn, 1) := by decide +kernel
theorem dX8_whole_37 : decode cX8_whole 37 = .ok (.aload_n 0, 1) := by decide +kernel
theorem dX8_whole_38 : decode cX8_whole 38 = .ok (.iconst 3, 1) := by decide +kernel
theorem dX8_whole_39 : decode cX8_whole 39 = .ok (.bipush 124, 2) := by decide +kernel
theorem dX8_whole_41 : decode cX8_whole 41 = .ok (.invokevirtual 75, 3) := by decide +kernel
theorem dX8_whole_44 : decode cX8_whole 44 = .ok (.goto (-35), 3) := by decide +kernel
theorem dX8_whole_47 : decode cX8_whole 47 = .ok (.iconst 1, 1) := by decide +kernel
theorem dX8_whole_48 : decode cX8_whole 48 = .ok (.ireturn, 1) := by decide +kernel
theorem dX8_both_0 : decode cX8_both 0 = .ok (.aload_n 0, 1) := by decide +kernel
theorem dX8_both_1 : decode cX8_both 1 = .ok (.invokevirtual 79, 3) := by decide +kernel
theorem dX8_both_4 : decode cX8_both 4 = .ok (.ifCond .ne 5, 3) := by decide +kernel
theorem dX8_both_7 : decode cX8_both 7 = .ok (.iconst 0, 1) := by decide +kernel
theorem dX8_both_8 : decode cX8_both 8 = .ok (.ireturn, 1) := by decide +kernel
theorem dX8_both_9 : decode cX8_both 9 = .ok (.aload_n 0, 1) := by decide +kernel
theorem dX8_both_10 : decode cX8_both 10 = .ok (.invokevirtual 71, 3) := by decide +kernel
theorem dX8_both_13 : decode cX8_both 13 = .ok (.bipush 38, 2) := by decide +kernel
theorem dX8_both_15 : decode cX8_both 15 = .ok (.if_icmp .ne 32, 3) := by decide +kernel
theorem dX8_both_18 : decode cX8_both 18 = .ok (.aload_n 0, 1) := by decide +kernel
theorem dX8_both_19 : decode cX8_both 19 = .ok (.dup, 1) := by decide +kernel
theorem dX8_both_20 : decode cX8_both 20 = .ok (.getfield 57, 3) := by decide +kernel
theorem dX8_both_23 : decode cX8_both 23 = .ok (.iconst 1, 1) := by decide +kernel
theorem dX8_both_24 : decode cX8_both 24 = .ok (.iadd, 1) := by decide +kernel
theorem dX8_both_25 : decode cX8_both 25 = .ok (.putfield 57, 3) := by decide +kernel
theorem dX8_both_28 : decode cX8_both 28 = .ok (.aload_n 0, 1) := by decide +kernel
theorem dX8_both_29 : decode cX8_both 29 = .ok (.invokevirtual 79, 3) := by decide +kernel
theorem dX8_both_32 : decode cX8_both 32 = .ok (.ifCond .ne 5, 3) := by decide +kernel
theorem dX8_both_35 : decode cX8_both 35 = .ok (.iconst 0, 1) := by decide +kernel
theorem dX8_both_36 : decode cX8_both 36 = .ok (.ireturn, 1) := by decide +kernel
theorem dX8_both_37 : decode cX8_both 37 = .ok (.aload_n 0, 1) := by decide +kernel
theorem dX8_both_38 : decode cX8_both 38 = .ok (.iconst 3, 1) := by decide +kernel
theorem dX8_both_39 : decode cX8_both 39 = .ok (.bipush 38, 2) := by decide +kernel
theorem dX8_both_41 : decode cX8_both 41 = .ok (.invokevirtual 75, 3) := by decide +kernel
theorem dX8_both_44 : decode cX8_both 44 = .ok (.goto (-35), 3) := by decide +kernel
theorem dX8_both_47 : decode cX8_both 47 = .ok (.iconst 1, 1) := by decide +kernel
theorem dX8_both_48 : decode cX8_both 48 = .ok (.ireturn, 1) := by decide +kernel
theorem dX8_compared_0 : decode cX8_compared 0 = .ok (.aload_n 0, 1) := by decide +kernel
theorem dX8_compared_1 : decode cX8_compared 1 = .ok (.invokevirtual 82, 3) := by decide +kernel
theorem dX8_compared_4 : decode cX8_compared 4 = .ok (.ifCond .ne 5, 3) := by decide +kernel
theorem dX8_compared_7 : decode cX8_compared 7 = .ok (.iconst 0, 1) := by decide +kernel
theorem dX8_compared_8 : decode cX8_compared 8 = .ok (.ireturn, 1) := by decide +kernel
theorem dX8_compared_9 : decode cX8_compared 9 = .ok (.aload_n 0, 1) := by decide +kernel
theorem dX8_compared_10 : decode cX8_compared 10 = .ok (.invokevirtual 71, 3) := by decide +kernel
theorem dX8_compared_13 : decode cX8_compared 13 = .ok (.istore_n 1, 1) := by decide +kernel
theorem dX8_compared_14 : decode cX8_compared 14 = .ok (.iload_n 1, 1) := by decide +kernel
theorem dX8_compared_15 : decode cX8_compared 15 = .ok (.bipush 60, 2) := by decide +kernel
theorem dX8_compared_17 : decode cX8_compared 17 = .ok (.if_icmp .eq 17, 3) := by decide +kernel
theorem dX8_compared_20 : decode cX8_compared 20 = .ok (.iload_n 1, 1) := by decide +kernel
theorem dX8_compared_21 : decode cX8_compared 21 = .ok (.bipush 61, 2) := by decide +kernel
theorem dX8_compared_23 : decode cX8_compared 23 = .ok (.if_icmp .eq 11, 3) := by decide +kernel
theorem dX8_compared_26 : decode cX8_compared 26 = .ok (.iload_n 1, 1) := by decide +kernel
theorem dX8_compared_27 : decode cX8_compared 27 = .ok (.bipush 62, 2) := by decide +kernel
theorem dX8_compared_29 : decode cX8_compared 29 = .ok (.if_icmp .eq 5, 3) := by decide +kernel
theorem dX8_compared_32 : decode cX8_compared 32 = .ok (.iconst 1, 1) := by decide +kernel
theorem dX8_compared_33 : decode cX8_compared 33 = .ok (.ireturn, 1) := by decide +kernel
theorem dX8_compared_34 : decode cX8_compared 34 = .ok (.aload_n 0, 1) := by decide +kernel
theorem dX8_compared_35 : decode cX8_compared 35 = .ok (.dup, 1) := by decide +kernel
theorem dX8_compared_36 : decode cX8_compared 36 = .ok (.getfield 57, 3) := by decide +kernel
theorem dX8_compared_39 : decode cX8_compared 39 = .ok (.iconst 1, 1) := by decide +kernel
theorem dX8_compared_40 : decode cX8_compared 40 = .ok (.iadd, 1) := by decide +kernel
theorem dX8_compared_41 : decode cX8_compared 41 = .ok (.putfield 57, 3) := by decide +kernel
theorem dX8_compared_44 : decode cX8_compared 44 = .ok (.aload_n 0, 1) := by decide +kernel
theorem dX8_compared_45 : decode cX8_compared 45 = .ok (.invokevirtual 82, 3) := by decide +kernel
theorem dX8_compared_48 : decode cX8_compared 48 = .ok (.ifCond .ne 5, 3) := by decide +kernel
theorem dX8_compared_51 : decode cX8_compared 51 = .ok (.iconst 0, 1) := by decide +kernel
theorem dX8_compared_52 : decode cX8_compared 52 = .ok (.ireturn, 1) := by decide +kernel
theorem dX8_compared_53 : decode cX8_compared 53 = .ok (.aload_n 0, 1) := by decide +kernel
theorem dX8_compared_54 : decode cX8_compared 54 = .ok (.iconst 3, 1) := by decide +kernel
theorem dX8_compared_55 : decode cX8_compared 55 = .ok (.iload_n 1, 1) := by decide +kernel
theorem dX8_compared_56 : decode cX8_compared 56 = .ok (.invokevirtual 75, 3) := by decide +kernel
theorem dX8_compared_59 : decode cX8_compared 59 = .ok (.iconst 1, 1) := by decide +kernel
theorem dX8_compared_60 : decode cX8_compared 60 = .ok (.ireturn, 1) := by decide +kernel
theorem dX8_sum_0 : decode cX8_sum 0 = .ok (.aload_n 0, 1) := by decide +kernel
theorem dX8_sum_1 : decode cX8_sum 1 = .ok (.invokevirtual 85, 3) := by decide +kernel
theorem dX8_sum_4 : decode cX8_sum 4 = .ok (.ifCond .ne 5, 3) := by decide +kernel
theorem dX8_sum_7 : decode cX8_sum 7 = .ok (.iconst 0, 1) := by decide +kernel
theorem dX8_sum_8 : decode cX8_sum 8 = .ok (.ireturn, 1) := by decide +kernel
theorem dX8_sum_9 : decode cX8_sum 9 = .ok (.aload_n 0, 1) := by decide +kernel
theorem dX8_sum_10 : decode cX8_sum 10 = .ok (.invokevirtual 71, 3) := by decide +kernel
theorem dX8_sum_13 : decode cX8_sum 13 = .ok (.bipush 43, 2) := by decide +kernel
theorem dX8_sum_15 : decode cX8_sum 15 = .ok (.if_icmp .eq 12, 3) := by decide +kernel
theorem dX8_sum_18 : decode cX8_sum 18 = .ok (.aload_n 0, 1) := by decide +kernel
theorem dX8_sum_19 : decode cX8_sum 19 = .ok (.invokevirtual 71, 3) := by decide +kernel
theorem dX8_sum_22 : decode cX8_sum 22 = .ok (.bipush 45, 2) := by decide +kernel
theorem dX8_sum_24 : decode cX8_sum 24 = .ok (.if_icmp .ne 36, 3) := by decide +kernel
theorem dX8_sum_27 : decode cX8_sum 27 = .ok (.aload_n 0, 1) := by decide +kernel
theorem dX8_sum_28 : decode cX8_sum 28 = .ok (.invokevirtual 71, 3) := by decide +kernel
theorem dX8_sum_31 : decode cX8_sum 31 = .ok (.istore_n 1, 1) := by decide +kernel
theorem dX8_sum_32 : decode cX8_sum 32 = .ok (.aload_n 0, 1) := by decide +kernel
theorem dX8_sum_33 : decode cX8_sum 33 = .ok (.dup, 1) := by decide +kernel
theorem dX8_sum_34 : decode cX8_sum 34 = .ok (.getfield 57, 3) := by decide +kernel
theorem dX8_sum_37 : decode cX8_sum 37 = .ok (.iconst 1, 1) := by decide +kernel
theorem dX8_sum_38 : decode cX8_sum 38 = .ok (.iadd, 1) := by decide +kernel
theorem dX8_sum_39 : decode cX8_sum 39 = .ok (.putfield 57, 3) := by decide +kernel
theorem dX8_sum_42 : decode cX8_sum 42 = .ok (.aload_n 0, 1) := by decide +kernel
theorem dX8_sum_43 : decode cX8_sum 43 = .ok (.invokevirtual 85, 3) := by decide +kernel
theorem dX8_sum_46 : decode cX8_sum 46 = .ok (.ifCond .ne 5, 3) := by decide +kernel
theorem dX8_sum_49 : decode cX8_sum 49 = .ok (.iconst 0, 1) := by decide +kernel
theorem dX8_sum_50 : decode cX8_sum 50 = .ok (.ireturn, 1) := by decide +kernel
theorem dX8_sum_51 : decode cX8_sum 51 = .ok (.aload_n 0, 1) := by decide +kernel
theorem dX8_sum_52 : decode cX8_sum 52 = .ok (.iconst 3, 1) := by decide +kernel
theorem dX8_sum_53 : decode cX8_sum 53 = .ok (.iload_n 1, 1) := by decide +kernel
theorem dX8_sum_54 : decode cX8_sum 54 = .ok (.invokevirtual 75, 3) := by decide +kernel
theorem dX8_sum_57 : decode cX8_sum 57 = .ok (.goto (-48), 3) := by decide +kernel
theorem dX8_sum_60 : decode cX8_sum 60 = .ok (.iconst 1, 1) := by decide +kernel
theorem dX8_sum_61 : decode cX8_sum 61 = .ok (.ireturn, 1) := by decide +kernel
theorem dX8_product_0 : decode cX8_product 0 = .ok (.aload_n 0, 1) := by decide +kernel
theorem dX8_product_1 : decode cX8_product 1 = .ok (.invokevirtual 88, 3) := by decide +kernel
theorem dX8_product_4 : decode cX8_product 4 = .ok (.ifCond .ne 5, 3) := by decide +kernel
theorem dX8_product_7 : decode cX8_product 7 = .ok (.iconst 0, 1) := by decide +kernel
theorem dX8_product_8 : decode cX8_product 8 = .ok (.ireturn, 1) := by decide +kernel
theorem dX8_product_9 : decode cX8_product 9 = .ok (.aload_n 0, 1) := by decide +kernel
theorem dX8_product_10 : decode cX8_product 10 = .ok (.invokevirtual 71, 3) := by decide +kernel
theorem dX8_product_13 : decode cX8_product 13 = .ok (.bipush 42, 2) := by decide +kernel
theorem dX8_product_15 : decode cX8_product 15 = .ok (.if_icmp .eq 21, 3) := by decide +kernel
theorem dX8_product_18 : decode cX8_product 18 = .ok (.aload_n 0, 1) := by decide +kernel
theorem dX8_product_19 : decode cX8_product 19 = .ok (.invokevirtual 71, 3) := by decide +kernel
theorem dX8_product_22 : decode cX8_product 22 = .ok (.bipush 47, 2) := by decide +kernel
theorem dX8_product_24 : decode cX8_product 24 = .ok (.if_icmp .eq 12, 3) := by decide +kernel
theorem dX8_product_27 : decode cX8_product 27 = .ok (.aload_n 0, 1) := by decide +kernel
theorem dX8_product_28 : decode cX8_product 28 = .ok (.invokevirtual 71, 3) := by decide +kernel
theorem dX8_product_31 : decode cX8_product 31 = .ok (.bipush 37, 2) := by decide +kernel
theorem dX8_product_33 : decode cX8_product 33 = .ok (.if_icmp .ne 36, 3) := by decide +kernel
theorem dX8_product_36 : decode cX8_product 36 = .ok (.aload_n 0, 1) := by decide +kernel
theorem dX8_product_37 : decode cX8_product 37 = .ok (.invokevirtual 71, 3) := by decide +kernel
theorem dX8_product_40 : decode cX8_product 40 = .ok (.istore_n 1, 1) := by decide +kernel
theorem dX8_product_41 : decode cX8_product 41 = .ok (.aload_n 0, 1) := by decide +kernel
theorem dX8_product_42 : decode cX8_product 42 = .ok (.dup, 1) := by decide +kernel
theorem dX8_product_43 : decode cX8_product 43 = .ok (.getfield 57, 3) := by decide +kernel
theorem dX8_product_46 : decode cX8_product 46 = .ok (.iconst 1, 1) := by decide +kernel
theorem dX8_product_47 : decode cX8_product 47 = .ok (.iadd, 1) := by decide +kernel
theorem dX8_product_48 : decode cX8_product 48 = .ok (.putfield 57, 3) := by decide +kernel
theorem dX8_product_51 : decode cX8_product 51 = .ok (.aload_n 0, 1) := by decide +kernel
theorem dX8_product_52 : decode cX8_product 52 = .ok (.invokevirtual 88, 3) := by decide +kernel
theorem dX8_product_55 : decode cX8_product 55 = .ok (.ifCond .ne 5, 3) := by decide +kernel
theorem dX8_product_58 : decode cX8_product 58 = .ok (.iconst 0, 1) := by decide +kernel
theorem dX8_product_59 : decode cX8_product 59 = .ok (.ireturn, 1) := by decide +kernel
theorem dX8_product_60 : decode cX8_product 60 = .ok (.aload_n 0, 1) := by decide +kernel
theorem dX8_product_61 : decode cX8_product 61 = .ok (.iconst 3, 1) := by decide +kernel
theorem dX8_product_62 : decode cX8_product 62 = .ok (.iload_n 1, 1) := by decide +kernel
theorem dX8_product_63 : decode cX8_product 63 = .ok (.invokevirtual 75, 3) := by decide +kernel
theorem dX8_product_66 : decode cX8_product 66 = .ok (.goto (-57), 3) := by decide +kernel
theorem dX8_product_69 : decode cX8_product 69 = .ok (.iconst 1, 1) := by decide +kernel
theorem dX8_product_70 : decode cX8_product 70 = .ok (.ireturn, 1) := by decide +kernel
theorem dX8_opens_0 : decode cX8_opens 0 = .ok (.aload_n 0, 1) := by decide +kernel
theorem dX8_opens_1 : decode cX8_opens 1 = .ok (.getfield 91, 3) := by decide +kernel
theorem dX8_opens_4 : decode cX8_opens 4 = .ok (.iconst 5, 1) := by decide +kernel
theorem dX8_opens_5 : decode cX8_opens 5 = .ok (.if_icmp .ne 5, 3) := by decide +kernel
theorem dX8_opens_8 : decode cX8_opens 8 = .ok (.iconst 0, 1) := by decide +kernel
theorem dX8_opens_9 : decode cX8_opens 9 = .ok (.ireturn, 1) := by decide +kernel
theorem dX8_opens_10 : decode cX8_opens 10 = .ok (.aload_n 0, 1) := by decide +kernel
theorem dX8_opens_11 : decode cX8_opens 11 = .ok (.dup, 1) := by decide +kernel
theorem dX8_opens_12 : decode cX8_opens 12 = .ok (.getfield 91, 3) := by decide +kernel
theorem dX8_opens_15 : decode cX8_opens 15 = .ok (.iconst 1, 1) := by decide +kernel
theorem dX8_opens_16 : decode cX8_opens 16 = .ok (.iadd, 1) := by decide +kernel
theorem dX8_opens_17 : decode cX8_opens 17 = .ok (.putfield 91, 3) := by decide +kernel
theorem dX8_opens_20 : decode cX8_opens 20 = .ok (.aload_n 0, 1) := by decide +kernel
theorem dX8_opens_21 : decode cX8_opens 21 = .ok (.dup, 1) := by decide +kernel
theorem dX8_opens_22 : decode cX8_opens 22 = .ok (.getfield 57, 3) := by decide +kernel
theorem dX8_opens_25 : decode cX8_opens 25 = .ok (.iconst 1, 1) := by decide +kernel
theorem dX8_opens_26 : decode cX8_opens 26 = .ok (.iadd, 1) := by decide +kernel
theorem dX8_opens_27 : decode cX8_opens 27 = .ok (.putfield 57, 3) := by decide +kernel
theorem dX8_opens_30 : decode cX8_opens 30 = .ok (.iconst 1, 1) := by decide +kernel
theorem dX8_opens_31 : decode cX8_opens 31 = .ok (.ireturn, 1) := by decide +kernel
theorem dX8_one_0 : decode cX8_one 0 = .ok (.aload_n 0, 1) := by decide +kernel
theorem dX8_one_1 : decode cX8_one 1 = .ok (.invokevirtual 71, 3) := by decide +kernel
theorem dX8_one_4 : decode cX8_one 4 = .ok (.istore_n 1, 1) := by decide +kernel
theorem dX8_one_5 : decode cX8_one 5 = .ok (.aload_n 0, 1) := by decide +kernel
theorem dX8_one_6 : decode cX8_one 6 = .ok (.iload_n 1, 1) := by decide +kernel
theorem dX8_one_7 : decode cX8_one 7 = .ok (.invokevirtual 94, 3) := by decide +kernel
theorem dX8_one_10 : decode cX8_one 10 = .ok (.ifCond .eq 21, 3) := by decide +kernel
theorem dX8_one_13 : decode cX8_one 13 = .ok (.aload_n 0, 1) := by decide +kernel
theorem dX8_one_14 : decode cX8_one 14 = .ok (.dup, 1) := by decide +kernel
theorem dX8_one_15 : decode cX8_one 15 = .ok (.getfield 57, 3) := by decide +kernel
theorem dX8_one_18 : decode cX8_one 18 = .ok (.iconst 1, 1) := by decide +kernel
theorem dX8_one_19 : decode cX8_one 19 = .ok (.iadd, 1) := by decide +kernel
theorem dX8_one_20 : decode cX8_one 20 = .ok (.putfield 57, 3) := by decide +kernel
theorem dX8_one_23 : decode cX8_one 23 = .ok (.aload_n 0, 1) := by decide +kernel
theorem dX8_one_24 : decode cX8_one 24 = .ok (.iconst 1, 1) := by decide +kernel
theorem dX8_one_25 : decode cX8_one 25 = .ok (.iload_n 1, 1) := by decide +kernel
theorem dX8_one_26 : decode cX8_one 26 = .ok (.invokevirtual 75, 3) := by decide +kernel
theorem dX8_one_29 : decode cX8_one 29 = .ok (.iconst 1, 1) := by decide +kernel
theorem dX8_one_30 : decode cX8_one 30 = .ok (.ireturn, 1) := by decide +kernel
theorem dX8_one_31 : decode cX8_one 31 = .ok (.iload_n 1, 1) := by decide +kernel
theorem dX8_one_32 : decode cX8_one 32 = .ok (.bipush 48, 2) := by decide +kernel
theorem dX8_one_34 : decode cX8_one 34 = .ok (.bipush 57, 2) := by decide +kernel
theorem dX8_one_36 : decode cX8_one 36 = .ok (.invokestatic 47, 3) := by decide +kernel
theorem dX8_one_39 : decode cX8_one 39 = .ok (.ifCond .eq 63, 3) := by decide +kernel
theorem dX8_one_42 : decode cX8_one 42 = .ok (.iconst 0, 1) := by decide +kernel
theorem dX8_one_43 : decode cX8_one 43 = .ok (.istore_n 2, 1) := by decide +kernel
theorem dX8_one_44 : decode cX8_one 44 = .ok (.iconst 0, 1) := by decide +kernel
theorem dX8_one_45 : decode cX8_one 45 = .ok (.istore_n 3, 1) := by decide +kernel
theorem dX8_one_46 : decode cX8_one 46 = .ok (.iload_n 3, 1) := by decide +kernel
theorem dX8_one_47 : decode cX8_one 47 = .ok (.iconst 4, 1) := by decide +kernel
theorem dX8_one_48 : decode cX8_one 48 = .ok (.if_icmp .ge 46, 3) := by decide +kernel
theorem dX8_one_51 : decode cX8_one 51 = .ok (.aload_n 0, 1) := by decide +kernel
theorem dX8_one_52 : decode cX8_one 52 = .ok (.invokevirtual 71, 3) := by decide +kernel
theorem dX8_one_55 : decode cX8_one 55 = .ok (.bipush 48, 2) := by decide +kernel
theorem dX8_one_57 : decode cX8_one 57 = .ok (.bipush 57, 2) := by decide +kernel
theorem dX8_one_59 : decode cX8_one 59 = .ok (.invokestatic 47, 3) := by decide +kernel
theorem dX8_one_62 : decode cX8_one 62 = .ok (.ifCond .eq 32, 3) := by decide +kernel
theorem dX8_one_65 : decode cX8_one 65 = .ok (.bipush 10, 2) := by decide +kernel
theorem dX8_one_67 : decode cX8_one 67 = .ok (.iload_n 2, 1) := by decide +kernel
theorem dX8_one_68 : decode cX8_one 68 = .ok (.imul, 1) := by decide +kernel
theorem dX8_one_69 : decode cX8_one 69 = .ok (.aload_n 0, 1) := by decide +kernel
theorem dX8_one_70 : decode cX8_one 70 = .ok (.invokevirtual 71, 3) := by decide +kernel
theorem dX8_one_73 : decode cX8_one 73 = .ok (.iadd, 1) := by decide +kernel
theorem dX8_one_74 : decode cX8_one 74 = .ok (.bipush 48, 2) := by decide +kernel
theorem dX8_one_76 : decode cX8_one 76 = .ok (.isub, 1) := by decide +kernel
theorem dX8_one_77 : decode cX8_one 77 = .ok (.istore_n 2, 1) := by decide +kernel
theorem dX8_one_78 : decode cX8_one 78 = .ok (.aload_n 0, 1) := by decide +kernel
theorem dX8_one_79 : decode cX8_one 79 = .ok (.dup, 1) := by decide +kernel
theorem dX8_one_80 : decode cX8_one 80 = .ok (.getfield 57, 3) := by decide +kernel
theorem dX8_one_83 : decode cX8_one 83 = .ok (.iconst 1, 1) := by decide +kernel
theorem dX8_one_84 : decode cX8_one 84 = .ok (.iadd, 1) := by decide +kernel
theorem dX8_one_85 : decode cX8_one 85 = .ok (.putfield 57, 3) := by decide +kernel
theorem dX8_one_88 : decode cX8_one 88 = .ok (.iinc 3 1, 3) := by decide +kernel
theorem dX8_one_91 : decode cX8_one 91 = .ok (.goto (-45), 3) := by decide +kernel
theorem dX8_one_94 : decode cX8_one 94 = .ok (.aload_n 0, 1) := by decide +kernel
theorem dX8_one_95 : decode cX8_one 95 = .ok (.iconst 0, 1) := by decide +kernel
theorem dX8_one_96 : decode cX8_one 96 = .ok (.iload_n 2, 1) := by decide +kernel
theorem dX8_one_97 : decode cX8_one 97 = .ok (.invokevirtual 75, 3) := by decide +kernel
theorem dX8_one_100 : decode cX8_one 100 = .ok (.iconst 1, 1) := by decide +kernel
theorem dX8_one_101 : decode cX8_one 101 = .ok (.ireturn, 1) := by decide +kernel
theorem dX8_one_102 : decode cX8_one 102 = .ok (.iload_n 1, 1) := by decide +kernel
theorem dX8_one_103 : decode cX8_one 103 = .ok (.bipush 33, 2) := by decide +kernel
theorem dX8_one_105 : decode cX8_one 105 = .ok (.if_icmp .ne 37, 3) := by decide +kernel
theorem dX8_one_108 : decode cX8_one 108 = .ok (.aload_n 0, 1) := by decide +kernel
theorem dX8_one_109 : decode cX8_one 109 = .ok (.invokevirtual 98, 3) := by decide +kernel
theorem dX8_one_112 : decode cX8_one 112 = .ok (.ifCond .eq 10, 3) := by decide +kernel
theorem dX8_one_115 : decode cX8_one 115 = .ok (.aload_n 0, 1) := by decide +kernel
theorem dX8_one_116 : decode cX8_one 116 = .ok (.invokevirtual 88, 3) := by decide +kernel
theorem dX8_one_119 : decode cX8_one 119 = .ok (.ifCond .ne 5, 3) := by decide +kernel
theorem dX8_one_122 : decode cX8_one 122 = .ok (.iconst 0, 1) := by decide +kernel
theorem dX8_one_123 : decode cX8_one 123 = .ok (.ireturn, 1) := by decide +kernel
theorem dX8_one_124 : decode cX8_one 124 = .ok (.aload_n 0, 1) := by decide +kernel
theorem dX8_one_125 : decode cX8_one 125 = .ok (.dup, 1) := by decide +kernel
theorem dX8_one_126 : decode cX8_one 126 = .ok (.getfield 91, 3) := by decide +kernel
theorem dX8_one_129 : decode cX8_one 129 = .ok (.iconst 1, 1) := by decide +kernel
theorem dX8_one_130 : decode cX8_one 130 = .ok (.isub, 1) := by decide +kernel
theorem dX8_one_131 : decode cX8_one 131 = .ok (.putfield 91, 3) := by decide +kernel
theorem dX8_one_134 : decode cX8_one 134 = .ok (.aload_n 0, 1) := by decide +kernel
theorem dX8_one_135 : decode cX8_one 135 = .ok (.iconst 2, 1) := by decide +kernel
theorem dX8_one_136 : decode cX8_one 136 = .ok (.iconst 0, 1) := by decide +kernel
theorem dX8_one_137 : decode cX8_one 137 = .ok (.invokevirtual 75, 3) := by decide +kernel
theorem dX8_one_140 : decode cX8_one 140 = .ok (.iconst 1, 1) := by decide +kernel
theorem dX8_one_141 : decode cX8_one 141 = .ok (.ireturn, 1) := by decide +kernel
theorem dX8_one_142 : decode cX8_one 142 = .ok (.iload_n 1, 1) := by decide +kernel
theorem dX8_one_143 : decode cX8_one 143 = .ok (.bipush 40, 2) := by decide +kernel
theorem dX8_one_145 : decode cX8_one 145 = .ok (.if_icmp .ne 26, 3) := by decide +kernel
theorem dX8_one_148 : decode cX8_one 148 = .ok (.aload_n 0, 1) := by decide +kernel
theorem dX8_one_149 : decode cX8_one 149 = .ok (.invokevirtual 98, 3) := by decide +kernel
theorem dX8_one_152 : decode cX8_one 152 = .ok (.ifCond .eq 19, 3) := by decide +kernel
theorem dX8_one_155 : decode cX8_one 155 = .ok (.aload_n 0, 1) := by decide +kernel
theorem dX8_one_156 : decode cX8_one 156 = .ok (.invokevirtual 101, 3) := by decide +kernel
theorem dX8_one_159 : decode cX8_one 159 = .ok (.ifCond .eq 12, 3) := by decide +kernel
theorem dX8_one_162 : decode cX8_one 162 = .ok (.aload_n 0, 1) := by decide +kernel
theorem dX8_one_163 : decode cX8_one 163 = .ok (.invokevirtual 71, 3) := by decide +kernel
theorem dX8_one_166 : decode cX8_one 166 = .ok (.bipush 41, 2) := by decide +kernel
theorem dX8_one_168 : decode cX8_one 168 = .ok (.if_icmp .eq 5, 3) := by decide +kernel
theorem dX8_one_171 : decode cX8_one 171 = .ok (.iconst 0, 1) := by decide +kernel
theorem dX8_one_172 : decode cX8_one 172 = .ok (.ireturn, 1) := by decide +kernel
theorem dX8_one_173 : decode cX8_one 173 = .ok (.aload_n 0, 1) := by decide +kernel
theorem dX8_one_174 : decode cX8_one 174 = .ok (.dup, 1) := by decide +kernel
theorem dX8_one_175 : decode cX8_one 175 = .ok (.getfield 57, 3) := by decide +kernel
theorem dX8_one_178 : decode cX8_one 178 = .ok (.iconst 1, 1) := by decide +kernel
theorem dX8_one_179 : decode cX8_one 179 = .ok (.iadd, 1) := by decide +kernel
theorem dX8_one_180 : decode cX8_one 180 = .ok (.putfield 57, 3) := by decide +kernel
theorem dX8_one_183 : decode cX8_one 183 = .ok (.aload_n 0, 1) := by decide +kernel
theorem dX8_one_184 : decode cX8_one 184 = .ok (.dup, 1) := by decide +kernel
theorem dX8_one_185 : decode cX8_one 185 = .ok (.getfield 91, 3) := by decide +kernel
theorem dX8_one_188 : decode cX8_one 188 = .ok (.iconst 1, 1) := by decide +kernel
theorem dX8_one_189 : decode cX8_one 189 = .ok (.isub, 1) := by decide +kernel
theorem dX8_one_190 : decode cX8_one 190 = .ok (.putfield 91, 3) := by decide +kernel
theorem dX8_one_193 : decode cX8_one 193 = .ok (.iconst 1, 1) := by decide +kernel
theorem dX8_one_194 : decode cX8_one 194 = .ok (.ireturn, 1) := by decide +kernel
theorem dX8_hasText_0 : decode cX8_hasText 0 = .ok (.aload_n 0, 1) := by decide +kernel
theorem dX8_hasText_1 : decode cX8_hasText 1 = .ok (.getfield 7, 3) := by decide +kernel
theorem dX8_hasText_4 : decode cX8_hasText 4 = .ok (.bipush 38, 2) := by decide +kernel
theorem dX8_hasText_6 : decode cX8_hasText 6 = .ok (.bipush 125, 2) := by decide +kernel
theorem dX8_hasText_8 : decode cX8_hasText 8 = .ok (.iload_n 1, 1) := by decide +kernel
theorem dX8_hasText_9 : decode cX8_hasText 9 = .ok (.imul, 1) := by decide +kernel
theorem dX8_hasText_10 : decode cX8_hasText 10 = .ok (.iadd, 1) := by decide +kernel
theorem dX8_hasText_11 : decode cX8_hasText 11 = .ok (.iaload, 1) := by decide +kernel
theorem dX8_hasText_12 : decode cX8_hasText 12 = .ok (.ifCond .le 7, 3) := by decide +kernel
theorem dX8_hasText_15 : decode cX8_hasText 15 = .ok (.iconst 1, 1) := by decide +kernel
theorem dX8_hasText_16 : decode cX8_hasText 16 = .ok (.goto 4, 3) := by decide +kernel
theorem dX8_hasText_19 : decode cX8_hasText 19 = .ok (.iconst 0, 1) := by decide +kernel
theorem dX8_hasText_20 : decode cX8_hasText 20 = .ok (.ireturn, 1) := by decide +kernel
theorem dX8_text_0 : decode cX8_text 0 = .ok (.iload_n 1, 1) := by decide +kernel
theorem dX8_text_1 : decode cX8_text 1 = .ok (.iconst 0, 1) := by decide +kernel
theorem dX8_text_2 : decode cX8_text 2 = .ok (.iconst 1, 1) := by decide +kernel
theorem dX8_text_3 : decode cX8_text 3 = .ok (.invokestatic 47, 3) := by decide +kernel
theorem dX8_text_6 : decode cX8_text 6 = .ok (.ifCond .ne 9, 3) := by decide +kernel
theorem dX8_text_9 : decode cX8_text 9 = .ok (.aload_n 0, 1) := by decide +kernel
theorem dX8_text_10 : decode cX8_text 10 = .ok (.iconst 1, 1) := by decide +kernel
theorem dX8_text_11 : decode cX8_text 11 = .ok (.invokevirtual 51, 3) := by decide +kernel
theorem dX8_text_14 : decode cX8_text 14 = .ok (.ireturn, 1) := by decide +kernel
theorem dX8_text_15 : decode cX8_text 15 = .ok (.aload_n 0, 1) := by decide +kernel
theorem dX8_text_16 : decode cX8_text 16 = .ok (.iload_n 1, 1) := by decide +kernel
theorem dX8_text_17 : decode cX8_text 17 = .ok (.putfield 61, 3) := by decide +kernel
theorem dX8_text_20 : decode cX8_text 20 = .ok (.aload_n 0, 1) := by decide +kernel
theorem dX8_text_21 : decode cX8_text 21 = .ok (.iconst 0, 1) := by decide +kernel
theorem dX8_text_22 : decode cX8_text 22 = .ok (.putfield 57, 3) := by decide +kernel
theorem dX8_text_25 : decode cX8_text 25 = .ok (.aload_n 0, 1) := by decide +kernel
theorem dX8_text_26 : decode cX8_text 26 = .ok (.iconst 0, 1) := by decide +kernel
theorem dX8_text_27 : decode cX8_text 27 = .ok (.putfield 91, 3) := by decide +kernel
theorem dX8_text_30 : decode cX8_text 30 = .ok (.aload_n 0, 1) := by decide +kernel
theorem dX8_text_31 : decode cX8_text 31 = .ok (.iconst 0, 1) := by decide +kernel
theorem dX8_text_32 : decode cX8_text 32 = .ok (.putfield 64, 3) := by decide +kernel
theorem dX8_text_35 : decode cX8_text 35 = .ok (.aload_n 0, 1) := by decide +kernel
theorem dX8_text_36 : decode cX8_text 36 = .ok (.invokevirtual 101, 3) := by decide +kernel
theorem dX8_text_39 : decode cX8_text 39 = .ok (.ifCond .eq 20, 3) := by decide +kernel
theorem dX8_text_42 : decode cX8_text 42 = .ok (.aload_n 0, 1) := by decide +kernel
theorem dX8_text_43 : decode cX8_text 43 = .ok (.getfield 57, 3) := by decide +kernel
theorem dX8_text_46 : decode cX8_text 46 = .ok (.aload_n 0, 1) := by decide +kernel
theorem dX8_text_47 : decode cX8_text 47 = .ok (.getfield 7, 3) := by decide +kernel
theorem dX8_text_50 : decode cX8_text 50 = .ok (.iconst 3, 1) := by decide +kernel
theorem dX8_text_51 : decode cX8_text 51 = .ok (.iaload, 1) := by decide +kernel
theorem dX8_text_52 : decode cX8_text 52 = .ok (.if_icmp .ne 7, 3) := by decide +kernel
theorem dX8_text_55 : decode cX8_text 55 = .ok (.iconst 1, 1) := by decide +kernel
theorem dX8_text_56 : decode cX8_text 56 = .ok (.goto 4, 3) := by decide +kernel
theorem dX8_text_59 : decode cX8_text 59 = .ok (.iconst 0, 1) := by decide +kernel
theorem dX8_text_60 : decode cX8_text 60 = .ok (.istore_n 2, 1) := by decide +kernel
theorem dX8_text_61 : decode cX8_text 61 = .ok (.aload_n 0, 1) := by decide +kernel
theorem dX8_text_62 : decode cX8_text 62 = .ok (.getfield 7, 3) := by decide +kernel
theorem dX8_text_65 : decode cX8_text 65 = .ok (.iconst 3, 1) := by decide +kernel
theorem dX8_text_66 : decode cX8_text 66 = .ok (.iconst 0, 1) := by decide +kernel
theorem dX8_text_67 : decode cX8_text 67 = .ok (.iastore, 1) := by decide +kernel
theorem dX8_text_68 : decode cX8_text 68 = .ok (.iload_n 2, 1) := by decide +kernel
theorem dX8_text_69 : decode cX8_text 69 = .ok (.ifCond .ne 11, 3) := by decide +kernel
theorem dX8_text_72 : decode cX8_text 72 = .ok (.bipush (-10), 2) := by decide +kernel
theorem dX8_text_74 : decode cX8_text 74 = .ok (.aload_n 0, 1) := by decide +kernel
theorem dX8_text_75 : decode cX8_text 75 = .ok (.getfield 57, 3) := by decide +kernel
theorem dX8_text_78 : decode cX8_text 78 = .ok (.isub, 1) := by decide +kernel
theorem dX8_text_79 : decode cX8_text 79 = .ok (.ireturn, 1) := by decide +kernel
theorem dX8_text_80 : decode cX8_text 80 = .ok (.bipush 38, 2) := by decide +kernel
theorem dX8_text_82 : decode cX8_text 82 = .ok (.bipush 125, 2) := by decide +kernel
theorem dX8_text_84 : decode cX8_text 84 = .ok (.iload_n 1, 1) := by decide +kernel
theorem dX8_text_85 : decode cX8_text 85 = .ok (.imul, 1) := by decide +kernel
theorem dX8_text_86 : decode cX8_text 86 = .ok (.iadd, 1) := by decide +kernel
theorem dX8_text_87 : decode cX8_text 87 = .ok (.istore_n 3, 1) := by decide +kernel
theorem dX8_text_88 : decode cX8_text 88 = .ok (.aload_n 0, 1) := by decide +kernel
theorem dX8_text_89 : decode cX8_text 89 = .ok (.getfield 7, 3) := by decide +kernel
theorem dX8_text_92 : decode cX8_text 92 = .ok (.iload_n 3, 1) := by decide +kernel
theorem dX8_text_93 : decode cX8_text 93 = .ok (.aload_n 0, 1) := by decide +kernel
theorem dX8_text_94 : decode cX8_text 94 = .ok (.getfield 64, 3) := by decide +kernel
theorem dX8_text_97 : decode cX8_text 97 = .ok (.iastore, 1) := by decide +kernel
theorem dX8_text_98 : decode cX8_text 98 = .ok (.iconst 0, 1) := by decide +kernel
theorem dX8_text_99 : decode cX8_text 99 = .ok (.istore 4, 2) := by decide +kernel
theorem dX8_text_101 : decode cX8_text 101 = .ok (.iload 4, 2) := by decide +kernel
theorem dX8_text_103 : decode cX8_text 103 = .ok (.iconst 2, 1) := by decide +kernel
theorem dX8_text_104 : decode cX8_text 104 = .ok (.aload_n 0, 1) := by decide +kernel
theorem dX8_text_105 : decode cX8_text 105 = .ok (.getfield 64, 3) := by decide +kernel
theorem dX8_text_108 : decode cX8_text 108 = .ok (.imul, 1) := by decide +kernel
theorem dX8_text_109 : decode cX8_text 109 = .ok (.if_icmp .ge 27, 3) := by decide +kernel
theorem dX8_text_112 : decode cX8_text 112 = .ok (.aload_n 0, 1) := by decide +kernel
theorem dX8_text_113 : decode cX8_text 113 = .ok (.getfield 7, 3) := by decide +kernel
theorem dX8_text_116 : decode cX8_text 116 = .ok (.iload_n 3, 1) := by decide +kernel
theorem dX8_text_117 : decode cX8_text 117 = .ok (.iconst 1, 1) := by decide +kernel
theorem dX8_text_118 : decode cX8_text 118 = .ok (.iadd, 1) := by decide +kernel
theorem dX8_text_119 : decode cX8_text 119 = .ok (.iload 4, 2) := by decide +kernel
theorem dX8_text_121 : decode cX8_text 121 = .ok (.iadd, 1) := by decide +kernel
theorem dX8_text_122 : decode cX8_text 122 = .ok (.aload_n 0, 1) := by decide +kernel
theorem dX8_text_123 : decode cX8_text 123 = .ok (.getfield 22, 3) := by decide +kernel
theorem dX8_text_126 : decode cX8_text 126 = .ok (.iload 4, 2) := by decide +kernel
theorem dX8_text_128 : decode cX8_text 128 = .ok (.iaload, 1) := by decide +kernel
theorem dX8_text_129 : decode cX8_text 129 = .ok (.iastore, 1) := by decide +kernel
theorem dX8_text_130 : decode cX8_text 130 = .ok (.iinc 4 1, 3) := by decide +kernel
theorem dX8_text_133 : decode cX8_text 133 = .ok (.goto (-32), 3) := by decide +kernel
theorem dX8_text_136 : decode cX8_text 136 = .ok (.iconst 1, 1) := by decide +kernel
theorem dX8_text_137 : decode cX8_text 137 = .ok (.ireturn, 1) := by decide +kernel
theorem dX8_untell_0 : decode cX8_untell 0 = .ok (.iload_n 1, 1) := by decide +kernel
theorem dX8_untell_1 : decode cX8_untell 1 = .ok (.iconst 0, 1) := by decide +kernel
theorem dX8_untell_2 : decode cX8_untell 2 = .ok (.iconst 1, 1) := by decide +kernel
theorem dX8_untell_3 : decode cX8_untell 3 = .ok (.invokestatic 47, 3) := by decide +kernel
theorem dX8_untell_6 : decode cX8_untell 6 = .ok (.ifCond .ne 9, 3) := by decide +kernel
theorem dX8_untell_9 : decode cX8_untell 9 = .ok (.aload_n 0, 1) := by decide +kernel
theorem dX8_untell_10 : decode cX8_untell 10 = .ok (.iconst 1, 1) := by decide +kernel
theorem dX8_untell_11 : decode cX8_untell 11 = .ok (.invokevirtual 51, 3) := by decide +kernel
theorem dX8_untell_14 : decode cX8_untell 14 = .ok (.ireturn, 1) := by decide +kernel
theorem dX8_untell_15 : decode cX8_untell 15 = .ok (.aload_n 0, 1) := by decide +kernel
theorem dX8_untell_16 : decode cX8_untell 16 = .ok (.iload_n 1, 1) := by decide +kernel
theorem dX8_untell_17 : decode cX8_untell 17 = .ok (.invokevirtual 104, 3) := by decide +kernel
theorem dX8_untell_20 : decode cX8_untell 20 = .ok (.ifCond .eq 7, 3) := by decide +kernel
theorem dX8_untell_23 : decode cX8_untell 23 = .ok (.iconst 1, 1) := by decide +kernel
theorem dX8_untell_24 : decode cX8_untell 24 = .ok (.goto 4, 3) := by decide +kernel
theorem dX8_untell_27 : decode cX8_untell 27 = .ok (.iconst 0, 1) := by decide +kernel
theorem dX8_untell_28 : decode cX8_untell 28 = .ok (.istore_n 2, 1) := by decide +kernel
theorem dX8_untell_29 : decode cX8_untell 29 = .ok (.aload_n 0, 1) := by decide +kernel
theorem dX8_untell_30 : decode cX8_untell 30 = .ok (.getfield 7, 3) := by decide +kernel
theorem dX8_untell_33 : decode cX8_untell 33 = .ok (.bipush 38, 2) := by decide +kernel
theorem dX8_untell_35 : decode cX8_untell 35 = .ok (.bipush 125, 2) := by decide +kernel
theorem dX8_untell_37 : decode cX8_untell 37 = .ok (.iload_n 1, 1) := by decide +kernel
theorem dX8_untell_38 : decode cX8_untell 38 = .ok (.imul, 1) := by decide +kernel
theorem dX8_untell_39 : decode cX8_untell 39 = .ok (.iadd, 1) := by decide +kernel
theorem dX8_untell_40 : decode cX8_untell 40 = .ok (.iconst 0, 1) := by decide +kernel
theorem dX8_untell_41 : decode cX8_untell 41 = .ok (.iastore, 1) := by decide +kernel
theorem dX8_untell_42 : decode cX8_untell 42 = .ok (.iload_n 2, 1) := by decide +kernel
theorem dX8_untell_43 : decode cX8_untell 43 = .ok (.ireturn, 1) := by decide +kernel
theorem dX8_joined_0 : decode cX8_joined 0 = .ok (.iload_n 0, 1) := by decide +kernel
theorem dX8_joined_1 : decode cX8_joined 1 = .ok (.tableswitch 217 37 62 #[153, 203, 217, 217, 217, 127, 119, 217, 123, 217, 131, 217, 217, 217, 217, 217, 217, 217, 217, 217, 217, 217, 217, 170, 192, 181], 119) := by decide +kernel
theorem dX8_joined_120 : decode cX8_joined 120 = .ok (.iload_n 1, 1) := by decide +kernel
theorem dX8_joined_121 : decode cX8_joined 121 = .ok (.iload_n 2, 1) := by decide +kernel
theorem dX8_joined_122 : decode cX8_joined 122 = .ok (.iadd, 1) := by decide +kernel
theorem dX8_joined_123 : decode cX8_joined 123 = .ok (.ireturn, 1) := by decide +kernel
theorem dX8_joined_124 : decode cX8_joined 124 = .ok (.iload_n 1, 1) := by decide +kernel
theorem dX8_joined_125 : decode cX8_joined 125 = .ok (.iload_n 2, 1) := by decide +kernel
theorem dX8_joined_126 : decode cX8_joined 126 = .ok (.isub, 1) := by decide +kernel
theorem dX8_joined_127 : decode cX8_joined 127 = .ok (.ireturn, 1) := by decide +kernel
theorem dX8_joined_128 : decode cX8_joined 128 = .ok (.iload_n 1, 1) := by decide +kernel
theorem dX8_joined_129 : decode cX8_joined 129 = .ok (.iload_n 2, 1) := by decide +kernel
theorem dX8_joined_130 : decode cX8_joined 130 = .ok (.imul, 1) := by decide +kernel
theorem dX8_joined_131 : decode cX8_joined 131 = .ok (.ireturn, 1) := by decide +kernel
theorem dX8_joined_132 : decode cX8_joined 132 = .ok (.iload_n 2, 1) := by decide +kernel
theorem dX8_joined_133 : decode cX8_joined 133 = .ok (.ifCond .ne 7, 3) := by decide +kernel
theorem dX8_joined_136 : decode cX8_joined 136 = .ok (.iconst 0, 1) := by decide +kernel
theorem dX8_joined_137 : decode cX8_joined 137 = .ok (.goto 16, 3) := by decide +kernel
theorem dX8_joined_140 : decode cX8_joined 140 = .ok (.iload_n 2, 1) := by decide +kernel
theorem dX8_joined_141 : decode cX8_joined 141 = .ok (.iconst (-1), 1) := by decide +kernel
theorem dX8_joined_142 : decode cX8_joined 142 = .ok (.if_icmp .ne 8, 3) := by decide +kernel
theorem dX8_joined_145 : decode cX8_joined 145 = .ok (.iload_n 1, 1) := by decide +kernel
theorem dX8_joined_146 : decode cX8_joined 146 = .ok (.ineg, 1) := by decide +kernel
theorem dX8_joined_147 : decode cX8_joined 147 = .ok (.goto 6, 3) := by decide +kernel
theorem dX8_joined_150 : decode cX8_joined 150 = .ok (.iload_n 1, 1) := by decide +kernel
theorem dX8_joined_151 : decode cX8_joined 151 = .ok (.iload_n 2, 1) := by decide +kernel
theorem dX8_joined_152 : decode cX8_joined 152 = .ok (.idiv, 1) := by decide +kernel
theorem dX8_joined_153 : decode cX8_joined 153 = .ok (.ireturn, 1) := by decide +kernel
theorem dX8_joined_154 : decode cX8_joined 154 = .ok (.iload_n 2, 1) := by decide +kernel
theorem dX8_joined_155 : decode cX8_joined 155 = .ok (.ifCond .eq 8, 3) := by decide +kernel
theorem dX8_joined_158 : decode cX8_joined 158 = .ok (.iload_n 2, 1) := by decide +kernel
theorem dX8_joined_159 : decode cX8_joined 159 = .ok (.iconst (-1), 1) := by decide +kernel
theorem dX8_joined_160 : decode cX8_joined 160 = .ok (.if_icmp .ne 7, 3) := by decide +kernel
theorem dX8_joined_163 : decode cX8_joined 163 = .ok (.iconst 0, 1) := by decide +kernel
theorem dX8_joined_164 : decode cX8_joined 164 = .ok (.goto 6, 3) := by decide +kernel
theorem dX8_joined_167 : decode cX8_joined 167 = .ok (.iload_n 1, 1) := by decide +kernel
theorem dX8_joined_168 : decode cX8_joined 168 = .ok (.iload_n 2, 1) := by decide +kernel
theorem dX8_joined_169 : decode cX8_joined 169 = .ok (.irem, 1) := by decide +kernel
theorem dX8_joined_170 : decode cX8_joined 170 = .ok (.ireturn, 1) := by decide +kernel
theorem dX8_joined_171 : decode cX8_joined 171 = .ok (.iload_n 1, 1) := by decide +kernel
theorem dX8_joined_172 : decode cX8_joined 172 = .ok (.iload_n 2, 1) := by decide +kernel
theorem dX8_joined_173 : decode cX8_joined 173 = .ok (.if_icmp .ge 7, 3) := by decide +kernel
theorem dX8_joined_176 : decode cX8_joined 176 = .ok (.iconst 1, 1) := by decide +kernel
theorem dX8_joined_177 : decode cX8_joined 177 = .ok (.goto 4, 3) := by decide +kernel
theorem dX8_joined_180 : decode cX8_joined 180 = .ok (.iconst 0, 1) := by decide +kernel
theorem dX8_joined_181 : decode cX8_joined 181 = .ok (.ireturn, 1) := by decide +kernel
theorem dX8_joined_182 : decode cX8_joined 182 = .ok (.iload_n 1, 1) := by decide +kernel
theorem dX8_joined_183 : decode cX8_joined 183 = .ok (.iload_n 2, 1) := by decide +kernel
theorem dX8_joined_184 : decode cX8_joined 184 = .ok (.if_icmp .le 7, 3) := by decide +kernel
theorem dX8_joined_187 : decode cX8_joined 187 = .ok (.iconst 1, 1) := by decide +kernel
theorem dX8_joined_188 : decode cX8_joined 188 = .ok (.goto 4, 3) := by decide +kernel
theorem dX8_joined_191 : decode cX8_joined 191 = .ok (.iconst 0, 1) := by decide +kernel
theorem dX8_joined_192 : decode cX8_joined 192 = .ok (.ireturn, 1) := by decide +kernel
theorem dX8_joined_193 : decode cX8_joined 193 = .ok (.iload_n 1, 1) := by decide +kernel
theorem dX8_joined_194 : decode cX8_joined 194 = .ok (.iload_n 2, 1) := by decide +kernel
theorem dX8_joined_195 : decode cX8_joined 195 = .ok (.if_icmp .ne 7, 3) := by decide +kernel
theorem dX8_joined_198 : decode cX8_joined 198 = .ok (.iconst 1, 1) := by decide +kernel
theorem dX8_joined_199 : decode cX8_joined 199 = .ok (.goto 4, 3) := by decide +kernel
theorem dX8_joined_202 : decode cX8_joined 202 = .ok (.iconst 0, 1) := by decide +kernel
theorem dX8_joined_203 : decode cX8_joined 203 = .ok (.ireturn, 1) := by decide +kernel
theorem dX8_joined_204 : decode cX8_joined 204 = .ok (.iload_n 1, 1) := by decide +kernel
theorem dX8_joined_205 : decode cX8_joined 205 = .ok (.ifCond .eq 11, 3) := by decide +kernel
theorem dX8_joined_208 : decode cX8_joined 208 = .ok (.iload_n 2, 1) := by decide +kernel
theorem dX8_joined_209 : decode cX8_joined 209 = .ok (.ifCond .eq 7, 3) := by decide +kernel
theorem dX8_joined_212 : decode cX8_joined 212 = .ok (.iconst 1, 1) := by decide +kernel
theorem dX8_joined_213 : decode cX8_joined 213 = .ok (.goto 4, 3) := by decide +kernel
theorem dX8_joined_216 : decode cX8_joined 216 = .ok (.iconst 0, 1) := by decide +kernel
theorem dX8_joined_217 : decode cX8_joined 217 = .ok (.ireturn, 1) := by decide +kernel
theorem dX8_joined_218 : decode cX8_joined 218 = .ok (.iload_n 1, 1) := by decide +kernel
theorem dX8_joined_219 : decode cX8_joined 219 = .ok (.ifCond .ne 7, 3) := by decide +kernel
theorem dX8_joined_222 : decode cX8_joined 222 = .ok (.iload_n 2, 1) := by decide +kernel
theorem dX8_joined_223 : decode cX8_joined 223 = .ok (.ifCond .eq 7, 3) := by decide +kernel
theorem dX8_joined_226 : decode cX8_joined 226 = .ok (.iconst 1, 1) := by decide +kernel
theorem dX8_joined_227 : decode cX8_joined 227 = .ok (.goto 4, 3) := by decide +kernel
theorem dX8_joined_230 : decode cX8_joined 230 = .ok (.iconst 0, 1) := by decide +kernel
theorem dX8_joined_231 : decode cX8_joined 231 = .ok (.ireturn, 1) := by decide +kernel
theorem dX8_worked_0 : decode cX8_worked 0 = .ok (.bipush 38, 2) := by decide +kernel
theorem dX8_worked_2 : decode cX8_worked 2 = .ok (.bipush 125, 2) := by decide +kernel
theorem dX8_worked_4 : decode cX8_worked 4 = .ok (.iload_n 1, 1) := by decide +kernel
theorem dX8_worked_5 : decode cX8_worked 5 = .ok (.imul, 1) := by decide +kernel
theorem dX8_worked_6 : decode cX8_worked 6 = .ok (.iadd, 1) := by decide +kernel
theorem dX8_worked_7 : decode cX8_worked 7 = .ok (.istore_n 2, 1) := by decide +kernel
theorem dX8_worked_8 : decode cX8_worked 8 = .ok (.iconst 0, 1) := by decide +kernel
theorem dX8_worked_9 : decode cX8_worked 9 = .ok (.istore_n 3, 1) := by decide +kernel
theorem dX8_worked_10 : decode cX8_worked 10 = .ok (.iconst 0, 1) := by decide +kernel
theorem dX8_worked_11 : decode cX8_worked 11 = .ok (.istore 4, 2) := by decide +kernel
theorem dX8_worked_13 : decode cX8_worked 13 = .ok (.iload 4, 2) := by decide +kernel
theorem dX8_worked_15 : decode cX8_worked 15 = .ok (.aload_n 0, 1) := by decide +kernel
theorem dX8_worked_16 : decode cX8_worked 16 = .ok (.getfield 7, 3) := by decide +kernel
theorem dX8_worked_19 : decode cX8_worked 19 = .ok (.iload_n 2, 1) := by decide +kernel
theorem dX8_worked_20 : decode cX8_worked 20 = .ok (.iaload, 1) := by decide +kernel
theorem dX8_worked_21 : decode cX8_worked 21 = .ok (.if_icmp .ge 142, 3) := by decide +kernel
theorem dX8_worked_24 : decode cX8_worked 24 = .ok (.aload_n 0, 1) := by decide +kernel
theorem dX8_worked_25 : decode cX8_worked 25 = .ok (.getfield 7, 3) := by decide +kernel
theorem dX8_worked_28 : decode cX8_worked 28 = .ok (.iload_n 2, 1) := by decide +kernel
theorem dX8_worked_29 : decode cX8_worked 29 = .ok (.iconst 1, 1) := by decide +kernel
theorem dX8_worked_30 : decode cX8_worked 30 = .ok (.iadd, 1) := by decide +kernel
theorem dX8_worked_31 : decode cX8_worked 31 = .ok (.iconst 2, 1) := by decide +kernel
theorem dX8_worked_32 : decode cX8_worked 32 = .ok (.iload 4, 2) := by decide +kernel
theorem dX8_worked_34 : decode cX8_worked 34 = .ok (.imul, 1) := by decide +kernel
theorem dX8_worked_35 : decode cX8_worked 35 = .ok (.iadd, 1) := by decide +kernel
theorem dX8_worked_36 : decode cX8_worked 36 = .ok (.iaload, 1) := by decide +kernel
theorem dX8_worked_37 : decode cX8_worked 37 = .ok (.istore 5, 2) := by decide +kernel
theorem dX8_worked_39 : decode cX8_worked 39 = .ok (.aload_n 0, 1) := by decide +kernel
theorem dX8_worked_40 : decode cX8_worked 40 = .ok (.getfield 7, 3) := by decide +kernel
theorem dX8_worked_43 : decode cX8_worked 43 = .ok (.iload_n 2, 1) := by decide +kernel
theorem dX8_worked_44 : decode cX8_worked 44 = .ok (.iconst 2, 1) := by decide +kernel
theorem dX8_worked_45 : decode cX8_worked 45 = .ok (.iadd, 1) := by decide +kernel
theorem dX8_worked_46 : decode cX8_worked 46 = .ok (.iconst 2, 1) := by decide +kernel
theorem dX8_worked_47 : decode cX8_worked 47 = .ok (.iload 4, 2) := by decide +kernel
theorem dX8_worked_49 : decode cX8_worked 49 = .ok (.imul, 1) := by decide +kernel
theorem dX8_worked_50 : decode cX8_worked 50 = .ok (.iadd, 1) := by decide +kernel
theorem dX8_worked_51 : decode cX8_worked 51 = .ok (.iaload, 1) := by decide +kernel
theorem dX8_worked_52 : decode cX8_worked 52 = .ok (.istore 6, 2) := by decide +kernel
theorem dX8_worked_54 : decode cX8_worked 54 = .ok (.iload 5, 2) := by decide +kernel
theorem dX8_worked_56 : decode cX8_worked 56 = .ok (.ifCond .eq 9, 3) := by decide +kernel
theorem dX8_worked_59 : decode cX8_worked 59 = .ok (.iload 5, 2) := by decide +kernel
theorem dX8_worked_61 : decode cX8_worked 61 = .ok (.iconst 1, 1) := by decide +kernel
theorem dX8_worked_62 : decode cX8_worked 62 = .ok (.if_icmp .ne 32, 3) := by decide +kernel
theorem dX8_worked_65 : decode cX8_worked 65 = .ok (.aload_n 0, 1) := by decide +kernel
theorem dX8_worked_66 : decode cX8_worked 66 = .ok (.getfield 28, 3) := by decide +kernel
theorem dX8_worked_69 : decode cX8_worked 69 = .ok (.iload_n 3, 1) := by decide +kernel
theorem dX8_worked_70 : decode cX8_worked 70 = .ok (.iload 5, 2) := by decide +kernel
theorem dX8_worked_72 : decode cX8_worked 72 = .ok (.ifCond .ne 8, 3) := by decide +kernel
theorem dX8_worked_75 : decode cX8_worked 75 = .ok (.iload 6, 2) := by decide +kernel
theorem dX8_worked_77 : decode cX8_worked 77 = .ok (.goto 10, 3) := by decide +kernel
theorem dX8_worked_80 : decode cX8_worked 80 = .ok (.aload_n 0, 1) := by decide +kernel
theorem dX8_worked_81 : decode cX8_worked 81 = .ok (.getfield 25, 3) := by decide +kernel
theorem dX8_worked_84 : decode cX8_worked 84 = .ok (.iload 6, 2) := by decide +kernel
theorem dX8_worked_86 : decode cX8_worked 86 = .ok (.iaload, 1) := by decide +kernel
theorem dX8_worked_87 : decode cX8_worked 87 = .ok (.iastore, 1) := by decide +kernel
theorem dX8_worked_88 : decode cX8_worked 88 = .ok (.iinc 3 1, 3) := by decide +kernel
theorem dX8_worked_91 : decode cX8_worked 91 = .ok (.goto 66, 3) := by decide +kernel
theorem dX8_worked_94 : decode cX8_worked 94 = .ok (.iload 5, 2) := by decide +kernel
theorem dX8_worked_96 : decode cX8_worked 96 = .ok (.iconst 2, 1) := by decide +kernel
theorem dX8_worked_97 : decode cX8_worked 97 = .ok (.if_icmp .ne 30, 3) := by decide +kernel
theorem dX8_worked_100 : decode cX8_worked 100 = .ok (.aload_n 0, 1) := by decide +kernel
theorem dX8_worked_101 : decode cX8_worked 101 = .ok (.getfield 28, 3) := by decide +kernel
theorem dX8_worked_104 : decode cX8_worked 104 = .ok (.iload_n 3, 1) := by decide +kernel
theorem dX8_worked_105 : decode cX8_worked 105 = .ok (.iconst 1, 1) := by decide +kernel
theorem dX8_worked_106 : decode cX8_worked 106 = .ok (.isub, 1) := by decide +kernel
theorem dX8_worked_107 : decode cX8_worked 107 = .ok (.aload_n 0, 1) := by decide +kernel
theorem dX8_worked_108 : decode cX8_worked 108 = .ok (.getfield 28, 3) := by decide +kernel
theorem dX8_worked_111 : decode cX8_worked 111 = .ok (.iload_n 3, 1) := by decide +kernel
theorem dX8_worked_112 : decode cX8_worked 112 = .ok (.iconst 1, 1) := by decide +kernel
theorem dX8_worked_113 : decode cX8_worked 113 = .ok (.isub, 1) := by decide +kernel
theorem dX8_worked_114 : decode cX8_worked 114 = .ok (.iaload, 1) := by decide +kernel
theorem dX8_worked_115 : decode cX8_worked 115 = .ok (.ifCond .ne 7, 3) := by decide +kernel
theorem dX8_worked_118 : decode cX8_worked 118 = .ok (.iconst 1, 1) := by decide +kernel
theorem dX8_worked_119 : decode cX8_worked 119 = .ok (.goto 4, 3) := by decide +kernel
theorem dX8_worked_122 : decode cX8_worked 122 = .ok (.iconst 0, 1) := by decide +kernel
theorem dX8_worked_123 : decode cX8_worked 123 = .ok (.iastore, 1) := by decide +kernel
theorem dX8_worked_124 : decode cX8_worked 124 = .ok (.goto 33, 3) := by decide +kernel
theorem dX8_worked_127 : decode cX8_worked 127 = .ok (.iinc 3 (-1), 3) := by decide +kernel
theorem dX8_worked_130 : decode cX8_worked 130 = .ok (.aload_n 0, 1) := by decide +kernel
theorem dX8_worked_131 : decode cX8_worked 131 = .ok (.getfield 28, 3) := by decide +kernel
theorem dX8_worked_134 : decode cX8_worked 134 = .ok (.iload_n 3, 1) := by decide +kernel
theorem dX8_worked_135 : decode cX8_worked 135 = .ok (.iconst 1, 1) := by decide +kernel
theorem dX8_worked_136 : decode cX8_worked 136 = .ok (.isub, 1) := by decide +kernel
theorem dX8_worked_137 : decode cX8_worked 137 = .ok (.iload 6, 2) := by decide +kernel
theorem dX8_worked_139 : decode cX8_worked 139 = .ok (.aload_n 0, 1) := by decide +kernel
theorem dX8_worked_140 : decode cX8_worked 140 = .ok (.getfield 28, 3) := by decide +kernel
theorem dX8_worked_143 : decode cX8_worked 143 = .ok (.iload_n 3, 1) := by decide +kernel
theorem dX8_worked_144 : decode cX8_worked 144 = .ok (.iconst 1, 1) := by decide +kernel
theorem dX8_worked_145 : decode cX8_worked 145 = .ok (.isub, 1) := by decide +kernel
theorem dX8_worked_146 : decode cX8_worked 146 = .ok (.iaload, 1) := by decide +kernel
theorem dX8_worked_147 : decode cX8_worked 147 = .ok (.aload_n 0, 1) := by decide +kernel
theorem dX8_worked_148 : decode cX8_worked 148 = .ok (.getfield 28, 3) := by decide +kernel
theorem dX8_worked_151 : decode cX8_worked 151 = .ok (.iload_n 3, 1) := by decide +kernel
theorem dX8_worked_152 : decode cX8_worked 152 = .ok (.iaload, 1) := by decide +kernel
theorem dX8_worked_153 : decode cX8_worked 153 = .ok (.invokestatic 107, 3) := by decide +kernel
theorem dX8_worked_156 : decode cX8_worked 156 = .ok (.iastore, 1) := by decide +kernel
theorem dX8_worked_157 : decode cX8_worked 157 = .ok (.iinc 4 1, 3) := by decide +kernel
theorem dX8_worked_160 : decode cX8_worked 160 = .ok (.goto (-147), 3) := by decide +kernel
theorem dX8_worked_163 : decode cX8_worked 163 = .ok (.aload_n 0, 1) := by decide +kernel
theorem dX8_worked_164 : decode cX8_worked 164 = .ok (.getfield 28, 3) := by decide +kernel
theorem dX8_worked_167 : decode cX8_worked 167 = .ok (.iconst 0, 1) := by decide +kernel
theorem dX8_worked_168 : decode cX8_worked 168 = .ok (.iaload, 1) := by decide +kernel
theorem dX8_worked_169 : decode cX8_worked 169 = .ok (.ireturn, 1) := by decide +kernel
theorem dX8_together_0 : decode cX8_together 0 = .ok (.iconst 0, 1) := by decide +kernel
theorem dX8_together_1 : decode cX8_together 1 = .ok (.istore_n 2, 1) := by decide +kernel
theorem dX8_together_2 : decode cX8_together 2 = .ok (.iconst 0, 1) := by decide +kernel
theorem dX8_together_3 : decode cX8_together 3 = .ok (.istore_n 3, 1) := by decide +kernel
theorem dX8_together_4 : decode cX8_together 4 = .ok (.iload_n 3, 1) := by decide +kernel
theorem dX8_together_5 : decode cX8_together 5 = .ok (.aload_n 0, 1) := by decide +kernel
theorem dX8_together_6 : decode cX8_together 6 = .ok (.getfield 7, 3) := by decide +kernel
theorem dX8_together_9 : decode cX8_together 9 = .ok (.iconst 5, 1) := by decide +kernel
theorem dX8_together_10 : decode cX8_together 10 = .ok (.iaload, 1) := by decide +kernel
theorem dX8_together_11 : decode cX8_together 11 = .ok (.if_icmp .ge 46, 3) := by decide +kernel
theorem dX8_together_14 : decode cX8_together 14 = .ok (.iload_n 2, 1) := by decide +kernel
theorem dX8_together_15 : decode cX8_together 15 = .ok (.iload_n 3, 1) := by decide +kernel
theorem dX8_together_16 : decode cX8_together 16 = .ok (.iload_n 1, 1) := by decide +kernel
theorem dX8_together_17 : decode cX8_together 17 = .ok (.if_icmp .eq 31, 3) := by decide +kernel
theorem dX8_together_20 : decode cX8_together 20 = .ok (.aload_n 0, 1) := by decide +kernel
theorem dX8_together_21 : decode cX8_together 21 = .ok (.iload_n 3, 1) := by decide +kernel
theorem dX8_together_22 : decode cX8_together 22 = .ok (.iconst 3, 1) := by decide +kernel
theorem dX8_together_23 : decode cX8_together 23 = .ok (.invokevirtual 111, 3) := by decide +kernel
theorem dX8_together_26 : decode cX8_together 26 = .ok (.aload_n 0, 1) := by decide +kernel
theorem dX8_together_27 : decode cX8_together 27 = .ok (.iload_n 1, 1) := by decide +kernel
theorem dX8_together_28 : decode cX8_together 28 = .ok (.iconst 3, 1) := by decide +kernel
theorem dX8_together_29 : decode cX8_together 29 = .ok (.invokevirtual 111, 3) := by decide +kernel
theorem dX8_together_32 : decode cX8_together 32 = .ok (.if_icmp .ne 16, 3) := by decide +kernel
theorem dX8_together_35 : decode cX8_together 35 = .ok (.aload_n 0, 1) := by decide +kernel
theorem dX8_together_36 : decode cX8_together 36 = .ok (.iload_n 3, 1) := by decide +kernel
theorem dX8_together_37 : decode cX8_together 37 = .ok (.iconst 4, 1) := by decide +kernel
theorem dX8_together_38 : decode cX8_together 38 = .ok (.invokevirtual 111, 3) := by decide +kernel
theorem dX8_together_41 : decode cX8_together 41 = .ok (.ifCond .ne 7, 3) := by decide +kernel
theorem dX8_together_44 : decode cX8_together 44 = .ok (.iconst 1, 1) := by decide +kernel
theorem dX8_together_45 : decode cX8_together 45 = .ok (.goto 4, 3) := by decide +kernel
theorem dX8_together_48 : decode cX8_together 48 = .ok (.iconst 0, 1) := by decide +kernel
theorem dX8_together_49 : decode cX8_together 49 = .ok (.iadd, 1) := by decide +kernel
theorem dX8_together_50 : decode cX8_together 50 = .ok (.istore_n 2, 1) := by decide +kernel
theorem dX8_together_51 : decode cX8_together 51 = .ok (.iinc 3 1, 3) := by decide +kernel
theorem dX8_together_54 : decode cX8_together 54 = .ok (.goto (-50), 3) := by decide +kernel
theorem dX8_together_57 : decode cX8_together 57 = .ok (.iload_n 2, 1) := by decide +kernel
theorem dX8_together_58 : decode cX8_together 58 = .ok (.ireturn, 1) := by decide +kernel
theorem dX8_seesOf_0 : decode cX8_seesOf 0 = .ok (.aload_n 0, 1) := by decide +kernel
theorem dX8_seesOf_1 : decode cX8_seesOf 1 = .ok (.iload_n 1, 1) := by decide +kernel
theorem dX8_seesOf_2 : decode cX8_seesOf 2 = .ok (.iconst 2, 1) := by decide +kernel
theorem dX8_seesOf_3 : decode cX8_seesOf 3 = .ok (.invokevirtual 111, 3) := by decide +kernel
theorem dX8_seesOf_6 : decode cX8_seesOf 6 = .ok (.bipush 10, 2) := by decide +kernel
theorem dX8_seesOf_8 : decode cX8_seesOf 8 = .ok (.idiv, 1) := by decide +kernel
theorem dX8_seesOf_9 : decode cX8_seesOf 9 = .ok (.istore_n 2, 1) := by decide +kernel
theorem dX8_seesOf_10 : decode cX8_seesOf 10 = .ok (.aload_n 0, 1) := by decide +kernel
theorem dX8_seesOf_11 : decode cX8_seesOf 11 = .ok (.iload_n 1, 1) := by decide +kernel
theorem dX8_seesOf_12 : decode cX8_seesOf 12 = .ok (.iconst 1, 1) := by decide +kernel
theorem dX8_seesOf_13 : decode cX8_seesOf 13 = .ok (.invokevirtual 111, 3) := by decide +kernel
theorem dX8_seesOf_16 : decode cX8_seesOf 16 = .ok (.istore_n 3, 1) := by decide +kernel
theorem dX8_seesOf_17 : decode cX8_seesOf 17 = .ok (.aload_n 0, 1) := by decide +kernel
theorem dX8_seesOf_18 : decode cX8_seesOf 18 = .ok (.iload_n 1, 1) := by decide +kernel
theorem dX8_seesOf_19 : decode cX8_seesOf 19 = .ok (.iconst 0, 1) := by decide +kernel
theorem dX8_seesOf_20 : decode cX8_seesOf 20 = .ok (.invokevirtual 111, 3) := by decide +kernel
theorem dX8_seesOf_23 : decode cX8_seesOf 23 = .ok (.tableswitch 86 1 6 #[37, 41, 54, 59, 69, 75], 37) := by decide +kernel
theorem dX8_seesOf_60 : decode cX8_seesOf 60 = .ok (.iload_n 2, 1) := by decide +kernel
theorem dX8_seesOf_61 : decode cX8_seesOf 61 = .ok (.iconst 2, 1) := by decide +kernel
theorem dX8_seesOf_62 : decode cX8_seesOf 62 = .ok (.idiv, 1) := by decide +kernel
theorem dX8_seesOf_63 : decode cX8_seesOf 63 = .ok (.ireturn, 1) := by decide +kernel
theorem dX8_seesOf_64 : decode cX8_seesOf 64 = .ok (.iload_n 2, 1) := by decide +kernel
theorem dX8_seesOf_65 : decode cX8_seesOf 65 = .ok (.iconst 3, 1) := by decide +kernel
theorem dX8_seesOf_66 : decode cX8_seesOf 66 = .ok (.if_icmp .le 9, 3) := by decide +kernel
theorem dX8_seesOf_69 : decode cX8_seesOf 69 = .ok (.iload_n 2, 1) := by decide +kernel
theorem dX8_seesOf_70 : decode cX8_seesOf 70 = .ok (.iconst 3, 1) := by decide +kernel
theorem dX8_seesOf_71 : decode cX8_seesOf 71 = .ok (.isub, 1) := by decide +kernel
theorem dX8_seesOf_72 : decode cX8_seesOf 72 = .ok (.goto 4, 3) := by decide +kernel
theorem dX8_seesOf_75 : decode cX8_seesOf 75 = .ok (.iconst 0, 1) := by decide +kernel
theorem dX8_seesOf_76 : decode cX8_seesOf 76 = .ok (.ireturn, 1) := by decide +kernel
theorem dX8_seesOf_77 : decode cX8_seesOf 77 = .ok (.bipush 9, 2) := by decide +kernel
theorem dX8_seesOf_79 : decode cX8_seesOf 79 = .ok (.iload_n 3, 1) := by decide +kernel
theorem dX8_seesOf_80 : decode cX8_seesOf 80 = .ok (.iadd, 1) := by decide +kernel
theorem dX8_seesOf_81 : decode cX8_seesOf 81 = .ok (.ireturn, 1) := by decide +kernel
theorem dX8_seesOf_82 : decode cX8_seesOf 82 = .ok (.iload_n 2, 1) := by decide +kernel
theorem dX8_seesOf_83 : decode cX8_seesOf 83 = .ok (.iconst 2, 1) := by decide +kernel
theorem dX8_seesOf_84 : decode cX8_seesOf 84 = .ok (.idiv, 1) := by decide +kernel
theorem dX8_seesOf_85 : decode cX8_seesOf 85 = .ok (.aload_n 0, 1) := by decide +kernel
theorem dX8_seesOf_86 : decode cX8_seesOf 86 = .ok (.iload_n 1, 1) := by decide +kernel
theorem dX8_seesOf_87 : decode cX8_seesOf 87 = .ok (.invokevirtual 115, 3) := by decide +kernel
theorem dX8_seesOf_90 : decode cX8_seesOf 90 = .ok (.iadd, 1) := by decide +kernel
theorem dX8_seesOf_91 : decode cX8_seesOf 91 = .ok (.ireturn, 1) := by decide +kernel
theorem dX8_seesOf_92 : decode cX8_seesOf 92 = .ok (.iconst 1, 1) := by decide +kernel
theorem dX8_seesOf_93 : decode cX8_seesOf 93 = .ok (.iload_n 3, 1) := by decide +kernel
theorem dX8_seesOf_94 : decode cX8_seesOf 94 = .ok (.iconst 2, 1) := by decide +kernel
theorem dX8_seesOf_95 : decode cX8_seesOf 95 = .ok (.irem, 1) := by decide +kernel
theorem dX8_seesOf_96 : decode cX8_seesOf 96 = .ok (.iadd, 1) := by decide +kernel
theorem dX8_seesOf_97 : decode cX8_seesOf 97 = .ok (.ireturn, 1) := by decide +kernel
theorem dX8_seesOf_98 : decode cX8_seesOf 98 = .ok (.iload_n 2, 1) := by decide +kernel
theorem dX8_seesOf_99 : decode cX8_seesOf 99 = .ok (.aload_n 0, 1) := by decide +kernel
theorem dX8_seesOf_100 : decode cX8_seesOf 100 = .ok (.getfield 7, 3) := by decide +kernel
theorem dX8_seesOf_103 : decode cX8_seesOf 103 = .ok (.iconst 0, 1) := by decide +kernel
theorem dX8_seesOf_104 : decode cX8_seesOf 104 = .ok (.iaload, 1) := by decide +kernel
theorem dX8_seesOf_105 : decode cX8_seesOf 105 = .ok (.iconst 5, 1) := by decide +kernel
theorem dX8_seesOf_106 : decode cX8_seesOf 106 = .ok (.irem, 1) := by decide +kernel
theorem dX8_seesOf_107 : decode cX8_seesOf 107 = .ok (.iadd, 1) := by decide +kernel
theorem dX8_seesOf_108 : decode cX8_seesOf 108 = .ok (.ireturn, 1) := by decide +kernel
theorem dX8_seesOf_109 : decode cX8_seesOf 109 = .ok (.iload_n 2, 1) := by decide +kernel
theorem dX8_seesOf_110 : decode cX8_seesOf 110 = .ok (.ireturn, 1) := by decide +kernel
theorem dX8_doesFall_0 : decode cX8_doesFall 0 = .ok (.aload_n 0, 1) := by decide +kernel
theorem dX8_doesFall_1 : decode cX8_doesFall 1 = .ok (.iload_n 1, 1) := by decide +kernel
theorem dX8_doesFall_2 : decode cX8_doesFall 2 = .ok (.iconst 1, 1) := by decide +kernel
theorem dX8_doesFall_3 : decode cX8_doesFall 3 = .ok (.invokevirtual 111, 3) := by decide +kernel
theorem dX8_doesFall_6 : decode cX8_doesFall 6 = .ok (.istore_n 2, 1) := by decide +kernel
theorem dX8_doesFall_7 : decode cX8_doesFall 7 = .ok (.aload_n 0, 1) := by decide +kernel
theorem dX8_doesFall_8 : decode cX8_doesFall 8 = .ok (.iload_n 1, 1) := by decide +kernel
theorem dX8_doesFall_9 : decode cX8_doesFall 9 = .ok (.iconst 0, 1) := by decide +kernel
theorem dX8_doesFall_10 : decode cX8_doesFall 10 = .ok (.invokevirtual 111, 3) := by decide +kernel
theorem dX8_doesFall_13 : decode cX8_doesFall 13 = .ok (.tableswitch 78 2 6 #[35, 54, 78, 78, 56], 35) := by decide +kernel
theorem dX8_doesFall_48 : decode cX8_doesFall 48 = .ok (.aload_n 0, 1) := by decide +kernel
theorem dX8_doesFall_49 : decode cX8_doesFall 49 = .ok (.iload_n 1, 1) := by decide +kernel
theorem dX8_doesFall_50 : decode cX8_doesFall 50 = .ok (.iconst 2, 1) := by decide +kernel
theorem dX8_doesFall_51 : decode cX8_doesFall 51 = .ok (.invokevirtual 111, 3) := by decide +kernel
theorem dX8_doesFall_54 : decode cX8_doesFall 54 = .ok (.bipush 10, 2) := by decide +kernel
theorem dX8_doesFall_56 : decode cX8_doesFall 56 = .ok (.iload_n 2, 1) := by decide +kernel
theorem dX8_doesFall_57 : decode cX8_doesFall 57 = .ok (.iadd, 1) := by decide +kernel
theorem dX8_doesFall_58 : decode cX8_doesFall 58 = .ok (.if_icmp .ge 7, 3) := by decide +kernel
theorem dX8_doesFall_61 : decode cX8_doesFall 61 = .ok (.iconst 1, 1) := by decide +kernel
theorem dX8_doesFall_62 : decode cX8_doesFall 62 = .ok (.goto 4, 3) := by decide +kernel
theorem dX8_doesFall_65 : decode cX8_doesFall 65 = .ok (.iconst 0, 1) := by decide +kernel
theorem dX8_doesFall_66 : decode cX8_doesFall 66 = .ok (.ireturn, 1) := by decide +kernel
theorem dX8_doesFall_67 : decode cX8_doesFall 67 = .ok (.iconst 1, 1) := by decide +kernel
theorem dX8_doesFall_68 : decode cX8_doesFall 68 = .ok (.ireturn, 1) := by decide +kernel
theorem dX8_doesFall_69 : decode cX8_doesFall 69 = .ok (.aload_n 0, 1) := by decide +kernel
theorem dX8_doesFall_70 : decode cX8_doesFall 70 = .ok (.getfield 7, 3) := by decide +kernel
theorem dX8_doesFall_73 : decode cX8_doesFall 73 = .ok (.iconst 0, 1) := by decide +kernel
theorem dX8_doesFall_74 : decode cX8_doesFall 74 = .ok (.iaload, 1) := by decide +kernel
theorem dX8_doesFall_75 : decode cX8_doesFall 75 = .ok (.bipush 24, 2) := by decide +kernel
theorem dX8_doesFall_77 : decode cX8_doesFall 77 = .ok (.irem, 1) := by decide +kernel
theorem dX8_doesFall_78 : decode cX8_doesFall 78 = .ok (.bipush 20, 2) := by decide +kernel
theorem dX8_doesFall_80 : decode cX8_doesFall 80 = .ok (.iload_n 2, 1) := by decide +kernel
theorem dX8_doesFall_81 : decode cX8_doesFall 81 = .ok (.isub, 1) := by decide +kernel
theorem dX8_doesFall_82 : decode cX8_doesFall 82 = .ok (.if_icmp .le 7, 3) := by decide +kernel
theorem dX8_doesFall_85 : decode cX8_doesFall 85 = .ok (.iconst 1, 1) := by decide +kernel
theorem dX8_doesFall_86 : decode cX8_doesFall 86 = .ok (.goto 4, 3) := by decide +kernel
theorem dX8_doesFall_89 : decode cX8_doesFall 89 = .ok (.iconst 0, 1) := by decide +kernel
theorem dX8_doesFall_90 : decode cX8_doesFall 90 = .ok (.ireturn, 1) := by decide +kernel
theorem dX8_doesFall_91 : decode cX8_doesFall 91 = .ok (.iconst 0, 1) := by decide +kernel
theorem dX8_doesFall_92 : decode cX8_doesFall 92 = .ok (.ireturn, 1) := by decide +kernel
theorem dX8_clearTold_0 : decode cX8_clearTold 0 = .ok (.aload_n 0, 1) := by decide +kernel
theorem dX8_clearTold_1 : decode cX8_clearTold 1 = .ok (.getfield 25, 3) := by decide +kernel
theorem dX8_clearTold_4 : decode cX8_clearTold 4 = .ok (.bipush 99, 2) := by decide +kernel
theorem dX8_clearTold_6 : decode cX8_clearTold 6 = .ok (.iload_n 1, 1) := by decide +kernel
theorem dX8_clearTold_7 : decode cX8_clearTold 7 = .ok (.iastore, 1) := by decide +kernel
theorem dX8_clearTold_8 : decode cX8_clearTold 8 = .ok (.aload_n 0, 1) := by decide +kernel
theorem dX8_clearTold_9 : decode cX8_clearTold 9 = .ok (.getfield 25, 3) := by decide +kernel
theorem dX8_clearTold_12 : decode cX8_clearTold 12 = .ok (.bipush 115, 2) := by decide +kernel
theorem dX8_clearTold_14 : decode cX8_clearTold 14 = .ok (.iload_n 2, 1) := by decide +kernel
theorem dX8_clearTold_15 : decode cX8_clearTold 15 = .ok (.iastore, 1) := by decide +kernel
theorem dX8_clearTold_16 : decode cX8_clearTold 16 = .ok (.aload_n 0, 1) := by decide +kernel
theorem dX8_clearTold_17 : decode cX8_clearTold 17 = .ok (.getfield 25, 3) := by decide +kernel
theorem dX8_clearTold_20 : decode cX8_clearTold 20 = .ok (.bipush 104, 2) := by decide +kernel
theorem dX8_clearTold_22 : decode cX8_clearTold 22 = .ok (.iload_n 3, 1) := by decide +kernel
theorem dX8_clearTold_23 : decode cX8_clearTold 23 = .ok (.iastore, 1) := by decide +kernel
theorem dX8_clearTold_24 : decode cX8_clearTold 24 = .ok (.aload_n 0, 1) := by decide +kernel
theorem dX8_clearTold_25 : decode cX8_clearTold 25 = .ok (.iconst 0, 1) := by decide +kernel
theorem dX8_clearTold_26 : decode cX8_clearTold 26 = .ok (.invokevirtual 104, 3) := by decide +kernel
theorem dX8_clearTold_29 : decode cX8_clearTold 29 = .ok (.ifCond .eq 11, 3) := by decide +kernel
theorem dX8_clearTold_32 : decode cX8_clearTold 32 = .ok (.aload_n 0, 1) := by decide +kernel
theorem dX8_clearTold_33 : decode cX8_clearTold 33 = .ok (.iconst 0, 1) := by decide +kernel
theorem dX8_clearTold_34 : decode cX8_clearTold 34 = .ok (.invokevirtual 118, 3) := by decide +kernel
theorem dX8_clearTold_37 : decode cX8_clearTold 37 = .ok (.goto 4, 3) := by decide +kernel
theorem dX8_clearTold_40 : decode cX8_clearTold 40 = .ok (.iload_n 1, 1) := by decide +kernel
theorem dX8_clearTold_41 : decode cX8_clearTold 41 = .ok (.iconst 0, 1) := by decide +kernel
theorem dX8_clearTold_42 : decode cX8_clearTold 42 = .ok (.bipush 20, 2) := by decide +kernel
theorem dX8_clearTold_44 : decode cX8_clearTold 44 = .ok (.invokestatic 121, 3) := by decide +kernel
theorem dX8_clearTold_47 : decode cX8_clearTold 47 = .ok (.ireturn, 1) := by decide +kernel
theorem dX8_paceTold_0 : decode cX8_paceTold 0 = .ok (.aload_n 0, 1) := by decide +kernel
theorem dX8_paceTold_1 : decode cX8_paceTold 1 = .ok (.getfield 25, 3) := by decide +kernel
theorem dX8_paceTold_4 : decode cX8_paceTold 4 = .ok (.bipush 99, 2) := by decide +kernel
theorem dX8_paceTold_6 : decode cX8_paceTold 6 = .ok (.iload_n 1, 1) := by decide +kernel
theorem dX8_paceTold_7 : decode cX8_paceTold 7 = .ok (.iastore, 1) := by decide +kernel
theorem dX8_paceTold_8 : decode cX8_paceTold 8 = .ok (.aload_n 0, 1) := by decide +kernel
theorem dX8_paceTold_9 : decode cX8_paceTold 9 = .ok (.getfield 25, 3) := by decide +kernel
theorem dX8_paceTold_12 : decode cX8_paceTold 12 = .ok (.bipush 109, 2) := by decide +kernel
theorem dX8_paceTold_14 : decode cX8_paceTold 14 = .ok (.iload_n 2, 1) := by decide +kernel
theorem dX8_paceTold_15 : decode cX8_paceTold 15 = .ok (.iastore, 1) := by decide +kernel
theorem dX8_paceTold_16 : decode cX8_paceTold 16 = .ok (.aload_n 0, 1) := by decide +kernel
theorem dX8_paceTold_17 : decode cX8_paceTold 17 = .ok (.getfield 25, 3) := by decide +kernel
theorem dX8_paceTold_20 : decode cX8_paceTold 20 = .ok (.bipush 107, 2) := by decide +kernel
theorem dX8_paceTold_22 : decode cX8_paceTold 22 = .ok (.iload_n 3, 1) := by decide +kernel
theorem dX8_paceTold_23 : decode cX8_paceTold 23 = .ok (.iastore, 1) := by decide +kernel
theorem dX8_paceTold_24 : decode cX8_paceTold 24 = .ok (.aload_n 0, 1) := by decide +kernel
theorem dX8_paceTold_25 : decode cX8_paceTold 25 = .ok (.iconst 1, 1) := by decide +kernel
theorem dX8_paceTold_26 : decode cX8_paceTold 26 = .ok (.invokevirtual 104, 3) := by decide +kernel
theorem dX8_paceTold_29 : decode cX8_paceTold 29 = .ok (.ifCond .eq 11, 3) := by decide +kernel
theorem dX8_paceTold_32 : decode cX8_paceTold 32 = .ok (.aload_n 0, 1) := by decide +kernel
theorem dX8_paceTold_33 : decode cX8_paceTold 33 = .ok (.iconst 1, 1) := by decide +kernel
theorem dX8_paceTold_34 : decode cX8_paceTold 34 = .ok (.invokevirtual 118, 3) := by decide +kernel
theorem dX8_paceTold_37 : decode cX8_paceTold 37 = .ok (.goto 13, 3) := by decide +kernel
theorem dX8_paceTold_40 : decode cX8_paceTold 40 = .ok (.iload_n 1, 1) := by decide +kernel
theorem dX8_paceTold_41 : decode cX8_paceTold 41 = .ok (.iconst 3, 1) := by decide +kernel
theorem dX8_paceTold_42 : decode cX8_paceTold 42 = .ok (.if_icmp .le 7, 3) := by decide +kernel
theorem dX8_paceTold_45 : decode cX8_paceTold 45 = .ok (.iconst 2, 1) := by decide +kernel
theorem dX8_paceTold_46 : decode cX8_paceTold 46 = .ok (.goto 4, 3) := by decide +kernel
theorem dX8_paceTold_49 : decode cX8_paceTold 49 = .ok (.iconst 1, 1) := by decide +kernel
theorem dX8_paceTold_50 : decode cX8_paceTold 50 = .ok (.iconst 0, 1) := by decide +kernel
theorem dX8_paceTold_51 : decode cX8_paceTold 51 = .ok (.iconst 3, 1) := by decide +kernel
theorem dX8_paceTold_52 : decode cX8_paceTold 52 = .ok (.invokestatic 121, 3) := by decide +kernel
theorem dX8_paceTold_55 : decode cX8_paceTold 55 = .ok (.ireturn, 1) := by decide +kernel
theorem dX8_clearOf_0 : decode cX8_clearOf 0 = .ok (.aload_n 0, 1) := by decide +kernel
theorem dX8_clearOf_1 : decode cX8_clearOf 1 = .ok (.aload_n 0, 1) := by decide +kernel
theorem dX8_clearOf_2 : decode cX8_clearOf 2 = .ok (.iload_n 1, 1) := by decide +kernel
theorem dX8_clearOf_3 : decode cX8_clearOf 3 = .ok (.invokevirtual 124, 3) := by decide +kernel
theorem dX8_clearOf_6 : decode cX8_clearOf 6 = .ok (.aload_n 0, 1) := by decide +kernel
theorem dX8_clearOf_7 : decode cX8_clearOf 7 = .ok (.iload_n 1, 1) := by decide +kernel
theorem dX8_clearOf_8 : decode cX8_clearOf 8 = .ok (.iconst 2, 1) := by decide +kernel
theorem dX8_clearOf_9 : decode cX8_clearOf 9 = .ok (.invokevirtual 111, 3) := by decide +kernel
theorem dX8_clearOf_12 : decode cX8_clearOf 12 = .ok (.aload_n 0, 1) := by decide +kernel
theorem dX8_clearOf_13 : decode cX8_clearOf 13 = .ok (.getfield 7, 3) := by decide +kernel
theorem dX8_clearOf_16 : decode cX8_clearOf 16 = .ok (.iconst 0, 1) := by decide +kernel
theorem dX8_clearOf_17 : decode cX8_clearOf 17 = .ok (.iaload, 1) := by decide +kernel
theorem dX8_clearOf_18 : decode cX8_clearOf 18 = .ok (.bipush 24, 2) := by decide +kernel
theorem dX8_clearOf_20 : decode cX8_clearOf 20 = .ok (.irem, 1) := by decide +kernel
theorem dX8_clearOf_21 : decode cX8_clearOf 21 = .ok (.invokevirtual 127, 3) := by decide +kernel
theorem dX8_clearOf_24 : decode cX8_clearOf 24 = .ok (.ireturn, 1) := by decide +kernel
theorem dX8_paceOf_0 : decode cX8_paceOf 0 = .ok (.aload_n 0, 1) := by decide +kernel
theorem dX8_paceOf_1 : decode cX8_paceOf 1 = .ok (.aload_n 0, 1) := by decide +kernel
theorem dX8_paceOf_2 : decode cX8_paceOf 2 = .ok (.iload_n 1, 1) := by decide +kernel
theorem dX8_paceOf_3 : decode cX8_paceOf 3 = .ok (.invokevirtual 130, 3) := by decide +kernel
theorem dX8_paceOf_6 : decode cX8_paceOf 6 = .ok (.aload_n 0, 1) := by decide +kernel
theorem dX8_paceOf_7 : decode cX8_paceOf 7 = .ok (.iload_n 1, 1) := by decide +kernel
theorem dX8_paceOf_8 : decode cX8_paceOf 8 = .ok (.iconst 1, 1) := by decide +kernel
theorem dX8_paceOf_9 : decode cX8_paceOf 9 = .ok (.invokevirtual 111, 3) := by decide +kernel
theorem dX8_paceOf_12 : decode cX8_paceOf 12 = .ok (.aload_n 0, 1) := by decide +kernel
theorem dX8_paceOf_13 : decode cX8_paceOf 13 = .ok (.iload_n 1, 1) := by decide +kernel
theorem dX8_paceOf_14 : decode cX8_paceOf 14 = .ok (.iconst 0, 1) := by decide +kernel
theorem dX8_paceOf_15 : decode cX8_paceOf 15 = .ok (.invokevirtual 111, 3) := by decide +kernel
theorem dX8_paceOf_18 : decode cX8_paceOf 18 = .ok (.invokevirtual 133, 3) := by decide +kernel
theorem dX8_paceOf_21 : decode cX8_paceOf 21 = .ok (.ireturn, 1) := by decide +kernel
theorem dX8_walks1_0 : decode cX8_walks1 0 = .ok (.aload_n 0, 1) := by decide +kernel
theorem dX8_walks1_1 : decode cX8_walks1 1 = .ok (.iload_n 1, 1) := by decide +kernel
theorem dX8_walks1_2 : decode cX8_walks1 2 = .ok (.invokevirtual 130, 3) := by decide +kernel
theorem dX8_walks1_5 : decode cX8_walks1 5 = .ok (.istore_n 2, 1) := by decide +kernel
theorem dX8_walks1_6 : decode cX8_walks1 6 = .ok (.aload_n 0, 1) := by decide +kernel
theorem dX8_walks1_7 : decode cX8_walks1 7 = .ok (.iload_n 2, 1) := by decide +kernel
theorem dX8_walks1_8 : decode cX8_walks1 8 = .ok (.aload_n 0, 1) := by decide +kernel
theorem dX8_walks1_9 : decode cX8_walks1 9 = .ok (.iload_n 1, 1) := by decide +kernel
theorem dX8_walks1_10 : decode cX8_walks1 10 = .ok (.iconst 1, 1) := by decide +kernel
theorem dX8_walks1_11 : decode cX8_walks1 11 = .ok (.invokevirtual 111, 3) := by decide +kernel
theorem dX8_walks1_14 : decode cX8_walks1 14 = .ok (.aload_n 0, 1) := by decide +kernel
theorem dX8_walks1_15 : decode cX8_walks1 15 = .ok (.iload_n 1, 1) := by decide +kernel
theorem dX8_walks1_16 : decode cX8_walks1 16 = .ok (.iconst 0, 1) := by decide +kernel
theorem dX8_walks1_17 : decode cX8_walks1 17 = .ok (.invokevirtual 111, 3) := by decide +kernel
theorem dX8_walks1_20 : decode cX8_walks1 20 = .ok (.invokevirtual 133, 3) := by decide +kernel
theorem dX8_walks1_23 : decode cX8_walks1 23 = .ok (.istore_n 3, 1) := by decide +kernel
theorem dX8_walks1_24 : decode cX8_walks1 24 = .ok (.iload_n 3, 1) := by decide +kernel
theorem dX8_walks1_25 : decode cX8_walks1 25 = .ok (.iload_n 2, 1) := by decide +kernel
theorem dX8_walks1_26 : decode cX8_walks1 26 = .ok (.if_icmp .ge 7, 3) := by decide +kernel
theorem dX8_walks1_29 : decode cX8_walks1 29 = .ok (.iload_n 3, 1) := by decide +kernel
theorem dX8_walks1_30 : decode cX8_walks1 30 = .ok (.goto 4, 3) := by decide +kernel
theorem dX8_walks1_33 : decode cX8_walks1 33 = .ok (.iload_n 2, 1) := by decide +kernel
theorem dX8_walks1_34 : decode cX8_walks1 34 = .ok (.istore 4, 2) := by decide +kernel
theorem dX8_walks1_36 : decode cX8_walks1 36 = .ok (.aload_n 0, 1) := by decide +kernel
theorem dX8_walks1_37 : decode cX8_walks1 37 = .ok (.iload_n 1, 1) := by decide +kernel
theorem dX8_walks1_38 : decode cX8_walks1 38 = .ok (.invokevirtual 136, 3) := by decide +kernel
theorem dX8_walks1_41 : decode cX8_walks1 41 = .ok (.istore 5, 2) := by decide +kernel
theorem dX8_walks1_43 : decode cX8_walks1 43 = .ok (.iconst 1, 1) := by decide +kernel
theorem dX8_walks1_44 : decode cX8_walks1 44 = .ok (.istore 6, 2) := by decide +kernel
theorem dX8_walks1_46 : decode cX8_walks1 46 = .ok (.iconst 0, 1) := by decide +kernel
theorem dX8_walks1_47 : decode cX8_walks1 47 = .ok (.istore 7, 2) := by decide +kernel
theorem dX8_walks1_49 : decode cX8_walks1 49 = .ok (.iload 7, 2) := by decide +kernel
theorem dX8_walks1_51 : decode cX8_walks1 51 = .ok (.iload 4, 2) := by decide +kernel
theorem dX8_walks1_53 : decode cX8_walks1 53 = .ok (.if_icmp .ge 91, 3) := by decide +kernel
theorem dX8_walks1_56 : decode cX8_walks1 56 = .ok (.iload 6, 2) := by decide +kernel
theorem dX8_walks1_58 : decode cX8_walks1 58 = .ok (.ifCond .eq 86, 3) := by decide +kernel
theorem dX8_walks1_61 : decode cX8_walks1 61 = .ok (.aload_n 0, 1) := by decide +kernel
theorem dX8_walks1_62 : decode cX8_walks1 62 = .ok (.iload_n 1, 1) := by decide +kernel
theorem dX8_walks1_63 : decode cX8_walks1 63 = .ok (.iconst 3, 1) := by decide +kernel
theorem dX8_walks1_64 : decode cX8_walks1 64 = .ok (.invokevirtual 111, 3) := by decide +kernel
theorem dX8_walks1_67 : decode cX8_walks1 67 = .ok (.bipush 15, 2) := by decide +kernel
theorem dX8_walks1_69 : decode cX8_walks1 69 = .ok (.if_icmp .ge 75, 3) := by decide +kernel
theorem dX8_walks1_72 : decode cX8_walks1 72 = .ok (.aload_n 0, 1) := by decide +kernel
theorem dX8_walks1_73 : decode cX8_walks1 73 = .ok (.aload_n 0, 1) := by decide +kernel
theorem dX8_walks1_74 : decode cX8_walks1 74 = .ok (.iload_n 1, 1) := by decide +kernel
theorem dX8_walks1_75 : decode cX8_walks1 75 = .ok (.iconst 3, 1) := by decide +kernel
theorem dX8_walks1_76 : decode cX8_walks1 76 = .ok (.invokevirtual 111, 3) := by decide +kernel
theorem dX8_walks1_79 : decode cX8_walks1 79 = .ok (.iconst 1, 1) := by decide +kernel
theorem dX8_walks1_80 : decode cX8_walks1 80 = .ok (.iadd, 1) := by decide +kernel
theorem dX8_walks1_81 : decode cX8_walks1 81 = .ok (.invokevirtual 139, 3) := by decide +kernel
theorem dX8_walks1_84 : decode cX8_walks1 84 = .ok (.istore 8, 2) := by decide +kernel
theorem dX8_walks1_86 : decode cX8_walks1 86 = .ok (.iload 8, 2) := by decide +kernel
theorem dX8_walks1_88 : decode cX8_walks1 88 = .ok (.ifCond .ne 7, 3) := by decide +kernel
theorem dX8_walks1_91 : decode cX8_walks1 91 = .ok (.iconst 1, 1) := by decide +kernel
theorem dX8_walks1_92 : decode cX8_walks1 92 = .ok (.goto 4, 3) := by decide +kernel
theorem dX8_walks1_95 : decode cX8_walks1 95 = .ok (.iconst 0, 1) := by decide +kernel
theorem dX8_walks1_96 : decode cX8_walks1 96 = .ok (.istore 6, 2) := by decide +kernel
theorem dX8_walks1_98 : decode cX8_walks1 98 = .ok (.iload 8, 2) := by decide +kernel
theorem dX8_walks1_100 : decode cX8_walks1 100 = .ok (.ifCond .eq 8, 3) := by decide +kernel
theorem dX8_walks1_103 : decode cX8_walks1 103 = .ok (.iload 5, 2) := by decide +kernel
theorem dX8_walks1_105 : decode cX8_walks1 105 = .ok (.ifCond .eq 33, 3) := by decide +kernel
theorem dX8_walks1_108 : decode cX8_walks1 108 = .ok (.aload_n 0, 1) := by decide +kernel
theorem dX8_walks1_109 : decode cX8_walks1 109 = .ok (.iload_n 1, 1) := by decide +kernel
theorem dX8_walks1_110 : decode cX8_walks1 110 = .ok (.iconst 3, 1) := by decide +kernel
theorem dX8_walks1_111 : decode cX8_walks1 111 = .ok (.aload_n 0, 1) := by decide +kernel
theorem dX8_walks1_112 : decode cX8_walks1 112 = .ok (.iload_n 1, 1) := by decide +kernel
theorem dX8_walks1_113 : decode cX8_walks1 113 = .ok (.iconst 3, 1) := by decide +kernel
theorem dX8_walks1_114 : decode cX8_walks1 114 = .ok (.invokevirtual 111, 3) := by decide +kernel
theorem dX8_walks1_117 : decode cX8_walks1 117 = .ok (.iconst 1, 1) := by decide +kernel
theorem dX8_walks1_118 : decode cX8_walks1 118 = .ok (.iadd, 1) := by decide +kernel
theorem dX8_walks1_119 : decode cX8_walks1 119 = .ok (.invokevirtual 142, 3) := by decide +kernel
theorem dX8_walks1_122 : decode cX8_walks1 122 = .ok (.aload_n 0, 1) := by decide +kernel
theorem dX8_walks1_123 : decode cX8_walks1 123 = .ok (.iload_n 1, 1) := by decide +kernel
theorem dX8_walks1_124 : decode cX8_walks1 124 = .ok (.iconst 4, 1) := by decide +kernel
theorem dX8_walks1_125 : decode cX8_walks1 125 = .ok (.iload 8, 2) := by decide +kernel
theorem dX8_walks1_127 : decode cX8_walks1 127 = .ok (.ifCond .eq 7, 3) := by decide +kernel
theorem dX8_walks1_130 : decode cX8_walks1 130 = .ok (.iconst 1, 1) := by decide +kernel
theorem dX8_walks1_131 : decode cX8_walks1 131 = .ok (.goto 4, 3) := by decide +kernel
theorem dX8_walks1_134 : decode cX8_walks1 134 = .ok (.iconst 0, 1) := by decide +kernel
theorem dX8_walks1_135 : decode cX8_walks1 135 = .ok (.invokevirtual 142, 3) := by decide +kernel
theorem dX8_walks1_138 : decode cX8_walks1 138 = .ok (.iinc 7 1, 3) := by decide +kernel
theorem dX8_walks1_141 : decode cX8_walks1 141 = .ok (.goto (-92), 3) := by decide +kernel
theorem dX8_walks1_144 : decode cX8_walks1 144 = .ok (.return_, 1) := by decide +kernel
theorem dX8_anHour_0 : decode cX8_anHour 0 = .ok (.iconst 0, 1) := by decide +kernel
theorem dX8_anHour_1 : decode cX8_anHour 1 = .ok (.istore_n 1, 1) := by decide +kernel
theorem dX8_anHour_2 : decode cX8_anHour 2 = .ok (.iload_n 1, 1) := by decide +kernel
theorem dX8_anHour_3 : decode cX8_anHour 3 = .ok (.aload_n 0, 1) := by decide +kernel
theorem dX8_anHour_4 : decode cX8_anHour 4 = .ok (.getfield 7, 3) := by decide +kernel
theorem dX8_anHour_7 : decode cX8_anHour 7 = .ok (.iconst 5, 1) := by decide +kernel
theorem dX8_anHour_8 : decode cX8_anHour 8 = .ok (.iaload, 1) := by decide +kernel
theorem dX8_anHour_9 : decode cX8_anHour 9 = .ok (.if_icmp .ge 23, 3) := by decide +kernel
theorem dX8_anHour_12 : decode cX8_anHour 12 = .ok (.aload_n 0, 1) := by decide +kernel
theorem dX8_anHour_13 : decode cX8_anHour 13 = .ok (.iload_n 1, 1) := by decide +kernel
theorem dX8_anHour_14 : decode cX8_anHour 14 = .ok (.iconst 4, 1) := by decide +kernel
theorem dX8_anHour_15 : decode cX8_anHour 15 = .ok (.invokevirtual 111, 3) := by decide +kernel
theorem dX8_anHour_18 : decode cX8_anHour 18 = .ok (.ifCond .ne 8, 3) := by decide +kernel
theorem dX8_anHour_21 : decode cX8_anHour 21 = .ok (.aload_n 0, 1) := by decide +kernel
theorem dX8_anHour_22 : decode cX8_anHour 22 = .ok (.iload_n 1, 1) := by decide +kernel
theorem dX8_anHour_23 : decode cX8_anHour 23 = .ok (.invokevirtual 146, 3) := by decide +kernel
theorem dX8_anHour_26 : decode cX8_anHour 26 = .ok (.iinc 1 1, 3) := by decide +kernel
theorem dX8_anHour_29 : decode cX8_anHour 29 = .ok (.goto (-27), 3) := by decide +kernel
theorem dX8_anHour_32 : decode cX8_anHour 32 = .ok (.aload_n 0, 1) := by decide +kernel
theorem dX8_anHour_33 : decode cX8_anHour 33 = .ok (.getfield 7, 3) := by decide +kernel
theorem dX8_anHour_36 : decode cX8_anHour 36 = .ok (.iconst 0, 1) := by decide +kernel
theorem dX8_anHour_37 : decode cX8_anHour 37 = .ok (.dup2, 1) := by decide +kernel
theorem dX8_anHour_38 : decode cX8_anHour 38 = .ok (.iaload, 1) := by decide +kernel
theorem dX8_anHour_39 : decode cX8_anHour 39 = .ok (.iconst 1, 1) := by decide +kernel
theorem dX8_anHour_40 : decode cX8_anHour 40 = .ok (.iadd, 1) := by decide +kernel
theorem dX8_anHour_41 : decode cX8_anHour 41 = .ok (.iastore, 1) := by decide +kernel
theorem dX8_anHour_42 : decode cX8_anHour 42 = .ok (.return_, 1) := by decide +kernel
theorem dX8_goes_0 : decode cX8_goes 0 = .ok (.iconst 0, 1) := by decide +kernel
theorem dX8_goes_1 : decode cX8_goes 1 = .ok (.istore_n 2, 1) := by decide +kernel
theorem dX8_goes_2 : decode cX8_goes 2 = .ok (.iload_n 2, 1) := by decide +kernel
theorem dX8_goes_3 : decode cX8_goes 3 = .ok (.iload_n 1, 1) := by decide +kernel
theorem dX8_goes_4 : decode cX8_goes 4 = .ok (.if_icmp .ge 13, 3) := by decide +kernel
theorem dX8_goes_7 : decode cX8_goes 7 = .ok (.aload_n 0, 1) := by decide +kernel
theorem dX8_goes_8 : decode cX8_goes 8 = .ok (.invokevirtual 150, 3) := by decide +kernel
theorem dX8_goes_11 : decode cX8_goes 11 = .ok (.iinc 2 1, 3) := by decide +kernel
theorem dX8_goes_14 : decode cX8_goes 14 = .ok (.goto (-12), 3) := by decide +kernel
theorem dX8_goes_17 : decode cX8_goes 17 = .ok (.return_, 1) := by decide +kernel
theorem dX8_through_0 : decode cX8_through 0 = .ok (.iconst 0, 1) := by decide +kernel
theorem dX8_through_1 : decode cX8_through 1 = .ok (.istore_n 1, 1) := by decide +kernel
theorem dX8_through_2 : decode cX8_through 2 = .ok (.iconst 0, 1) := by decide +kernel
theorem dX8_through_3 : decode cX8_through 3 = .ok (.istore_n 2, 1) := by decide +kernel
theorem dX8_through_4 : decode cX8_through 4 = .ok (.iload_n 2, 1) := by decide +kernel
theorem dX8_through_5 : decode cX8_through 5 = .ok (.aload_n 0, 1) := by decide +kernel
theorem dX8_through_6 : decode cX8_through 6 = .ok (.getfield 7, 3) := by decide +kernel
theorem dX8_through_9 : decode cX8_through 9 = .ok (.iconst 5, 1) := by decide +kernel
theorem dX8_through_10 : decode cX8_through 10 = .ok (.iaload, 1) := by decide +kernel
theorem dX8_through_11 : decode cX8_through 11 = .ok (.if_icmp .ge 30, 3) := by decide +kernel
theorem dX8_through_14 : decode cX8_through 14 = .ok (.iload_n 1, 1) := by decide +kernel
theorem dX8_through_15 : decode cX8_through 15 = .ok (.aload_n 0, 1) := by decide +kernel
theorem dX8_through_16 : decode cX8_through 16 = .ok (.iload_n 2, 1) := by decide +kernel
theorem dX8_through_17 : decode cX8_through 17 = .ok (.iconst 3, 1) := by decide +kernel
theorem dX8_through_18 : decode cX8_through 18 = .ok (.invokevirtual 111, 3) := by decide +kernel
theorem dX8_through_21 : decode cX8_through 21 = .ok (.bipush 15, 2) := by decide +kernel
theorem dX8_through_23 : decode cX8_through 23 = .ok (.if_icmp .ne 9, 3) := by decide +kernel
theorem dX8_through_26 : decode cX8_through 26 = .ok (.iconst 1, 1) := by decide +kernel
theorem dX8_through_27 : decode cX8_through 27 = .ok (.iload_n 2, 1) := by decide +kernel
theorem dX8_through_28 : decode cX8_through 28 = .ok (.ishl, 1) := by decide +kernel
theorem dX8_through_29 : decode cX8_through 29 = .ok (.goto 4, 3) := by decide +kernel
theorem dX8_through_32 : decode cX8_through 32 = .ok (.iconst 0, 1) := by decide +kernel
theorem dX8_through_33 : decode cX8_through 33 = .ok (.ior, 1) := by decide +kernel
theorem dX8_through_34 : decode cX8_through 34 = .ok (.istore_n 1, 1) := by decide +kernel
theorem dX8_through_35 : decode cX8_through 35 = .ok (.iinc 2 1, 3) := by decide +kernel
theorem dX8_through_38 : decode cX8_through 38 = .ok (.goto (-34), 3) := by decide +kernel
theorem dX8_through_41 : decode cX8_through 41 = .ok (.iload_n 1, 1) := by decide +kernel
theorem dX8_through_42 : decode cX8_through 42 = .ok (.ireturn, 1) := by decide +kernel
theorem dX8_draw_0 : decode cX8_draw 0 = .ok (.aload_n 0, 1) := by decide +kernel
theorem dX8_draw_1 : decode cX8_draw 1 = .ok (.getfield 7, 3) := by decide +kernel
theorem dX8_draw_4 : decode cX8_draw 4 = .ok (.iconst 2, 1) := by decide +kernel
theorem dX8_draw_5 : decode cX8_draw 5 = .ok (.aload_n 0, 1) := by decide +kernel
theorem dX8_draw_6 : decode cX8_draw 6 = .ok (.getfield 7, 3) := by decide +kernel
theorem dX8_draw_9 : decode cX8_draw 9 = .ok (.iconst 2, 1) := by decide +kernel
theorem dX8_draw_10 : decode cX8_draw 10 = .ok (.iaload, 1) := by decide +kernel
theorem dX8_draw_11 : decode cX8_draw 11 = .ok (.ldc 153, 2) := by decide +kernel
theorem dX8_draw_13 : decode cX8_draw 13 = .ok (.imul, 1) := by decide +kernel
theorem dX8_draw_14 : decode cX8_draw 14 = .ok (.sipush 12345, 3) := by decide +kernel
theorem dX8_draw_17 : decode cX8_draw 17 = .ok (.iadd, 1) := by decide +kernel
theorem dX8_draw_18 : decode cX8_draw 18 = .ok (.iastore, 1) := by decide +kernel
theorem dX8_draw_19 : decode cX8_draw 19 = .ok (.aload_n 0, 1) := by decide +kernel
theorem dX8_draw_20 : decode cX8_draw 20 = .ok (.getfield 7, 3) := by decide +kernel
theorem dX8_draw_23 : decode cX8_draw 23 = .ok (.iconst 2, 1) := by decide +kernel
theorem dX8_draw_24 : decode cX8_draw 24 = .ok (.iaload, 1) := by decide +kernel
theorem dX8_draw_25 : decode cX8_draw 25 = .ok (.bipush 8, 2) := by decide +kernel
theorem dX8_draw_27 : decode cX8_draw 27 = .ok (.iushr, 1) := by decide +kernel
theorem dX8_draw_28 : decode cX8_draw 28 = .ok (.ireturn, 1) := by decide +kernel
theorem dX8_isKind_0 : decode cX8_isKind 0 = .ok (.iload_n 0, 1) := by decide +kernel
theorem dX8_isKind_1 : decode cX8_isKind 1 = .ok (.iconst 0, 1) := by decide +kernel
theorem dX8_isKind_2 : decode cX8_isKind 2 = .ok (.bipush 69, 2) := by decide +kernel
theorem dX8_isKind_4 : decode cX8_isKind 4 = .ok (.invokestatic 47, 3) := by decide +kernel
theorem dX8_isKind_7 : decode cX8_isKind 7 = .ok (.ireturn, 1) := by decide +kernel
theorem dX8_person_0 : decode cX8_person 0 = .ok (.iload_n 1, 1) := by decide +kernel
theorem dX8_person_1 : decode cX8_person 1 = .ok (.invokestatic 154, 3) := by decide +kernel
theorem dX8_person_4 : decode cX8_person 4 = .ok (.ifCond .eq 13, 3) := by decide +kernel
theorem dX8_person_7 : decode cX8_person 7 = .ok (.iload_n 2, 1) := by decide +kernel
theorem dX8_person_8 : decode cX8_person 8 = .ok (.iconst 0, 1) := by decide +kernel
theorem dX8_person_9 : decode cX8_person 9 = .ok (.bipush 99, 2) := by decide +kernel
theorem dX8_person_11 : decode cX8_person 11 = .ok (.invokestatic 47, 3) := by decide +kernel
theorem dX8_person_14 : decode cX8_person 14 = .ok (.ifCond .ne 9, 3) := by decide +kernel
theorem dX8_person_17 : decode cX8_person 17 = .ok (.aload_n 0, 1) := by decide +kernel
theorem dX8_person_18 : decode cX8_person 18 = .ok (.iconst 1, 1) := by decide +kernel
theorem dX8_person_19 : decode cX8_person 19 = .ok (.invokevirtual 51, 3) := by decide +kernel
theorem dX8_person_22 : decode cX8_person 22 = .ok (.ireturn, 1) := by decide +kernel
theorem dX8_person_23 : decode cX8_person 23 = .ok (.aload_n 0, 1) := by decide +kernel
theorem dX8_person_24 : decode cX8_person 24 = .ok (.getfield 7, 3) := by decide +kernel
theorem dX8_person_27 : decode cX8_person 27 = .ok (.iconst 5, 1) := by decide +kernel
theorem dX8_person_28 : decode cX8_person 28 = .ok (.iaload, 1) := by decide +kernel
theorem dX8_person_29 : decode cX8_person 29 = .ok (.bipush 6, 2) := by decide +kernel
theorem dX8_person_31 : decode cX8_person 31 = .ok (.if_icmp .ne 9, 3) := by decide +kernel
theorem dX8_person_34 : decode cX8_person 34 = .ok (.aload_n 0, 1) := by decide +kernel
theorem dX8_person_35 : decode cX8_person 35 = .ok (.iconst 4, 1) := by decide +kernel
theorem dX8_person_36 : decode cX8_person 36 = .ok (.invokevirtual 51, 3) := by decide +kernel
theorem dX8_person_39 : decode cX8_person 39 = .ok (.ireturn, 1) := by decide +kernel
theorem dX8_person_40 : decode cX8_person 40 = .ok (.aload_n 0, 1) := by decide +kernel
theorem dX8_person_41 : decode cX8_person 41 = .ok (.getfield 7, 3) := by decide +kernel
theorem dX8_person_44 : decode cX8_person 44 = .ok (.iconst 5, 1) := by decide +kernel
theorem dX8_person_45 : decode cX8_person 45 = .ok (.iaload, 1) := by decide +kernel
theorem dX8_person_46 : decode cX8_person 46 = .ok (.istore_n 3, 1) := by decide +kernel
theorem dX8_person_47 : decode cX8_person 47 = .ok (.aload_n 0, 1) := by decide +kernel
theorem dX8_person_48 : decode cX8_person 48 = .ok (.iload_n 3, 1) := by decide +kernel
theorem dX8_person_49 : decode cX8_person 49 = .ok (.iconst 0, 1) := by decide +kernel
theorem dX8_person_50 : decode cX8_person 50 = .ok (.iload_n 1, 1) := by decide +kernel
theorem dX8_person_51 : decode cX8_person 51 = .ok (.bipush 10, 2) := by decide +kernel
theorem dX8_person_53 : decode cX8_person 53 = .ok (.idiv, 1) := by decide +kernel
theorem dX8_person_54 : decode cX8_person 54 = .ok (.invokevirtual 142, 3) := by decide +kernel
theorem dX8_person_57 : decode cX8_person 57 = .ok (.aload_n 0, 1) := by decide +kernel
theorem dX8_person_58 : decode cX8_person 58 = .ok (.iload_n 3, 1) := by decide +kernel
theorem dX8_person_59 : decode cX8_person 59 = .ok (.iconst 1, 1) := by decide +kernel
theorem dX8_person_60 : decode cX8_person 60 = .ok (.iload_n 1, 1) := by decide +kernel
theorem dX8_person_61 : decode cX8_person 61 = .ok (.bipush 10, 2) := by decide +kernel
theorem dX8_person_63 : decode cX8_person 63 = .ok (.irem, 1) := by decide +kernel
theorem dX8_person_64 : decode cX8_person 64 = .ok (.invokevirtual 142, 3) := by decide +kernel
theorem dX8_person_67 : decode cX8_person 67 = .ok (.aload_n 0, 1) := by decide +kernel
theorem dX8_person_68 : decode cX8_person 68 = .ok (.iload_n 3, 1) := by decide +kernel
theorem dX8_person_69 : decode cX8_person 69 = .ok (.iconst 2, 1) := by decide +kernel
theorem dX8_person_70 : decode cX8_person 70 = .ok (.iload_n 2, 1) := by decide +kernel
theorem dX8_person_71 : decode cX8_person 71 = .ok (.invokevirtual 142, 3) := by decide +kernel
theorem dX8_person_74 : decode cX8_person 74 = .ok (.aload_n 0, 1) := by decide +kernel
theorem dX8_person_75 : decode cX8_person 75 = .ok (.iload_n 3, 1) := by decide +kernel
theorem dX8_person_76 : decode cX8_person 76 = .ok (.iconst 3, 1) := by decide +kernel
theorem dX8_person_77 : decode cX8_person 77 = .ok (.iconst 0, 1) := by decide +kernel
theorem dX8_person_78 : decode cX8_person 78 = .ok (.invokevirtual 142, 3) := by decide +kernel
theorem dX8_person_81 : decode cX8_person 81 = .ok (.aload_n 0, 1) := by decide +kernel
theorem dX8_person_82 : decode cX8_person 82 = .ok (.iload_n 3, 1) := by decide +kernel
theorem dX8_person_83 : decode cX8_person 83 = .ok (.iconst 4, 1) := by decide +kernel
theorem dX8_person_84 : decode cX8_person 84 = .ok (.iconst 0, 1) := by decide +kernel
theorem dX8_person_85 : decode cX8_person 85 = .ok (.invokevirtual 142, 3) := by decide +kernel
theorem dX8_person_88 : decode cX8_person 88 = .ok (.aload_n 0, 1) := by decide +kernel
theorem dX8_person_89 : decode cX8_person 89 = .ok (.getfield 7, 3) := by decide +kernel
theorem dX8_person_92 : decode cX8_person 92 = .ok (.iconst 5, 1) := by decide +kernel
theorem dX8_person_93 : decode cX8_person 93 = .ok (.dup2, 1) := by decide +kernel
theorem dX8_person_94 : decode cX8_person 94 = .ok (.iaload, 1) := by decide +kernel
theorem dX8_person_95 : decode cX8_person 95 = .ok (.iconst 1, 1) := by decide +kernel
theorem dX8_person_96 : decode cX8_person 96 = .ok (.iadd, 1) := by decide +kernel
theorem dX8_person_97 : decode cX8_person 97 = .ok (.iastore, 1) := by decide +kernel
theorem dX8_person_98 : decode cX8_person 98 = .ok (.iload_n 3, 1) := by decide +kernel
theorem dX8_person_99 : decode cX8_person 99 = .ok (.ireturn, 1) := by decide +kernel
theorem dX8_personIs_0 : decode cX8_personIs 0 = .ok (.aload_n 0, 1) := by decide +kernel
theorem dX8_personIs_1 : decode cX8_personIs 1 = .ok (.iload_n 1, 1) := by decide +kernel
theorem dX8_personIs_2 : decode cX8_personIs 2 = .ok (.invokevirtual 157, 3) := by decide +kernel
theorem dX8_personIs_5 : decode cX8_personIs 5 = .ok (.ifCond .eq 13, 3) := by decide +kernel
theorem dX8_personIs_8 : decode cX8_personIs 8 = .ok (.iload_n 2, 1) := by decide +kernel
theorem dX8_personIs_9 : decode cX8_personIs 9 = .ok (.iconst 0, 1) := by decide +kernel
theorem dX8_personIs_10 : decode cX8_personIs 10 = .ok (.bipush 7, 2) := by decide +kernel
theorem dX8_personIs_12 : decode cX8_personIs 12 = .ok (.invokestatic 47, 3) := by decide +kernel
theorem dX8_personIs_15 : decode cX8_personIs 15 = .ok (.ifCond .ne 9, 3) := by decide +kernel
theorem dX8_personIs_18 : decode cX8_personIs 18 = .ok (.aload_n 0, 1) := by decide +kernel
theorem dX8_personIs_19 : decode cX8_personIs 19 = .ok (.iconst 1, 1) := by decide +kernel
theorem dX8_personIs_20 : decode cX8_personIs 20 = .ok (.invokevirtual 51, 3) := by decide +kernel
theorem dX8_personIs_23 : decode cX8_personIs 23 = .ok (.ireturn, 1) := by decide +kernel
theorem dX8_personIs_24 : decode cX8_personIs 24 = .ok (.iload_n 2, 1) := by decide +kernel
theorem dX8_personIs_25 : decode cX8_personIs 25 = .ok (.tableswitch 53 5 7 #[27, 33, 39], 27) := by decide +kernel
theorem dX8_personIs_52 : decode cX8_personIs 52 = .ok (.aload_n 0, 1) := by decide +kernel
theorem dX8_personIs_53 : decode cX8_personIs 53 = .ok (.iload_n 1, 1) := by decide +kernel
theorem dX8_personIs_54 : decode cX8_personIs 54 = .ok (.invokevirtual 130, 3) := by decide +kernel
theorem dX8_personIs_57 : decode cX8_personIs 57 = .ok (.ireturn, 1) := by decide +kernel
theorem dX8_personIs_58 : decode cX8_personIs 58 = .ok (.aload_n 0, 1) := by decide +kernel
theorem dX8_personIs_59 : decode cX8_personIs 59 = .ok (.iload_n 1, 1) := by decide +kernel
theorem dX8_personIs_60 : decode cX8_personIs 60 = .ok (.invokevirtual 160, 3) := by decide +kernel
theorem dX8_personIs_63 : decode cX8_personIs 63 = .ok (.ireturn, 1) := by decide +kernel
theorem dX8_personIs_64 : decode cX8_personIs 64 = .ok (.aload_n 0, 1) := by decide +kernel
theorem dX8_personIs_65 : decode cX8_personIs 65 = .ok (.iload_n 1, 1) := by decide +kernel
theorem dX8_personIs_66 : decode cX8_personIs 66 = .ok (.invokevirtual 136, 3) := by decide +kernel
theorem dX8_personIs_69 : decode cX8_personIs 69 = .ok (.ifCond .eq 7, 3) := by decide +kernel
theorem dX8_personIs_72 : decode cX8_personIs 72 = .ok (.iconst 1, 1) := by decide +kernel
theorem dX8_personIs_73 : decode cX8_personIs 73 = .ok (.goto 4, 3) := by decide +kernel
theorem dX8_personIs_76 : decode cX8_personIs 76 = .ok (.iconst 0, 1) := by decide +kernel
theorem dX8_personIs_77 : decode cX8_personIs 77 = .ok (.ireturn, 1) := by decide +kernel
theorem dX8_personIs_78 : decode cX8_personIs 78 = .ok (.aload_n 0, 1) := by decide +kernel
theorem dX8_personIs_79 : decode cX8_personIs 79 = .ok (.iload_n 1, 1) := by decide +kernel
theorem dX8_personIs_80 : decode cX8_personIs 80 = .ok (.iload_n 2, 1) := by decide +kernel
theorem dX8_personIs_81 : decode cX8_personIs 81 = .ok (.invokevirtual 111, 3) := by decide +kernel
theorem dX8_personIs_84 : decode cX8_personIs 84 = .ok (.ireturn, 1) := by decide +kernel
theorem dX8_become_0 : decode cX8_become 0 = .ok (.aload_n 0, 1) := by decide +kernel
theorem dX8_become_1 : decode cX8_become 1 = .ok (.iload_n 1, 1) := by decide +kernel
theorem dX8_become_2 : decode cX8_become 2 = .ok (.invokevirtual 157, 3) := by decide +kernel
theorem dX8_become_5 : decode cX8_become 5 = .ok (.ifCond .eq 10, 3) := by decide +kernel
theorem dX8_become_8 : decode cX8_become 8 = .ok (.iload_n 2, 1) := by decide +kernel
theorem dX8_become_9 : decode cX8_become 9 = .ok (.invokestatic 154, 3) := by decide +kernel
theorem dX8_become_12 : decode cX8_become 12 = .ok (.ifCond .ne 9, 3) := by decide +kernel
theorem dX8_become_15 : decode cX8_become 15 = .ok (.aload_n 0, 1) := by decide +kernel
theorem dX8_become_16 : decode cX8_become 16 = .ok (.iconst 1, 1) := by decide +kernel
theorem dX8_become_17 : decode cX8_become 17 = .ok (.invokevirtual 51, 3) := by decide +kernel
theorem dX8_become_20 : decode cX8_become 20 = .ok (.ireturn, 1) := by decide +kernel
theorem dX8_become_21 : decode cX8_become 21 = .ok (.aload_n 0, 1) := by decide +kernel
theorem dX8_become_22 : decode cX8_become 22 = .ok (.iload_n 1, 1) := by decide +kernel
theorem dX8_become_23 : decode cX8_become 23 = .ok (.iconst 1, 1) := by decide +kernel
theorem dX8_become_24 : decode cX8_become 24 = .ok (.iload_n 2, 1) := by decide +kernel
theorem dX8_become_25 : decode cX8_become 25 = .ok (.bipush 10, 2) := by decide +kernel
theorem dX8_become_27 : decode cX8_become 27 = .ok (.irem, 1) := by decide +kernel
theorem dX8_become_28 : decode cX8_become 28 = .ok (.invokevirtual 142, 3) := by decide +kernel
theorem dX8_become_31 : decode cX8_become 31 = .ok (.aload_n 0, 1) := by decide +kernel
theorem dX8_become_32 : decode cX8_become 32 = .ok (.bipush 8, 2) := by decide +kernel
theorem dX8_become_34 : decode cX8_become 34 = .ok (.iconst 5, 1) := by decide +kernel
theorem dX8_become_35 : decode cX8_become 35 = .ok (.iload_n 1, 1) := by decide +kernel
theorem dX8_become_36 : decode cX8_become 36 = .ok (.imul, 1) := by decide +kernel
theorem dX8_become_37 : decode cX8_become 37 = .ok (.iadd, 1) := by decide +kernel
theorem dX8_become_38 : decode cX8_become 38 = .ok (.iconst 0, 1) := by decide +kernel
theorem dX8_become_39 : decode cX8_become 39 = .ok (.iadd, 1) := by decide +kernel
theorem dX8_become_40 : decode cX8_become 40 = .ok (.iload_n 2, 1) := by decide +kernel
theorem dX8_become_41 : decode cX8_become 41 = .ok (.bipush 10, 2) := by decide +kernel
theorem dX8_become_43 : decode cX8_become 43 = .ok (.idiv, 1) := by decide +kernel
theorem dX8_become_44 : decode cX8_become 44 = .ok (.invokevirtual 163, 3) := by decide +kernel
theorem dX8_become_47 : decode cX8_become 47 = .ok (.ireturn, 1) := by decide +kernel
theorem dX8_as_0 : decode cX8_as 0 = .ok (.aload_n 0, 1) := by decide +kernel
theorem dX8_as_1 : decode cX8_as 1 = .ok (.iload_n 1, 1) := by decide +kernel
theorem dX8_as_2 : decode cX8_as 2 = .ok (.invokevirtual 157, 3) := by decide +kernel
theorem dX8_as_5 : decode cX8_as 5 = .ok (.ifCond .eq 13, 3) := by decide +kernel
theorem dX8_as_8 : decode cX8_as 8 = .ok (.iload_n 2, 1) := by decide +kernel
theorem dX8_as_9 : decode cX8_as 9 = .ok (.iconst 0, 1) := by decide +kernel
theorem dX8_as_10 : decode cX8_as 10 = .ok (.bipush 6, 2) := by decide +kernel
theorem dX8_as_12 : decode cX8_as 12 = .ok (.invokestatic 47, 3) := by decide +kernel
theorem dX8_as_15 : decode cX8_as 15 = .ok (.ifCond .ne 9, 3) := by decide +kernel
theorem dX8_as_18 : decode cX8_as 18 = .ok (.aload_n 0, 1) := by decide +kernel
theorem dX8_as_19 : decode cX8_as 19 = .ok (.iconst 1, 1) := by decide +kernel
theorem dX8_as_20 : decode cX8_as 20 = .ok (.invokevirtual 51, 3) := by decide +kernel
theorem dX8_as_23 : decode cX8_as 23 = .ok (.ireturn, 1) := by decide +kernel
theorem dX8_as_24 : decode cX8_as 24 = .ok (.aload_n 0, 1) := by decide +kernel
theorem dX8_as_25 : decode cX8_as 25 = .ok (.iload_n 1, 1) := by decide +kernel
theorem dX8_as_26 : decode cX8_as 26 = .ok (.iconst 0, 1) := by decide +kernel
theorem dX8_as_27 : decode cX8_as 27 = .ok (.invokevirtual 111, 3) := by decide +kernel
theorem dX8_as_30 : decode cX8_as 30 = .ok (.istore_n 3, 1) := by decide +kernel
theorem dX8_as_31 : decode cX8_as 31 = .ok (.iload_n 3, 1) := by decide +kernel
theorem dX8_as_32 : decode cX8_as 32 = .ok (.iload_n 2, 1) := by decide +kernel
theorem dX8_as_33 : decode cX8_as 33 = .ok (.if_icmp .eq 15, 3) := by decide +kernel
theorem dX8_as_36 : decode cX8_as 36 = .ok (.iload_n 3, 1) := by decide +kernel
theorem dX8_as_37 : decode cX8_as 37 = .ok (.ifCond .eq 11, 3) := by decide +kernel
theorem dX8_as_40 : decode cX8_as 40 = .ok (.iload_n 3, 1) := by decide +kernel
theorem dX8_as_41 : decode cX8_as 41 = .ok (.invokestatic 166, 3) := by decide +kernel
theorem dX8_as_44 : decode cX8_as 44 = .ok (.istore_n 3, 1) := by decide +kernel
theorem dX8_as_45 : decode cX8_as 45 = .ok (.goto (-14), 3) := by decide +kernel
theorem dX8_as_48 : decode cX8_as 48 = .ok (.iload_n 3, 1) := by decide +kernel
theorem dX8_as_49 : decode cX8_as 49 = .ok (.iload_n 2, 1) := by decide +kernel
theorem dX8_as_50 : decode cX8_as 50 = .ok (.if_icmp .ne 12, 3) := by decide +kernel
theorem dX8_as_53 : decode cX8_as 53 = .ok (.aload_n 0, 1) := by decide +kernel
theorem dX8_as_54 : decode cX8_as 54 = .ok (.iload_n 1, 1) := by decide +kernel
theorem dX8_as_55 : decode cX8_as 55 = .ok (.iconst 1, 1) := by decide +kernel
theorem dX8_as_56 : decode cX8_as 56 = .ok (.invokevirtual 111, 3) := by decide +kernel
theorem dX8_as_59 : decode cX8_as 59 = .ok (.goto 8, 3) := by decide +kernel
theorem dX8_as_62 : decode cX8_as 62 = .ok (.aload_n 0, 1) := by decide +kernel
theorem dX8_as_63 : decode cX8_as 63 = .ok (.iconst 5, 1) := by decide +kernel
theorem dX8_as_64 : decode cX8_as 64 = .ok (.invokevirtual 51, 3) := by decide +kernel
theorem dX8_as_67 : decode cX8_as 67 = .ok (.ireturn, 1) := by decide +kernel
theorem dX8_answers_0 : decode cX8_answers 0 = .ok (.aload_n 0, 1) := by decide +kernel
theorem dX8_answers_1 : decode cX8_answers 1 = .ok (.iload_n 1, 1) := by decide +kernel
theorem dX8_answers_2 : decode cX8_answers 2 = .ok (.invokevirtual 157, 3) := by decide +kernel
theorem dX8_answers_5 : decode cX8_answers 5 = .ok (.ifCond .eq 29, 3) := by decide +kernel
theorem dX8_answers_8 : decode cX8_answers 8 = .ok (.iload_n 2, 1) := by decide +kernel
theorem dX8_answers_9 : decode cX8_answers 9 = .ok (.iconst 0, 1) := by decide +kernel
theorem dX8_answers_10 : decode cX8_answers 10 = .ok (.bipush 99, 2) := by decide +kernel
theorem dX8_answers_12 : decode cX8_answers 12 = .ok (.invokestatic 47, 3) := by decide +kernel
theorem dX8_answers_15 : decode cX8_answers 15 = .ok (.ifCond .eq 19, 3) := by decide +kernel
theorem dX8_answers_18 : decode cX8_answers 18 = .ok (.aload_n 0, 1) := by decide +kernel
theorem dX8_answers_19 : decode cX8_answers 19 = .ok (.bipush 8, 2) := by decide +kernel
theorem dX8_answers_21 : decode cX8_answers 21 = .ok (.iconst 5, 1) := by decide +kernel
theorem dX8_answers_22 : decode cX8_answers 22 = .ok (.iload_n 1, 1) := by decide +kernel
theorem dX8_answers_23 : decode cX8_answers 23 = .ok (.imul, 1) := by decide +kernel
theorem dX8_answers_24 : decode cX8_answers 24 = .ok (.iadd, 1) := by decide +kernel
theorem dX8_answers_25 : decode cX8_answers 25 = .ok (.iconst 2, 1) := by decide +kernel
theorem dX8_answers_26 : decode cX8_answers 26 = .ok (.iadd, 1) := by decide +kernel
theorem dX8_answers_27 : decode cX8_answers 27 = .ok (.iload_n 2, 1) := by decide +kernel
theorem dX8_answers_28 : decode cX8_answers 28 = .ok (.invokevirtual 163, 3) := by decide +kernel
theorem dX8_answers_31 : decode cX8_answers 31 = .ok (.goto 8, 3) := by decide +kernel
theorem dX8_answers_34 : decode cX8_answers 34 = .ok (.aload_n 0, 1) := by decide +kernel
theorem dX8_answers_35 : decode cX8_answers 35 = .ok (.iconst 1, 1) := by decide +kernel
theorem dX8_answers_36 : decode cX8_answers 36 = .ok (.invokevirtual 51, 3) := by decide +kernel
theorem dX8_answers_39 : decode cX8_answers 39 = .ok (.ireturn, 1) := by decide +kernel
theorem dX8_puts_0 : decode cX8_puts 0 = .ok (.aload_n 0, 1) := by decide +kernel
theorem dX8_puts_1 : decode cX8_puts 1 = .ok (.iload_n 1, 1) := by decide +kernel
theorem dX8_puts_2 : decode cX8_puts 2 = .ok (.invokevirtual 157, 3) := by decide +kernel
theorem dX8_puts_5 : decode cX8_puts 5 = .ok (.ifCond .eq 10, 3) := by decide +kernel
theorem dX8_puts_8 : decode cX8_puts 8 = .ok (.iload_n 2, 1) := by decide +kernel
theorem dX8_puts_9 : decode cX8_puts 9 = .ok (.invokestatic 169, 3) := by decide +kernel
theorem dX8_puts_12 : decode cX8_puts 12 = .ok (.ifCond .ne 9, 3) := by decide +kernel
theorem dX8_puts_15 : decode cX8_puts 15 = .ok (.aload_n 0, 1) := by decide +kernel
theorem dX8_puts_16 : decode cX8_puts 16 = .ok (.iconst 1, 1) := by decide +kernel
theorem dX8_puts_17 : decode cX8_puts 17 = .ok (.invokevirtual 51, 3) := by decide +kernel
theorem dX8_puts_20 : decode cX8_puts 20 = .ok (.ireturn, 1) := by decide +kernel
theorem dX8_puts_21 : decode cX8_puts 21 = .ok (.aload_n 0, 1) := by decide +kernel
theorem dX8_puts_22 : decode cX8_puts 22 = .ok (.iload_n 1, 1) := by decide +kernel
theorem dX8_puts_23 : decode cX8_puts 23 = .ok (.iconst 4, 1) := by decide +kernel
theorem dX8_puts_24 : decode cX8_puts 24 = .ok (.iconst 0, 1) := by decide +kernel
theorem dX8_puts_25 : decode cX8_puts 25 = .ok (.invokevirtual 142, 3) := by decide +kernel
theorem dX8_puts_28 : decode cX8_puts 28 = .ok (.aload_n 0, 1) := by decide +kernel
theorem dX8_puts_29 : decode cX8_puts 29 = .ok (.bipush 8, 2) := by decide +kernel
theorem dX8_puts_31 : decode cX8_puts 31 = .ok (.iconst 5, 1) := by decide +kernel
theorem dX8_puts_32 : decode cX8_puts 32 = .ok (.iload_n 1, 1) := by decide +kernel
theorem dX8_puts_33 : decode cX8_puts 33 = .ok (.imul, 1) := by decide +kernel
theorem dX8_puts_34 : decode cX8_puts 34 = .ok (.iadd, 1) := by decide +kernel
theorem dX8_puts_35 : decode cX8_puts 35 = .ok (.iconst 3, 1) := by decide +kernel
theorem dX8_puts_36 : decode cX8_puts 36 = .ok (.iadd, 1) := by decide +kernel
theorem dX8_puts_37 : decode cX8_puts 37 = .ok (.iload_n 2, 1) := by decide +kernel
theorem dX8_puts_38 : decode cX8_puts 38 = .ok (.invokevirtual 163, 3) := by decide +kernel
theorem dX8_puts_41 : decode cX8_puts 41 = .ok (.ireturn, 1) := by decide +kernel
theorem dX8_drop_0 : decode cX8_drop 0 = .ok (.iload_n 1, 1) := by decide +kernel
theorem dX8_drop_1 : decode cX8_drop 1 = .ok (.iconst 1, 1) := by decide +kernel
theorem dX8_drop_2 : decode cX8_drop 2 = .ok (.bipush 14, 2) := by decide +kernel
theorem dX8_drop_4 : decode cX8_drop 4 = .ok (.invokestatic 47, 3) := by decide +kernel
theorem dX8_drop_7 : decode cX8_drop 7 = .ok (.ifCond .eq 12, 3) := by decide +kernel
theorem dX8_drop_10 : decode cX8_drop 10 = .ok (.iload_n 2, 1) := by decide +kernel
theorem dX8_drop_11 : decode cX8_drop 11 = .ok (.iconst 0, 1) := by decide +kernel
theorem dX8_drop_12 : decode cX8_drop 12 = .ok (.iconst 1, 1) := by decide +kernel
theorem dX8_drop_13 : decode cX8_drop 13 = .ok (.invokestatic 47, 3) := by decide +kernel
theorem dX8_drop_16 : decode cX8_drop 16 = .ok (.ifCond .ne 9, 3) := by decide +kernel
theorem dX8_drop_19 : decode cX8_drop 19 = .ok (.aload_n 0, 1) := by decide +kernel
theorem dX8_drop_20 : decode cX8_drop 20 = .ok (.iconst 1, 1) := by decide +kernel
theorem dX8_drop_21 : decode cX8_drop 21 = .ok (.invokevirtual 51, 3) := by decide +kernel
theorem dX8_drop_24 : decode cX8_drop 24 = .ok (.ireturn, 1) := by decide +kernel
theorem dX8_drop_25 : decode cX8_drop 25 = .ok (.aload_n 0, 1) := by decide +kernel
theorem dX8_drop_26 : decode cX8_drop 26 = .ok (.getfield 7, 3) := by decide +kernel
theorem dX8_drop_29 : decode cX8_drop 29 = .ok (.iconst 1, 1) := by decide +kernel
theorem dX8_drop_30 : decode cX8_drop 30 = .ok (.iaload, 1) := by decide +kernel
theorem dX8_drop_31 : decode cX8_drop 31 = .ok (.iload_n 1, 1) := by decide +kernel
theorem dX8_drop_32 : decode cX8_drop 32 = .ok (.ishr, 1) := by decide +kernel
theorem dX8_drop_33 : decode cX8_drop 33 = .ok (.iconst 1, 1) := by decide +kernel
theorem dX8_drop_34 : decode cX8_drop 34 = .ok (.iand, 1) := by decide +kernel
theorem dX8_drop_35 : decode cX8_drop 35 = .ok (.istore_n 3, 1) := by decide +kernel
theorem dX8_drop_36 : decode cX8_drop 36 = .ok (.aload_n 0, 1) := by decide +kernel
theorem dX8_drop_37 : decode cX8_drop 37 = .ok (.getfield 7, 3) := by decide +kernel
theorem dX8_drop_40 : decode cX8_drop 40 = .ok (.iconst 1, 1) := by decide +kernel
theorem dX8_drop_41 : decode cX8_drop 41 = .ok (.aload_n 0, 1) := by decide +kernel
theorem dX8_drop_42 : decode cX8_drop 42 = .ok (.getfield 7, 3) := by decide +kernel
theorem dX8_drop_45 : decode cX8_drop 45 = .ok (.iconst 1, 1) := by decide +kernel
theorem dX8_drop_46 : decode cX8_drop 46 = .ok (.iaload, 1) := by decide +kernel
theorem dX8_drop_47 : decode cX8_drop 47 = .ok (.iconst 1, 1) := by decide +kernel
theorem dX8_drop_48 : decode cX8_drop 48 = .ok (.iload_n 1, 1) := by decide +kernel
theorem dX8_drop_49 : decode cX8_drop 49 = .ok (.ishl, 1) := by decide +kernel
theorem dX8_drop_50 : decode cX8_drop 50 = .ok (.iconst (-1), 1) := by decide +kernel
theorem dX8_drop_51 : decode cX8_drop 51 = .ok (.ixor, 1) := by decide +kernel
theorem dX8_drop_52 : decode cX8_drop 52 = .ok (.iand, 1) := by decide +kernel
theorem dX8_drop_53 : decode cX8_drop 53 = .ok (.iload_n 2, 1) := by decide +kernel
theorem dX8_drop_54 : decode cX8_drop 54 = .ok (.iload_n 1, 1) := by decide +kernel
theorem dX8_drop_55 : decode cX8_drop 55 = .ok (.ishl, 1) := by decide +kernel
theorem dX8_drop_56 : decode cX8_drop 56 = .ok (.ior, 1) := by decide +kernel
theorem dX8_drop_57 : decode cX8_drop 57 = .ok (.iastore, 1) := by decide +kernel
theorem dX8_drop_58 : decode cX8_drop 58 = .ok (.iload_n 3, 1) := by decide +kernel
theorem dX8_drop_59 : decode cX8_drop 59 = .ok (.ireturn, 1) := by decide +kernel
theorem dX8_law_0 : decode cX8_law 0 = .ok (.iload_n 1, 1) := by decide +kernel
theorem dX8_law_1 : decode cX8_law 1 = .ok (.iconst 0, 1) := by decide +kernel
theorem dX8_law_2 : decode cX8_law 2 = .ok (.iconst 1, 1) := by decide +kernel
theorem dX8_law_3 : decode cX8_law 3 = .ok (.invokestatic 47, 3) := by decide +kernel
theorem dX8_law_6 : decode cX8_law 6 = .ok (.ifCond .ne 9, 3) := by decide +kernel
theorem dX8_law_9 : decode cX8_law 9 = .ok (.aload_n 0, 1) := by decide +kernel
theorem dX8_law_10 : decode cX8_law 10 = .ok (.iconst 1, 1) := by decide +kernel
theorem dX8_law_11 : decode cX8_law 11 = .ok (.invokevirtual 51, 3) := by decide +kernel
theorem dX8_law_14 : decode cX8_law 14 = .ok (.ireturn, 1) := by decide +kernel
theorem dX8_law_15 : decode cX8_law 15 = .ok (.iload_n 1, 1) := by decide +kernel
theorem dX8_law_16 : decode cX8_law 16 = .ok (.ifCond .ne 14, 3) := by decide +kernel
theorem dX8_law_19 : decode cX8_law 19 = .ok (.aload_n 0, 1) := by decide +kernel
theorem dX8_law_20 : decode cX8_law 20 = .ok (.iload_n 2, 1) := by decide +kernel
theorem dX8_law_21 : decode cX8_law 21 = .ok (.iload_n 3, 1) := by decide +kernel
theorem dX8_law_22 : decode cX8_law 22 = .ok (.iload 4, 2) := by decide +kernel
theorem dX8_law_24 : decode cX8_law 24 = .ok (.invokevirtual 127, 3) := by decide +kernel
theorem dX8_law_27 : decode cX8_law 27 = .ok (.goto 11, 3) := by decide +kernel
theorem dX8_law_30 : decode cX8_law 30 = .ok (.aload_n 0, 1) := by decide +kernel
theorem dX8_law_31 : decode cX8_law 31 = .ok (.iload_n 2, 1) := by decide +kernel
theorem dX8_law_32 : decode cX8_law 32 = .ok (.iload_n 3, 1) := by decide +kernel
theorem dX8_law_33 : decode cX8_law 33 = .ok (.iload 4, 2) := by decide +kernel
theorem dX8_law_35 : decode cX8_law 35 = .ok (.invokevirtual 133, 3) := by decide +kernel
theorem dX8_law_38 : decode cX8_law 38 = .ok (.ireturn, 1) := by decide +kernel
theorem dX8_whyNot_0 : decode cX8_whyNot 0 = .ok (.iload_n 1, 1) := by decide +kernel
theorem dX8_whyNot_1 : decode cX8_whyNot 1 = .ok (.iconst 1, 1) := by decide +kernel
theorem dX8_whyNot_2 : decode cX8_whyNot 2 = .ok (.iload_n 2, 1) := by decide +kernel
theorem dX8_whyNot_3 : decode cX8_whyNot 3 = .ok (.invokestatic 47, 3) := by decide +kernel
theorem dX8_whyNot_6 : decode cX8_whyNot 6 = .ok (.ifCond .ne 7, 3) := by decide +kernel
theorem dX8_whyNot_9 : decode cX8_whyNot 9 = .ok (.iconst 1, 1) := by decide +kernel
theorem dX8_whyNot_10 : decode cX8_whyNot 10 = .ok (.goto 22, 3) := by decide +kernel
theorem dX8_whyNot_13 : decode cX8_whyNot 13 = .ok (.aload_n 0, 1) := by decide +kernel
theorem dX8_whyNot_14 : decode cX8_whyNot 14 = .ok (.getfield 7, 3) := by decide +kernel
theorem dX8_whyNot_17 : decode cX8_whyNot 17 = .ok (.iconst 0, 1) := by decide +kernel
theorem dX8_whyNot_18 : decode cX8_whyNot 18 = .ok (.iaload, 1) := by decide +kernel
theorem dX8_whyNot_19 : decode cX8_whyNot 19 = .ok (.iload_n 1, 1) := by decide +kernel
theorem dX8_whyNot_20 : decode cX8_whyNot 20 = .ok (.iadd, 1) := by decide +kernel
theorem dX8_whyNot_21 : decode cX8_whyNot 21 = .ok (.sipush 9999, 3) := by decide +kernel
theorem dX8_whyNot_24 : decode cX8_whyNot 24 = .ok (.if_icmp .le 7, 3) := by decide +kernel
theorem dX8_whyNot_27 : decode cX8_whyNot 27 = .ok (.iconst 3, 1) := by decide +kernel
theorem dX8_whyNot_28 : decode cX8_whyNot 28 = .ok (.goto 4, 3) := by decide +kernel
theorem dX8_whyNot_31 : decode cX8_whyNot 31 = .ok (.iconst 0, 1) := by decide +kernel
theorem dX8_whyNot_32 : decode cX8_whyNot 32 = .ok (.ireturn, 1) := by decide +kernel
theorem dX8_hours_0 : decode cX8_hours 0 = .ok (.aload_n 0, 1) := by decide +kernel
theorem dX8_hours_1 : decode cX8_hours 1 = .ok (.iload_n 1, 1) := by decide +kernel
theorem dX8_hours_2 : decode cX8_hours 2 = .ok (.bipush 60, 2) := by decide +kernel
theorem dX8_hours_4 : decode cX8_hours 4 = .ok (.invokevirtual 172, 3) := by decide +kernel
theorem dX8_hours_7 : decode cX8_hours 7 = .ok (.istore_n 2, 1) := by decide +kernel
theorem dX8_hours_8 : decode cX8_hours 8 = .ok (.iload_n 2, 1) := by decide +kernel
theorem dX8_hours_9 : decode cX8_hours 9 = .ok (.ifCond .eq 9, 3) := by decide +kernel
theorem dX8_hours_12 : decode cX8_hours 12 = .ok (.aload_n 0, 1) := by decide +kernel
theorem dX8_hours_13 : decode cX8_hours 13 = .ok (.iload_n 2, 1) := by decide +kernel
theorem dX8_hours_14 : decode cX8_hours 14 = .ok (.invokevirtual 51, 3) := by decide +kernel
theorem dX8_hours_17 : decode cX8_hours 17 = .ok (.ireturn, 1) := by decide +kernel
theorem dX8_hours_18 : decode cX8_hours 18 = .ok (.aload_n 0, 1) := by decide +kernel
theorem dX8_hours_19 : decode cX8_hours 19 = .ok (.iload_n 1, 1) := by decide +kernel
theorem dX8_hours_20 : decode cX8_hours 20 = .ok (.invokevirtual 175, 3) := by decide +kernel
theorem dX8_hours_23 : decode cX8_hours 23 = .ok (.aload_n 0, 1) := by decide +kernel
theorem dX8_hours_24 : decode cX8_hours 24 = .ok (.invokevirtual 178, 3) := by decide +kernel
theorem dX8_hours_27 : decode cX8_hours 27 = .ok (.ireturn, 1) := by decide +kernel
theorem dX8_chances_0 : decode cX8_chances 0 = .ok (.aload_n 0, 1) := by decide +kernel
theorem dX8_chances_1 : decode cX8_chances 1 = .ok (.getfield 7, 3) := by decide +kernel
theorem dX8_chances_4 : decode cX8_chances 4 = .ok (.iconst 5, 1) := by decide +kernel
theorem dX8_chances_5 : decode cX8_chances 5 = .ok (.iaload, 1) := by decide +kernel
theorem dX8_chances_6 : decode cX8_chances 6 = .ok (.ifCond .le 44, 3) := by decide +kernel
theorem dX8_chances_9 : decode cX8_chances 9 = .ok (.aload_n 0, 1) := by decide +kernel
theorem dX8_chances_10 : decode cX8_chances 10 = .ok (.invokevirtual 181, 3) := by decide +kernel
theorem dX8_chances_13 : decode cX8_chances 13 = .ok (.aload_n 0, 1) := by decide +kernel
theorem dX8_chances_14 : decode cX8_chances 14 = .ok (.getfield 7, 3) := by decide +kernel
theorem dX8_chances_17 : decode cX8_chances 17 = .ok (.iconst 5, 1) := by decide +kernel
theorem dX8_chances_18 : decode cX8_chances 18 = .ok (.iaload, 1) := by decide +kernel
theorem dX8_chances_19 : decode cX8_chances 19 = .ok (.irem, 1) := by decide +kernel
theorem dX8_chances_20 : decode cX8_chances 20 = .ok (.istore_n 1, 1) := by decide +kernel
theorem dX8_chances_21 : decode cX8_chances 21 = .ok (.aload_n 0, 1) := by decide +kernel
theorem dX8_chances_22 : decode cX8_chances 22 = .ok (.iload_n 1, 1) := by decide +kernel
theorem dX8_chances_23 : decode cX8_chances 23 = .ok (.iconst 2, 1) := by decide +kernel
theorem dX8_chances_24 : decode cX8_chances 24 = .ok (.aload_n 0, 1) := by decide +kernel
theorem dX8_chances_25 : decode cX8_chances 25 = .ok (.iload_n 1, 1) := by decide +kernel
theorem dX8_chances_26 : decode cX8_chances 26 = .ok (.iconst 2, 1) := by decide +kernel
theorem dX8_chances_27 : decode cX8_chances 27 = .ok (.invokevirtual 111, 3) := by decide +kernel
theorem dX8_chances_30 : decode cX8_chances 30 = .ok (.aload_n 0, 1) := by decide +kernel
theorem dX8_chances_31 : decode cX8_chances 31 = .ok (.invokevirtual 181, 3) := by decide +kernel
theorem dX8_chances_34 : decode cX8_chances 34 = .ok (.bipush 21, 2) := by decide +kernel
theorem dX8_chances_36 : decode cX8_chances 36 = .ok (.irem, 1) := by decide +kernel
theorem dX8_chances_37 : decode cX8_chances 37 = .ok (.iadd, 1) := by decide +kernel
theorem dX8_chances_38 : decode cX8_chances 38 = .ok (.bipush 10, 2) := by decide +kernel
theorem dX8_chances_40 : decode cX8_chances 40 = .ok (.isub, 1) := by decide +kernel
theorem dX8_chances_41 : decode cX8_chances 41 = .ok (.iconst 0, 1) := by decide +kernel
theorem dX8_chances_42 : decode cX8_chances 42 = .ok (.bipush 99, 2) := by decide +kernel
theorem dX8_chances_44 : decode cX8_chances 44 = .ok (.invokestatic 121, 3) := by decide +kernel
theorem dX8_chances_47 : decode cX8_chances 47 = .ok (.invokevirtual 142, 3) := by decide +kernel
theorem dX8_chances_50 : decode cX8_chances 50 = .ok (.iconst 1, 1) := by decide +kernel
theorem dX8_chances_51 : decode cX8_chances 51 = .ok (.aload_n 0, 1) := by decide +kernel
theorem dX8_chances_52 : decode cX8_chances 52 = .ok (.invokevirtual 181, 3) := by decide +kernel
theorem dX8_chances_55 : decode cX8_chances 55 = .ok (.bipush 14, 2) := by decide +kernel
theorem dX8_chances_57 : decode cX8_chances 57 = .ok (.irem, 1) := by decide +kernel
theorem dX8_chances_58 : decode cX8_chances 58 = .ok (.iadd, 1) := by decide +kernel
theorem dX8_chances_59 : decode cX8_chances 59 = .ok (.istore_n 1, 1) := by decide +kernel
theorem dX8_chances_60 : decode cX8_chances 60 = .ok (.aload_n 0, 1) := by decide +kernel
theorem dX8_chances_61 : decode cX8_chances 61 = .ok (.invokevirtual 181, 3) := by decide +kernel
theorem dX8_chances_64 : decode cX8_chances 64 = .ok (.bipush 8, 2) := by decide +kernel
theorem dX8_chances_66 : decode cX8_chances 66 = .ok (.irem, 1) := by decide +kernel
theorem dX8_chances_67 : decode cX8_chances 67 = .ok (.ifCond .ne 15, 3) := by decide +kernel
theorem dX8_chances_70 : decode cX8_chances 70 = .ok (.aload_n 0, 1) := by decide +kernel
theorem dX8_chances_71 : decode cX8_chances 71 = .ok (.getfield 7, 3) := by decide +kernel
theorem dX8_chances_74 : decode cX8_chances 74 = .ok (.iconst 1, 1) := by decide +kernel
theorem dX8_chances_75 : decode cX8_chances 75 = .ok (.dup2, 1) := by decide +kernel
theorem dX8_chances_76 : decode cX8_chances 76 = .ok (.iaload, 1) := by decide +kernel
theorem dX8_chances_77 : decode cX8_chances 77 = .ok (.iconst 1, 1) := by decide +kernel
theorem dX8_chances_78 : decode cX8_chances 78 = .ok (.iload_n 1, 1) := by decide +kernel
theorem dX8_chances_79 : decode cX8_chances 79 = .ok (.ishl, 1) := by decide +kernel
theorem dX8_chances_80 : decode cX8_chances 80 = .ok (.ixor, 1) := by decide +kernel
theorem dX8_chances_81 : decode cX8_chances 81 = .ok (.iastore, 1) := by decide +kernel
theorem dX8_chances_82 : decode cX8_chances 82 = .ok (.return_, 1) := by decide +kernel
theorem dX8_loose_0 : decode cX8_loose 0 = .ok (.aload_n 0, 1) := by decide +kernel
theorem dX8_loose_1 : decode cX8_loose 1 = .ok (.iload_n 1, 1) := by decide +kernel
theorem dX8_loose_2 : decode cX8_loose 2 = .ok (.bipush 30, 2) := by decide +kernel
theorem dX8_loose_4 : decode cX8_loose 4 = .ok (.invokevirtual 172, 3) := by decide +kernel
theorem dX8_loose_7 : decode cX8_loose 7 = .ok (.istore_n 2, 1) := by decide +kernel
theorem dX8_loose_8 : decode cX8_loose 8 = .ok (.iload_n 2, 1) := by decide +kernel
theorem dX8_loose_9 : decode cX8_loose 9 = .ok (.ifCond .eq 9, 3) := by decide +kernel
theorem dX8_loose_12 : decode cX8_loose 12 = .ok (.aload_n 0, 1) := by decide +kernel
theorem dX8_loose_13 : decode cX8_loose 13 = .ok (.iload_n 2, 1) := by decide +kernel
theorem dX8_loose_14 : decode cX8_loose 14 = .ok (.invokevirtual 51, 3) := by decide +kernel
theorem dX8_loose_17 : decode cX8_loose 17 = .ok (.ireturn, 1) := by decide +kernel
theorem dX8_loose_18 : decode cX8_loose 18 = .ok (.iconst 0, 1) := by decide +kernel
theorem dX8_loose_19 : decode cX8_loose 19 = .ok (.istore_n 3, 1) := by decide +kernel
theorem dX8_loose_20 : decode cX8_loose 20 = .ok (.iload_n 3, 1) := by decide +kernel
theorem dX8_loose_21 : decode cX8_loose 21 = .ok (.iload_n 1, 1) := by decide +kernel
theorem dX8_loose_22 : decode cX8_loose 22 = .ok (.if_icmp .ge 17, 3) := by decide +kernel
theorem dX8_loose_25 : decode cX8_loose 25 = .ok (.aload_n 0, 1) := by decide +kernel
theorem dX8_loose_26 : decode cX8_loose 26 = .ok (.invokevirtual 184, 3) := by decide +kernel
theorem dX8_loose_29 : decode cX8_loose 29 = .ok (.aload_n 0, 1) := by decide +kernel
theorem dX8_loose_30 : decode cX8_loose 30 = .ok (.invokevirtual 150, 3) := by decide +kernel
theorem dX8_loose_33 : decode cX8_loose 33 = .ok (.iinc 3 1, 3) := by decide +kernel
theorem dX8_loose_36 : decode cX8_loose 36 = .ok (.goto (-16), 3) := by decide +kernel
theorem dX8_loose_39 : decode cX8_loose 39 = .ok (.aload_n 0, 1) := by decide +kernel
theorem dX8_loose_40 : decode cX8_loose 40 = .ok (.invokevirtual 178, 3) := by decide +kernel
theorem dX8_loose_43 : decode cX8_loose 43 = .ok (.ireturn, 1) := by decide +kernel
theorem dX8_hour_0 : decode cX8_hour 0 = .ok (.iload_n 1, 1) := by decide +kernel
theorem dX8_hour_1 : decode cX8_hour 1 = .ok (.iconst 0, 1) := by decide +kernel
theorem dX8_hour_2 : decode cX8_hour 2 = .ok (.sipush 9999, 3) := by decide +kernel
theorem dX8_hour_5 : decode cX8_hour 5 = .ok (.invokestatic 47, 3) := by decide +kernel
theorem dX8_hour_8 : decode cX8_hour 8 = .ok (.ifCond .eq 12, 3) := by decide +kernel
theorem dX8_hour_11 : decode cX8_hour 11 = .ok (.aload_n 0, 1) := by decide +kernel
theorem dX8_hour_12 : decode cX8_hour 12 = .ok (.iconst 0, 1) := by decide +kernel
theorem dX8_hour_13 : decode cX8_hour 13 = .ok (.iload_n 1, 1) := by decide +kernel
theorem dX8_hour_14 : decode cX8_hour 14 = .ok (.invokevirtual 163, 3) := by decide +kernel
theorem dX8_hour_17 : decode cX8_hour 17 = .ok (.goto 8, 3) := by decide +kernel
theorem dX8_hour_20 : decode cX8_hour 20 = .ok (.aload_n 0, 1) := by decide +kernel
theorem dX8_hour_21 : decode cX8_hour 21 = .ok (.iconst 1, 1) := by decide +kernel
theorem dX8_hour_22 : decode cX8_hour 22 = .ok (.invokevirtual 51, 3) := by decide +kernel
theorem dX8_hour_25 : decode cX8_hour 25 = .ok (.ireturn, 1) := by decide +kernel
theorem dX8_seed_0 : decode cX8_seed 0 = .ok (.aload_n 0, 1) := by decide +kernel
theorem dX8_seed_1 : decode cX8_seed 1 = .ok (.iconst 2, 1) := by decide +kernel
theorem dX8_seed_2 : decode cX8_seed 2 = .ok (.iload_n 1, 1) := by decide +kernel
theorem dX8_seed_3 : decode cX8_seed 3 = .ok (.invokevirtual 163, 3) := by decide +kernel
theorem dX8_seed_6 : decode cX8_seed 6 = .ok (.ireturn, 1) := by decide +kernel
theorem dX8_then_0 : decode cX8_then 0 = .ok (.aload_n 0, 1) := by decide +kernel
theorem dX8_then_1 : decode cX8_then 1 = .ok (.iload_n 1, 1) := by decide +kernel
theorem dX8_then_2 : decode cX8_then 2 = .ok (.invokevirtual 157, 3) := by decide +kernel
theorem dX8_then_5 : decode cX8_then 5 = .ok (.ifCond .eq 22, 3) := by decide +kernel
theorem dX8_then_8 : decode cX8_then 8 = .ok (.iload_n 2, 1) := by decide +kernel
theorem dX8_then_9 : decode cX8_then 9 = .ok (.iconst 0, 1) := by decide +kernel
theorem dX8_then_10 : decode cX8_then 10 = .ok (.bipush 60, 2) := by decide +kernel
theorem dX8_then_12 : decode cX8_then 12 = .ok (.invokestatic 47, 3) := by decide +kernel
theorem dX8_then_15 : decode cX8_then 15 = .ok (.ifCond .eq 12, 3) := by decide +kernel
theorem dX8_then_18 : decode cX8_then 18 = .ok (.iload_n 3, 1) := by decide +kernel
theorem dX8_then_19 : decode cX8_then 19 = .ok (.iconst 0, 1) := by decide +kernel
theorem dX8_then_20 : decode cX8_then 20 = .ok (.iconst 1, 1) := by decide +kernel
theorem dX8_then_21 : decode cX8_then 21 = .ok (.invokestatic 47, 3) := by decide +kernel
theorem dX8_then_24 : decode cX8_then 24 = .ok (.ifCond .ne 9, 3) := by decide +kernel
theorem dX8_then_27 : decode cX8_then 27 = .ok (.aload_n 0, 1) := by decide +kernel
theorem dX8_then_28 : decode cX8_then 28 = .ok (.iconst 1, 1) := by decide +kernel
theorem dX8_then_29 : decode cX8_then 29 = .ok (.invokevirtual 51, 3) := by decide +kernel
theorem dX8_then_32 : decode cX8_then 32 = .ok (.ireturn, 1) := by decide +kernel
theorem dX8_then_33 : decode cX8_then 33 = .ok (.aload_n 0, 1) := by decide +kernel
theorem dX8_then_34 : decode cX8_then 34 = .ok (.invokevirtual 187, 3) := by decide +kernel
theorem dX8_then_37 : decode cX8_then 37 = .ok (.aload_n 0, 1) := by decide +kernel
theorem dX8_then_38 : decode cX8_then 38 = .ok (.iload_n 2, 1) := by decide +kernel
theorem dX8_then_39 : decode cX8_then 39 = .ok (.invokevirtual 175, 3) := by decide +kernel
theorem dX8_then_42 : decode cX8_then 42 = .ok (.aload_n 0, 1) := by decide +kernel
theorem dX8_then_43 : decode cX8_then 43 = .ok (.iload_n 1, 1) := by decide +kernel
theorem dX8_then_44 : decode cX8_then 44 = .ok (.iconst 3, 1) := by decide +kernel
theorem dX8_then_45 : decode cX8_then 45 = .ok (.iload_n 3, 1) := by decide +kernel
theorem dX8_then_46 : decode cX8_then 46 = .ok (.iadd, 1) := by decide +kernel
theorem dX8_then_47 : decode cX8_then 47 = .ok (.invokevirtual 111, 3) := by decide +kernel
theorem dX8_then_50 : decode cX8_then 50 = .ok (.istore 4, 2) := by decide +kernel
theorem dX8_then_52 : decode cX8_then 52 = .ok (.aload_n 0, 1) := by decide +kernel
theorem dX8_then_53 : decode cX8_then 53 = .ok (.invokevirtual 190, 3) := by decide +kernel
theorem dX8_then_56 : decode cX8_then 56 = .ok (.iload 4, 2) := by decide +kernel
theorem dX8_then_58 : decode cX8_then 58 = .ok (.ireturn, 1) := by decide +kernel
theorem dX8_comesBy_0 : decode cX8_comesBy 0 = .ok (.iconst (-1), 1) := by decide +kernel
theorem dX8_comesBy_1 : decode cX8_comesBy 1 = .ok (.istore 4, 2) := by decide +kernel
theorem dX8_comesBy_3 : decode cX8_comesBy 3 = .ok (.iconst 0, 1) := by decide +kernel
theorem dX8_comesBy_4 : decode cX8_comesBy 4 = .ok (.istore 5, 2) := by decide +kernel
theorem dX8_comesBy_6 : decode cX8_comesBy 6 = .ok (.iload 5, 2) := by decide +kernel
theorem dX8_comesBy_8 : decode cX8_comesBy 8 = .ok (.iload_n 3, 1) := by decide +kernel
theorem dX8_comesBy_9 : decode cX8_comesBy 9 = .ok (.if_icmp .gt 46, 3) := by decide +kernel
theorem dX8_comesBy_12 : decode cX8_comesBy 12 = .ok (.iload 4, 2) := by decide +kernel
theorem dX8_comesBy_14 : decode cX8_comesBy 14 = .ok (.iconst (-1), 1) := by decide +kernel
theorem dX8_comesBy_15 : decode cX8_comesBy 15 = .ok (.if_icmp .ne 40, 3) := by decide +kernel
theorem dX8_comesBy_18 : decode cX8_comesBy 18 = .ok (.aload_n 0, 1) := by decide +kernel
theorem dX8_comesBy_19 : decode cX8_comesBy 19 = .ok (.iload_n 1, 1) := by decide +kernel
theorem dX8_comesBy_20 : decode cX8_comesBy 20 = .ok (.iconst 4, 1) := by decide +kernel
theorem dX8_comesBy_21 : decode cX8_comesBy 21 = .ok (.invokevirtual 111, 3) := by decide +kernel
theorem dX8_comesBy_24 : decode cX8_comesBy 24 = .ok (.ifCond .ne 18, 3) := by decide +kernel
theorem dX8_comesBy_27 : decode cX8_comesBy 27 = .ok (.aload_n 0, 1) := by decide +kernel
theorem dX8_comesBy_28 : decode cX8_comesBy 28 = .ok (.iload_n 1, 1) := by decide +kernel
theorem dX8_comesBy_29 : decode cX8_comesBy 29 = .ok (.iconst 3, 1) := by decide +kernel
theorem dX8_comesBy_30 : decode cX8_comesBy 30 = .ok (.invokevirtual 111, 3) := by decide +kernel
theorem dX8_comesBy_33 : decode cX8_comesBy 33 = .ok (.iload_n 2, 1) := by decide +kernel
theorem dX8_comesBy_34 : decode cX8_comesBy 34 = .ok (.if_icmp .lt 8, 3) := by decide +kernel
theorem dX8_comesBy_37 : decode cX8_comesBy 37 = .ok (.iload 5, 2) := by decide +kernel
theorem dX8_comesBy_39 : decode cX8_comesBy 39 = .ok (.goto 4, 3) := by decide +kernel
theorem dX8_comesBy_42 : decode cX8_comesBy 42 = .ok (.iconst (-1), 1) := by decide +kernel
theorem dX8_comesBy_43 : decode cX8_comesBy 43 = .ok (.istore 4, 2) := by decide +kernel
theorem dX8_comesBy_45 : decode cX8_comesBy 45 = .ok (.aload_n 0, 1) := by decide +kernel
theorem dX8_comesBy_46 : decode cX8_comesBy 46 = .ok (.invokevirtual 150, 3) := by decide +kernel
theorem dX8_comesBy_49 : decode cX8_comesBy 49 = .ok (.iinc 5 1, 3) := by decide +kernel
theorem dX8_comesBy_52 : decode cX8_comesBy 52 = .ok (.goto (-46), 3) := by decide +kernel
theorem dX8_comesBy_55 : decode cX8_comesBy 55 = .ok (.iload 4, 2) := by decide +kernel
theorem dX8_comesBy_57 : decode cX8_comesBy 57 = .ok (.ireturn, 1) := by decide +kernel
theorem dX8_soonest_0 : decode cX8_soonest 0 = .ok (.aload_n 0, 1) := by decide +kernel
theorem dX8_soonest_1 : decode cX8_soonest 1 = .ok (.iload_n 1, 1) := by decide +kernel
theorem dX8_soonest_2 : decode cX8_soonest 2 = .ok (.invokevirtual 157, 3) := by decide +kernel
theorem dX8_soonest_5 : decode cX8_soonest 5 = .ok (.ifCond .eq 10, 3) := by decide +kernel
theorem dX8_soonest_8 : decode cX8_soonest 8 = .ok (.iload_n 2, 1) := by decide +kernel
theorem dX8_soonest_9 : decode cX8_soonest 9 = .ok (.invokestatic 169, 3) := by decide +kernel
theorem dX8_soonest_12 : decode cX8_soonest 12 = .ok (.ifCond .ne 9, 3) := by decide +kernel
theorem dX8_soonest_15 : decode cX8_soonest 15 = .ok (.aload_n 0, 1) := by decide +kernel
theorem dX8_soonest_16 : decode cX8_soonest 16 = .ok (.iconst 1, 1) := by decide +kernel
theorem dX8_soonest_17 : decode cX8_soonest 17 = .ok (.invokevirtual 51, 3) := by decide +kernel
theorem dX8_soonest_20 : decode cX8_soonest 20 = .ok (.ireturn, 1) := by decide +kernel
theorem dX8_soonest_21 : decode cX8_soonest 21 = .ok (.aload_n 0, 1) := by decide +kernel
theorem dX8_soonest_22 : decode cX8_soonest 22 = .ok (.invokevirtual 187, 3) := by decide +kernel
theorem dX8_soonest_25 : decode cX8_soonest 25 = .ok (.aload_n 0, 1) := by decide +kernel
theorem dX8_soonest_26 : decode cX8_soonest 26 = .ok (.iload_n 1, 1) := by decide +kernel
theorem dX8_soonest_27 : decode cX8_soonest 27 = .ok (.iload_n 2, 1) := by decide +kernel
theorem dX8_soonest_28 : decode cX8_soonest 28 = .ok (.bipush 60, 2) := by decide +kernel
theorem dX8_soonest_30 : decode cX8_soonest 30 = .ok (.invokevirtual 193, 3) := by decide +kernel
theorem dX8_soonest_33 : decode cX8_soonest 33 = .ok (.istore_n 3, 1) := by decide +kernel
theorem dX8_soonest_34 : decode cX8_soonest 34 = .ok (.aload_n 0, 1) := by decide +kernel
theorem dX8_soonest_35 : decode cX8_soonest 35 = .ok (.invokevirtual 190, 3) := by decide +kernel
theorem dX8_soonest_38 : decode cX8_soonest 38 = .ok (.iload_n 3, 1) := by decide +kernel
theorem dX8_soonest_39 : decode cX8_soonest 39 = .ok (.iconst (-1), 1) := by decide +kernel
theorem dX8_soonest_40 : decode cX8_soonest 40 = .ok (.if_icmp .ne 11, 3) := by decide +kernel
theorem dX8_soonest_43 : decode cX8_soonest 43 = .ok (.aload_n 0, 1) := by decide +kernel
theorem dX8_soonest_44 : decode cX8_soonest 44 = .ok (.iconst 2, 1) := by decide +kernel
theorem dX8_soonest_45 : decode cX8_soonest 45 = .ok (.invokevirtual 51, 3) := by decide +kernel
theorem dX8_soonest_48 : decode cX8_soonest 48 = .ok (.goto 4, 3) := by decide +kernel
theorem dX8_soonest_51 : decode cX8_soonest 51 = .ok (.iload_n 3, 1) := by decide +kernel
theorem dX8_soonest_52 : decode cX8_soonest 52 = .ok (.ireturn, 1) := by decide +kernel
theorem dX8_isSoon_0 : decode cX8_isSoon 0 = .ok (.iload_n 0, 1) := by decide +kernel
theorem dX8_isSoon_1 : decode cX8_isSoon 1 = .ok (.iconst 0, 1) := by decide +kernel
theorem dX8_isSoon_2 : decode cX8_isSoon 2 = .ok (.bipush 20, 2) := by decide +kernel
theorem dX8_isSoon_4 : decode cX8_isSoon 4 = .ok (.invokestatic 47, 3) := by decide +kernel
theorem dX8_isSoon_7 : decode cX8_isSoon 7 = .ok (.ireturn, 1) := by decide +kernel
theorem dX8_comesWith_0 : decode cX8_comesWith 0 = .ok (.aload_n 0, 1) := by decide +kernel
theorem dX8_comesWith_1 : decode cX8_comesWith 1 = .ok (.invokevirtual 187, 3) := by decide +kernel
theorem dX8_comesWith_4 : decode cX8_comesWith 4 = .ok (.aload_n 0, 1) := by decide +kernel
theorem dX8_comesWith_5 : decode cX8_comesWith 5 = .ok (.iload_n 1, 1) := by decide +kernel
theorem dX8_comesWith_6 : decode cX8_comesWith 6 = .ok (.iconst 2, 1) := by decide +kernel
theorem dX8_comesWith_7 : decode cX8_comesWith 7 = .ok (.iload 4, 2) := by decide +kernel
theorem dX8_comesWith_9 : decode cX8_comesWith 9 = .ok (.invokevirtual 142, 3) := by decide +kernel
theorem dX8_comesWith_12 : decode cX8_comesWith 12 = .ok (.aload_n 0, 1) := by decide +kernel
theorem dX8_comesWith_13 : decode cX8_comesWith 13 = .ok (.iload_n 1, 1) := by decide +kernel
theorem dX8_comesWith_14 : decode cX8_comesWith 14 = .ok (.iload_n 2, 1) := by decide +kernel
theorem dX8_comesWith_15 : decode cX8_comesWith 15 = .ok (.iload_n 3, 1) := by decide +kernel
theorem dX8_comesWith_16 : decode cX8_comesWith 16 = .ok (.invokevirtual 193, 3) := by decide +kernel
theorem dX8_comesWith_19 : decode cX8_comesWith 19 = .ok (.iconst (-1), 1) := by decide +kernel
theorem dX8_comesWith_20 : decode cX8_comesWith 20 = .ok (.if_icmp .eq 7, 3) := by decide +kernel
theorem dX8_comesWith_23 : decode cX8_comesWith 23 = .ok (.iconst 1, 1) := by decide +kernel
theorem dX8_comesWith_24 : decode cX8_comesWith 24 = .ok (.goto 4, 3) := by decide +kernel
theorem dX8_comesWith_27 : decode cX8_comesWith 27 = .ok (.iconst 0, 1) := by decide +kernel
theorem dX8_comesWith_28 : decode cX8_comesWith 28 = .ok (.istore 5, 2) := by decide +kernel
theorem dX8_comesWith_30 : decode cX8_comesWith 30 = .ok (.aload_n 0, 1) := by decide +kernel
theorem dX8_comesWith_31 : decode cX8_comesWith 31 = .ok (.invokevirtual 190, 3) := by decide +kernel
theorem dX8_comesWith_34 : decode cX8_comesWith 34 = .ok (.iload 5, 2) := by decide +kernel
theorem dX8_comesWith_36 : decode cX8_comesWith 36 = .ok (.ireturn, 1) := by decide +kernel
theorem dX8_least_0 : decode cX8_least 0 = .ok (.aload_n 0, 1) := by decide +kernel
theorem dX8_least_1 : decode cX8_least 1 = .ok (.iload_n 1, 1) := by decide +kernel
theorem dX8_least_2 : decode cX8_least 2 = .ok (.invokevirtual 157, 3) := by decide +kernel
theorem dX8_least_5 : decode cX8_least 5 = .ok (.ifCond .eq 17, 3) := by decide +kernel
theorem dX8_least_8 : decode cX8_least 8 = .ok (.iload_n 2, 1) := by decide +kernel
theorem dX8_least_9 : decode cX8_least 9 = .ok (.invokestatic 169, 3) := by decide +kernel
theorem dX8_least_12 : decode cX8_least 12 = .ok (.ifCond .eq 10, 3) := by decide +kernel
theorem dX8_least_15 : decode cX8_least 15 = .ok (.iload_n 3, 1) := by decide +kernel
theorem dX8_least_16 : decode cX8_least 16 = .ok (.invokestatic 196, 3) := by decide +kernel
theorem dX8_least_19 : decode cX8_least 19 = .ok (.ifCond .ne 9, 3) := by decide +kernel
theorem dX8_least_22 : decode cX8_least 22 = .ok (.aload_n 0, 1) := by decide +kernel
theorem dX8_least_23 : decode cX8_least 23 = .ok (.iconst 1, 1) := by decide +kernel
theorem dX8_least_24 : decode cX8_least 24 = .ok (.invokevirtual 51, 3) := by decide +kernel
theorem dX8_least_27 : decode cX8_least 27 = .ok (.ireturn, 1) := by decide +kernel
theorem dX8_least_28 : decode cX8_least 28 = .ok (.iconst 0, 1) := by decide +kernel
theorem dX8_least_29 : decode cX8_least 29 = .ok (.istore 4, 2) := by decide +kernel
theorem dX8_least_31 : decode cX8_least 31 = .ok (.iload 4, 2) := by decide +kernel
theorem dX8_least_33 : decode cX8_least 33 = .ok (.bipush 99, 2) := by decide +kernel
theorem dX8_least_35 : decode cX8_least 35 = .ok (.if_icmp .gt 21, 3) := by decide +kernel
theorem dX8_least_38 : decode cX8_least 38 = .ok (.aload_n 0, 1) := by decide +kernel
theorem dX8_least_39 : decode cX8_least 39 = .ok (.iload_n 1, 1) := by decide +kernel
theorem dX8_least_40 : decode cX8_least 40 = .ok (.iload_n 2, 1) := by decide +kernel
theorem dX8_least_41 : decode cX8_least 41 = .ok (.iload_n 3, 1) := by decide +kernel
theorem dX8_least_42 : decode cX8_least 42 = .ok (.iload 4, 2) := by decide +kernel
theorem dX8_least_44 : decode cX8_least 44 = .ok (.invokevirtual 199, 3) := by decide +kernel
theorem dX8_least_47 : decode cX8_least 47 = .ok (.ifCond .ne 9, 3) := by decide +kernel
theorem dX8_least_50 : decode cX8_least 50 = .ok (.iinc 4 1, 3) := by decide +kernel
theorem dX8_least_53 : decode cX8_least 53 = .ok (.goto (-22), 3) := by decide +kernel
theorem dX8_least_56 : decode cX8_least 56 = .ok (.iload 4, 2) := by decide +kernel
theorem dX8_least_58 : decode cX8_least 58 = .ok (.bipush 99, 2) := by decide +kernel
theorem dX8_least_60 : decode cX8_least 60 = .ok (.if_icmp .le 11, 3) := by decide +kernel
theorem dX8_least_63 : decode cX8_least 63 = .ok (.aload_n 0, 1) := by decide +kernel
theorem dX8_least_64 : decode cX8_least 64 = .ok (.iconst 2, 1) := by decide +kernel
theorem dX8_least_65 : decode cX8_least 65 = .ok (.invokevirtual 51, 3) := by decide +kernel
theorem dX8_least_68 : decode cX8_least 68 = .ok (.goto 5, 3) := by decide +kernel
theorem dX8_least_71 : decode cX8_least 71 = .ok (.iload 4, 2) := by decide +kernel
theorem dX8_least_73 : decode cX8_least 73 = .ok (.ireturn, 1) := by decide +kernel
theorem dX8_manyIn_0 : decode cX8_manyIn 0 = .ok (.iconst 0, 1) := by decide +kernel
theorem dX8_manyIn_1 : decode cX8_manyIn 1 = .ok (.istore_n 1, 1) := by decide +kernel
theorem dX8_manyIn_2 : decode cX8_manyIn 2 = .ok (.iload_n 0, 1) := by decide +kernel
theorem dX8_manyIn_3 : decode cX8_manyIn 3 = .ok (.istore_n 2, 1) := by decide +kernel
theorem dX8_manyIn_4 : decode cX8_manyIn 4 = .ok (.iload_n 2, 1) := by decide +kernel
theorem dX8_manyIn_5 : decode cX8_manyIn 5 = .ok (.ifCond .eq 15, 3) := by decide +kernel
theorem dX8_manyIn_8 : decode cX8_manyIn 8 = .ok (.iinc 1 1, 3) := by decide +kernel
theorem dX8_manyIn_11 : decode cX8_manyIn 11 = .ok (.iload_n 2, 1) := by decide +kernel
theorem dX8_manyIn_12 : decode cX8_manyIn 12 = .ok (.iload_n 2, 1) := by decide +kernel
theorem dX8_manyIn_13 : decode cX8_manyIn 13 = .ok (.iconst 1, 1) := by decide +kernel
theorem dX8_manyIn_14 : decode cX8_manyIn 14 = .ok (.isub, 1) := by decide +kernel
theorem dX8_manyIn_15 : decode cX8_manyIn 15 = .ok (.iand, 1) := by decide +kernel
theorem dX8_manyIn_16 : decode cX8_manyIn 16 = .ok (.istore_n 2, 1) := by decide +kernel
theorem dX8_manyIn_17 : decode cX8_manyIn 17 = .ok (.goto (-13), 3) := by decide +kernel
theorem dX8_manyIn_20 : decode cX8_manyIn 20 = .ok (.iload_n 1, 1) := by decide +kernel
theorem dX8_manyIn_21 : decode cX8_manyIn 21 = .ok (.ireturn, 1) := by decide +kernel
theorem dX8_comesWithout_0 : decode cX8_comesWithout 0 = .ok (.aload_n 0, 1) := by decide +kernel
theorem dX8_comesWithout_1 : decode cX8_comesWithout 1 = .ok (.invokevirtual 187, 3) := by decide +kernel
theorem dX8_comesWithout_4 : decode cX8_comesWithout 4 = .ok (.aload_n 0, 1) := by decide +kernel
theorem dX8_comesWithout_5 : decode cX8_comesWithout 5 = .ok (.getfield 7, 3) := by decide +kernel
theorem dX8_comesWithout_8 : decode cX8_comesWithout 8 = .ok (.iconst 1, 1) := by decide +kernel
theorem dX8_comesWithout_9 : decode cX8_comesWithout 9 = .ok (.dup2, 1) := by decide +kernel
theorem dX8_comesWithout_10 : decode cX8_comesWithout 10 = .ok (.iaload, 1) := by decide +kernel
theorem dX8_comesWithout_11 : decode cX8_comesWithout 11 = .ok (.iload 4, 2) := by decide +kernel
theorem dX8_comesWithout_13 : decode cX8_comesWithout 13 = .ok (.iconst (-1), 1) := by decide +kernel
theorem dX8_comesWithout_14 : decode cX8_comesWithout 14 = .ok (.ixor, 1) := by decide +kernel
theorem dX8_comesWithout_15 : decode cX8_comesWithout 15 = .ok (.iand, 1) := by decide +kernel
theorem dX8_comesWithout_16 : decode cX8_comesWithout 16 = .ok (.iastore, 1) := by decide +kernel
theorem dX8_comesWithout_17 : decode cX8_comesWithout 17 = .ok (.aload_n 0, 1) := by decide +kernel
theorem dX8_comesWithout_18 : decode cX8_comesWithout 18 = .ok (.iload_n 1, 1) := by decide +kernel
theorem dX8_comesWithout_19 : decode cX8_comesWithout 19 = .ok (.iload_n 2, 1) := by decide +kernel
theorem dX8_comesWithout_20 : decode cX8_comesWithout 20 = .ok (.iload_n 3, 1) := by decide +kernel
theorem dX8_comesWithout_21 : decode cX8_comesWithout 21 = .ok (.invokevirtual 193, 3) := by decide +kernel
theorem dX8_comesWithout_24 : decode cX8_comesWithout 24 = .ok (.iconst (-1), 1) := by decide +kernel
theorem dX8_comesWithout_25 : decode cX8_comesWithout 25 = .ok (.if_icmp .eq 7, 3) := by decide +kernel
theorem dX8_comesWithout_28 : decode cX8_comesWithout 28 = .ok (.iconst 1, 1) := by decide +kernel
theorem dX8_comesWithout_29 : decode cX8_comesWithout 29 = .ok (.goto 4, 3) := by decide +kernel
theorem dX8_comesWithout_32 : decode cX8_comesWithout 32 = .ok (.iconst 0, 1) := by decide +kernel
theorem dX8_comesWithout_33 : decode cX8_comesWithout 33 = .ok (.istore 5, 2) := by decide +kernel
theorem dX8_comesWithout_35 : decode cX8_comesWithout 35 = .ok (.aload_n 0, 1) := by decide +kernel
theorem dX8_comesWithout_36 : decode cX8_comesWithout 36 = .ok (.invokevirtual 190, 3) := by decide +kernel
theorem dX8_comesWithout_39 : decode cX8_comesWithout 39 = .ok (.iload 5, 2) := by decide +kernel
theorem dX8_comesWithout_41 : decode cX8_comesWithout 41 = .ok (.ireturn, 1) := by decide +kernel
theorem dX8_fills_0 : decode cX8_fills 0 = .ok (.aload_n 0, 1) := by decide +kernel
theorem dX8_fills_1 : decode cX8_fills 1 = .ok (.iload_n 1, 1) := by decide +kernel
theorem dX8_fills_2 : decode cX8_fills 2 = .ok (.invokevirtual 157, 3) := by decide +kernel
theorem dX8_fills_5 : decode cX8_fills 5 = .ok (.ifCond .eq 27, 3) := by decide +kernel
theorem dX8_fills_8 : decode cX8_fills 8 = .ok (.iload_n 2, 1) := by decide +kernel
theorem dX8_fills_9 : decode cX8_fills 9 = .ok (.invokestatic 169, 3) := by decide +kernel
theorem dX8_fills_12 : decode cX8_fills 12 = .ok (.ifCond .eq 20, 3) := by decide +kernel
theorem dX8_fills_15 : decode cX8_fills 15 = .ok (.iload_n 3, 1) := by decide +kernel
theorem dX8_fills_16 : decode cX8_fills 16 = .ok (.invokestatic 196, 3) := by decide +kernel
theorem dX8_fills_19 : decode cX8_fills 19 = .ok (.ifCond .eq 13, 3) := by decide +kernel
theorem dX8_fills_22 : decode cX8_fills 22 = .ok (.iload 4, 2) := by decide +kernel
theorem dX8_fills_24 : decode cX8_fills 24 = .ok (.iconst 0, 1) := by decide +kernel
theorem dX8_fills_25 : decode cX8_fills 25 = .ok (.iconst 1, 1) := by decide +kernel
theorem dX8_fills_26 : decode cX8_fills 26 = .ok (.invokestatic 47, 3) := by decide +kernel
theorem dX8_fills_29 : decode cX8_fills 29 = .ok (.ifCond .ne 9, 3) := by decide +kernel
theorem dX8_fills_32 : decode cX8_fills 32 = .ok (.aload_n 0, 1) := by decide +kernel
theorem dX8_fills_33 : decode cX8_fills 33 = .ok (.iconst 1, 1) := by decide +kernel
theorem dX8_fills_34 : decode cX8_fills 34 = .ok (.invokevirtual 51, 3) := by decide +kernel
theorem dX8_fills_37 : decode cX8_fills 37 = .ok (.ireturn, 1) := by decide +kernel
theorem dX8_fills_38 : decode cX8_fills 38 = .ok (.iconst (-1), 1) := by decide +kernel
theorem dX8_fills_39 : decode cX8_fills 39 = .ok (.istore 5, 2) := by decide +kernel
theorem dX8_fills_41 : decode cX8_fills 41 = .ok (.iconst 0, 1) := by decide +kernel
theorem dX8_fills_42 : decode cX8_fills 42 = .ok (.istore 6, 2) := by decide +kernel
theorem dX8_fills_44 : decode cX8_fills 44 = .ok (.iload 6, 2) := by decide +kernel
theorem dX8_fills_46 : decode cX8_fills 46 = .ok (.bipush 15, 2) := by decide +kernel
theorem dX8_fills_48 : decode cX8_fills 48 = .ok (.if_icmp .ge 152, 3) := by decide +kernel
theorem dX8_fills_51 : decode cX8_fills 51 = .ok (.iconst 0, 1) := by decide +kernel
theorem dX8_fills_52 : decode cX8_fills 52 = .ok (.istore 7, 2) := by decide +kernel
theorem dX8_fills_54 : decode cX8_fills 54 = .ok (.iload 7, 2) := by decide +kernel
theorem dX8_fills_56 : decode cX8_fills 56 = .ok (.iload 6, 2) := by decide +kernel
theorem dX8_fills_58 : decode cX8_fills 58 = .ok (.if_icmp .gt 136, 3) := by decide +kernel
theorem dX8_fills_61 : decode cX8_fills 61 = .ok (.iload 6, 2) := by decide +kernel
theorem dX8_fills_63 : decode cX8_fills 63 = .ok (.ifCond .ne 7, 3) := by decide +kernel
theorem dX8_fills_66 : decode cX8_fills 66 = .ok (.iconst 0, 1) := by decide +kernel
theorem dX8_fills_67 : decode cX8_fills 67 = .ok (.goto 7, 3) := by decide +kernel
theorem dX8_fills_70 : decode cX8_fills 70 = .ok (.iconst 1, 1) := by decide +kernel
theorem dX8_fills_71 : decode cX8_fills 71 = .ok (.iload 6, 2) := by decide +kernel
theorem dX8_fills_73 : decode cX8_fills 73 = .ok (.ishl, 1) := by decide +kernel
theorem dX8_fills_74 : decode cX8_fills 74 = .ok (.iload 7, 2) := by decide +kernel
theorem dX8_fills_76 : decode cX8_fills 76 = .ok (.ifCond .ne 7, 3) := by decide +kernel
theorem dX8_fills_79 : decode cX8_fills 79 = .ok (.iconst 0, 1) := by decide +kernel
theorem dX8_fills_80 : decode cX8_fills 80 = .ok (.goto 7, 3) := by decide +kernel
theorem dX8_fills_83 : decode cX8_fills 83 = .ok (.iconst 1, 1) := by decide +kernel
theorem dX8_fills_84 : decode cX8_fills 84 = .ok (.iload 7, 2) := by decide +kernel
theorem dX8_fills_86 : decode cX8_fills 86 = .ok (.ishl, 1) := by decide +kernel
theorem dX8_fills_87 : decode cX8_fills 87 = .ok (.ior, 1) := by decide +kernel
theorem dX8_fills_88 : decode cX8_fills 88 = .ok (.istore 8, 2) := by decide +kernel
theorem dX8_fills_90 : decode cX8_fills 90 = .ok (.iload 8, 2) := by decide +kernel
theorem dX8_fills_92 : decode cX8_fills 92 = .ok (.aload_n 0, 1) := by decide +kernel
theorem dX8_fills_93 : decode cX8_fills 93 = .ok (.getfield 7, 3) := by decide +kernel
theorem dX8_fills_96 : decode cX8_fills 96 = .ok (.iconst 1, 1) := by decide +kernel
theorem dX8_fills_97 : decode cX8_fills 97 = .ok (.iaload, 1) := by decide +kernel
theorem dX8_fills_98 : decode cX8_fills 98 = .ok (.iconst (-1), 1) := by decide +kernel
theorem dX8_fills_99 : decode cX8_fills 99 = .ok (.ixor, 1) := by decide +kernel
theorem dX8_fills_100 : decode cX8_fills 100 = .ok (.iand, 1) := by decide +kernel
theorem dX8_fills_101 : decode cX8_fills 101 = .ok (.ifCond .ne 7, 3) := by decide +kernel
theorem dX8_fills_104 : decode cX8_fills 104 = .ok (.iconst 1, 1) := by decide +kernel
theorem dX8_fills_105 : decode cX8_fills 105 = .ok (.goto 4, 3) := by decide +kernel
theorem dX8_fills_108 : decode cX8_fills 108 = .ok (.iconst 0, 1) := by decide +kernel
theorem dX8_fills_109 : decode cX8_fills 109 = .ok (.istore 9, 2) := by decide +kernel
theorem dX8_fills_111 : decode cX8_fills 111 = .ok (.iload 5, 2) := by decide +kernel
theorem dX8_fills_113 : decode cX8_fills 113 = .ok (.iconst (-1), 1) := by decide +kernel
theorem dX8_fills_114 : decode cX8_fills 114 = .ok (.if_icmp .eq 36, 3) := by decide +kernel
theorem dX8_fills_117 : decode cX8_fills 117 = .ok (.iload 8, 2) := by decide +kernel
theorem dX8_fills_119 : decode cX8_fills 119 = .ok (.invokestatic 203, 3) := by decide +kernel
theorem dX8_fills_122 : decode cX8_fills 122 = .ok (.iload 5, 2) := by decide +kernel
theorem dX8_fills_124 : decode cX8_fills 124 = .ok (.invokestatic 203, 3) := by decide +kernel
theorem dX8_fills_127 : decode cX8_fills 127 = .ok (.if_icmp .lt 23, 3) := by decide +kernel
theorem dX8_fills_130 : decode cX8_fills 130 = .ok (.iload 8, 2) := by decide +kernel
theorem dX8_fills_132 : decode cX8_fills 132 = .ok (.invokestatic 203, 3) := by decide +kernel
theorem dX8_fills_135 : decode cX8_fills 135 = .ok (.iload 5, 2) := by decide +kernel
theorem dX8_fills_137 : decode cX8_fills 137 = .ok (.invokestatic 203, 3) := by decide +kernel
theorem dX8_fills_140 : decode cX8_fills 140 = .ok (.if_icmp .ne 14, 3) := by decide +kernel
theorem dX8_fills_143 : decode cX8_fills 143 = .ok (.iload 8, 2) := by decide +kernel
theorem dX8_fills_145 : decode cX8_fills 145 = .ok (.iload 5, 2) := by decide +kernel
theorem dX8_fills_147 : decode cX8_fills 147 = .ok (.if_icmp .ge 7, 3) := by decide +kernel
theorem dX8_fills_150 : decode cX8_fills 150 = .ok (.iconst 1, 1) := by decide +kernel
theorem dX8_fills_151 : decode cX8_fills 151 = .ok (.goto 4, 3) := by decide +kernel
theorem dX8_fills_154 : decode cX8_fills 154 = .ok (.iconst 0, 1) := by decide +kernel
theorem dX8_fills_155 : decode cX8_fills 155 = .ok (.istore 10, 2) := by decide +kernel
theorem dX8_fills_157 : decode cX8_fills 157 = .ok (.iload 9, 2) := by decide +kernel
theorem dX8_fills_159 : decode cX8_fills 159 = .ok (.ifCond .eq 25, 3) := by decide +kernel
theorem dX8_fills_162 : decode cX8_fills 162 = .ok (.iload 10, 2) := by decide +kernel
theorem dX8_fills_164 : decode cX8_fills 164 = .ok (.ifCond .eq 20, 3) := by decide +kernel
theorem dX8_fills_167 : decode cX8_fills 167 = .ok (.aload_n 0, 1) := by decide +kernel
theorem dX8_fills_168 : decode cX8_fills 168 = .ok (.iload_n 1, 1) := by decide +kernel
theorem dX8_fills_169 : decode cX8_fills 169 = .ok (.iload_n 2, 1) := by decide +kernel
theorem dX8_fills_170 : decode cX8_fills 170 = .ok (.iload_n 3, 1) := by decide +kernel
theorem dX8_fills_171 : decode cX8_fills 171 = .ok (.iload 8, 2) := by decide +kernel
theorem dX8_fills_173 : decode cX8_fills 173 = .ok (.invokevirtual 206, 3) := by decide +kernel
theorem dX8_fills_176 : decode cX8_fills 176 = .ok (.ifCond .eq 8, 3) := by decide +kernel
theorem dX8_fills_179 : decode cX8_fills 179 = .ok (.iload 8, 2) := by decide +kernel
theorem dX8_fills_181 : decode cX8_fills 181 = .ok (.goto 5, 3) := by decide +kernel
theorem dX8_fills_184 : decode cX8_fills 184 = .ok (.iload 5, 2) := by decide +kernel
theorem dX8_fills_186 : decode cX8_fills 186 = .ok (.istore 5, 2) := by decide +kernel
theorem dX8_fills_188 : decode cX8_fills 188 = .ok (.iinc 7 1, 3) := by decide +kernel
theorem dX8_fills_191 : decode cX8_fills 191 = .ok (.goto (-137), 3) := by decide +kernel
theorem dX8_fills_194 : decode cX8_fills 194 = .ok (.iinc 6 1, 3) := by decide +kernel
theorem dX8_fills_197 : decode cX8_fills 197 = .ok (.goto (-153), 3) := by decide +kernel
theorem dX8_fills_200 : decode cX8_fills 200 = .ok (.iload 5, 2) := by decide +kernel
theorem dX8_fills_202 : decode cX8_fills 202 = .ok (.iconst (-1), 1) := by decide +kernel
theorem dX8_fills_203 : decode cX8_fills 203 = .ok (.if_icmp .ne 11, 3) := by decide +kernel
theorem dX8_fills_206 : decode cX8_fills 206 = .ok (.aload_n 0, 1) := by decide +kernel
theorem dX8_fills_207 : decode cX8_fills 207 = .ok (.iconst 2, 1) := by decide +kernel
theorem dX8_fills_208 : decode cX8_fills 208 = .ok (.invokevirtual 51, 3) := by decide +kernel
theorem dX8_fills_211 : decode cX8_fills 211 = .ok (.goto 18, 3) := by decide +kernel
theorem dX8_fills_214 : decode cX8_fills 214 = .ok (.iload 4, 2) := by decide +kernel
theorem dX8_fills_216 : decode cX8_fills 216 = .ok (.ifCond .ne 11, 3) := by decide +kernel
theorem dX8_fills_219 : decode cX8_fills 219 = .ok (.iload 5, 2) := by decide +kernel
theorem dX8_fills_221 : decode cX8_fills 221 = .ok (.invokestatic 203, 3) := by decide +kernel
theorem dX8_fills_224 : decode cX8_fills 224 = .ok (.goto 5, 3) := by decide +kernel
theorem dX8_fills_227 : decode cX8_fills 227 = .ok (.iload 5, 2) := by decide +kernel
theorem dX8_fills_229 : decode cX8_fills 229 = .ok (.ireturn, 1) := by decide +kernel
theorem dX8_farWith_0 : decode cX8_farWith 0 = .ok (.aload_n 0, 1) := by decide +kernel
theorem dX8_farWith_1 : decode cX8_farWith 1 = .ok (.invokevirtual 187, 3) := by decide +kernel
theorem dX8_farWith_4 : decode cX8_farWith 4 = .ok (.aload_n 0, 1) := by decide +kernel
theorem dX8_farWith_5 : decode cX8_farWith 5 = .ok (.iload_n 2, 1) := by decide +kernel
theorem dX8_farWith_6 : decode cX8_farWith 6 = .ok (.iconst 3, 1) := by decide +kernel
theorem dX8_farWith_7 : decode cX8_farWith 7 = .ok (.invokevirtual 111, 3) := by decide +kernel
theorem dX8_farWith_10 : decode cX8_farWith 10 = .ok (.istore 4, 2) := by decide +kernel
theorem dX8_farWith_12 : decode cX8_farWith 12 = .ok (.aload_n 0, 1) := by decide +kernel
theorem dX8_farWith_13 : decode cX8_farWith 13 = .ok (.iload_n 1, 1) := by decide +kernel
theorem dX8_farWith_14 : decode cX8_farWith 14 = .ok (.iconst 3, 1) := by decide +kernel
theorem dX8_farWith_15 : decode cX8_farWith 15 = .ok (.iload 4, 2) := by decide +kernel
theorem dX8_farWith_17 : decode cX8_farWith 17 = .ok (.invokevirtual 142, 3) := by decide +kernel
theorem dX8_farWith_20 : decode cX8_farWith 20 = .ok (.aload_n 0, 1) := by decide +kernel
theorem dX8_farWith_21 : decode cX8_farWith 21 = .ok (.iload_n 1, 1) := by decide +kernel
theorem dX8_farWith_22 : decode cX8_farWith 22 = .ok (.iconst 4, 1) := by decide +kernel
theorem dX8_farWith_23 : decode cX8_farWith 23 = .ok (.iconst 0, 1) := by decide +kernel
theorem dX8_farWith_24 : decode cX8_farWith 24 = .ok (.invokevirtual 142, 3) := by decide +kernel
theorem dX8_farWith_27 : decode cX8_farWith 27 = .ok (.aload_n 0, 1) := by decide +kernel
theorem dX8_farWith_28 : decode cX8_farWith 28 = .ok (.iload_n 3, 1) := by decide +kernel
theorem dX8_farWith_29 : decode cX8_farWith 29 = .ok (.invokevirtual 175, 3) := by decide +kernel
theorem dX8_farWith_32 : decode cX8_farWith 32 = .ok (.aload_n 0, 1) := by decide +kernel
theorem dX8_farWith_33 : decode cX8_farWith 33 = .ok (.iload_n 1, 1) := by decide +kernel
theorem dX8_farWith_34 : decode cX8_farWith 34 = .ok (.iconst 4, 1) := by decide +kernel
theorem dX8_farWith_35 : decode cX8_farWith 35 = .ok (.invokevirtual 111, 3) := by decide +kernel
theorem dX8_farWith_38 : decode cX8_farWith 38 = .ok (.iconst 1, 1) := by decide +kernel
theorem dX8_farWith_39 : decode cX8_farWith 39 = .ok (.if_icmp .ne 7, 3) := by decide +kernel
theorem dX8_farWith_42 : decode cX8_farWith 42 = .ok (.iconst 0, 1) := by decide +kernel
theorem dX8_farWith_43 : decode cX8_farWith 43 = .ok (.goto 12, 3) := by decide +kernel
theorem dX8_farWith_46 : decode cX8_farWith 46 = .ok (.aload_n 0, 1) := by decide +kernel
theorem dX8_farWith_47 : decode cX8_farWith 47 = .ok (.iload_n 1, 1) := by decide +kernel
theorem dX8_farWith_48 : decode cX8_farWith 48 = .ok (.iconst 3, 1) := by decide +kernel
theorem dX8_farWith_49 : decode cX8_farWith 49 = .ok (.invokevirtual 111, 3) := by decide +kernel
theorem dX8_farWith_52 : decode cX8_farWith 52 = .ok (.iload 4, 2) := by decide +kernel
theorem dX8_farWith_54 : decode cX8_farWith 54 = .ok (.isub, 1) := by decide +kernel
theorem dX8_farWith_55 : decode cX8_farWith 55 = .ok (.istore 5, 2) := by decide +kernel
theorem dX8_farWith_57 : decode cX8_farWith 57 = .ok (.aload_n 0, 1) := by decide +kernel
theorem dX8_farWith_58 : decode cX8_farWith 58 = .ok (.invokevirtual 190, 3) := by decide +kernel
theorem dX8_farWith_61 : decode cX8_farWith 61 = .ok (.iload 5, 2) := by decide +kernel
theorem dX8_farWith_63 : decode cX8_farWith 63 = .ok (.ireturn, 1) := by decide +kernel
theorem dX8_withWhom_0 : decode cX8_withWhom 0 = .ok (.aload_n 0, 1) := by decide +kernel
theorem dX8_withWhom_1 : decode cX8_withWhom 1 = .ok (.iload_n 1, 1) := by decide +kernel
theorem dX8_withWhom_2 : decode cX8_withWhom 2 = .ok (.invokevirtual 157, 3) := by decide +kernel
theorem dX8_withWhom_5 : decode cX8_withWhom 5 = .ok (.ifCond .eq 10, 3) := by decide +kernel
theorem dX8_withWhom_8 : decode cX8_withWhom 8 = .ok (.iload_n 2, 1) := by decide +kernel
theorem dX8_withWhom_9 : decode cX8_withWhom 9 = .ok (.invokestatic 196, 3) := by decide +kernel
theorem dX8_withWhom_12 : decode cX8_withWhom 12 = .ok (.ifCond .ne 9, 3) := by decide +kernel
theorem dX8_withWhom_15 : decode cX8_withWhom 15 = .ok (.aload_n 0, 1) := by decide +kernel
theorem dX8_withWhom_16 : decode cX8_withWhom 16 = .ok (.iconst 1, 1) := by decide +kernel
theorem dX8_withWhom_17 : decode cX8_withWhom 17 = .ok (.invokevirtual 51, 3) := by decide +kernel
theorem dX8_withWhom_20 : decode cX8_withWhom 20 = .ok (.ireturn, 1) := by decide +kernel
theorem dX8_withWhom_21 : decode cX8_withWhom 21 = .ok (.iconst (-1), 1) := by decide +kernel
theorem dX8_withWhom_22 : decode cX8_withWhom 22 = .ok (.istore_n 3, 1) := by decide +kernel
theorem dX8_withWhom_23 : decode cX8_withWhom 23 = .ok (.iconst (-1), 1) := by decide +kernel
theorem dX8_withWhom_24 : decode cX8_withWhom 24 = .ok (.istore 4, 2) := by decide +kernel
theorem dX8_withWhom_26 : decode cX8_withWhom 26 = .ok (.iconst 0, 1) := by decide +kernel
theorem dX8_withWhom_27 : decode cX8_withWhom 27 = .ok (.istore 5, 2) := by decide +kernel
theorem dX8_withWhom_29 : decode cX8_withWhom 29 = .ok (.iload 5, 2) := by decide +kernel
theorem dX8_withWhom_31 : decode cX8_withWhom 31 = .ok (.aload_n 0, 1) := by decide +kernel
theorem dX8_withWhom_32 : decode cX8_withWhom 32 = .ok (.getfield 7, 3) := by decide +kernel
theorem dX8_withWhom_35 : decode cX8_withWhom 35 = .ok (.iconst 5, 1) := by decide +kernel
theorem dX8_withWhom_36 : decode cX8_withWhom 36 = .ok (.iaload, 1) := by decide +kernel
theorem dX8_withWhom_37 : decode cX8_withWhom 37 = .ok (.if_icmp .ge 59, 3) := by decide +kernel
theorem dX8_withWhom_40 : decode cX8_withWhom 40 = .ok (.iload 5, 2) := by decide +kernel
theorem dX8_withWhom_42 : decode cX8_withWhom 42 = .ok (.iload_n 1, 1) := by decide +kernel
theorem dX8_withWhom_43 : decode cX8_withWhom 43 = .ok (.if_icmp .ne 7, 3) := by decide +kernel
theorem dX8_withWhom_46 : decode cX8_withWhom 46 = .ok (.iconst (-1), 1) := by decide +kernel
theorem dX8_withWhom_47 : decode cX8_withWhom 47 = .ok (.goto 11, 3) := by decide +kernel
theorem dX8_withWhom_50 : decode cX8_withWhom 50 = .ok (.aload_n 0, 1) := by decide +kernel
theorem dX8_withWhom_51 : decode cX8_withWhom 51 = .ok (.iload_n 1, 1) := by decide +kernel
theorem dX8_withWhom_52 : decode cX8_withWhom 52 = .ok (.iload 5, 2) := by decide +kernel
theorem dX8_withWhom_54 : decode cX8_withWhom 54 = .ok (.iload_n 2, 1) := by decide +kernel
theorem dX8_withWhom_55 : decode cX8_withWhom 55 = .ok (.invokevirtual 209, 3) := by decide +kernel
theorem dX8_withWhom_58 : decode cX8_withWhom 58 = .ok (.istore 6, 2) := by decide +kernel
theorem dX8_withWhom_60 : decode cX8_withWhom 60 = .ok (.iload 6, 2) := by decide +kernel
theorem dX8_withWhom_62 : decode cX8_withWhom 62 = .ok (.iload 4, 2) := by decide +kernel
theorem dX8_withWhom_64 : decode cX8_withWhom 64 = .ok (.if_icmp .le 8, 3) := by decide +kernel
theorem dX8_withWhom_67 : decode cX8_withWhom 67 = .ok (.iload 5, 2) := by decide +kernel
theorem dX8_withWhom_69 : decode cX8_withWhom 69 = .ok (.goto 4, 3) := by decide +kernel
theorem dX8_withWhom_72 : decode cX8_withWhom 72 = .ok (.iload_n 3, 1) := by decide +kernel
theorem dX8_withWhom_73 : decode cX8_withWhom 73 = .ok (.istore_n 3, 1) := by decide +kernel
theorem dX8_withWhom_74 : decode cX8_withWhom 74 = .ok (.iload 6, 2) := by decide +kernel
theorem dX8_withWhom_76 : decode cX8_withWhom 76 = .ok (.iload 4, 2) := by decide +kernel
theorem dX8_withWhom_78 : decode cX8_withWhom 78 = .ok (.if_icmp .le 8, 3) := by decide +kernel
theorem dX8_withWhom_81 : decode cX8_withWhom 81 = .ok (.iload 6, 2) := by decide +kernel
theorem dX8_withWhom_83 : decode cX8_withWhom 83 = .ok (.goto 5, 3) := by decide +kernel
theorem dX8_withWhom_86 : decode cX8_withWhom 86 = .ok (.iload 4, 2) := by decide +kernel
theorem dX8_withWhom_88 : decode cX8_withWhom 88 = .ok (.istore 4, 2) := by decide +kernel
theorem dX8_withWhom_90 : decode cX8_withWhom 90 = .ok (.iinc 5 1, 3) := by decide +kernel
theorem dX8_withWhom_93 : decode cX8_withWhom 93 = .ok (.goto (-64), 3) := by decide +kernel
theorem dX8_withWhom_96 : decode cX8_withWhom 96 = .ok (.iload_n 3, 1) := by decide +kernel
theorem dX8_withWhom_97 : decode cX8_withWhom 97 = .ok (.iconst (-1), 1) := by decide +kernel
theorem dX8_withWhom_98 : decode cX8_withWhom 98 = .ok (.if_icmp .ne 11, 3) := by decide +kernel
theorem dX8_withWhom_101 : decode cX8_withWhom 101 = .ok (.aload_n 0, 1) := by decide +kernel
theorem dX8_withWhom_102 : decode cX8_withWhom 102 = .ok (.iconst 2, 1) := by decide +kernel
theorem dX8_withWhom_103 : decode cX8_withWhom 103 = .ok (.invokevirtual 51, 3) := by decide +kernel
theorem dX8_withWhom_106 : decode cX8_withWhom 106 = .ok (.goto 4, 3) := by decide +kernel
theorem dX8_withWhom_109 : decode cX8_withWhom 109 = .ok (.iload_n 3, 1) := by decide +kernel
theorem dX8_withWhom_110 : decode cX8_withWhom 110 = .ok (.ireturn, 1) := by decide +kernel
theorem dX8_divisor_0 : decode cX8_divisor 0 = .ok (.iload_n 0, 1) := by decide +kernel
theorem dX8_divisor_1 : decode cX8_divisor 1 = .ok (.istore_n 2, 1) := by decide +kernel
theorem dX8_divisor_2 : decode cX8_divisor 2 = .ok (.iload_n 1, 1) := by decide +kernel
theorem dX8_divisor_3 : decode cX8_divisor 3 = .ok (.istore_n 3, 1) := by decide +kernel
theorem dX8_divisor_4 : decode cX8_divisor 4 = .ok (.iload_n 3, 1) := by decide +kernel
theorem dX8_divisor_5 : decode cX8_divisor 5 = .ok (.ifCond .eq 16, 3) := by decide +kernel
theorem dX8_divisor_8 : decode cX8_divisor 8 = .ok (.iload_n 2, 1) := by decide +kernel
theorem dX8_divisor_9 : decode cX8_divisor 9 = .ok (.iload_n 3, 1) := by decide +kernel
theorem dX8_divisor_10 : decode cX8_divisor 10 = .ok (.irem, 1) := by decide +kernel
theorem dX8_divisor_11 : decode cX8_divisor 11 = .ok (.istore 4, 2) := by decide +kernel
theorem dX8_divisor_13 : decode cX8_divisor 13 = .ok (.iload_n 3, 1) := by decide +kernel
theorem dX8_divisor_14 : decode cX8_divisor 14 = .ok (.istore_n 2, 1) := by decide +kernel
theorem dX8_divisor_15 : decode cX8_divisor 15 = .ok (.iload 4, 2) := by decide +kernel
theorem dX8_divisor_17 : decode cX8_divisor 17 = .ok (.istore_n 3, 1) := by decide +kernel
theorem dX8_divisor_18 : decode cX8_divisor 18 = .ok (.goto (-14), 3) := by decide +kernel
theorem dX8_divisor_21 : decode cX8_divisor 21 = .ok (.iload_n 2, 1) := by decide +kernel
theorem dX8_divisor_22 : decode cX8_divisor 22 = .ok (.ireturn, 1) := by decide +kernel
theorem dX8_odds_0 : decode cX8_odds 0 = .ok (.aload_n 0, 1) := by decide +kernel
theorem dX8_odds_1 : decode cX8_odds 1 = .ok (.iload_n 1, 1) := by decide +kernel
theorem dX8_odds_2 : decode cX8_odds 2 = .ok (.invokevirtual 157, 3) := by decide +kernel
theorem dX8_odds_5 : decode cX8_odds 5 = .ok (.ifCond .eq 27, 3) := by decide +kernel
theorem dX8_odds_8 : decode cX8_odds 8 = .ok (.iload_n 2, 1) := by decide +kernel
theorem dX8_odds_9 : decode cX8_odds 9 = .ok (.invokestatic 169, 3) := by decide +kernel
theorem dX8_odds_12 : decode cX8_odds 12 = .ok (.ifCond .eq 20, 3) := by decide +kernel
theorem dX8_odds_15 : decode cX8_odds 15 = .ok (.iload_n 3, 1) := by decide +kernel
theorem dX8_odds_16 : decode cX8_odds 16 = .ok (.invokestatic 196, 3) := by decide +kernel
theorem dX8_odds_19 : decode cX8_odds 19 = .ok (.ifCond .eq 13, 3) := by decide +kernel
theorem dX8_odds_22 : decode cX8_odds 22 = .ok (.iload 4, 2) := by decide +kernel
theorem dX8_odds_24 : decode cX8_odds 24 = .ok (.iconst 0, 1) := by decide +kernel
theorem dX8_odds_25 : decode cX8_odds 25 = .ok (.iconst 1, 1) := by decide +kernel
theorem dX8_odds_26 : decode cX8_odds 26 = .ok (.invokestatic 47, 3) := by decide +kernel
theorem dX8_odds_29 : decode cX8_odds 29 = .ok (.ifCond .ne 9, 3) := by decide +kernel
theorem dX8_odds_32 : decode cX8_odds 32 = .ok (.aload_n 0, 1) := by decide +kernel
theorem dX8_odds_33 : decode cX8_odds 33 = .ok (.iconst 1, 1) := by decide +kernel
theorem dX8_odds_34 : decode cX8_odds 34 = .ok (.invokevirtual 51, 3) := by decide +kernel
theorem dX8_odds_37 : decode cX8_odds 37 = .ok (.ireturn, 1) := by decide +kernel
theorem dX8_odds_38 : decode cX8_odds 38 = .ok (.iconst 0, 1) := by decide +kernel
theorem dX8_odds_39 : decode cX8_odds 39 = .ok (.istore 5, 2) := by decide +kernel
theorem dX8_odds_41 : decode cX8_odds 41 = .ok (.iconst 0, 1) := by decide +kernel
theorem dX8_odds_42 : decode cX8_odds 42 = .ok (.istore 6, 2) := by decide +kernel
theorem dX8_odds_44 : decode cX8_odds 44 = .ok (.iload 6, 2) := by decide +kernel
theorem dX8_odds_46 : decode cX8_odds 46 = .ok (.bipush 99, 2) := by decide +kernel
theorem dX8_odds_48 : decode cX8_odds 48 = .ok (.if_icmp .gt 31, 3) := by decide +kernel
theorem dX8_odds_51 : decode cX8_odds 51 = .ok (.iload 5, 2) := by decide +kernel
theorem dX8_odds_53 : decode cX8_odds 53 = .ok (.aload_n 0, 1) := by decide +kernel
theorem dX8_odds_54 : decode cX8_odds 54 = .ok (.iload_n 1, 1) := by decide +kernel
theorem dX8_odds_55 : decode cX8_odds 55 = .ok (.iload_n 2, 1) := by decide +kernel
theorem dX8_odds_56 : decode cX8_odds 56 = .ok (.iload_n 3, 1) := by decide +kernel
theorem dX8_odds_57 : decode cX8_odds 57 = .ok (.iload 6, 2) := by decide +kernel
theorem dX8_odds_59 : decode cX8_odds 59 = .ok (.invokevirtual 199, 3) := by decide +kernel
theorem dX8_odds_62 : decode cX8_odds 62 = .ok (.ifCond .eq 7, 3) := by decide +kernel
theorem dX8_odds_65 : decode cX8_odds 65 = .ok (.iconst 1, 1) := by decide +kernel
theorem dX8_odds_66 : decode cX8_odds 66 = .ok (.goto 4, 3) := by decide +kernel
theorem dX8_odds_69 : decode cX8_odds 69 = .ok (.iconst 0, 1) := by decide +kernel
theorem dX8_odds_70 : decode cX8_odds 70 = .ok (.iadd, 1) := by decide +kernel
theorem dX8_odds_71 : decode cX8_odds 71 = .ok (.istore 5, 2) := by decide +kernel
theorem dX8_odds_73 : decode cX8_odds 73 = .ok (.iinc 6 1, 3) := by decide +kernel
theorem dX8_odds_76 : decode cX8_odds 76 = .ok (.goto (-32), 3) := by decide +kernel
theorem dX8_odds_79 : decode cX8_odds 79 = .ok (.iload 5, 2) := by decide +kernel
theorem dX8_odds_81 : decode cX8_odds 81 = .ok (.bipush 100, 2) := by decide +kernel
theorem dX8_odds_83 : decode cX8_odds 83 = .ok (.invokestatic 212, 3) := by decide +kernel
theorem dX8_odds_86 : decode cX8_odds 86 = .ok (.istore 6, 2) := by decide +kernel
theorem dX8_odds_88 : decode cX8_odds 88 = .ok (.iload 4, 2) := by decide +kernel
theorem dX8_odds_90 : decode cX8_odds 90 = .ok (.ifCond .ne 11, 3) := by decide +kernel
theorem dX8_odds_93 : decode cX8_odds 93 = .ok (.iload 5, 2) := by decide +kernel
theorem dX8_odds_95 : decode cX8_odds 95 = .ok (.iload 6, 2) := by decide +kernel
theorem dX8_odds_97 : decode cX8_odds 97 = .ok (.idiv, 1) := by decide +kernel
theorem dX8_odds_98 : decode cX8_odds 98 = .ok (.goto 8, 3) := by decide +kernel
theorem dX8_odds_101 : decode cX8_odds 101 = .ok (.bipush 100, 2) := by decide +kernel
theorem dX8_odds_103 : decode cX8_odds 103 = .ok (.iload 6, 2) := by decide +kernel
theorem dX8_odds_105 : decode cX8_odds 105 = .ok (.idiv, 1) := by decide +kernel
theorem dX8_odds_106 : decode cX8_odds 106 = .ok (.ireturn, 1) := by decide +kernel
theorem dX8_clearsSo_0 : decode cX8_clearsSo 0 = .ok (.aload_n 0, 1) := by decide +kernel
theorem dX8_clearsSo_1 : decode cX8_clearsSo 1 = .ok (.invokevirtual 187, 3) := by decide +kernel
theorem dX8_clearsSo_4 : decode cX8_clearsSo 4 = .ok (.aload_n 0, 1) := by decide +kernel
theorem dX8_clearsSo_5 : decode cX8_clearsSo 5 = .ok (.iload_n 2, 1) := by decide +kernel
theorem dX8_clearsSo_6 : decode cX8_clearsSo 6 = .ok (.iconst 2, 1) := by decide +kernel
theorem dX8_clearsSo_7 : decode cX8_clearsSo 7 = .ok (.iload_n 3, 1) := by decide +kernel
theorem dX8_clearsSo_8 : decode cX8_clearsSo 8 = .ok (.invokevirtual 142, 3) := by decide +kernel
theorem dX8_clearsSo_11 : decode cX8_clearsSo 11 = .ok (.iconst 1, 1) := by decide +kernel
theorem dX8_clearsSo_12 : decode cX8_clearsSo 12 = .ok (.istore 4, 2) := by decide +kernel
theorem dX8_clearsSo_14 : decode cX8_clearsSo 14 = .ok (.iconst 0, 1) := by decide +kernel
theorem dX8_clearsSo_15 : decode cX8_clearsSo 15 = .ok (.istore 5, 2) := by decide +kernel
theorem dX8_clearsSo_17 : decode cX8_clearsSo 17 = .ok (.iload 5, 2) := by decide +kernel
theorem dX8_clearsSo_19 : decode cX8_clearsSo 19 = .ok (.aload_n 0, 1) := by decide +kernel
theorem dX8_clearsSo_20 : decode cX8_clearsSo 20 = .ok (.getfield 37, 3) := by decide +kernel
theorem dX8_clearsSo_23 : decode cX8_clearsSo 23 = .ok (.iload_n 1, 1) := by decide +kernel
theorem dX8_clearsSo_24 : decode cX8_clearsSo 24 = .ok (.iaload, 1) := by decide +kernel
theorem dX8_clearsSo_25 : decode cX8_clearsSo 25 = .ok (.if_icmp .ge 45, 3) := by decide +kernel
theorem dX8_clearsSo_28 : decode cX8_clearsSo 28 = .ok (.iload 4, 2) := by decide +kernel
theorem dX8_clearsSo_30 : decode cX8_clearsSo 30 = .ok (.ifCond .eq 40, 3) := by decide +kernel
theorem dX8_clearsSo_33 : decode cX8_clearsSo 33 = .ok (.aload_n 0, 1) := by decide +kernel
theorem dX8_clearsSo_34 : decode cX8_clearsSo 34 = .ok (.iload_n 2, 1) := by decide +kernel
theorem dX8_clearsSo_35 : decode cX8_clearsSo 35 = .ok (.invokevirtual 130, 3) := by decide +kernel
theorem dX8_clearsSo_38 : decode cX8_clearsSo 38 = .ok (.aload_n 0, 1) := by decide +kernel
theorem dX8_clearsSo_39 : decode cX8_clearsSo 39 = .ok (.getfield 40, 3) := by decide +kernel
theorem dX8_clearsSo_42 : decode cX8_clearsSo 42 = .ok (.bipush 24, 2) := by decide +kernel
theorem dX8_clearsSo_44 : decode cX8_clearsSo 44 = .ok (.iload_n 1, 1) := by decide +kernel
theorem dX8_clearsSo_45 : decode cX8_clearsSo 45 = .ok (.imul, 1) := by decide +kernel
theorem dX8_clearsSo_46 : decode cX8_clearsSo 46 = .ok (.iload 5, 2) := by decide +kernel
theorem dX8_clearsSo_48 : decode cX8_clearsSo 48 = .ok (.iadd, 1) := by decide +kernel
theorem dX8_clearsSo_49 : decode cX8_clearsSo 49 = .ok (.iaload, 1) := by decide +kernel
theorem dX8_clearsSo_50 : decode cX8_clearsSo 50 = .ok (.if_icmp .ne 7, 3) := by decide +kernel
theorem dX8_clearsSo_53 : decode cX8_clearsSo 53 = .ok (.iconst 1, 1) := by decide +kernel
theorem dX8_clearsSo_54 : decode cX8_clearsSo 54 = .ok (.goto 4, 3) := by decide +kernel
theorem dX8_clearsSo_57 : decode cX8_clearsSo 57 = .ok (.iconst 0, 1) := by decide +kernel
theorem dX8_clearsSo_58 : decode cX8_clearsSo 58 = .ok (.istore 4, 2) := by decide +kernel
theorem dX8_clearsSo_60 : decode cX8_clearsSo 60 = .ok (.aload_n 0, 1) := by decide +kernel
theorem dX8_clearsSo_61 : decode cX8_clearsSo 61 = .ok (.invokevirtual 150, 3) := by decide +kernel
theorem dX8_clearsSo_64 : decode cX8_clearsSo 64 = .ok (.iinc 5 1, 3) := by decide +kernel
theorem dX8_clearsSo_67 : decode cX8_clearsSo 67 = .ok (.goto (-50), 3) := by decide +kernel
theorem dX8_clearsSo_70 : decode cX8_clearsSo 70 = .ok (.aload_n 0, 1) := by decide +kernel
theorem dX8_clearsSo_71 : decode cX8_clearsSo 71 = .ok (.invokevirtual 190, 3) := by decide +kernel
theorem dX8_clearsSo_74 : decode cX8_clearsSo 74 = .ok (.iload 4, 2) := by decide +kernel
theorem dX8_clearsSo_76 : decode cX8_clearsSo 76 = .ok (.ireturn, 1) := by decide +kernel
theorem dX8_fits_0 : decode cX8_fits 0 = .ok (.aload_n 0, 1) := by decide +kernel
theorem dX8_fits_1 : decode cX8_fits 1 = .ok (.iload_n 2, 1) := by decide +kernel
theorem dX8_fits_2 : decode cX8_fits 2 = .ok (.invokevirtual 157, 3) := by decide +kernel
theorem dX8_fits_5 : decode cX8_fits 5 = .ok (.ifCond .eq 20, 3) := by decide +kernel
theorem dX8_fits_8 : decode cX8_fits 8 = .ok (.iload_n 3, 1) := by decide +kernel
theorem dX8_fits_9 : decode cX8_fits 9 = .ok (.iconst 0, 1) := by decide +kernel
theorem dX8_fits_10 : decode cX8_fits 10 = .ok (.iconst 1, 1) := by decide +kernel
theorem dX8_fits_11 : decode cX8_fits 11 = .ok (.invokestatic 47, 3) := by decide +kernel
theorem dX8_fits_14 : decode cX8_fits 14 = .ok (.ifCond .eq 11, 3) := by decide +kernel
theorem dX8_fits_17 : decode cX8_fits 17 = .ok (.aload_n 0, 1) := by decide +kernel
theorem dX8_fits_18 : decode cX8_fits 18 = .ok (.iload_n 1, 1) := by decide +kernel
theorem dX8_fits_19 : decode cX8_fits 19 = .ok (.invokevirtual 215, 3) := by decide +kernel
theorem dX8_fits_22 : decode cX8_fits 22 = .ok (.goto 4, 3) := by decide +kernel
theorem dX8_fits_25 : decode cX8_fits 25 = .ok (.iconst 1, 1) := by decide +kernel
theorem dX8_fits_26 : decode cX8_fits 26 = .ok (.istore 4, 2) := by decide +kernel
theorem dX8_fits_28 : decode cX8_fits 28 = .ok (.iload 4, 2) := by decide +kernel
theorem dX8_fits_30 : decode cX8_fits 30 = .ok (.ifCond .eq 10, 3) := by decide +kernel
theorem dX8_fits_33 : decode cX8_fits 33 = .ok (.aload_n 0, 1) := by decide +kernel
theorem dX8_fits_34 : decode cX8_fits 34 = .ok (.iload 4, 2) := by decide +kernel
theorem dX8_fits_36 : decode cX8_fits 36 = .ok (.invokevirtual 51, 3) := by decide +kernel
theorem dX8_fits_39 : decode cX8_fits 39 = .ok (.ireturn, 1) := by decide +kernel
theorem dX8_fits_40 : decode cX8_fits 40 = .ok (.iconst 0, 1) := by decide +kernel
theorem dX8_fits_41 : decode cX8_fits 41 = .ok (.istore 5, 2) := by decide +kernel
theorem dX8_fits_43 : decode cX8_fits 43 = .ok (.iconst (-1), 1) := by decide +kernel
theorem dX8_fits_44 : decode cX8_fits 44 = .ok (.istore 6, 2) := by decide +kernel
theorem dX8_fits_46 : decode cX8_fits 46 = .ok (.bipush 99, 2) := by decide +kernel
theorem dX8_fits_48 : decode cX8_fits 48 = .ok (.istore 7, 2) := by decide +kernel
theorem dX8_fits_50 : decode cX8_fits 50 = .ok (.iload 7, 2) := by decide +kernel
theorem dX8_fits_52 : decode cX8_fits 52 = .ok (.ifCond .lt 48, 3) := by decide +kernel
theorem dX8_fits_55 : decode cX8_fits 55 = .ok (.aload_n 0, 1) := by decide +kernel
theorem dX8_fits_56 : decode cX8_fits 56 = .ok (.iload_n 1, 1) := by decide +kernel
theorem dX8_fits_57 : decode cX8_fits 57 = .ok (.iload_n 2, 1) := by decide +kernel
theorem dX8_fits_58 : decode cX8_fits 58 = .ok (.iload 7, 2) := by decide +kernel
theorem dX8_fits_60 : decode cX8_fits 60 = .ok (.invokevirtual 218, 3) := by decide +kernel
theorem dX8_fits_63 : decode cX8_fits 63 = .ok (.istore 8, 2) := by decide +kernel
theorem dX8_fits_65 : decode cX8_fits 65 = .ok (.iload 5, 2) := by decide +kernel
theorem dX8_fits_67 : decode cX8_fits 67 = .ok (.iload 8, 2) := by decide +kernel
theorem dX8_fits_69 : decode cX8_fits 69 = .ok (.ifCond .eq 7, 3) := by decide +kernel
theorem dX8_fits_72 : decode cX8_fits 72 = .ok (.iconst 1, 1) := by decide +kernel
theorem dX8_fits_73 : decode cX8_fits 73 = .ok (.goto 4, 3) := by decide +kernel
theorem dX8_fits_76 : decode cX8_fits 76 = .ok (.iconst 0, 1) := by decide +kernel
theorem dX8_fits_77 : decode cX8_fits 77 = .ok (.iadd, 1) := by decide +kernel
theorem dX8_fits_78 : decode cX8_fits 78 = .ok (.istore 5, 2) := by decide +kernel
theorem dX8_fits_80 : decode cX8_fits 80 = .ok (.iload 8, 2) := by decide +kernel
theorem dX8_fits_82 : decode cX8_fits 82 = .ok (.ifCond .eq 8, 3) := by decide +kernel
theorem dX8_fits_85 : decode cX8_fits 85 = .ok (.iload 7, 2) := by decide +kernel
theorem dX8_fits_87 : decode cX8_fits 87 = .ok (.goto 5, 3) := by decide +kernel
theorem dX8_fits_90 : decode cX8_fits 90 = .ok (.iload 6, 2) := by decide +kernel
theorem dX8_fits_92 : decode cX8_fits 92 = .ok (.istore 6, 2) := by decide +kernel
theorem dX8_fits_94 : decode cX8_fits 94 = .ok (.iinc 7 (-1), 3) := by decide +kernel
theorem dX8_fits_97 : decode cX8_fits 97 = .ok (.goto (-47), 3) := by decide +kernel
theorem dX8_fits_100 : decode cX8_fits 100 = .ok (.iload_n 3, 1) := by decide +kernel
theorem dX8_fits_101 : decode cX8_fits 101 = .ok (.ifCond .ne 8, 3) := by decide +kernel
theorem dX8_fits_104 : decode cX8_fits 104 = .ok (.iload 5, 2) := by decide +kernel
theorem dX8_fits_106 : decode cX8_fits 106 = .ok (.goto 19, 3) := by decide +kernel
theorem dX8_fits_109 : decode cX8_fits 109 = .ok (.iload 6, 2) := by decide +kernel
theorem dX8_fits_111 : decode cX8_fits 111 = .ok (.iconst (-1), 1) := by decide +kernel
theorem dX8_fits_112 : decode cX8_fits 112 = .ok (.if_icmp .ne 11, 3) := by decide +kernel
theorem dX8_fits_115 : decode cX8_fits 115 = .ok (.aload_n 0, 1) := by decide +kernel
theorem dX8_fits_116 : decode cX8_fits 116 = .ok (.iconst 2, 1) := by decide +kernel
theorem dX8_fits_117 : decode cX8_fits 117 = .ok (.invokevirtual 51, 3) := by decide +kernel
theorem dX8_fits_120 : decode cX8_fits 120 = .ok (.goto 5, 3) := by decide +kernel
theorem dX8_fits_123 : decode cX8_fits 123 = .ok (.iload 6, 2) := by decide +kernel
theorem dX8_fits_125 : decode cX8_fits 125 = .ok (.ireturn, 1) := by decide +kernel
theorem dX8_starts_0 : decode cX8_starts 0 = .ok (.aload_n 0, 1) := by decide +kernel
theorem dX8_starts_1 : decode cX8_starts 1 = .ok (.getfield 221, 3) := by decide +kernel
theorem dX8_starts_4 : decode cX8_starts 4 = .ok (.bipush 30, 2) := by decide +kernel
theorem dX8_starts_6 : decode cX8_starts 6 = .ok (.if_icmp .ge 23, 3) := by decide +kernel
theorem dX8_starts_9 : decode cX8_starts 9 = .ok (.aload_n 0, 1) := by decide +kernel
theorem dX8_starts_10 : decode cX8_starts 10 = .ok (.getfield 31, 3) := by decide +kernel
theorem dX8_starts_13 : decode cX8_starts 13 = .ok (.aload_n 0, 1) := by decide +kernel
theorem dX8_starts_14 : decode cX8_starts 14 = .ok (.getfield 221, 3) := by decide +kernel
theorem dX8_starts_17 : decode cX8_starts 17 = .ok (.iload_n 1, 1) := by decide +kernel
theorem dX8_starts_18 : decode cX8_starts 18 = .ok (.iastore, 1) := by decide +kernel
theorem dX8_starts_19 : decode cX8_starts 19 = .ok (.aload_n 0, 1) := by decide +kernel
theorem dX8_starts_20 : decode cX8_starts 20 = .ok (.dup, 1) := by decide +kernel
theorem dX8_starts_21 : decode cX8_starts 21 = .ok (.getfield 221, 3) := by decide +kernel
theorem dX8_starts_24 : decode cX8_starts 24 = .ok (.iconst 1, 1) := by decide +kernel
theorem dX8_starts_25 : decode cX8_starts 25 = .ok (.iadd, 1) := by decide +kernel
theorem dX8_starts_26 : decode cX8_starts 26 = .ok (.putfield 221, 3) := by decide +kernel
theorem dX8_starts_29 : decode cX8_starts 29 = .ok (.return_, 1) := by decide +kernel
theorem dX8_above_0 : decode cX8_above 0 = .ok (.iload_n 0, 1) := by decide +kernel
theorem dX8_above_1 : decode cX8_above 1 = .ok (.iconst 4, 1) := by decide +kernel
theorem dX8_above_2 : decode cX8_above 2 = .ok (.if_icmp .ne 7, 3) := by decide +kernel
theorem dX8_above_5 : decode cX8_above 5 = .ok (.iconst 1, 1) := by decide +kernel
theorem dX8_above_6 : decode cX8_above 6 = .ok (.goto 13, 3) := by decide +kernel
theorem dX8_above_9 : decode cX8_above 9 = .ok (.iload_n 0, 1) := by decide +kernel
theorem dX8_above_10 : decode cX8_above 10 = .ok (.iconst 5, 1) := by decide +kernel
theorem dX8_above_11 : decode cX8_above 11 = .ok (.if_icmp .ne 7, 3) := by decide +kernel
theorem dX8_above_14 : decode cX8_above 14 = .ok (.iconst 2, 1) := by decide +kernel
theorem dX8_above_15 : decode cX8_above 15 = .ok (.goto 4, 3) := by decide +kernel
theorem dX8_above_18 : decode cX8_above 18 = .ok (.iconst 0, 1) := by decide +kernel
theorem dX8_above_19 : decode cX8_above 19 = .ok (.ireturn, 1) := by decide +kernel
theorem dX8_kindNow_0 : decode cX8_kindNow 0 = .ok (.aload_n 0, 1) := by decide +kernel
theorem dX8_kindNow_1 : decode cX8_kindNow 1 = .ok (.aload_n 0, 1) := by decide +kernel
theorem dX8_kindNow_2 : decode cX8_kindNow 2 = .ok (.getfield 224, 3) := by decide +kernel
theorem dX8_kindNow_5 : decode cX8_kindNow 5 = .ok (.iconst 0, 1) := by decide +kernel
theorem dX8_kindNow_6 : decode cX8_kindNow 6 = .ok (.invokevirtual 111, 3) := by decide +kernel
theorem dX8_kindNow_9 : decode cX8_kindNow 9 = .ok (.ireturn, 1) := by decide +kernel
theorem dX8_mNow_0 : decode cX8_mNow 0 = .ok (.aload_n 0, 1) := by decide +kernel
theorem dX8_mNow_1 : decode cX8_mNow 1 = .ok (.aload_n 0, 1) := by decide +kernel
theorem dX8_mNow_2 : decode cX8_mNow 2 = .ok (.getfield 224, 3) := by decide +kernel
theorem dX8_mNow_5 : decode cX8_mNow 5 = .ok (.iconst 1, 1) := by decide +kernel
theorem dX8_mNow_6 : decode cX8_mNow 6 = .ok (.invokevirtual 111, 3) := by decide +kernel
theorem dX8_mNow_9 : decode cX8_mNow 9 = .ok (.ireturn, 1) := by decide +kernel
theorem dX8_saysAs_0 : decode cX8_saysAs 0 = .ok (.iload_n 1, 1) := by decide +kernel
theorem dX8_saysAs_1 : decode cX8_saysAs 1 = .ok (.tableswitch 101 0 6 #[43, 56, 101, 101, 74, 101, 92], 43) := by decide +kernel
theorem dX8_saysAs_44 : decode cX8_saysAs 44 = .ok (.aload_n 0, 1) := by decide +kernel
theorem dX8_saysAs_45 : decode cX8_saysAs 45 = .ok (.bipush 10, 2) := by decide +kernel
theorem dX8_saysAs_47 : decode cX8_saysAs 47 = .ok (.invokevirtual 227, 3) := by decide +kernel
theorem dX8_saysAs_50 : decode cX8_saysAs 50 = .ok (.iload_n 2, 1) := by decide +kernel
theorem dX8_saysAs_51 : decode cX8_saysAs 51 = .ok (.aload_n 0, 1) := by decide +kernel
theorem dX8_saysAs_52 : decode cX8_saysAs 52 = .ok (.getfield 224, 3) := by decide +kernel
theorem dX8_saysAs_55 : decode cX8_saysAs 55 = .ok (.iadd, 1) := by decide +kernel
theorem dX8_saysAs_56 : decode cX8_saysAs 56 = .ok (.ireturn, 1) := by decide +kernel
theorem dX8_saysAs_57 : decode cX8_saysAs 57 = .ok (.aload_n 0, 1) := by decide +kernel
theorem dX8_saysAs_58 : decode cX8_saysAs 58 = .ok (.bipush 20, 2) := by decide +kernel
theorem dX8_saysAs_60 : decode cX8_saysAs 60 = .ok (.invokevirtual 227, 3) := by decide +kernel
theorem dX8_saysAs_63 : decode cX8_saysAs 63 = .ok (.aload_n 0, 1) := by decide +kernel
theorem dX8_saysAs_64 : decode cX8_saysAs 64 = .ok (.iconst 1, 1) := by decide +kernel
theorem dX8_saysAs_65 : decode cX8_saysAs 65 = .ok (.invokestatic 166, 3) := by decide +kernel
theorem dX8_saysAs_68 : decode cX8_saysAs 68 = .ok (.iload_n 2, 1) := by decide +kernel
theorem dX8_saysAs_69 : decode cX8_saysAs 69 = .ok (.invokevirtual 230, 3) := by decide +kernel
theorem dX8_saysAs_72 : decode cX8_saysAs 72 = .ok (.iconst 4, 1) := by decide +kernel
theorem dX8_saysAs_73 : decode cX8_saysAs 73 = .ok (.isub, 1) := by decide +kernel
theorem dX8_saysAs_74 : decode cX8_saysAs 74 = .ok (.ireturn, 1) := by decide +kernel
theorem dX8_saysAs_75 : decode cX8_saysAs 75 = .ok (.aload_n 0, 1) := by decide +kernel
theorem dX8_saysAs_76 : decode cX8_saysAs 76 = .ok (.bipush 50, 2) := by decide +kernel
theorem dX8_saysAs_78 : decode cX8_saysAs 78 = .ok (.invokevirtual 227, 3) := by decide +kernel
theorem dX8_saysAs_81 : decode cX8_saysAs 81 = .ok (.aload_n 0, 1) := by decide +kernel
theorem dX8_saysAs_82 : decode cX8_saysAs 82 = .ok (.iconst 4, 1) := by decide +kernel
theorem dX8_saysAs_83 : decode cX8_saysAs 83 = .ok (.invokestatic 166, 3) := by decide +kernel
theorem dX8_saysAs_86 : decode cX8_saysAs 86 = .ok (.iload_n 2, 1) := by decide +kernel
theorem dX8_saysAs_87 : decode cX8_saysAs 87 = .ok (.invokevirtual 230, 3) := by decide +kernel
theorem dX8_saysAs_90 : decode cX8_saysAs 90 = .ok (.iconst 3, 1) := by decide +kernel
theorem dX8_saysAs_91 : decode cX8_saysAs 91 = .ok (.imul, 1) := by decide +kernel
theorem dX8_saysAs_92 : decode cX8_saysAs 92 = .ok (.ireturn, 1) := by decide +kernel
theorem dX8_saysAs_93 : decode cX8_saysAs 93 = .ok (.aload_n 0, 1) := by decide +kernel
theorem dX8_saysAs_94 : decode cX8_saysAs 94 = .ok (.bipush 70, 2) := by decide +kernel
theorem dX8_saysAs_96 : decode cX8_saysAs 96 = .ok (.invokevirtual 227, 3) := by decide +kernel
theorem dX8_saysAs_99 : decode cX8_saysAs 99 = .ok (.bipush 9, 2) := by decide +kernel
theorem dX8_saysAs_101 : decode cX8_saysAs 101 = .ok (.ireturn, 1) := by decide +kernel
theorem dX8_saysAs_102 : decode cX8_saysAs 102 = .ok (.aload_n 0, 1) := by decide +kernel
theorem dX8_saysAs_103 : decode cX8_saysAs 103 = .ok (.iload_n 1, 1) := by decide +kernel
theorem dX8_saysAs_104 : decode cX8_saysAs 104 = .ok (.invokestatic 166, 3) := by decide +kernel
theorem dX8_saysAs_107 : decode cX8_saysAs 107 = .ok (.iload_n 2, 1) := by decide +kernel
theorem dX8_saysAs_108 : decode cX8_saysAs 108 = .ok (.invokevirtual 230, 3) := by decide +kernel
theorem dX8_saysAs_111 : decode cX8_saysAs 111 = .ok (.ireturn, 1) := by decide +kernel
theorem dX8_seesAs_0 : decode cX8_seesAs 0 = .ok (.iload_n 1, 1) := by decide +kernel
theorem dX8_seesAs_1 : decode cX8_seesAs 1 = .ok (.tableswitch 119 0 6 #[43, 119, 61, 119, 119, 79, 97], 43) := by decide +kernel
theorem dX8_seesAs_44 : decode cX8_seesAs 44 = .ok (.aload_n 0, 1) := by decide +kernel
theorem dX8_seesAs_45 : decode cX8_seesAs 45 = .ok (.bipush 11, 2) := by decide +kernel
theorem dX8_seesAs_47 : decode cX8_seesAs 47 = .ok (.invokevirtual 227, 3) := by decide +kernel
theorem dX8_seesAs_50 : decode cX8_seesAs 50 = .ok (.aload_n 0, 1) := by decide +kernel
theorem dX8_seesAs_51 : decode cX8_seesAs 51 = .ok (.aload_n 0, 1) := by decide +kernel
theorem dX8_seesAs_52 : decode cX8_seesAs 52 = .ok (.invokevirtual 233, 3) := by decide +kernel
theorem dX8_seesAs_55 : decode cX8_seesAs 55 = .ok (.iload_n 2, 1) := by decide +kernel
theorem dX8_seesAs_56 : decode cX8_seesAs 56 = .ok (.invokevirtual 230, 3) := by decide +kernel
theorem dX8_seesAs_59 : decode cX8_seesAs 59 = .ok (.iconst 2, 1) := by decide +kernel
theorem dX8_seesAs_60 : decode cX8_seesAs 60 = .ok (.imul, 1) := by decide +kernel
theorem dX8_seesAs_61 : decode cX8_seesAs 61 = .ok (.ireturn, 1) := by decide +kernel
theorem dX8_seesAs_62 : decode cX8_seesAs 62 = .ok (.aload_n 0, 1) := by decide +kernel
theorem dX8_seesAs_63 : decode cX8_seesAs 63 = .ok (.bipush 30, 2) := by decide +kernel
theorem dX8_seesAs_65 : decode cX8_seesAs 65 = .ok (.invokevirtual 227, 3) := by decide +kernel
theorem dX8_seesAs_68 : decode cX8_seesAs 68 = .ok (.iconst 0, 1) := by decide +kernel
theorem dX8_seesAs_69 : decode cX8_seesAs 69 = .ok (.aload_n 0, 1) := by decide +kernel
theorem dX8_seesAs_70 : decode cX8_seesAs 70 = .ok (.iconst 2, 1) := by decide +kernel
theorem dX8_seesAs_71 : decode cX8_seesAs 71 = .ok (.invokestatic 166, 3) := by decide +kernel
theorem dX8_seesAs_74 : decode cX8_seesAs 74 = .ok (.iload_n 2, 1) := by decide +kernel
theorem dX8_seesAs_75 : decode cX8_seesAs 75 = .ok (.invokevirtual 236, 3) := by decide +kernel
theorem dX8_seesAs_78 : decode cX8_seesAs 78 = .ok (.isub, 1) := by decide +kernel
theorem dX8_seesAs_79 : decode cX8_seesAs 79 = .ok (.ireturn, 1) := by decide +kernel
theorem dX8_seesAs_80 : decode cX8_seesAs 80 = .ok (.aload_n 0, 1) := by decide +kernel
theorem dX8_seesAs_81 : decode cX8_seesAs 81 = .ok (.bipush 60, 2) := by decide +kernel
theorem dX8_seesAs_83 : decode cX8_seesAs 83 = .ok (.invokevirtual 227, 3) := by decide +kernel
theorem dX8_seesAs_86 : decode cX8_seesAs 86 = .ok (.aload_n 0, 1) := by decide +kernel
theorem dX8_seesAs_87 : decode cX8_seesAs 87 = .ok (.iconst 5, 1) := by decide +kernel
theorem dX8_seesAs_88 : decode cX8_seesAs 88 = .ok (.invokestatic 166, 3) := by decide +kernel
theorem dX8_seesAs_91 : decode cX8_seesAs 91 = .ok (.iload_n 2, 1) := by decide +kernel
theorem dX8_seesAs_92 : decode cX8_seesAs 92 = .ok (.iconst 1, 1) := by decide +kernel
theorem dX8_seesAs_93 : decode cX8_seesAs 93 = .ok (.iadd, 1) := by decide +kernel
theorem dX8_seesAs_94 : decode cX8_seesAs 94 = .ok (.invokevirtual 236, 3) := by decide +kernel
theorem dX8_seesAs_97 : decode cX8_seesAs 97 = .ok (.ireturn, 1) := by decide +kernel
theorem dX8_seesAs_98 : decode cX8_seesAs 98 = .ok (.aload_n 0, 1) := by decide +kernel
theorem dX8_seesAs_99 : decode cX8_seesAs 99 = .ok (.bipush 71, 2) := by decide +kernel
theorem dX8_seesAs_101 : decode cX8_seesAs 101 = .ok (.invokevirtual 227, 3) := by decide +kernel
theorem dX8_seesAs_104 : decode cX8_seesAs 104 = .ok (.aload_n 0, 1) := by decide +kernel
theorem dX8_seesAs_105 : decode cX8_seesAs 105 = .ok (.bipush 6, 2) := by decide +kernel
theorem dX8_seesAs_107 : decode cX8_seesAs 107 = .ok (.invokestatic 166, 3) := by decide +kernel
theorem dX8_seesAs_110 : decode cX8_seesAs 110 = .ok (.iload_n 2, 1) := by decide +kernel
theorem dX8_seesAs_111 : decode cX8_seesAs 111 = .ok (.invokevirtual 236, 3) := by decide +kernel
theorem dX8_seesAs_114 : decode cX8_seesAs 114 = .ok (.aload_n 0, 1) := by decide +kernel
theorem dX8_seesAs_115 : decode cX8_seesAs 115 = .ok (.invokevirtual 239, 3) := by decide +kernel
theorem dX8_seesAs_118 : decode cX8_seesAs 118 = .ok (.iadd, 1) := by decide +kernel
theorem dX8_seesAs_119 : decode cX8_seesAs 119 = .ok (.ireturn, 1) := by decide +kernel
theorem dX8_seesAs_120 : decode cX8_seesAs 120 = .ok (.aload_n 0, 1) := by decide +kernel
theorem dX8_seesAs_121 : decode cX8_seesAs 121 = .ok (.iload_n 1, 1) := by decide +kernel
theorem dX8_seesAs_122 : decode cX8_seesAs 122 = .ok (.invokestatic 166, 3) := by decide +kernel
theorem dX8_seesAs_125 : decode cX8_seesAs 125 = .ok (.iload_n 2, 1) := by decide +kernel
theorem dX8_seesAs_126 : decode cX8_seesAs 126 = .ok (.invokevirtual 236, 3) := by decide +kernel
theorem dX8_seesAs_129 : decode cX8_seesAs 129 = .ok (.ireturn, 1) := by decide +kernel
theorem dX8_walksAs_0 : decode cX8_walksAs 0 = .ok (.iload_n 1, 1) := by decide +kernel
theorem dX8_walksAs_1 : decode cX8_walksAs 1 = .ok (.tableswitch 95 0 4 #[35, 95, 95, 56, 74], 35) := by decide +kernel
theorem dX8_walksAs_36 : decode cX8_walksAs 36 = .ok (.aload_n 0, 1) := by decide +kernel
theorem dX8_walksAs_37 : decode cX8_walksAs 37 = .ok (.bipush 12, 2) := by decide +kernel
theorem dX8_walksAs_39 : decode cX8_walksAs 39 = .ok (.invokevirtual 227, 3) := by decide +kernel
theorem dX8_walksAs_42 : decode cX8_walksAs 42 = .ok (.aload_n 0, 1) := by decide +kernel
theorem dX8_walksAs_43 : decode cX8_walksAs 43 = .ok (.aload_n 0, 1) := by decide +kernel
theorem dX8_walksAs_44 : decode cX8_walksAs 44 = .ok (.invokevirtual 233, 3) := by decide +kernel
theorem dX8_walksAs_47 : decode cX8_walksAs 47 = .ok (.iload_n 2, 1) := by decide +kernel
theorem dX8_walksAs_48 : decode cX8_walksAs 48 = .ok (.invokevirtual 236, 3) := by decide +kernel
theorem dX8_walksAs_51 : decode cX8_walksAs 51 = .ok (.aload_n 0, 1) := by decide +kernel
theorem dX8_walksAs_52 : decode cX8_walksAs 52 = .ok (.invokevirtual 239, 3) := by decide +kernel
theorem dX8_walksAs_55 : decode cX8_walksAs 55 = .ok (.isub, 1) := by decide +kernel
theorem dX8_walksAs_56 : decode cX8_walksAs 56 = .ok (.ireturn, 1) := by decide +kernel
theorem dX8_walksAs_57 : decode cX8_walksAs 57 = .ok (.aload_n 0, 1) := by decide +kernel
theorem dX8_walksAs_58 : decode cX8_walksAs 58 = .ok (.bipush 40, 2) := by decide +kernel
theorem dX8_walksAs_60 : decode cX8_walksAs 60 = .ok (.invokevirtual 227, 3) := by decide +kernel
theorem dX8_walksAs_63 : decode cX8_walksAs 63 = .ok (.aload_n 0, 1) := by decide +kernel
theorem dX8_walksAs_64 : decode cX8_walksAs 64 = .ok (.iconst 3, 1) := by decide +kernel
theorem dX8_walksAs_65 : decode cX8_walksAs 65 = .ok (.invokestatic 166, 3) := by decide +kernel
theorem dX8_walksAs_68 : decode cX8_walksAs 68 = .ok (.iload_n 2, 1) := by decide +kernel
theorem dX8_walksAs_69 : decode cX8_walksAs 69 = .ok (.iconst 2, 1) := by decide +kernel
theorem dX8_walksAs_70 : decode cX8_walksAs 70 = .ok (.idiv, 1) := by decide +kernel
theorem dX8_walksAs_71 : decode cX8_walksAs 71 = .ok (.invokevirtual 242, 3) := by decide +kernel
theorem dX8_walksAs_74 : decode cX8_walksAs 74 = .ok (.ireturn, 1) := by decide +kernel
theorem dX8_walksAs_75 : decode cX8_walksAs 75 = .ok (.aload_n 0, 1) := by decide +kernel
theorem dX8_walksAs_76 : decode cX8_walksAs 76 = .ok (.bipush 51, 2) := by decide +kernel
theorem dX8_walksAs_78 : decode cX8_walksAs 78 = .ok (.invokevirtual 227, 3) := by decide +kernel
theorem dX8_walksAs_81 : decode cX8_walksAs 81 = .ok (.aload_n 0, 1) := by decide +kernel
theorem dX8_walksAs_82 : decode cX8_walksAs 82 = .ok (.iconst 4, 1) := by decide +kernel
theorem dX8_walksAs_83 : decode cX8_walksAs 83 = .ok (.invokestatic 166, 3) := by decide +kernel
theorem dX8_walksAs_86 : decode cX8_walksAs 86 = .ok (.iload_n 2, 1) := by decide +kernel
theorem dX8_walksAs_87 : decode cX8_walksAs 87 = .ok (.invokevirtual 242, 3) := by decide +kernel
theorem dX8_walksAs_90 : decode cX8_walksAs 90 = .ok (.aload_n 0, 1) := by decide +kernel
theorem dX8_walksAs_91 : decode cX8_walksAs 91 = .ok (.getfield 224, 3) := by decide +kernel
theorem dX8_walksAs_94 : decode cX8_walksAs 94 = .ok (.ixor, 1) := by decide +kernel
theorem dX8_walksAs_95 : decode cX8_walksAs 95 = .ok (.ireturn, 1) := by decide +kernel
theorem dX8_walksAs_96 : decode cX8_walksAs 96 = .ok (.aload_n 0, 1) := by decide +kernel
theorem dX8_walksAs_97 : decode cX8_walksAs 97 = .ok (.iload_n 1, 1) := by decide +kernel
theorem dX8_walksAs_98 : decode cX8_walksAs 98 = .ok (.invokestatic 166, 3) := by decide +kernel
theorem dX8_walksAs_101 : decode cX8_walksAs 101 = .ok (.iload_n 2, 1) := by decide +kernel
theorem dX8_walksAs_102 : decode cX8_walksAs 102 = .ok (.invokevirtual 242, 3) := by decide +kernel
theorem dX8_walksAs_105 : decode cX8_walksAs 105 = .ok (.ireturn, 1) := by decide +kernel
theorem dX8_partsAs_0 : decode cX8_partsAs 0 = .ok (.iload_n 1, 1) := by decide +kernel
theorem dX8_partsAs_1 : decode cX8_partsAs 1 = .ok (.lookupswitch 119 #[(0, 27), (1, 78)], 27) := by decide +kernel
theorem dX8_partsAs_28 : decode cX8_partsAs 28 = .ok (.aload_n 0, 1) := by decide +kernel
theorem dX8_partsAs_29 : decode cX8_partsAs 29 = .ok (.bipush 13, 2) := by decide +kernel
theorem dX8_partsAs_31 : decode cX8_partsAs 31 = .ok (.invokevirtual 227, 3) := by decide +kernel
theorem dX8_partsAs_34 : decode cX8_partsAs 34 = .ok (.aload_n 0, 1) := by decide +kernel
theorem dX8_partsAs_35 : decode cX8_partsAs 35 = .ok (.invokevirtual 239, 3) := by decide +kernel
theorem dX8_partsAs_38 : decode cX8_partsAs 38 = .ok (.aload_n 0, 1) := by decide +kernel
theorem dX8_partsAs_39 : decode cX8_partsAs 39 = .ok (.getfield 224, 3) := by decide +kernel
theorem dX8_partsAs_42 : decode cX8_partsAs 42 = .ok (.isub, 1) := by decide +kernel
theorem dX8_partsAs_43 : decode cX8_partsAs 43 = .ok (.istore_n 3, 1) := by decide +kernel
theorem dX8_partsAs_44 : decode cX8_partsAs 44 = .ok (.aload_n 0, 1) := by decide +kernel
theorem dX8_partsAs_45 : decode cX8_partsAs 45 = .ok (.iload_n 3, 1) := by decide +kernel
theorem dX8_partsAs_46 : decode cX8_partsAs 46 = .ok (.ifCond .ne 7, 3) := by decide +kernel
theorem dX8_partsAs_49 : decode cX8_partsAs 49 = .ok (.iconst 1, 1) := by decide +kernel
theorem dX8_partsAs_50 : decode cX8_partsAs 50 = .ok (.goto 4, 3) := by decide +kernel
theorem dX8_partsAs_53 : decode cX8_partsAs 53 = .ok (.iconst 0, 1) := by decide +kernel
theorem dX8_partsAs_54 : decode cX8_partsAs 54 = .ok (.putfield 245, 3) := by decide +kernel
theorem dX8_partsAs_57 : decode cX8_partsAs 57 = .ok (.iload_n 3, 1) := by decide +kernel
theorem dX8_partsAs_58 : decode cX8_partsAs 58 = .ok (.ifCond .ne 7, 3) := by decide +kernel
theorem dX8_partsAs_61 : decode cX8_partsAs 61 = .ok (.iconst 0, 1) := by decide +kernel
theorem dX8_partsAs_62 : decode cX8_partsAs 62 = .ok (.goto 16, 3) := by decide +kernel
theorem dX8_partsAs_65 : decode cX8_partsAs 65 = .ok (.iload_n 3, 1) := by decide +kernel
theorem dX8_partsAs_66 : decode cX8_partsAs 66 = .ok (.iconst (-1), 1) := by decide +kernel
theorem dX8_partsAs_67 : decode cX8_partsAs 67 = .ok (.if_icmp .ne 8, 3) := by decide +kernel
theorem dX8_partsAs_70 : decode cX8_partsAs 70 = .ok (.iload_n 2, 1) := by decide +kernel
theorem dX8_partsAs_71 : decode cX8_partsAs 71 = .ok (.ineg, 1) := by decide +kernel
theorem dX8_partsAs_72 : decode cX8_partsAs 72 = .ok (.goto 6, 3) := by decide +kernel
theorem dX8_partsAs_75 : decode cX8_partsAs 75 = .ok (.iload_n 2, 1) := by decide +kernel
theorem dX8_partsAs_76 : decode cX8_partsAs 76 = .ok (.iload_n 3, 1) := by decide +kernel
theorem dX8_partsAs_77 : decode cX8_partsAs 77 = .ok (.idiv, 1) := by decide +kernel
theorem dX8_partsAs_78 : decode cX8_partsAs 78 = .ok (.ireturn, 1) := by decide +kernel
theorem dX8_partsAs_79 : decode cX8_partsAs 79 = .ok (.aload_n 0, 1) := by decide +kernel
theorem dX8_partsAs_80 : decode cX8_partsAs 80 = .ok (.bipush 21, 2) := by decide +kernel
theorem dX8_partsAs_82 : decode cX8_partsAs 82 = .ok (.invokevirtual 227, 3) := by decide +kernel
theorem dX8_partsAs_85 : decode cX8_partsAs 85 = .ok (.aload_n 0, 1) := by decide +kernel
theorem dX8_partsAs_86 : decode cX8_partsAs 86 = .ok (.iconst 1, 1) := by decide +kernel
theorem dX8_partsAs_87 : decode cX8_partsAs 87 = .ok (.invokestatic 166, 3) := by decide +kernel
theorem dX8_partsAs_90 : decode cX8_partsAs 90 = .ok (.iload_n 2, 1) := by decide +kernel
theorem dX8_partsAs_91 : decode cX8_partsAs 91 = .ok (.invokevirtual 249, 3) := by decide +kernel
theorem dX8_partsAs_94 : decode cX8_partsAs 94 = .ok (.istore 4, 2) := by decide +kernel
theorem dX8_partsAs_96 : decode cX8_partsAs 96 = .ok (.aload_n 0, 1) := by decide +kernel
theorem dX8_partsAs_97 : decode cX8_partsAs 97 = .ok (.getfield 245, 3) := by decide +kernel
theorem dX8_partsAs_100 : decode cX8_partsAs 100 = .ok (.ifCond .eq 7, 3) := by decide +kernel
theorem dX8_partsAs_103 : decode cX8_partsAs 103 = .ok (.iconst 0, 1) := by decide +kernel
theorem dX8_partsAs_104 : decode cX8_partsAs 104 = .ok (.goto 15, 3) := by decide +kernel
theorem dX8_partsAs_107 : decode cX8_partsAs 107 = .ok (.iload 4, 2) := by decide +kernel
theorem dX8_partsAs_109 : decode cX8_partsAs 109 = .ok (.aload_n 0, 1) := by decide +kernel
theorem dX8_partsAs_110 : decode cX8_partsAs 110 = .ok (.aload_n 0, 1) := by decide +kernel
theorem dX8_partsAs_111 : decode cX8_partsAs 111 = .ok (.invokevirtual 233, 3) := by decide +kernel
theorem dX8_partsAs_114 : decode cX8_partsAs 114 = .ok (.iconst 1, 1) := by decide +kernel
theorem dX8_partsAs_115 : decode cX8_partsAs 115 = .ok (.invokevirtual 236, 3) := by decide +kernel
theorem dX8_partsAs_118 : decode cX8_partsAs 118 = .ok (.iadd, 1) := by decide +kernel
theorem dX8_partsAs_119 : decode cX8_partsAs 119 = .ok (.ireturn, 1) := by decide +kernel
theorem dX8_partsAs_120 : decode cX8_partsAs 120 = .ok (.aload_n 0, 1) := by decide +kernel
theorem dX8_partsAs_121 : decode cX8_partsAs 121 = .ok (.iload_n 1, 1) := by decide +kernel
theorem dX8_partsAs_122 : decode cX8_partsAs 122 = .ok (.invokestatic 166, 3) := by decide +kernel
theorem dX8_partsAs_125 : decode cX8_partsAs 125 = .ok (.iload_n 2, 1) := by decide +kernel
theorem dX8_partsAs_126 : decode cX8_partsAs 126 = .ok (.invokevirtual 249, 3) := by decide +kernel
theorem dX8_partsAs_129 : decode cX8_partsAs 129 = .ok (.ireturn, 1) := by decide +kernel
theorem dX8_voice_0 : decode cX8_voice 0 = .ok (.aload_n 0, 1) := by decide +kernel
theorem dX8_voice_1 : decode cX8_voice 1 = .ok (.iload_n 1, 1) := by decide +kernel
theorem dX8_voice_2 : decode cX8_voice 2 = .ok (.invokevirtual 157, 3) := by decide +kernel
theorem dX8_voice_5 : decode cX8_voice 5 = .ok (.ifCond .eq 12, 3) := by decide +kernel
theorem dX8_voice_8 : decode cX8_voice 8 = .ok (.iload_n 2, 1) := by decide +kernel
theorem dX8_voice_9 : decode cX8_voice 9 = .ok (.iconst 0, 1) := by decide +kernel
theorem dX8_voice_10 : decode cX8_voice 10 = .ok (.iconst 3, 1) := by decide +kernel
theorem dX8_voice_11 : decode cX8_voice 11 = .ok (.invokestatic 47, 3) := by decide +kernel
theorem dX8_voice_14 : decode cX8_voice 14 = .ok (.ifCond .ne 9, 3) := by decide +kernel
theorem dX8_voice_17 : decode cX8_voice 17 = .ok (.aload_n 0, 1) := by decide +kernel
theorem dX8_voice_18 : decode cX8_voice 18 = .ok (.iconst 1, 1) := by decide +kernel
theorem dX8_voice_19 : decode cX8_voice 19 = .ok (.invokevirtual 51, 3) := by decide +kernel
theorem dX8_voice_22 : decode cX8_voice 22 = .ok (.ireturn, 1) := by decide +kernel
theorem dX8_voice_23 : decode cX8_voice 23 = .ok (.aload_n 0, 1) := by decide +kernel
theorem dX8_voice_24 : decode cX8_voice 24 = .ok (.iconst 0, 1) := by decide +kernel
theorem dX8_voice_25 : decode cX8_voice 25 = .ok (.putfield 221, 3) := by decide +kernel
theorem dX8_voice_28 : decode cX8_voice 28 = .ok (.aload_n 0, 1) := by decide +kernel
theorem dX8_voice_29 : decode cX8_voice 29 = .ok (.iload_n 1, 1) := by decide +kernel
theorem dX8_voice_30 : decode cX8_voice 30 = .ok (.putfield 224, 3) := by decide +kernel
theorem dX8_voice_33 : decode cX8_voice 33 = .ok (.aload_n 0, 1) := by decide +kernel
theorem dX8_voice_34 : decode cX8_voice 34 = .ok (.iconst 0, 1) := by decide +kernel
theorem dX8_voice_35 : decode cX8_voice 35 = .ok (.putfield 245, 3) := by decide +kernel
theorem dX8_voice_38 : decode cX8_voice 38 = .ok (.aload_n 0, 1) := by decide +kernel
theorem dX8_voice_39 : decode cX8_voice 39 = .ok (.invokevirtual 233, 3) := by decide +kernel
theorem dX8_voice_42 : decode cX8_voice 42 = .ok (.istore 4, 2) := by decide +kernel
theorem dX8_voice_44 : decode cX8_voice 44 = .ok (.iload_n 2, 1) := by decide +kernel
theorem dX8_voice_45 : decode cX8_voice 45 = .ok (.ifCond .ne 13, 3) := by decide +kernel
theorem dX8_voice_48 : decode cX8_voice 48 = .ok (.aload_n 0, 1) := by decide +kernel
theorem dX8_voice_49 : decode cX8_voice 49 = .ok (.iload 4, 2) := by decide +kernel
theorem dX8_voice_51 : decode cX8_voice 51 = .ok (.iload_n 3, 1) := by decide +kernel
theorem dX8_voice_52 : decode cX8_voice 52 = .ok (.invokevirtual 230, 3) := by decide +kernel
theorem dX8_voice_55 : decode cX8_voice 55 = .ok (.goto 40, 3) := by decide +kernel
theorem dX8_voice_58 : decode cX8_voice 58 = .ok (.iload_n 2, 1) := by decide +kernel
theorem dX8_voice_59 : decode cX8_voice 59 = .ok (.iconst 1, 1) := by decide +kernel
theorem dX8_voice_60 : decode cX8_voice 60 = .ok (.if_icmp .ne 13, 3) := by decide +kernel
theorem dX8_voice_63 : decode cX8_voice 63 = .ok (.aload_n 0, 1) := by decide +kernel
theorem dX8_voice_64 : decode cX8_voice 64 = .ok (.iload 4, 2) := by decide +kernel
theorem dX8_voice_66 : decode cX8_voice 66 = .ok (.iload_n 3, 1) := by decide +kernel
theorem dX8_voice_67 : decode cX8_voice 67 = .ok (.invokevirtual 236, 3) := by decide +kernel
theorem dX8_voice_70 : decode cX8_voice 70 = .ok (.goto 25, 3) := by decide +kernel
theorem dX8_voice_73 : decode cX8_voice 73 = .ok (.iload_n 2, 1) := by decide +kernel
theorem dX8_voice_74 : decode cX8_voice 74 = .ok (.iconst 2, 1) := by decide +kernel
theorem dX8_voice_75 : decode cX8_voice 75 = .ok (.if_icmp .ne 13, 3) := by decide +kernel
theorem dX8_voice_78 : decode cX8_voice 78 = .ok (.aload_n 0, 1) := by decide +kernel
theorem dX8_voice_79 : decode cX8_voice 79 = .ok (.iload 4, 2) := by decide +kernel
theorem dX8_voice_81 : decode cX8_voice 81 = .ok (.iload_n 3, 1) := by decide +kernel
theorem dX8_voice_82 : decode cX8_voice 82 = .ok (.invokevirtual 242, 3) := by decide +kernel
theorem dX8_voice_85 : decode cX8_voice 85 = .ok (.goto 10, 3) := by decide +kernel
theorem dX8_voice_88 : decode cX8_voice 88 = .ok (.aload_n 0, 1) := by decide +kernel
theorem dX8_voice_89 : decode cX8_voice 89 = .ok (.iload 4, 2) := by decide +kernel
theorem dX8_voice_91 : decode cX8_voice 91 = .ok (.iload_n 3, 1) := by decide +kernel
theorem dX8_voice_92 : decode cX8_voice 92 = .ok (.invokevirtual 249, 3) := by decide +kernel
theorem dX8_voice_95 : decode cX8_voice 95 = .ok (.istore 5, 2) := by decide +kernel
theorem dX8_voice_97 : decode cX8_voice 97 = .ok (.aload_n 0, 1) := by decide +kernel
theorem dX8_voice_98 : decode cX8_voice 98 = .ok (.getfield 245, 3) := by decide +kernel
theorem dX8_voice_101 : decode cX8_voice 101 = .ok (.ifCond .eq 12, 3) := by decide +kernel
theorem dX8_voice_104 : decode cX8_voice 104 = .ok (.aload_n 0, 1) := by decide +kernel
theorem dX8_voice_105 : decode cX8_voice 105 = .ok (.bipush 6, 2) := by decide +kernel
theorem dX8_voice_107 : decode cX8_voice 107 = .ok (.invokevirtual 51, 3) := by decide +kernel
theorem dX8_voice_110 : decode cX8_voice 110 = .ok (.goto 5, 3) := by decide +kernel
theorem dX8_voice_113 : decode cX8_voice 113 = .ok (.iload 5, 2) := by decide +kernel
theorem dX8_voice_115 : decode cX8_voice 115 = .ok (.ireturn, 1) := by decide +kernel
theorem dX8_body_0 : decode cX8_body 0 = .ok (.iload_n 1, 1) := by decide +kernel
theorem dX8_body_1 : decode cX8_body 1 = .ok (.iconst 0, 1) := by decide +kernel
theorem dX8_body_2 : decode cX8_body 2 = .ok (.aload_n 0, 1) := by decide +kernel
theorem dX8_body_3 : decode cX8_body 3 = .ok (.getfield 221, 3) := by decide +kernel
theorem dX8_body_6 : decode cX8_body 6 = .ok (.iconst 1, 1) := by decide +kernel
theorem dX8_body_7 : decode cX8_body 7 = .ok (.isub, 1) := by decide +kernel
theorem dX8_body_8 : decode cX8_body 8 = .ok (.invokestatic 47, 3) := by decide +kernel
theorem dX8_body_11 : decode cX8_body 11 = .ok (.ifCond .eq 12, 3) := by decide +kernel
theorem dX8_body_14 : decode cX8_body 14 = .ok (.aload_n 0, 1) := by decide +kernel
theorem dX8_body_15 : decode cX8_body 15 = .ok (.getfield 31, 3) := by decide +kernel
theorem dX8_body_18 : decode cX8_body 18 = .ok (.iload_n 1, 1) := by decide +kernel
theorem dX8_body_19 : decode cX8_body 19 = .ok (.iaload, 1) := by decide +kernel
theorem dX8_body_20 : decode cX8_body 20 = .ok (.goto 8, 3) := by decide +kernel
theorem dX8_body_23 : decode cX8_body 23 = .ok (.aload_n 0, 1) := by decide +kernel
theorem dX8_body_24 : decode cX8_body 24 = .ok (.iconst 2, 1) := by decide +kernel
theorem dX8_body_25 : decode cX8_body 25 = .ok (.invokevirtual 51, 3) := by decide +kernel
theorem dX8_body_28 : decode cX8_body 28 = .ok (.ireturn, 1) := by decide +kernel
theorem dX8_isSheet_0 : decode cX8_isSheet 0 = .ok (.iload_n 0, 1) := by decide +kernel
theorem dX8_isSheet_1 : decode cX8_isSheet 1 = .ok (.iconst 0, 1) := by decide +kernel
theorem dX8_isSheet_2 : decode cX8_isSheet 2 = .ok (.iconst 3, 1) := by decide +kernel
theorem dX8_isSheet_3 : decode cX8_isSheet 3 = .ok (.invokestatic 47, 3) := by decide +kernel
theorem dX8_isSheet_6 : decode cX8_isSheet 6 = .ok (.ireturn, 1) := by decide +kernel
theorem dX8_sheet_0 : decode cX8_sheet 0 = .ok (.iload_n 1, 1) := by decide +kernel
theorem dX8_sheet_1 : decode cX8_sheet 1 = .ok (.invokestatic 252, 3) := by decide +kernel
theorem dX8_sheet_4 : decode cX8_sheet 4 = .ok (.ifCond .eq 25, 3) := by decide +kernel
theorem dX8_sheet_7 : decode cX8_sheet 7 = .ok (.iload_n 2, 1) := by decide +kernel
theorem dX8_sheet_8 : decode cX8_sheet 8 = .ok (.ifCond .eq 27, 3) := by decide +kernel
theorem dX8_sheet_11 : decode cX8_sheet 11 = .ok (.iload_n 2, 1) := by decide +kernel
theorem dX8_sheet_12 : decode cX8_sheet 12 = .ok (.bipush 8, 2) := by decide +kernel
theorem dX8_sheet_14 : decode cX8_sheet 14 = .ok (.if_icmp .eq 21, 3) := by decide +kernel
theorem dX8_sheet_17 : decode cX8_sheet 17 = .ok (.iload_n 2, 1) := by decide +kernel
theorem dX8_sheet_18 : decode cX8_sheet 18 = .ok (.bipush 16, 2) := by decide +kernel
theorem dX8_sheet_20 : decode cX8_sheet 20 = .ok (.if_icmp .eq 15, 3) := by decide +kernel
theorem dX8_sheet_23 : decode cX8_sheet 23 = .ok (.iload_n 2, 1) := by decide +kernel
theorem dX8_sheet_24 : decode cX8_sheet 24 = .ok (.bipush 32, 2) := by decide +kernel
theorem dX8_sheet_26 : decode cX8_sheet 26 = .ok (.if_icmp .eq 9, 3) := by decide +kernel
theorem dX8_sheet_29 : decode cX8_sheet 29 = .ok (.aload_n 0, 1) := by decide +kernel
theorem dX8_sheet_30 : decode cX8_sheet 30 = .ok (.iconst 1, 1) := by decide +kernel
theorem dX8_sheet_31 : decode cX8_sheet 31 = .ok (.invokevirtual 51, 3) := by decide +kernel
theorem dX8_sheet_34 : decode cX8_sheet 34 = .ok (.ireturn, 1) := by decide +kernel
theorem dX8_sheet_35 : decode cX8_sheet 35 = .ok (.iload_n 2, 1) := by decide +kernel
theorem dX8_sheet_36 : decode cX8_sheet 36 = .ok (.ifCond .eq 13, 3) := by decide +kernel
theorem dX8_sheet_39 : decode cX8_sheet 39 = .ok (.iload_n 3, 1) := by decide +kernel
theorem dX8_sheet_40 : decode cX8_sheet 40 = .ok (.ifCond .ge 9, 3) := by decide +kernel
theorem dX8_sheet_43 : decode cX8_sheet 43 = .ok (.aload_n 0, 1) := by decide +kernel
theorem dX8_sheet_44 : decode cX8_sheet 44 = .ok (.iconst 3, 1) := by decide +kernel
theorem dX8_sheet_45 : decode cX8_sheet 45 = .ok (.invokevirtual 51, 3) := by decide +kernel
theorem dX8_sheet_48 : decode cX8_sheet 48 = .ok (.ireturn, 1) := by decide +kernel
theorem dX8_sheet_49 : decode cX8_sheet 49 = .ok (.iload_n 2, 1) := by decide +kernel
theorem dX8_sheet_50 : decode cX8_sheet 50 = .ok (.ifCond .eq 15, 3) := by decide +kernel
theorem dX8_sheet_53 : decode cX8_sheet 53 = .ok (.iload_n 3, 1) := by decide +kernel
theorem dX8_sheet_54 : decode cX8_sheet 54 = .ok (.bipush 24, 2) := by decide +kernel
theorem dX8_sheet_56 : decode cX8_sheet 56 = .ok (.if_icmp .le 9, 3) := by decide +kernel
theorem dX8_sheet_59 : decode cX8_sheet 59 = .ok (.aload_n 0, 1) := by decide +kernel
theorem dX8_sheet_60 : decode cX8_sheet 60 = .ok (.iconst 1, 1) := by decide +kernel
theorem dX8_sheet_61 : decode cX8_sheet 61 = .ok (.invokevirtual 51, 3) := by decide +kernel
theorem dX8_sheet_64 : decode cX8_sheet 64 = .ok (.ireturn, 1) := by decide +kernel
theorem dX8_sheet_65 : decode cX8_sheet 65 = .ok (.aload_n 0, 1) := by decide +kernel
theorem dX8_sheet_66 : decode cX8_sheet 66 = .ok (.getfield 34, 3) := by decide +kernel
theorem dX8_sheet_69 : decode cX8_sheet 69 = .ok (.iload_n 1, 1) := by decide +kernel
theorem dX8_sheet_70 : decode cX8_sheet 70 = .ok (.iload_n 2, 1) := by decide +kernel
theorem dX8_sheet_71 : decode cX8_sheet 71 = .ok (.iastore, 1) := by decide +kernel
theorem dX8_sheet_72 : decode cX8_sheet 72 = .ok (.aload_n 0, 1) := by decide +kernel
theorem dX8_sheet_73 : decode cX8_sheet 73 = .ok (.getfield 37, 3) := by decide +kernel
theorem dX8_sheet_76 : decode cX8_sheet 76 = .ok (.iload_n 1, 1) := by decide +kernel
theorem dX8_sheet_77 : decode cX8_sheet 77 = .ok (.iload_n 2, 1) := by decide +kernel
theorem dX8_sheet_78 : decode cX8_sheet 78 = .ok (.ifCond .ne 7, 3) := by decide +kernel
theorem dX8_sheet_81 : decode cX8_sheet 81 = .ok (.iconst 0, 1) := by decide +kernel
theorem dX8_sheet_82 : decode cX8_sheet 82 = .ok (.goto 4, 3) := by decide +kernel
theorem dX8_sheet_85 : decode cX8_sheet 85 = .ok (.iload_n 3, 1) := by decide +kernel
theorem dX8_sheet_86 : decode cX8_sheet 86 = .ok (.iastore, 1) := by decide +kernel
theorem dX8_sheet_87 : decode cX8_sheet 87 = .ok (.iconst 0, 1) := by decide +kernel
theorem dX8_sheet_88 : decode cX8_sheet 88 = .ok (.istore 4, 2) := by decide +kernel
theorem dX8_sheet_90 : decode cX8_sheet 90 = .ok (.iload 4, 2) := by decide +kernel
theorem dX8_sheet_92 : decode cX8_sheet 92 = .ok (.bipush 24, 2) := by decide +kernel
theorem dX8_sheet_94 : decode cX8_sheet 94 = .ok (.if_icmp .ge 22, 3) := by decide +kernel
theorem dX8_sheet_97 : decode cX8_sheet 97 = .ok (.aload_n 0, 1) := by decide +kernel
theorem dX8_sheet_98 : decode cX8_sheet 98 = .ok (.getfield 40, 3) := by decide +kernel
theorem dX8_sheet_101 : decode cX8_sheet 101 = .ok (.bipush 24, 2) := by decide +kernel
theorem dX8_sheet_103 : decode cX8_sheet 103 = .ok (.iload_n 1, 1) := by decide +kernel
theorem dX8_sheet_104 : decode cX8_sheet 104 = .ok (.imul, 1) := by decide +kernel
theorem dX8_sheet_105 : decode cX8_sheet 105 = .ok (.iload 4, 2) := by decide +kernel
theorem dX8_sheet_107 : decode cX8_sheet 107 = .ok (.iadd, 1) := by decide +kernel
theorem dX8_sheet_108 : decode cX8_sheet 108 = .ok (.iconst 0, 1) := by decide +kernel
theorem dX8_sheet_109 : decode cX8_sheet 109 = .ok (.iastore, 1) := by decide +kernel
theorem dX8_sheet_110 : decode cX8_sheet 110 = .ok (.iinc 4 1, 3) := by decide +kernel
theorem dX8_sheet_113 : decode cX8_sheet 113 = .ok (.goto (-23), 3) := by decide +kernel
theorem dX8_sheet_116 : decode cX8_sheet 116 = .ok (.iconst 1, 1) := by decide +kernel
theorem dX8_sheet_117 : decode cX8_sheet 117 = .ok (.ireturn, 1) := by decide +kernel
theorem dX8_put_0 : decode cX8_put 0 = .ok (.iload_n 1, 1) := by decide +kernel
theorem dX8_put_1 : decode cX8_put 1 = .ok (.invokestatic 252, 3) := by decide +kernel
theorem dX8_put_4 : decode cX8_put 4 = .ok (.ifCond .ne 9, 3) := by decide +kernel
theorem dX8_put_7 : decode cX8_put 7 = .ok (.aload_n 0, 1) := by decide +kernel
theorem dX8_put_8 : decode cX8_put 8 = .ok (.iconst 1, 1) := by decide +kernel
theorem dX8_put_9 : decode cX8_put 9 = .ok (.invokevirtual 51, 3) := by decide +kernel
theorem dX8_put_12 : decode cX8_put 12 = .ok (.ireturn, 1) := by decide +kernel
theorem dX8_put_13 : decode cX8_put 13 = .ok (.aload_n 0, 1) := by decide +kernel
theorem dX8_put_14 : decode cX8_put 14 = .ok (.getfield 34, 3) := by decide +kernel
theorem dX8_put_17 : decode cX8_put 17 = .ok (.iload_n 1, 1) := by decide +kernel
theorem dX8_put_18 : decode cX8_put 18 = .ok (.iaload, 1) := by decide +kernel
theorem dX8_put_19 : decode cX8_put 19 = .ok (.ifCond .ne 9, 3) := by decide +kernel
theorem dX8_put_22 : decode cX8_put 22 = .ok (.aload_n 0, 1) := by decide +kernel
theorem dX8_put_23 : decode cX8_put 23 = .ok (.iconst 2, 1) := by decide +kernel
theorem dX8_put_24 : decode cX8_put 24 = .ok (.invokevirtual 51, 3) := by decide +kernel
theorem dX8_put_27 : decode cX8_put 27 = .ok (.ireturn, 1) := by decide +kernel
theorem dX8_put_28 : decode cX8_put 28 = .ok (.iload_n 2, 1) := by decide +kernel
theorem dX8_put_29 : decode cX8_put 29 = .ok (.iconst 0, 1) := by decide +kernel
theorem dX8_put_30 : decode cX8_put 30 = .ok (.aload_n 0, 1) := by decide +kernel
theorem dX8_put_31 : decode cX8_put 31 = .ok (.getfield 37, 3) := by decide +kernel
theorem dX8_put_34 : decode cX8_put 34 = .ok (.iload_n 1, 1) := by decide +kernel
theorem dX8_put_35 : decode cX8_put 35 = .ok (.iaload, 1) := by decide +kernel
theorem dX8_put_36 : decode cX8_put 36 = .ok (.iconst 1, 1) := by decide +kernel
theorem dX8_put_37 : decode cX8_put 37 = .ok (.isub, 1) := by decide +kernel
theorem dX8_put_38 : decode cX8_put 38 = .ok (.invokestatic 47, 3) := by decide +kernel
theorem dX8_put_41 : decode cX8_put 41 = .ok (.ifCond .ne 9, 3) := by decide +kernel
theorem dX8_put_44 : decode cX8_put 44 = .ok (.aload_n 0, 1) := by decide +kernel
theorem dX8_put_45 : decode cX8_put 45 = .ok (.iconst 1, 1) := by decide +kernel
theorem dX8_put_46 : decode cX8_put 46 = .ok (.invokevirtual 51, 3) := by decide +kernel
theorem dX8_put_49 : decode cX8_put 49 = .ok (.ireturn, 1) := by decide +kernel
theorem dX8_put_50 : decode cX8_put 50 = .ok (.bipush 32, 2) := by decide +kernel
theorem dX8_put_52 : decode cX8_put 52 = .ok (.aload_n 0, 1) := by decide +kernel
theorem dX8_put_53 : decode cX8_put 53 = .ok (.getfield 34, 3) := by decide +kernel
theorem dX8_put_56 : decode cX8_put 56 = .ok (.iload_n 1, 1) := by decide +kernel
theorem dX8_put_57 : decode cX8_put 57 = .ok (.iaload, 1) := by decide +kernel
theorem dX8_put_58 : decode cX8_put 58 = .ok (.isub, 1) := by decide +kernel
theorem dX8_put_59 : decode cX8_put 59 = .ok (.istore 4, 2) := by decide +kernel
theorem dX8_put_61 : decode cX8_put 61 = .ok (.aload_n 0, 1) := by decide +kernel
theorem dX8_put_62 : decode cX8_put 62 = .ok (.getfield 40, 3) := by decide +kernel
theorem dX8_put_65 : decode cX8_put 65 = .ok (.bipush 24, 2) := by decide +kernel
theorem dX8_put_67 : decode cX8_put 67 = .ok (.iload_n 1, 1) := by decide +kernel
theorem dX8_put_68 : decode cX8_put 68 = .ok (.imul, 1) := by decide +kernel
theorem dX8_put_69 : decode cX8_put 69 = .ok (.iload_n 2, 1) := by decide +kernel
theorem dX8_put_70 : decode cX8_put 70 = .ok (.iadd, 1) := by decide +kernel
theorem dX8_put_71 : decode cX8_put 71 = .ok (.iload_n 3, 1) := by decide +kernel
theorem dX8_put_72 : decode cX8_put 72 = .ok (.iload 4, 2) := by decide +kernel
theorem dX8_put_74 : decode cX8_put 74 = .ok (.ishl, 1) := by decide +kernel
theorem dX8_put_75 : decode cX8_put 75 = .ok (.iload 4, 2) := by decide +kernel
theorem dX8_put_77 : decode cX8_put 77 = .ok (.ishr, 1) := by decide +kernel
theorem dX8_put_78 : decode cX8_put 78 = .ok (.iastore, 1) := by decide +kernel
theorem dX8_put_79 : decode cX8_put 79 = .ok (.iconst 1, 1) := by decide +kernel
theorem dX8_put_80 : decode cX8_put 80 = .ok (.ireturn, 1) := by decide +kernel
theorem dX8_move_0 : decode cX8_move 0 = .ok (.iload_n 1, 1) := by decide +kernel
theorem dX8_move_1 : decode cX8_move 1 = .ok (.invokestatic 252, 3) := by decide +kernel
theorem dX8_move_4 : decode cX8_move 4 = .ok (.ifCond .eq 10, 3) := by decide +kernel
theorem dX8_move_7 : decode cX8_move 7 = .ok (.iload_n 3, 1) := by decide +kernel
theorem dX8_move_8 : decode cX8_move 8 = .ok (.invokestatic 252, 3) := by decide +kernel
theorem dX8_move_11 : decode cX8_move 11 = .ok (.ifCond .ne 9, 3) := by decide +kernel
theorem dX8_move_14 : decode cX8_move 14 = .ok (.aload_n 0, 1) := by decide +kernel
theorem dX8_move_15 : decode cX8_move 15 = .ok (.iconst 1, 1) := by decide +kernel
theorem dX8_move_16 : decode cX8_move 16 = .ok (.invokevirtual 51, 3) := by decide +kernel
theorem dX8_move_19 : decode cX8_move 19 = .ok (.ireturn, 1) := by decide +kernel
theorem dX8_move_20 : decode cX8_move 20 = .ok (.aload_n 0, 1) := by decide +kernel
theorem dX8_move_21 : decode cX8_move 21 = .ok (.getfield 34, 3) := by decide +kernel
theorem dX8_move_24 : decode cX8_move 24 = .ok (.iload_n 1, 1) := by decide +kernel
theorem dX8_move_25 : decode cX8_move 25 = .ok (.iaload, 1) := by decide +kernel
theorem dX8_move_26 : decode cX8_move 26 = .ok (.ifCond .eq 12, 3) := by decide +kernel
theorem dX8_move_29 : decode cX8_move 29 = .ok (.aload_n 0, 1) := by decide +kernel
theorem dX8_move_30 : decode cX8_move 30 = .ok (.getfield 34, 3) := by decide +kernel
theorem dX8_move_33 : decode cX8_move 33 = .ok (.iload_n 3, 1) := by decide +kernel
theorem dX8_move_34 : decode cX8_move 34 = .ok (.iaload, 1) := by decide +kernel
theorem dX8_move_35 : decode cX8_move 35 = .ok (.ifCond .ne 9, 3) := by decide +kernel
theorem dX8_move_38 : decode cX8_move 38 = .ok (.aload_n 0, 1) := by decide +kernel
theorem dX8_move_39 : decode cX8_move 39 = .ok (.iconst 2, 1) := by decide +kernel
theorem dX8_move_40 : decode cX8_move 40 = .ok (.invokevirtual 51, 3) := by decide +kernel
theorem dX8_move_43 : decode cX8_move 43 = .ok (.ireturn, 1) := by decide +kernel
theorem dX8_move_44 : decode cX8_move 44 = .ok (.aload_n 0, 1) := by decide +kernel
theorem dX8_move_45 : decode cX8_move 45 = .ok (.getfield 34, 3) := by decide +kernel
theorem dX8_move_48 : decode cX8_move 48 = .ok (.iload_n 1, 1) := by decide +kernel
theorem dX8_move_49 : decode cX8_move 49 = .ok (.iaload, 1) := by decide +kernel
theorem dX8_move_50 : decode cX8_move 50 = .ok (.aload_n 0, 1) := by decide +kernel
theorem dX8_move_51 : decode cX8_move 51 = .ok (.getfield 34, 3) := by decide +kernel
theorem dX8_move_54 : decode cX8_move 54 = .ok (.iload_n 3, 1) := by decide +kernel
theorem dX8_move_55 : decode cX8_move 55 = .ok (.iaload, 1) := by decide +kernel
theorem dX8_move_56 : decode cX8_move 56 = .ok (.if_icmp .eq 9, 3) := by decide +kernel
theorem dX8_move_59 : decode cX8_move 59 = .ok (.aload_n 0, 1) := by decide +kernel
theorem dX8_move_60 : decode cX8_move 60 = .ok (.iconst 5, 1) := by decide +kernel
theorem dX8_move_61 : decode cX8_move 61 = .ok (.invokevirtual 51, 3) := by decide +kernel
theorem dX8_move_64 : decode cX8_move 64 = .ok (.ireturn, 1) := by decide +kernel
theorem dX8_move_65 : decode cX8_move 65 = .ok (.iload 5, 2) := by decide +kernel
theorem dX8_move_67 : decode cX8_move 67 = .ok (.ifCond .lt 39, 3) := by decide +kernel
theorem dX8_move_70 : decode cX8_move 70 = .ok (.iload_n 2, 1) := by decide +kernel
theorem dX8_move_71 : decode cX8_move 71 = .ok (.ifCond .lt 35, 3) := by decide +kernel
theorem dX8_move_74 : decode cX8_move 74 = .ok (.iload 4, 2) := by decide +kernel
theorem dX8_move_76 : decode cX8_move 76 = .ok (.ifCond .lt 30, 3) := by decide +kernel
theorem dX8_move_79 : decode cX8_move 79 = .ok (.iload_n 2, 1) := by decide +kernel
theorem dX8_move_80 : decode cX8_move 80 = .ok (.aload_n 0, 1) := by decide +kernel
theorem dX8_move_81 : decode cX8_move 81 = .ok (.getfield 37, 3) := by decide +kernel
theorem dX8_move_84 : decode cX8_move 84 = .ok (.iload_n 1, 1) := by decide +kernel
theorem dX8_move_85 : decode cX8_move 85 = .ok (.iaload, 1) := by decide +kernel
theorem dX8_move_86 : decode cX8_move 86 = .ok (.iload 5, 2) := by decide +kernel
theorem dX8_move_88 : decode cX8_move 88 = .ok (.isub, 1) := by decide +kernel
theorem dX8_move_89 : decode cX8_move 89 = .ok (.if_icmp .gt 17, 3) := by decide +kernel
theorem dX8_move_92 : decode cX8_move 92 = .ok (.iload 4, 2) := by decide +kernel
theorem dX8_move_94 : decode cX8_move 94 = .ok (.aload_n 0, 1) := by decide +kernel
theorem dX8_move_95 : decode cX8_move 95 = .ok (.getfield 37, 3) := by decide +kernel
theorem dX8_move_98 : decode cX8_move 98 = .ok (.iload_n 3, 1) := by decide +kernel
theorem dX8_move_99 : decode cX8_move 99 = .ok (.iaload, 1) := by decide +kernel
theorem dX8_move_100 : decode cX8_move 100 = .ok (.iload 5, 2) := by decide +kernel
theorem dX8_move_102 : decode cX8_move 102 = .ok (.isub, 1) := by decide +kernel
theorem dX8_move_103 : decode cX8_move 103 = .ok (.if_icmp .le 9, 3) := by decide +kernel
theorem dX8_move_106 : decode cX8_move 106 = .ok (.aload_n 0, 1) := by decide +kernel
theorem dX8_move_107 : decode cX8_move 107 = .ok (.iconst 1, 1) := by decide +kernel
theorem dX8_move_108 : decode cX8_move 108 = .ok (.invokevirtual 51, 3) := by decide +kernel
theorem dX8_move_111 : decode cX8_move 111 = .ok (.ireturn, 1) := by decide +kernel
theorem dX8_move_112 : decode cX8_move 112 = .ok (.iconst 0, 1) := by decide +kernel
theorem dX8_move_113 : decode cX8_move 113 = .ok (.istore 6, 2) := by decide +kernel
theorem dX8_move_115 : decode cX8_move 115 = .ok (.iload 6, 2) := by decide +kernel
theorem dX8_move_117 : decode cX8_move 117 = .ok (.iload 5, 2) := by decide +kernel
theorem dX8_move_119 : decode cX8_move 119 = .ok (.if_icmp .ge 30, 3) := by decide +kernel
theorem dX8_move_122 : decode cX8_move 122 = .ok (.aload_n 0, 1) := by decide +kernel
theorem dX8_move_123 : decode cX8_move 123 = .ok (.getfield 43, 3) := by decide +kernel
theorem dX8_move_126 : decode cX8_move 126 = .ok (.iload 6, 2) := by decide +kernel
theorem dX8_move_128 : decode cX8_move 128 = .ok (.aload_n 0, 1) := by decide +kernel
theorem dX8_move_129 : decode cX8_move 129 = .ok (.getfield 40, 3) := by decide +kernel
theorem dX8_move_132 : decode cX8_move 132 = .ok (.bipush 24, 2) := by decide +kernel
theorem dX8_move_134 : decode cX8_move 134 = .ok (.iload_n 1, 1) := by decide +kernel
theorem dX8_move_135 : decode cX8_move 135 = .ok (.imul, 1) := by decide +kernel
theorem dX8_move_136 : decode cX8_move 136 = .ok (.iload_n 2, 1) := by decide +kernel
theorem dX8_move_137 : decode cX8_move 137 = .ok (.iadd, 1) := by decide +kernel
theorem dX8_move_138 : decode cX8_move 138 = .ok (.iload 6, 2) := by decide +kernel
theorem dX8_move_140 : decode cX8_move 140 = .ok (.iadd, 1) := by decide +kernel
theorem dX8_move_141 : decode cX8_move 141 = .ok (.iaload, 1) := by decide +kernel
theorem dX8_move_142 : decode cX8_move 142 = .ok (.iastore, 1) := by decide +kernel
theorem dX8_move_143 : decode cX8_move 143 = .ok (.iinc 6 1, 3) := by decide +kernel
theorem dX8_move_146 : decode cX8_move 146 = .ok (.goto (-31), 3) := by decide +kernel
theorem dX8_move_149 : decode cX8_move 149 = .ok (.iconst 0, 1) := by decide +kernel
theorem dX8_move_150 : decode cX8_move 150 = .ok (.istore 6, 2) := by decide +kernel
theorem dX8_move_152 : decode cX8_move 152 = .ok (.iload 6, 2) := by decide +kernel
theorem dX8_move_154 : decode cX8_move 154 = .ok (.iload 5, 2) := by decide +kernel
theorem dX8_move_156 : decode cX8_move 156 = .ok (.if_icmp .ge 31, 3) := by decide +kernel
theorem dX8_move_159 : decode cX8_move 159 = .ok (.aload_n 0, 1) := by decide +kernel
theorem dX8_move_160 : decode cX8_move 160 = .ok (.getfield 40, 3) := by decide +kernel
theorem dX8_move_163 : decode cX8_move 163 = .ok (.bipush 24, 2) := by decide +kernel
theorem dX8_move_165 : decode cX8_move 165 = .ok (.iload_n 3, 1) := by decide +kernel
theorem dX8_move_166 : decode cX8_move 166 = .ok (.imul, 1) := by decide +kernel
theorem dX8_move_167 : decode cX8_move 167 = .ok (.iload 4, 2) := by decide +kernel
theorem dX8_move_169 : decode cX8_move 169 = .ok (.iadd, 1) := by decide +kernel
theorem dX8_move_170 : decode cX8_move 170 = .ok (.iload 6, 2) := by decide +kernel
theorem dX8_move_172 : decode cX8_move 172 = .ok (.iadd, 1) := by decide +kernel
theorem dX8_move_173 : decode cX8_move 173 = .ok (.aload_n 0, 1) := by decide +kernel
theorem dX8_move_174 : decode cX8_move 174 = .ok (.getfield 43, 3) := by decide +kernel
theorem dX8_move_177 : decode cX8_move 177 = .ok (.iload 6, 2) := by decide +kernel
theorem dX8_move_179 : decode cX8_move 179 = .ok (.iaload, 1) := by decide +kernel
theorem dX8_move_180 : decode cX8_move 180 = .ok (.iastore, 1) := by decide +kernel
theorem dX8_move_181 : decode cX8_move 181 = .ok (.iinc 6 1, 3) := by decide +kernel
theorem dX8_move_184 : decode cX8_move 184 = .ok (.goto (-32), 3) := by decide +kernel
theorem dX8_move_187 : decode cX8_move 187 = .ok (.iload 5, 2) := by decide +kernel
theorem dX8_move_189 : decode cX8_move 189 = .ok (.ireturn, 1) := by decide +kernel
theorem dX8_lacks_0 : decode cX8_lacks 0 = .ok (.iload_n 1, 1) := by decide +kernel
theorem dX8_lacks_1 : decode cX8_lacks 1 = .ok (.invokestatic 252, 3) := by decide +kernel
theorem dX8_lacks_4 : decode cX8_lacks 4 = .ok (.ifCond .ne 7, 3) := by decide +kernel
theorem dX8_lacks_7 : decode cX8_lacks 7 = .ok (.iconst 1, 1) := by decide +kernel
theorem dX8_lacks_8 : decode cX8_lacks 8 = .ok (.goto 17, 3) := by decide +kernel
theorem dX8_lacks_11 : decode cX8_lacks 11 = .ok (.aload_n 0, 1) := by decide +kernel
theorem dX8_lacks_12 : decode cX8_lacks 12 = .ok (.getfield 34, 3) := by decide +kernel
theorem dX8_lacks_15 : decode cX8_lacks 15 = .ok (.iload_n 1, 1) := by decide +kernel
theorem dX8_lacks_16 : decode cX8_lacks 16 = .ok (.iaload, 1) := by decide +kernel
theorem dX8_lacks_17 : decode cX8_lacks 17 = .ok (.ifCond .ne 7, 3) := by decide +kernel
theorem dX8_lacks_20 : decode cX8_lacks 20 = .ok (.iconst 2, 1) := by decide +kernel
theorem dX8_lacks_21 : decode cX8_lacks 21 = .ok (.goto 4, 3) := by decide +kernel
theorem dX8_lacks_24 : decode cX8_lacks 24 = .ok (.iconst 0, 1) := by decide +kernel
theorem dX8_lacks_25 : decode cX8_lacks 25 = .ok (.ireturn, 1) := by decide +kernel
theorem dX8_sures_0 : decode cX8_sures 0 = .ok (.aload_n 0, 1) := by decide +kernel
theorem dX8_sures_1 : decode cX8_sures 1 = .ok (.iload_n 1, 1) := by decide +kernel
theorem dX8_sures_2 : decode cX8_sures 2 = .ok (.invokevirtual 215, 3) := by decide +kernel
theorem dX8_sures_5 : decode cX8_sures 5 = .ok (.istore_n 2, 1) := by decide +kernel
theorem dX8_sures_6 : decode cX8_sures 6 = .ok (.iload_n 2, 1) := by decide +kernel
theorem dX8_sures_7 : decode cX8_sures 7 = .ok (.ifCond .eq 9, 3) := by decide +kernel
theorem dX8_sures_10 : decode cX8_sures 10 = .ok (.aload_n 0, 1) := by decide +kernel
theorem dX8_sures_11 : decode cX8_sures 11 = .ok (.iload_n 2, 1) := by decide +kernel
theorem dX8_sures_12 : decode cX8_sures 12 = .ok (.invokevirtual 51, 3) := by decide +kernel
theorem dX8_sures_15 : decode cX8_sures 15 = .ok (.ireturn, 1) := by decide +kernel
theorem dX8_sures_16 : decode cX8_sures 16 = .ok (.iconst 0, 1) := by decide +kernel
theorem dX8_sures_17 : decode cX8_sures 17 = .ok (.istore_n 3, 1) := by decide +kernel
theorem dX8_sures_18 : decode cX8_sures 18 = .ok (.iload_n 3, 1) := by decide +kernel
theorem dX8_sures_19 : decode cX8_sures 19 = .ok (.aload_n 0, 1) := by decide +kernel
theorem dX8_sures_20 : decode cX8_sures 20 = .ok (.getfield 37, 3) := by decide +kernel
theorem dX8_sures_23 : decode cX8_sures 23 = .ok (.iload_n 1, 1) := by decide +kernel
theorem dX8_sures_24 : decode cX8_sures 24 = .ok (.iaload, 1) := by decide +kernel
theorem dX8_sures_25 : decode cX8_sures 25 = .ok (.if_icmp .ge 54, 3) := by decide +kernel
theorem dX8_sures_28 : decode cX8_sures 28 = .ok (.aload_n 0, 1) := by decide +kernel
theorem dX8_sures_29 : decode cX8_sures 29 = .ok (.iload_n 3, 1) := by decide +kernel
theorem dX8_sures_30 : decode cX8_sures 30 = .ok (.invokevirtual 157, 3) := by decide +kernel
theorem dX8_sures_33 : decode cX8_sures 33 = .ok (.ifCond .eq 46, 3) := by decide +kernel
theorem dX8_sures_36 : decode cX8_sures 36 = .ok (.aload_n 0, 1) := by decide +kernel
theorem dX8_sures_37 : decode cX8_sures 37 = .ok (.getfield 40, 3) := by decide +kernel
theorem dX8_sures_40 : decode cX8_sures 40 = .ok (.bipush 24, 2) := by decide +kernel
theorem dX8_sures_42 : decode cX8_sures 42 = .ok (.iload_n 1, 1) := by decide +kernel
theorem dX8_sures_43 : decode cX8_sures 43 = .ok (.imul, 1) := by decide +kernel
theorem dX8_sures_44 : decode cX8_sures 44 = .ok (.iload_n 3, 1) := by decide +kernel
theorem dX8_sures_45 : decode cX8_sures 45 = .ok (.iadd, 1) := by decide +kernel
theorem dX8_sures_46 : decode cX8_sures 46 = .ok (.iaload, 1) := by decide +kernel
theorem dX8_sures_47 : decode cX8_sures 47 = .ok (.iconst 0, 1) := by decide +kernel
theorem dX8_sures_48 : decode cX8_sures 48 = .ok (.bipush 99, 2) := by decide +kernel
theorem dX8_sures_50 : decode cX8_sures 50 = .ok (.invokestatic 47, 3) := by decide +kernel
theorem dX8_sures_53 : decode cX8_sures 53 = .ok (.ifCond .eq 26, 3) := by decide +kernel
theorem dX8_sures_56 : decode cX8_sures 56 = .ok (.aload_n 0, 1) := by decide +kernel
theorem dX8_sures_57 : decode cX8_sures 57 = .ok (.iload_n 3, 1) := by decide +kernel
theorem dX8_sures_58 : decode cX8_sures 58 = .ok (.iconst 2, 1) := by decide +kernel
theorem dX8_sures_59 : decode cX8_sures 59 = .ok (.aload_n 0, 1) := by decide +kernel
theorem dX8_sures_60 : decode cX8_sures 60 = .ok (.getfield 40, 3) := by decide +kernel
theorem dX8_sures_63 : decode cX8_sures 63 = .ok (.bipush 24, 2) := by decide +kernel
theorem dX8_sures_65 : decode cX8_sures 65 = .ok (.iload_n 1, 1) := by decide +kernel
theorem dX8_sures_66 : decode cX8_sures 66 = .ok (.imul, 1) := by decide +kernel
theorem dX8_sures_67 : decode cX8_sures 67 = .ok (.iload_n 3, 1) := by decide +kernel
theorem dX8_sures_68 : decode cX8_sures 68 = .ok (.iadd, 1) := by decide +kernel
theorem dX8_sures_69 : decode cX8_sures 69 = .ok (.iaload, 1) := by decide +kernel
theorem dX8_sures_70 : decode cX8_sures 70 = .ok (.invokevirtual 142, 3) := by decide +kernel
theorem dX8_sures_73 : decode cX8_sures 73 = .ok (.iinc 3 1, 3) := by decide +kernel
theorem dX8_sures_76 : decode cX8_sures 76 = .ok (.goto (-58), 3) := by decide +kernel
theorem dX8_sures_79 : decode cX8_sures 79 = .ok (.iload_n 3, 1) := by decide +kernel
theorem dX8_sures_80 : decode cX8_sures 80 = .ok (.ireturn, 1) := by decide +kernel
theorem dX8_judge_0 : decode cX8_judge 0 = .ok (.aload_n 0, 1) := by decide +kernel
theorem dX8_judge_1 : decode cX8_judge 1 = .ok (.iload_n 1, 1) := by decide +kernel
theorem dX8_judge_2 : decode cX8_judge 2 = .ok (.invokevirtual 215, 3) := by decide +kernel
theorem dX8_judge_5 : decode cX8_judge 5 = .ok (.istore_n 2, 1) := by decide +kernel
theorem dX8_judge_6 : decode cX8_judge 6 = .ok (.iload_n 2, 1) := by decide +kernel
theorem dX8_judge_7 : decode cX8_judge 7 = .ok (.ifCond .eq 9, 3) := by decide +kernel
theorem dX8_judge_10 : decode cX8_judge 10 = .ok (.aload_n 0, 1) := by decide +kernel
theorem dX8_judge_11 : decode cX8_judge 11 = .ok (.iload_n 2, 1) := by decide +kernel
theorem dX8_judge_12 : decode cX8_judge 12 = .ok (.invokevirtual 51, 3) := by decide +kernel
theorem dX8_judge_15 : decode cX8_judge 15 = .ok (.ireturn, 1) := by decide +kernel
theorem dX8_judge_16 : decode cX8_judge 16 = .ok (.iconst 0, 1) := by decide +kernel
theorem dX8_judge_17 : decode cX8_judge 17 = .ok (.istore_n 3, 1) := by decide +kernel
theorem dX8_judge_18 : decode cX8_judge 18 = .ok (.iload_n 3, 1) := by decide +kernel
theorem dX8_judge_19 : decode cX8_judge 19 = .ok (.aload_n 0, 1) := by decide +kernel
theorem dX8_judge_20 : decode cX8_judge 20 = .ok (.getfield 37, 3) := by decide +kernel
theorem dX8_judge_23 : decode cX8_judge 23 = .ok (.iload_n 1, 1) := by decide +kernel
theorem dX8_judge_24 : decode cX8_judge 24 = .ok (.iaload, 1) := by decide +kernel
theorem dX8_judge_25 : decode cX8_judge 25 = .ok (.if_icmp .ge 37, 3) := by decide +kernel
theorem dX8_judge_28 : decode cX8_judge 28 = .ok (.aload_n 0, 1) := by decide +kernel
theorem dX8_judge_29 : decode cX8_judge 29 = .ok (.iload_n 3, 1) := by decide +kernel
theorem dX8_judge_30 : decode cX8_judge 30 = .ok (.invokevirtual 157, 3) := by decide +kernel
theorem dX8_judge_33 : decode cX8_judge 33 = .ok (.ifCond .eq 29, 3) := by decide +kernel
theorem dX8_judge_36 : decode cX8_judge 36 = .ok (.aload_n 0, 1) := by decide +kernel
theorem dX8_judge_37 : decode cX8_judge 37 = .ok (.iload_n 3, 1) := by decide +kernel
theorem dX8_judge_38 : decode cX8_judge 38 = .ok (.iconst 3, 1) := by decide +kernel
theorem dX8_judge_39 : decode cX8_judge 39 = .ok (.invokevirtual 111, 3) := by decide +kernel
theorem dX8_judge_42 : decode cX8_judge 42 = .ok (.aload_n 0, 1) := by decide +kernel
theorem dX8_judge_43 : decode cX8_judge 43 = .ok (.getfield 40, 3) := by decide +kernel
theorem dX8_judge_46 : decode cX8_judge 46 = .ok (.bipush 24, 2) := by decide +kernel
theorem dX8_judge_48 : decode cX8_judge 48 = .ok (.iload_n 1, 1) := by decide +kernel
theorem dX8_judge_49 : decode cX8_judge 49 = .ok (.imul, 1) := by decide +kernel
theorem dX8_judge_50 : decode cX8_judge 50 = .ok (.iload_n 3, 1) := by decide +kernel
theorem dX8_judge_51 : decode cX8_judge 51 = .ok (.iadd, 1) := by decide +kernel
theorem dX8_judge_52 : decode cX8_judge 52 = .ok (.iaload, 1) := by decide +kernel
theorem dX8_judge_53 : decode cX8_judge 53 = .ok (.if_icmp .ne 9, 3) := by decide +kernel
theorem dX8_judge_56 : decode cX8_judge 56 = .ok (.iinc 3 1, 3) := by decide +kernel
theorem dX8_judge_59 : decode cX8_judge 59 = .ok (.goto (-41), 3) := by decide +kernel
theorem dX8_judge_62 : decode cX8_judge 62 = .ok (.iload_n 3, 1) := by decide +kernel
theorem dX8_judge_63 : decode cX8_judge 63 = .ok (.ireturn, 1) := by decide +kernel
theorem dX8_image_0 : decode cX8_image 0 = .ok (.aload_n 0, 1) := by decide +kernel
theorem dX8_image_1 : decode cX8_image 1 = .ok (.getfield 7, 3) := by decide +kernel
theorem dX8_image_4 : decode cX8_image 4 = .ok (.aload_n 0, 1) := by decide +kernel
theorem dX8_image_5 : decode cX8_image 5 = .ok (.getfield 13, 3) := by decide +kernel
theorem dX8_image_8 : decode cX8_image 8 = .ok (.invokestatic 255, 3) := by decide +kernel
theorem dX8_image_11 : decode cX8_image 11 = .ok (.aload_n 0, 1) := by decide +kernel
theorem dX8_image_12 : decode cX8_image 12 = .ok (.dup, 1) := by decide +kernel
theorem dX8_image_13 : decode cX8_image 13 = .ok (.getfield 259, 3) := by decide +kernel
theorem dX8_image_16 : decode cX8_image 16 = .ok (.iconst 1, 1) := by decide +kernel
theorem dX8_image_17 : decode cX8_image 17 = .ok (.iadd, 1) := by decide +kernel
theorem dX8_image_18 : decode cX8_image 18 = .ok (.putfield 259, 3) := by decide +kernel
theorem dX8_image_21 : decode cX8_image 21 = .ok (.aload_n 0, 1) := by decide +kernel
theorem dX8_image_22 : decode cX8_image 22 = .ok (.getfield 259, 3) := by decide +kernel
theorem dX8_image_25 : decode cX8_image 25 = .ok (.ireturn, 1) := by decide +kernel
theorem dX8_restore_0 : decode cX8_restore 0 = .ok (.aload_n 0, 1) := by decide +kernel
theorem dX8_restore_1 : decode cX8_restore 1 = .ok (.getfield 259, 3) := by decide +kernel
theorem dX8_restore_4 : decode cX8_restore 4 = .ok (.ifCond .ne 9, 3) := by decide +kernel
theorem dX8_restore_7 : decode cX8_restore 7 = .ok (.aload_n 0, 1) := by decide +kernel
theorem dX8_restore_8 : decode cX8_restore 8 = .ok (.iconst 2, 1) := by decide +kernel
theorem dX8_restore_9 : decode cX8_restore 9 = .ok (.invokevirtual 51, 3) := by decide +kernel
theorem dX8_restore_12 : decode cX8_restore 12 = .ok (.ireturn, 1) := by decide +kernel
theorem dX8_restore_13 : decode cX8_restore 13 = .ok (.aload_n 0, 1) := by decide +kernel
theorem dX8_restore_14 : decode cX8_restore 14 = .ok (.getfield 13, 3) := by decide +kernel
theorem dX8_restore_17 : decode cX8_restore 17 = .ok (.aload_n 0, 1) := by decide +kernel
theorem dX8_restore_18 : decode cX8_restore 18 = .ok (.getfield 7, 3) := by decide +kernel
theorem dX8_restore_21 : decode cX8_restore 21 = .ok (.invokestatic 255, 3) := by decide +kernel
theorem dX8_restore_24 : decode cX8_restore 24 = .ok (.aload_n 0, 1) := by decide +kernel
theorem dX8_restore_25 : decode cX8_restore 25 = .ok (.getfield 7, 3) := by decide +kernel
theorem dX8_restore_28 : decode cX8_restore 28 = .ok (.iconst 0, 1) := by decide +kernel
theorem dX8_restore_29 : decode cX8_restore 29 = .ok (.iaload, 1) := by decide +kernel
theorem dX8_restore_30 : decode cX8_restore 30 = .ok (.ireturn, 1) := by decide +kernel
theorem dX8_tell_0 : decode cX8_tell 0 = .ok (.aload_n 0, 1) := by decide +kernel
theorem dX8_tell_1 : decode cX8_tell 1 = .ok (.getfield 7, 3) := by decide +kernel
theorem dX8_tell_4 : decode cX8_tell 4 = .ok (.iconst 4, 1) := by decide +kernel
theorem dX8_tell_5 : decode cX8_tell 5 = .ok (.iaload, 1) := by decide +kernel
theorem dX8_tell_6 : decode cX8_tell 6 = .ok (.bipush 24, 2) := by decide +kernel
theorem dX8_tell_8 : decode cX8_tell 8 = .ok (.if_icmp .ne 9, 3) := by decide +kernel
theorem dX8_tell_11 : decode cX8_tell 11 = .ok (.aload_n 0, 1) := by decide +kernel
theorem dX8_tell_12 : decode cX8_tell 12 = .ok (.iconst 4, 1) := by decide +kernel
theorem dX8_tell_13 : decode cX8_tell 13 = .ok (.invokevirtual 51, 3) := by decide +kernel
theorem dX8_tell_16 : decode cX8_tell 16 = .ok (.ireturn, 1) := by decide +kernel
theorem dX8_tell_17 : decode cX8_tell 17 = .ok (.aload_n 0, 1) := by decide +kernel
theorem dX8_tell_18 : decode cX8_tell 18 = .ok (.getfield 7, 3) := by decide +kernel
theorem dX8_tell_21 : decode cX8_tell 21 = .ok (.sipush 348, 3) := by decide +kernel
theorem dX8_tell_24 : decode cX8_tell 24 = .ok (.aload_n 0, 1) := by decide +kernel
theorem dX8_tell_25 : decode cX8_tell 25 = .ok (.getfield 7, 3) := by decide +kernel
theorem dX8_tell_28 : decode cX8_tell 28 = .ok (.iconst 4, 1) := by decide +kernel
theorem dX8_tell_29 : decode cX8_tell 29 = .ok (.iaload, 1) := by decide +kernel
theorem dX8_tell_30 : decode cX8_tell 30 = .ok (.iadd, 1) := by decide +kernel
theorem dX8_tell_31 : decode cX8_tell 31 = .ok (.iload_n 1, 1) := by decide +kernel
theorem dX8_tell_32 : decode cX8_tell 32 = .ok (.iastore, 1) := by decide +kernel
theorem dX8_tell_33 : decode cX8_tell 33 = .ok (.aload_n 0, 1) := by decide +kernel
theorem dX8_tell_34 : decode cX8_tell 34 = .ok (.getfield 7, 3) := by decide +kernel
theorem dX8_tell_37 : decode cX8_tell 37 = .ok (.iconst 4, 1) := by decide +kernel
theorem dX8_tell_38 : decode cX8_tell 38 = .ok (.dup2, 1) := by decide +kernel
theorem dX8_tell_39 : decode cX8_tell 39 = .ok (.iaload, 1) := by decide +kernel
theorem dX8_tell_40 : decode cX8_tell 40 = .ok (.iconst 1, 1) := by decide +kernel
theorem dX8_tell_41 : decode cX8_tell 41 = .ok (.iadd, 1) := by decide +kernel
theorem dX8_tell_42 : decode cX8_tell 42 = .ok (.iastore, 1) := by decide +kernel
theorem dX8_tell_43 : decode cX8_tell 43 = .ok (.aload_n 0, 1) := by decide +kernel
theorem dX8_tell_44 : decode cX8_tell 44 = .ok (.getfield 7, 3) := by decide +kernel
theorem dX8_tell_47 : decode cX8_tell 47 = .ok (.iconst 4, 1) := by decide +kernel
theorem dX8_tell_48 : decode cX8_tell 48 = .ok (.iaload, 1) := by decide +kernel
theorem dX8_tell_49 : decode cX8_tell 49 = .ok (.ireturn, 1) := by decide +kernel
theorem dX8_check_0 : decode cX8_check 0 = .ok (.aload_n 0, 1) := by decide +kernel
theorem dX8_check_1 : decode cX8_check 1 = .ok (.getfield 7, 3) := by decide +kernel
theorem dX8_check_4 : decode cX8_check 4 = .ok (.iconst 4, 1) := by decide +kernel
theorem dX8_check_5 : decode cX8_check 5 = .ok (.iaload, 1) := by decide +kernel
theorem dX8_check_6 : decode cX8_check 6 = .ok (.istore_n 1, 1) := by decide +kernel
theorem dX8_check_7 : decode cX8_check 7 = .ok (.aload_n 0, 1) := by decide +kernel
theorem dX8_check_8 : decode cX8_check 8 = .ok (.getfield 7, 3) := by decide +kernel
theorem dX8_check_11 : decode cX8_check 11 = .ok (.iconst 4, 1) := by decide +kernel
theorem dX8_check_12 : decode cX8_check 12 = .ok (.iconst 0, 1) := by decide +kernel
theorem dX8_check_13 : decode cX8_check 13 = .ok (.iastore, 1) := by decide +kernel
theorem dX8_check_14 : decode cX8_check 14 = .ok (.iconst 0, 1) := by decide +kernel
theorem dX8_check_15 : decode cX8_check 15 = .ok (.istore_n 2, 1) := by decide +kernel
theorem dX8_check_16 : decode cX8_check 16 = .ok (.iload_n 2, 1) := by decide +kernel
theorem dX8_check_17 : decode cX8_check 17 = .ok (.iload_n 1, 1) := by decide +kernel
theorem dX8_check_18 : decode cX8_check 18 = .ok (.if_icmp .ge 40, 3) := by decide +kernel
theorem dX8_check_21 : decode cX8_check 21 = .ok (.aload_n 0, 1) := by decide +kernel
theorem dX8_check_22 : decode cX8_check 22 = .ok (.iload_n 2, 1) := by decide +kernel
theorem dX8_check_23 : decode cX8_check 23 = .ok (.invokevirtual 157, 3) := by decide +kernel
theorem dX8_check_26 : decode cX8_check 26 = .ok (.ifCond .eq 22, 3) := by decide +kernel
theorem dX8_check_29 : decode cX8_check 29 = .ok (.aload_n 0, 1) := by decide +kernel
theorem dX8_check_30 : decode cX8_check 30 = .ok (.getfield 7, 3) := by decide +kernel
theorem dX8_check_33 : decode cX8_check 33 = .ok (.sipush 348, 3) := by decide +kernel
theorem dX8_check_36 : decode cX8_check 36 = .ok (.iload_n 2, 1) := by decide +kernel
theorem dX8_check_37 : decode cX8_check 37 = .ok (.iadd, 1) := by decide +kernel
theorem dX8_check_38 : decode cX8_check 38 = .ok (.iaload, 1) := by decide +kernel
theorem dX8_check_39 : decode cX8_check 39 = .ok (.aload_n 0, 1) := by decide +kernel
theorem dX8_check_40 : decode cX8_check 40 = .ok (.iload_n 2, 1) := by decide +kernel
theorem dX8_check_41 : decode cX8_check 41 = .ok (.iconst 2, 1) := by decide +kernel
theorem dX8_check_42 : decode cX8_check 42 = .ok (.invokevirtual 111, 3) := by decide +kernel
theorem dX8_check_45 : decode cX8_check 45 = .ok (.if_icmp .eq 7, 3) := by decide +kernel
theorem dX8_check_48 : decode cX8_check 48 = .ok (.iconst 1, 1) := by decide +kernel
theorem dX8_check_49 : decode cX8_check 49 = .ok (.iload_n 2, 1) := by decide +kernel
theorem dX8_check_50 : decode cX8_check 50 = .ok (.iadd, 1) := by decide +kernel
theorem dX8_check_51 : decode cX8_check 51 = .ok (.ireturn, 1) := by decide +kernel
theorem dX8_check_52 : decode cX8_check 52 = .ok (.iinc 2 1, 3) := by decide +kernel
theorem dX8_check_55 : decode cX8_check 55 = .ok (.goto (-39), 3) := by decide +kernel
theorem dX8_check_58 : decode cX8_check 58 = .ok (.iconst 0, 1) := by decide +kernel
theorem dX8_check_59 : decode cX8_check 59 = .ok (.ireturn, 1) := by decide +kernel
theorem dX8_count_0 : decode cX8_count 0 = .ok (.iload_n 1, 1) := by decide +kernel
theorem dX8_count_1 : decode cX8_count 1 = .ok (.tableswitch 99 0 7 #[47, 54, 61, 68, 73, 80, 87, 92], 47) := by decide +kernel
theorem dX8_count_48 : decode cX8_count 48 = .ok (.aload_n 0, 1) := by decide +kernel
theorem dX8_count_49 : decode cX8_count 49 = .ok (.getfield 7, 3) := by decide +kernel
theorem dX8_count_52 : decode cX8_count 52 = .ok (.iconst 5, 1) := by decide +kernel
theorem dX8_count_53 : decode cX8_count 53 = .ok (.iaload, 1) := by decide +kernel
theorem dX8_count_54 : decode cX8_count 54 = .ok (.ireturn, 1) := by decide +kernel
theorem dX8_count_55 : decode cX8_count 55 = .ok (.aload_n 0, 1) := by decide +kernel
theorem dX8_count_56 : decode cX8_count 56 = .ok (.getfield 7, 3) := by decide +kernel
theorem dX8_count_59 : decode cX8_count 59 = .ok (.iconst 1, 1) := by decide +kernel
theorem dX8_count_60 : decode cX8_count 60 = .ok (.iaload, 1) := by decide +kernel
theorem dX8_count_61 : decode cX8_count 61 = .ok (.ireturn, 1) := by decide +kernel
theorem dX8_count_62 : decode cX8_count 62 = .ok (.aload_n 0, 1) := by decide +kernel
theorem dX8_count_63 : decode cX8_count 63 = .ok (.getfield 7, 3) := by decide +kernel
theorem dX8_count_66 : decode cX8_count 66 = .ok (.iconst 0, 1) := by decide +kernel
theorem dX8_count_67 : decode cX8_count 67 = .ok (.iaload, 1) := by decide +kernel
theorem dX8_count_68 : decode cX8_count 68 = .ok (.ireturn, 1) := by decide +kernel
theorem dX8_count_69 : decode cX8_count 69 = .ok (.aload_n 0, 1) := by decide +kernel
theorem dX8_count_70 : decode cX8_count 70 = .ok (.invokevirtual 178, 3) := by decide +kernel
theorem dX8_count_73 : decode cX8_count 73 = .ok (.ireturn, 1) := by decide +kernel
theorem dX8_count_74 : decode cX8_count 74 = .ok (.aload_n 0, 1) := by decide +kernel
theorem dX8_count_75 : decode cX8_count 75 = .ok (.getfield 7, 3) := by decide +kernel
theorem dX8_count_78 : decode cX8_count 78 = .ok (.iconst 3, 1) := by decide +kernel
theorem dX8_count_79 : decode cX8_count 79 = .ok (.iaload, 1) := by decide +kernel
theorem dX8_count_80 : decode cX8_count 80 = .ok (.ireturn, 1) := by decide +kernel
theorem dX8_count_81 : decode cX8_count 81 = .ok (.aload_n 0, 1) := by decide +kernel
theorem dX8_count_82 : decode cX8_count 82 = .ok (.getfield 7, 3) := by decide +kernel
theorem dX8_count_85 : decode cX8_count 85 = .ok (.iconst 4, 1) := by decide +kernel
theorem dX8_count_86 : decode cX8_count 86 = .ok (.iaload, 1) := by decide +kernel
theorem dX8_count_87 : decode cX8_count 87 = .ok (.ireturn, 1) := by decide +kernel
theorem dX8_count_88 : decode cX8_count 88 = .ok (.aload_n 0, 1) := by decide +kernel
theorem dX8_count_89 : decode cX8_count 89 = .ok (.getfield 221, 3) := by decide +kernel
theorem dX8_count_92 : decode cX8_count 92 = .ok (.ireturn, 1) := by decide +kernel
theorem dX8_count_93 : decode cX8_count 93 = .ok (.aload_n 0, 1) := by decide +kernel
theorem dX8_count_94 : decode cX8_count 94 = .ok (.getfield 7, 3) := by decide +kernel
theorem dX8_count_97 : decode cX8_count 97 = .ok (.iconst 2, 1) := by decide +kernel
theorem dX8_count_98 : decode cX8_count 98 = .ok (.iaload, 1) := by decide +kernel
theorem dX8_count_99 : decode cX8_count 99 = .ok (.ireturn, 1) := by decide +kernel
theorem dX8_count_100 : decode cX8_count 100 = .ok (.aload_n 0, 1) := by decide +kernel
theorem dX8_count_101 : decode cX8_count 101 = .ok (.iconst 1, 1) := by decide +kernel
theorem dX8_count_102 : decode cX8_count 102 = .ok (.invokevirtual 51, 3) := by decide +kernel
theorem dX8_count_105 : decode cX8_count 105 = .ok (.ireturn, 1) := by decide +kernel
theorem dX8_told_0 : decode cX8_told 0 = .ok (.iload_n 1, 1) := by decide +kernel
theorem dX8_told_1 : decode cX8_told 1 = .ok (.iconst 1, 1) := by decide +kernel
theorem dX8_told_2 : decode cX8_told 2 = .ok (.bipush 6, 2) := by decide +kernel
theorem dX8_told_4 : decode cX8_told 4 = .ok (.invokestatic 47, 3) := by decide +kernel
theorem dX8_told_7 : decode cX8_told 7 = .ok (.ifCond .eq 12, 3) := by decide +kernel
theorem dX8_told_10 : decode cX8_told 10 = .ok (.aload_n 0, 1) := by decide +kernel
theorem dX8_told_11 : decode cX8_told 11 = .ok (.getfield 19, 3) := by decide +kernel
theorem dX8_told_14 : decode cX8_told 14 = .ok (.iload_n 1, 1) := by decide +kernel
theorem dX8_told_15 : decode cX8_told 15 = .ok (.iaload, 1) := by decide +kernel
theorem dX8_told_16 : decode cX8_told 16 = .ok (.goto 8, 3) := by decide +kernel
theorem dX8_told_19 : decode cX8_told 19 = .ok (.aload_n 0, 1) := by decide +kernel
theorem dX8_told_20 : decode cX8_told 20 = .ok (.iconst 1, 1) := by decide +kernel
theorem dX8_told_21 : decode cX8_told 21 = .ok (.invokevirtual 51, 3) := by decide +kernel
theorem dX8_told_24 : decode cX8_told 24 = .ok (.ireturn, 1) := by decide +kernel
theorem dJ11_isValidCodePoint_9a6ad_0 : decode cJ11_isValidCodePoint_9a6ad 0 = .ok (.iload_n 0, 1) := by decide +kernel
theorem dJ11_isValidCodePoint_9a6ad_1 : decode cJ11_isValidCodePoint_9a6ad 1 = .ok (.bipush 16, 2) := by decide +kernel
theorem dJ11_isValidCodePoint_9a6ad_3 : decode cJ11_isValidCodePoint_9a6ad 3 = .ok (.iushr, 1) := by decide +kernel
theorem dJ11_isValidCodePoint_9a6ad_4 : decode cJ11_isValidCodePoint_9a6ad 4 = .ok (.istore_n 1, 1) := by decide +kernel
theorem dJ11_isValidCodePoint_9a6ad_5 : decode cJ11_isValidCodePoint_9a6ad 5 = .ok (.iload_n 1, 1) := by decide +kernel
theorem dJ11_isValidCodePoint_9a6ad_6 : decode cJ11_isValidCodePoint_9a6ad 6 = .ok (.bipush 17, 2) := by decide +kernel
theorem dJ11_isValidCodePoint_9a6ad_8 : decode cJ11_isValidCodePoint_9a6ad 8 = .ok (.if_icmp .ge 7, 3) := by decide +kernel
theorem dJ11_isValidCodePoint_9a6ad_11 : decode cJ11_isValidCodePoint_9a6ad 11 = .ok (.iconst 1, 1) := by decide +kernel
theorem dJ11_isValidCodePoint_9a6ad_12 : decode cJ11_isValidCodePoint_9a6ad 12 = .ok (.goto 4, 3) := by decide +kernel
theorem dJ11_isValidCodePoint_9a6ad_15 : decode cJ11_isValidCodePoint_9a6ad 15 = .ok (.iconst 0, 1) := by decide +kernel
theorem dJ11_isValidCodePoint_9a6ad_16 : decode cJ11_isValidCodePoint_9a6ad 16 = .ok (.ireturn, 1) := by decide +kernel
theorem dJ11_highSurrogate_5068e_0 : decode cJ11_highSurrogate_5068e 0 = .ok (.iload_n 0, 1) := by decide +kernel
theorem dJ11_highSurrogate_5068e_1 : decode cJ11_highSurrogate_5068e 1 = .ok (.bipush 10, 2) := by decide +kernel
theorem dJ11_highSurrogate_5068e_3 : decode cJ11_highSurrogate_5068e 3 = .ok (.iushr, 1) := by decide +kernel
theorem dJ11_highSurrogate_5068e_4 : decode cJ11_highSurrogate_5068e 4 = .ok (.ldc 110, 2) := by decide +kernel
theorem dJ11_highSurrogate_5068e_6 : decode cJ11_highSurrogate_5068e 6 = .ok (.iadd, 1) := by decide +kernel
theorem dJ11_highSurrogate_5068e_7 : decode cJ11_highSurrogate_5068e 7 = .ok (.i2c, 1) := by decide +kernel
theorem dJ11_highSurrogate_5068e_8 : decode cJ11_highSurrogate_5068e 8 = .ok (.ireturn, 1) := by decide +kernel
theorem dJ11_lowSurrogate_5068e_0 : decode cJ11_lowSurrogate_5068e 0 = .ok (.iload_n 0, 1) := by decide +kernel
theorem dJ11_lowSurrogate_5068e_1 : decode cJ11_lowSurrogate_5068e 1 = .ok (.sipush 1023, 3) := by decide +kernel
theorem dJ11_lowSurrogate_5068e_4 : decode cJ11_lowSurrogate_5068e 4 = .ok (.iand, 1) := by decide +kernel
theorem dJ11_lowSurrogate_5068e_5 : decode cJ11_lowSurrogate_5068e 5 = .ok (.ldc 76, 2) := by decide +kernel
theorem dJ11_lowSurrogate_5068e_7 : decode cJ11_lowSurrogate_5068e 7 = .ok (.iadd, 1) := by decide +kernel
theorem dJ11_lowSurrogate_5068e_8 : decode cJ11_lowSurrogate_5068e 8 = .ok (.i2c, 1) := by decide +kernel
theorem dJ11_lowSurrogate_5068e_9 : decode cJ11_lowSurrogate_5068e 9 = .ok (.ireturn, 1) := by decide +kernel
theorem dJ6_bitCount_0f7a4_0 : decode cJ6_bitCount_0f7a4 0 = .ok (.iload_n 0, 1) := by decide +kernel
theorem dJ6_bitCount_0f7a4_1 : decode cJ6_bitCount_0f7a4 1 = .ok (.iload_n 0, 1) := by decide +kernel
theorem dJ6_bitCount_0f7a4_2 : decode cJ6_bitCount_0f7a4 2 = .ok (.iconst 1, 1) := by decide +kernel
theorem dJ6_bitCount_0f7a4_3 : decode cJ6_bitCount_0f7a4 3 = .ok (.iushr, 1) := by decide +kernel
theorem dJ6_bitCount_0f7a4_4 : decode cJ6_bitCount_0f7a4 4 = .ok (.ldc_w 265, 3) := by decide +kernel
theorem dJ6_bitCount_0f7a4_7 : decode cJ6_bitCount_0f7a4 7 = .ok (.iand, 1) := by decide +kernel
theorem dJ6_bitCount_0f7a4_8 : decode cJ6_bitCount_0f7a4 8 = .ok (.isub, 1) := by decide +kernel
theorem dJ6_bitCount_0f7a4_9 : decode cJ6_bitCount_0f7a4 9 = .ok (.istore_n 0, 1) := by decide +kernel
theorem dJ6_bitCount_0f7a4_10 : decode cJ6_bitCount_0f7a4 10 = .ok (.iload_n 0, 1) := by decide +kernel
theorem dJ6_bitCount_0f7a4_11 : decode cJ6_bitCount_0f7a4 11 = .ok (.ldc_w 266, 3) := by decide +kernel
theorem dJ6_bitCount_0f7a4_14 : decode cJ6_bitCount_0f7a4 14 = .ok (.iand, 1) := by decide +kernel
theorem dJ6_bitCount_0f7a4_15 : decode cJ6_bitCount_0f7a4 15 = .ok (.iload_n 0, 1) := by decide +kernel
theorem dJ6_bitCount_0f7a4_16 : decode cJ6_bitCount_0f7a4 16 = .ok (.iconst 2, 1) := by decide +kernel
theorem dJ6_bitCount_0f7a4_17 : decode cJ6_bitCount_0f7a4 17 = .ok (.iushr, 1) := by decide +kernel
theorem dJ6_bitCount_0f7a4_18 : decode cJ6_bitCount_0f7a4 18 = .ok (.ldc_w 266, 3) := by decide +kernel
theorem dJ6_bitCount_0f7a4_21 : decode cJ6_bitCount_0f7a4 21 = .ok (.iand, 1) := by decide +kernel
theorem dJ6_bitCount_0f7a4_22 : decode cJ6_bitCount_0f7a4 22 = .ok (.iadd, 1) := by decide +kernel
theorem dJ6_bitCount_0f7a4_23 : decode cJ6_bitCount_0f7a4 23 = .ok (.istore_n 0, 1) := by decide +kernel
theorem dJ6_bitCount_0f7a4_24 : decode cJ6_bitCount_0f7a4 24 = .ok (.iload_n 0, 1) := by decide +kernel
theorem dJ6_bitCount_0f7a4_25 : decode cJ6_bitCount_0f7a4 25 = .ok (.iload_n 0, 1) := by decide +kernel
theorem dJ6_bitCount_0f7a4_26 : decode cJ6_bitCount_0f7a4 26 = .ok (.iconst 4, 1) := by decide +kernel
theorem dJ6_bitCount_0f7a4_27 : decode cJ6_bitCount_0f7a4 27 = .ok (.iushr, 1) := by decide +kernel
theorem dJ6_bitCount_0f7a4_28 : decode cJ6_bitCount_0f7a4 28 = .ok (.iadd, 1) := by decide +kernel
theorem dJ6_bitCount_0f7a4_29 : decode cJ6_bitCount_0f7a4 29 = .ok (.ldc_w 267, 3) := by decide +kernel
theorem dJ6_bitCount_0f7a4_32 : decode cJ6_bitCount_0f7a4 32 = .ok (.iand, 1) := by decide +kernel
theorem dJ6_bitCount_0f7a4_33 : decode cJ6_bitCount_0f7a4 33 = .ok (.istore_n 0, 1) := by decide +kernel
theorem dJ6_bitCount_0f7a4_34 : decode cJ6_bitCount_0f7a4 34 = .ok (.iload_n 0, 1) := by decide +kernel
theorem dJ6_bitCount_0f7a4_35 : decode cJ6_bitCount_0f7a4 35 = .ok (.iload_n 0, 1) := by decide +kernel
theorem dJ6_bitCount_0f7a4_36 : decode cJ6_bitCount_0f7a4 36 = .ok (.bipush 8, 2) := by decide +kernel
theorem dJ6_bitCount_0f7a4_38 : decode cJ6_bitCount_0f7a4 38 = .ok (.iushr, 1) := by decide +kernel
theorem dJ6_bitCount_0f7a4_39 : decode cJ6_bitCount_0f7a4 39 = .ok (.iadd, 1) := by decide +kernel
theorem dJ6_bitCount_0f7a4_40 : decode cJ6_bitCount_0f7a4 40 = .ok (.istore_n 0, 1) := by decide +kernel
theorem dJ6_bitCount_0f7a4_41 : decode cJ6_bitCount_0f7a4 41 = .ok (.iload_n 0, 1) := by decide +kernel
theorem dJ6_bitCount_0f7a4_42 : decode cJ6_bitCount_0f7a4 42 = .ok (.iload_n 0, 1) := by decide +kernel
theorem dJ6_bitCount_0f7a4_43 : decode cJ6_bitCount_0f7a4 43 = .ok (.bipush 16, 2) := by decide +kernel
theorem dJ6_bitCount_0f7a4_45 : decode cJ6_bitCount_0f7a4 45 = .ok (.iushr, 1) := by decide +kernel
theorem dJ6_bitCount_0f7a4_46 : decode cJ6_bitCount_0f7a4 46 = .ok (.iadd, 1) := by decide +kernel
theorem dJ6_bitCount_0f7a4_47 : decode cJ6_bitCount_0f7a4 47 = .ok (.istore_n 0, 1) := by decide +kernel
theorem dJ6_bitCount_0f7a4_48 : decode cJ6_bitCount_0f7a4 48 = .ok (.iload_n 0, 1) := by decide +kernel
theorem dJ6_bitCount_0f7a4_49 : decode cJ6_bitCount_0f7a4 49 = .ok (.bipush 63, 2) := by decide +kernel
theorem dJ6_bitCount_0f7a4_51 : decode cJ6_bitCount_0f7a4 51 = .ok (.iand, 1) := by decide +kernel
theorem dJ6_bitCount_0f7a4_52 : decode cJ6_bitCount_0f7a4 52 = .ok (.ireturn, 1) := by decide +kernel
theorem dJ9_max_7cf53_0 : decode cJ9_max_7cf53 0 = .ok (.iload_n 0, 1) := by decide +kernel
theorem dJ9_max_7cf53_1 : decode cJ9_max_7cf53 1 = .ok (.iload_n 1, 1) := by decide +kernel
theorem dJ9_max_7cf53_2 : decode cJ9_max_7cf53 2 = .ok (.if_icmp .lt 7, 3) := by decide +kernel
theorem dJ9_max_7cf53_5 : decode cJ9_max_7cf53 5 = .ok (.iload_n 0, 1) := by decide +kernel
theorem dJ9_max_7cf53_6 : decode cJ9_max_7cf53 6 = .ok (.goto 4, 3) := by decide +kernel
theorem dJ9_max_7cf53_9 : decode cJ9_max_7cf53 9 = .ok (.iload_n 1, 1) := by decide +kernel
theorem dJ9_max_7cf53_10 : decode cJ9_max_7cf53 10 = .ok (.ireturn, 1) := by decide +kernel
theorem dJ9_min_7cf53_0 : decode cJ9_min_7cf53 0 = .ok (.iload_n 0, 1) := by decide +kernel
theorem dJ9_min_7cf53_1 : decode cJ9_min_7cf53 1 = .ok (.iload_n 1, 1) := by decide +kernel
theorem dJ9_min_7cf53_2 : decode cJ9_min_7cf53 2 = .ok (.if_icmp .gt 7, 3) := by decide +kernel
theorem dJ9_min_7cf53_5 : decode cJ9_min_7cf53 5 = .ok (.iload_n 0, 1) := by decide +kernel
theorem dJ9_min_7cf53_6 : decode cJ9_min_7cf53 6 = .ok (.goto 4, 3) := by decide +kernel
theorem dJ9_min_7cf53_9 : decode cJ9_min_7cf53 9 = .ok (.iload_n 1, 1) := by decide +kernel
theorem dJ9_min_7cf53_10 : decode cJ9_min_7cf53 10 = .ok (.ireturn, 1) := by decide +kernel
theorem dJ0_length_8abf5_0 : decode cJ0_length_8abf5 0 = .ok (.aload_n 0, 1) := by decide +kernel
theorem dJ0_length_8abf5_1 : decode cJ0_length_8abf5 1 = .ok (.getfield 9, 3) := by decide +kernel
theorem dJ0_length_8abf5_4 : decode cJ0_length_8abf5 4 = .ok (.arraylength, 1) := by decide +kernel
theorem dJ0_length_8abf5_5 : decode cJ0_length_8abf5 5 = .ok (.aload_n 0, 1) := by decide +kernel
theorem dJ0_length_8abf5_6 : decode cJ0_length_8abf5 6 = .ok (.invokevirtual 335, 3) := by decide +kernel
theorem dJ0_length_8abf5_9 : decode cJ0_length_8abf5 9 = .ok (.ishr, 1) := by decide +kernel
theorem dJ0_length_8abf5_10 : decode cJ0_length_8abf5 10 = .ok (.ireturn, 1) := by decide +kernel
theorem dJ0_indexOf_0f7a4_0 : decode cJ0_indexOf_0f7a4 0 = .ok (.aload_n 0, 1) := by decide +kernel
theorem dJ0_indexOf_0f7a4_1 : decode cJ0_indexOf_0f7a4 1 = .ok (.iload_n 1, 1) := by decide +kernel
theorem dJ0_indexOf_0f7a4_2 : decode cJ0_indexOf_0f7a4 2 = .ok (.iconst 0, 1) := by decide +kernel
theorem dJ0_indexOf_0f7a4_3 : decode cJ0_indexOf_0f7a4 3 = .ok (.invokevirtual 633, 3) := by decide +kernel
theorem dJ0_indexOf_0f7a4_6 : decode cJ0_indexOf_0f7a4 6 = .ok (.ireturn, 1) := by decide +kernel
theorem dJ0_indexOf_7cf53_0 : decode cJ0_indexOf_7cf53 0 = .ok (.aload_n 0, 1) := by decide +kernel
theorem dJ0_indexOf_7cf53_1 : decode cJ0_indexOf_7cf53 1 = .ok (.invokevirtual 492, 3) := by decide +kernel
theorem dJ0_indexOf_7cf53_4 : decode cJ0_indexOf_7cf53 4 = .ok (.ifCond .eq 19, 3) := by decide +kernel
theorem dJ0_indexOf_7cf53_7 : decode cJ0_indexOf_7cf53 7 = .ok (.aload_n 0, 1) := by decide +kernel
theorem dJ0_indexOf_7cf53_8 : decode cJ0_indexOf_7cf53 8 = .ok (.getfield 9, 3) := by decide +kernel
theorem dJ0_indexOf_7cf53_11 : decode cJ0_indexOf_7cf53 11 = .ok (.iload_n 1, 1) := by decide +kernel
theorem dJ0_indexOf_7cf53_12 : decode cJ0_indexOf_7cf53 12 = .ok (.iload_n 2, 1) := by decide +kernel
theorem dJ0_indexOf_7cf53_13 : decode cJ0_indexOf_7cf53 13 = .ok (.aload_n 0, 1) := by decide +kernel
theorem dJ0_indexOf_7cf53_14 : decode cJ0_indexOf_7cf53 14 = .ok (.invokevirtual 505, 3) := by decide +kernel
theorem dJ0_indexOf_7cf53_17 : decode cJ0_indexOf_7cf53 17 = .ok (.invokestatic 637, 3) := by decide +kernel
theorem dJ0_indexOf_7cf53_20 : decode cJ0_indexOf_7cf53 20 = .ok (.goto 16, 3) := by decide +kernel
theorem dJ0_indexOf_7cf53_23 : decode cJ0_indexOf_7cf53 23 = .ok (.aload_n 0, 1) := by decide +kernel
theorem dJ0_indexOf_7cf53_24 : decode cJ0_indexOf_7cf53 24 = .ok (.getfield 9, 3) := by decide +kernel
theorem dJ0_indexOf_7cf53_27 : decode cJ0_indexOf_7cf53 27 = .ok (.iload_n 1, 1) := by decide +kernel
theorem dJ0_indexOf_7cf53_28 : decode cJ0_indexOf_7cf53 28 = .ok (.iload_n 2, 1) := by decide +kernel
theorem dJ0_indexOf_7cf53_29 : decode cJ0_indexOf_7cf53 29 = .ok (.aload_n 0, 1) := by decide +kernel
theorem dJ0_indexOf_7cf53_30 : decode cJ0_indexOf_7cf53 30 = .ok (.invokevirtual 505, 3) := by decide +kernel
theorem dJ0_indexOf_7cf53_33 : decode cJ0_indexOf_7cf53 33 = .ok (.invokestatic 640, 3) := by decide +kernel
theorem dJ0_indexOf_7cf53_36 : decode cJ0_indexOf_7cf53 36 = .ok (.ireturn, 1) := by decide +kernel
theorem dJ0_coder_7d493_0 : decode cJ0_coder_7d493 0 = .ok (.getstatic 38, 3) := by decide +kernel
theorem dJ0_coder_7d493_3 : decode cJ0_coder_7d493 3 = .ok (.ifCond .eq 10, 3) := by decide +kernel
theorem dJ0_coder_7d493_6 : decode cJ0_coder_7d493 6 = .ok (.aload_n 0, 1) := by decide +kernel
theorem dJ0_coder_7d493_7 : decode cJ0_coder_7d493 7 = .ok (.getfield 15, 3) := by decide +kernel
theorem dJ0_coder_7d493_10 : decode cJ0_coder_7d493 10 = .ok (.goto 4, 3) := by decide +kernel
theorem dJ0_coder_7d493_13 : decode cJ0_coder_7d493 13 = .ok (.iconst 1, 1) := by decide +kernel
theorem dJ0_coder_7d493_14 : decode cJ0_coder_7d493 14 = .ok (.ireturn, 1) := by decide +kernel
theorem dJ0_isLatin1_aae02_0 : decode cJ0_isLatin1_aae02 0 = .ok (.getstatic 38, 3) := by decide +kernel
theorem dJ0_isLatin1_aae02_3 : decode cJ0_isLatin1_aae02 3 = .ok (.ifCond .eq 14, 3) := by decide +kernel
theorem dJ0_isLatin1_aae02_6 : decode cJ0_isLatin1_aae02 6 = .ok (.aload_n 0, 1) := by decide +kernel
theorem dJ0_isLatin1_aae02_7 : decode cJ0_isLatin1_aae02 7 = .ok (.getfield 15, 3) := by decide +kernel
theorem dJ0_isLatin1_aae02_10 : decode cJ0_isLatin1_aae02 10 = .ok (.ifCond .ne 7, 3) := by decide +kernel
theorem dJ0_isLatin1_aae02_13 : decode cJ0_isLatin1_aae02 13 = .ok (.iconst 1, 1) := by decide +kernel
theorem dJ0_isLatin1_aae02_14 : decode cJ0_isLatin1_aae02 14 = .ok (.goto 4, 3) := by decide +kernel
theorem dJ0_isLatin1_aae02_17 : decode cJ0_isLatin1_aae02 17 = .ok (.iconst 0, 1) := by decide +kernel
theorem dJ0_isLatin1_aae02_18 : decode cJ0_isLatin1_aae02 18 = .ok (.ireturn, 1) := by decide +kernel
theorem dJ0_checkBoundsBeginEnd_23922_0 : decode cJ0_checkBoundsBeginEnd_23922 0 = .ok (.iload_n 0, 1) := by decide +kernel
theorem dJ0_checkBoundsBeginEnd_23922_1 : decode cJ0_checkBoundsBeginEnd_23922 1 = .ok (.iload_n 1, 1) := by decide +kernel
theorem dJ0_checkBoundsBeginEnd_23922_2 : decode cJ0_checkBoundsBeginEnd_23922 2 = .ok (.iload_n 2, 1) := by decide +kernel
theorem dJ0_checkBoundsBeginEnd_23922_3 : decode cJ0_checkBoundsBeginEnd_23922 3 = .ok (.getstatic 1053, 3) := by decide +kernel
theorem dJ0_checkBoundsBeginEnd_23922_6 : decode cJ0_checkBoundsBeginEnd_23922 6 = .ok (.invokestatic 1062, 3) := by decide +kernel
theorem dJ0_checkBoundsBeginEnd_23922_9 : decode cJ0_checkBoundsBeginEnd_23922 9 = .ok (.pop, 1) := by decide +kernel
theorem dJ0_checkBoundsBeginEnd_23922_10 : decode cJ0_checkBoundsBeginEnd_23922 10 = .ok (.return_, 1) := by decide +kernel
theorem dJ1_canEncode_9a6ad_0 : decode cJ1_canEncode_9a6ad 0 = .ok (.iload_n 0, 1) := by decide +kernel
theorem dJ1_canEncode_9a6ad_1 : decode cJ1_canEncode_9a6ad 1 = .ok (.ifCond .lt 14, 3) := by decide +kernel
theorem dJ1_canEncode_9a6ad_4 : decode cJ1_canEncode_9a6ad 4 = .ok (.iload_n 0, 1) := by decide +kernel
theorem dJ1_canEncode_9a6ad_5 : decode cJ1_canEncode_9a6ad 5 = .ok (.sipush 255, 3) := by decide +kernel
theorem dJ1_canEncode_9a6ad_8 : decode cJ1_canEncode_9a6ad 8 = .ok (.if_icmp .gt 7, 3) := by decide +kernel
theorem dJ1_canEncode_9a6ad_11 : decode cJ1_canEncode_9a6ad 11 = .ok (.iconst 1, 1) := by decide +kernel
theorem dJ1_canEncode_9a6ad_12 : decode cJ1_canEncode_9a6ad 12 = .ok (.goto 4, 3) := by decide +kernel
theorem dJ1_canEncode_9a6ad_15 : decode cJ1_canEncode_9a6ad 15 = .ok (.iconst 0, 1) := by decide +kernel
theorem dJ1_canEncode_9a6ad_16 : decode cJ1_canEncode_9a6ad 16 = .ok (.ireturn, 1) := by decide +kernel
theorem dJ1_indexOf_4cfef_0 : decode cJ1_indexOf_4cfef 0 = .ok (.iload_n 1, 1) := by decide +kernel
theorem dJ1_indexOf_4cfef_1 : decode cJ1_indexOf_4cfef 1 = .ok (.invokestatic 88, 3) := by decide +kernel
theorem dJ1_indexOf_4cfef_4 : decode cJ1_indexOf_4cfef 4 = .ok (.ifCond .ne 5, 3) := by decide +kernel
theorem dJ1_indexOf_4cfef_7 : decode cJ1_indexOf_4cfef 7 = .ok (.iconst (-1), 1) := by decide +kernel
theorem dJ1_indexOf_4cfef_8 : decode cJ1_indexOf_4cfef 8 = .ok (.ireturn, 1) := by decide +kernel
theorem dJ1_indexOf_4cfef_9 : decode cJ1_indexOf_4cfef 9 = .ok (.iload_n 2, 1) := by decide +kernel
theorem dJ1_indexOf_4cfef_10 : decode cJ1_indexOf_4cfef 10 = .ok (.iconst 0, 1) := by decide +kernel
theorem dJ1_indexOf_4cfef_11 : decode cJ1_indexOf_4cfef 11 = .ok (.invokestatic 92, 3) := by decide +kernel
theorem dJ1_indexOf_4cfef_14 : decode cJ1_indexOf_4cfef 14 = .ok (.istore_n 2, 1) := by decide +kernel
theorem dJ1_indexOf_4cfef_15 : decode cJ1_indexOf_4cfef 15 = .ok (.iload_n 3, 1) := by decide +kernel
theorem dJ1_indexOf_4cfef_16 : decode cJ1_indexOf_4cfef 16 = .ok (.aload_n 0, 1) := by decide +kernel
theorem dJ1_indexOf_4cfef_17 : decode cJ1_indexOf_4cfef 17 = .ok (.arraylength, 1) := by decide +kernel
theorem dJ1_indexOf_4cfef_18 : decode cJ1_indexOf_4cfef 18 = .ok (.invokestatic 38, 3) := by decide +kernel
theorem dJ1_indexOf_4cfef_21 : decode cJ1_indexOf_4cfef 21 = .ok (.istore_n 3, 1) := by decide +kernel
theorem dJ1_indexOf_4cfef_22 : decode cJ1_indexOf_4cfef 22 = .ok (.iload_n 2, 1) := by decide +kernel
theorem dJ1_indexOf_4cfef_23 : decode cJ1_indexOf_4cfef 23 = .ok (.iload_n 3, 1) := by decide +kernel
theorem dJ1_indexOf_4cfef_24 : decode cJ1_indexOf_4cfef 24 = .ok (.if_icmp .lt 5, 3) := by decide +kernel
theorem dJ1_indexOf_4cfef_27 : decode cJ1_indexOf_4cfef 27 = .ok (.iconst (-1), 1) := by decide +kernel
theorem dJ1_indexOf_4cfef_28 : decode cJ1_indexOf_4cfef 28 = .ok (.ireturn, 1) := by decide +kernel
theorem dJ1_indexOf_4cfef_29 : decode cJ1_indexOf_4cfef 29 = .ok (.aload_n 0, 1) := by decide +kernel
theorem dJ1_indexOf_4cfef_30 : decode cJ1_indexOf_4cfef 30 = .ok (.iload_n 1, 1) := by decide +kernel
theorem dJ1_indexOf_4cfef_31 : decode cJ1_indexOf_4cfef 31 = .ok (.iload_n 2, 1) := by decide +kernel
theorem dJ1_indexOf_4cfef_32 : decode cJ1_indexOf_4cfef 32 = .ok (.iload_n 3, 1) := by decide +kernel
theorem dJ1_indexOf_4cfef_33 : decode cJ1_indexOf_4cfef 33 = .ok (.invokestatic 95, 3) := by decide +kernel
theorem dJ1_indexOf_4cfef_36 : decode cJ1_indexOf_4cfef 36 = .ok (.ireturn, 1) := by decide +kernel
theorem dJ1_indexOfChar_4cfef_0 : decode cJ1_indexOfChar_4cfef 0 = .ok (.iload_n 1, 1) := by decide +kernel
theorem dJ1_indexOfChar_4cfef_1 : decode cJ1_indexOfChar_4cfef 1 = .ok (.i2b, 1) := by decide +kernel
theorem dJ1_indexOfChar_4cfef_2 : decode cJ1_indexOfChar_4cfef 2 = .ok (.istore 4, 2) := by decide +kernel
theorem dJ1_indexOfChar_4cfef_4 : decode cJ1_indexOfChar_4cfef 4 = .ok (.iload_n 2, 1) := by decide +kernel
theorem dJ1_indexOfChar_4cfef_5 : decode cJ1_indexOfChar_4cfef 5 = .ok (.istore 5, 2) := by decide +kernel
theorem dJ1_indexOfChar_4cfef_7 : decode cJ1_indexOfChar_4cfef 7 = .ok (.iload 5, 2) := by decide +kernel
theorem dJ1_indexOfChar_4cfef_9 : decode cJ1_indexOfChar_4cfef 9 = .ok (.iload_n 3, 1) := by decide +kernel
theorem dJ1_indexOfChar_4cfef_10 : decode cJ1_indexOfChar_4cfef 10 = .ok (.if_icmp .ge 21, 3) := by decide +kernel
theorem dJ1_indexOfChar_4cfef_13 : decode cJ1_indexOfChar_4cfef 13 = .ok (.aload_n 0, 1) := by decide +kernel
theorem dJ1_indexOfChar_4cfef_14 : decode cJ1_indexOfChar_4cfef 14 = .ok (.iload 5, 2) := by decide +kernel
theorem dJ1_indexOfChar_4cfef_16 : decode cJ1_indexOfChar_4cfef 16 = .ok (.baload, 1) := by decide +kernel
theorem dJ1_indexOfChar_4cfef_17 : decode cJ1_indexOfChar_4cfef 17 = .ok (.iload 4, 2) := by decide +kernel
theorem dJ1_indexOfChar_4cfef_19 : decode cJ1_indexOfChar_4cfef 19 = .ok (.if_icmp .ne 6, 3) := by decide +kernel
theorem dJ1_indexOfChar_4cfef_22 : decode cJ1_indexOfChar_4cfef 22 = .ok (.iload 5, 2) := by decide +kernel
theorem dJ1_indexOfChar_4cfef_24 : decode cJ1_indexOfChar_4cfef 24 = .ok (.ireturn, 1) := by decide +kernel
theorem dJ1_indexOfChar_4cfef_25 : decode cJ1_indexOfChar_4cfef 25 = .ok (.iinc 5 1, 3) := by decide +kernel
theorem dJ1_indexOfChar_4cfef_28 : decode cJ1_indexOfChar_4cfef 28 = .ok (.goto (-21), 3) := by decide +kernel
theorem dJ1_indexOfChar_4cfef_31 : decode cJ1_indexOfChar_4cfef 31 = .ok (.iconst (-1), 1) := by decide +kernel
theorem dJ1_indexOfChar_4cfef_32 : decode cJ1_indexOfChar_4cfef 32 = .ok (.ireturn, 1) := by decide +kernel
theorem dJ2_getChar_3b067_0 : decode cJ2_getChar_3b067 0 = .ok (.getstatic 44, 3) := by decide +kernel
theorem dJ2_getChar_3b067_3 : decode cJ2_getChar_3b067 3 = .ok (.ifCond .ne 25, 3) := by decide +kernel
theorem dJ2_getChar_3b067_6 : decode cJ2_getChar_3b067 6 = .ok (.iload_n 1, 1) := by decide +kernel
theorem dJ2_getChar_3b067_7 : decode cJ2_getChar_3b067 7 = .ok (.ifCond .lt 11, 3) := by decide +kernel
theorem dJ2_getChar_3b067_10 : decode cJ2_getChar_3b067 10 = .ok (.iload_n 1, 1) := by decide +kernel
theorem dJ2_getChar_3b067_11 : decode cJ2_getChar_3b067 11 = .ok (.aload_n 0, 1) := by decide +kernel
theorem dJ2_getChar_3b067_12 : decode cJ2_getChar_3b067 12 = .ok (.invokestatic 48, 3) := by decide +kernel
theorem dJ2_getChar_3b067_15 : decode cJ2_getChar_3b067 15 = .ok (.if_icmp .lt 13, 3) := by decide +kernel
theorem dJ2_getChar_3b067_18 : decode cJ2_getChar_3b067 18 = .ok (.new 52, 3) := by decide +kernel
theorem dJ2_getChar_3b067_21 : decode cJ2_getChar_3b067 21 = .ok (.dup, 1) := by decide +kernel
theorem dJ2_getChar_3b067_22 : decode cJ2_getChar_3b067 22 = .ok (.ldc 54, 2) := by decide +kernel
theorem dJ2_getChar_3b067_24 : decode cJ2_getChar_3b067 24 = .ok (.invokespecial 56, 3) := by decide +kernel
theorem dJ2_getChar_3b067_27 : decode cJ2_getChar_3b067 27 = .ok (.athrow, 1) := by decide +kernel
theorem dJ2_getChar_3b067_28 : decode cJ2_getChar_3b067 28 = .ok (.iload_n 1, 1) := by decide +kernel
theorem dJ2_getChar_3b067_29 : decode cJ2_getChar_3b067 29 = .ok (.iconst 1, 1) := by decide +kernel
theorem dJ2_getChar_3b067_30 : decode cJ2_getChar_3b067 30 = .ok (.ishl, 1) := by decide +kernel
theorem dJ2_getChar_3b067_31 : decode cJ2_getChar_3b067 31 = .ok (.istore_n 1, 1) := by decide +kernel
theorem dJ2_getChar_3b067_32 : decode cJ2_getChar_3b067 32 = .ok (.aload_n 0, 1) := by decide +kernel
theorem dJ2_getChar_3b067_33 : decode cJ2_getChar_3b067 33 = .ok (.iload_n 1, 1) := by decide +kernel
theorem dJ2_getChar_3b067_34 : decode cJ2_getChar_3b067 34 = .ok (.iinc 1 1, 3) := by decide +kernel
theorem dJ2_getChar_3b067_37 : decode cJ2_getChar_3b067 37 = .ok (.baload, 1) := by decide +kernel
theorem dJ2_getChar_3b067_38 : decode cJ2_getChar_3b067 38 = .ok (.sipush 255, 3) := by decide +kernel
theorem dJ2_getChar_3b067_41 : decode cJ2_getChar_3b067 41 = .ok (.iand, 1) := by decide +kernel
theorem dJ2_getChar_3b067_42 : decode cJ2_getChar_3b067 42 = .ok (.getstatic 59, 3) := by decide +kernel
theorem dJ2_getChar_3b067_45 : decode cJ2_getChar_3b067 45 = .ok (.ishl, 1) := by decide +kernel
theorem dJ2_getChar_3b067_46 : decode cJ2_getChar_3b067 46 = .ok (.aload_n 0, 1) := by decide +kernel
theorem dJ2_getChar_3b067_47 : decode cJ2_getChar_3b067 47 = .ok (.iload_n 1, 1) := by decide +kernel
theorem dJ2_getChar_3b067_48 : decode cJ2_getChar_3b067 48 = .ok (.baload, 1) := by decide +kernel
theorem dJ2_getChar_3b067_49 : decode cJ2_getChar_3b067 49 = .ok (.sipush 255, 3) := by decide +kernel
theorem dJ2_getChar_3b067_52 : decode cJ2_getChar_3b067 52 = .ok (.iand, 1) := by decide +kernel
theorem dJ2_getChar_3b067_53 : decode cJ2_getChar_3b067 53 = .ok (.getstatic 63, 3) := by decide +kernel
theorem dJ2_getChar_3b067_56 : decode cJ2_getChar_3b067 56 = .ok (.ishl, 1) := by decide +kernel
theorem dJ2_getChar_3b067_57 : decode cJ2_getChar_3b067 57 = .ok (.ior, 1) := by decide +kernel
theorem dJ2_getChar_3b067_58 : decode cJ2_getChar_3b067 58 = .ok (.i2c, 1) := by decide +kernel
theorem dJ2_getChar_3b067_59 : decode cJ2_getChar_3b067 59 = .ok (.ireturn, 1) := by decide +kernel
theorem dJ2_length_9d52b_0 : decode cJ2_length_9d52b 0 = .ok (.aload_n 0, 1) := by decide +kernel
theorem dJ2_length_9d52b_1 : decode cJ2_length_9d52b 1 = .ok (.arraylength, 1) := by decide +kernel
theorem dJ2_length_9d52b_2 : decode cJ2_length_9d52b 2 = .ok (.iconst 1, 1) := by decide +kernel
theorem dJ2_length_9d52b_3 : decode cJ2_length_9d52b 3 = .ok (.ishr, 1) := by decide +kernel
theorem dJ2_length_9d52b_4 : decode cJ2_length_9d52b 4 = .ok (.ireturn, 1) := by decide +kernel
theorem dJ2_indexOf_4cfef_0 : decode cJ2_indexOf_4cfef 0 = .ok (.iload_n 2, 1) := by decide +kernel
theorem dJ2_indexOf_4cfef_1 : decode cJ2_indexOf_4cfef 1 = .ok (.iconst 0, 1) := by decide +kernel
theorem dJ2_indexOf_4cfef_2 : decode cJ2_indexOf_4cfef 2 = .ok (.invokestatic 224, 3) := by decide +kernel
theorem dJ2_indexOf_4cfef_5 : decode cJ2_indexOf_4cfef 5 = .ok (.istore_n 2, 1) := by decide +kernel
theorem dJ2_indexOf_4cfef_6 : decode cJ2_indexOf_4cfef 6 = .ok (.iload_n 3, 1) := by decide +kernel
theorem dJ2_indexOf_4cfef_7 : decode cJ2_indexOf_4cfef 7 = .ok (.aload_n 0, 1) := by decide +kernel
theorem dJ2_indexOf_4cfef_8 : decode cJ2_indexOf_4cfef 8 = .ok (.arraylength, 1) := by decide +kernel
theorem dJ2_indexOf_4cfef_9 : decode cJ2_indexOf_4cfef 9 = .ok (.iconst 1, 1) := by decide +kernel
theorem dJ2_indexOf_4cfef_10 : decode cJ2_indexOf_4cfef 10 = .ok (.ishr, 1) := by decide +kernel
theorem dJ2_indexOf_4cfef_11 : decode cJ2_indexOf_4cfef 11 = .ok (.invokestatic 183, 3) := by decide +kernel
theorem dJ2_indexOf_4cfef_14 : decode cJ2_indexOf_4cfef 14 = .ok (.istore_n 3, 1) := by decide +kernel
theorem dJ2_indexOf_4cfef_15 : decode cJ2_indexOf_4cfef 15 = .ok (.iload_n 2, 1) := by decide +kernel
theorem dJ2_indexOf_4cfef_16 : decode cJ2_indexOf_4cfef 16 = .ok (.iload_n 3, 1) := by decide +kernel
theorem dJ2_indexOf_4cfef_17 : decode cJ2_indexOf_4cfef 17 = .ok (.if_icmp .lt 5, 3) := by decide +kernel
theorem dJ2_indexOf_4cfef_20 : decode cJ2_indexOf_4cfef 20 = .ok (.iconst (-1), 1) := by decide +kernel
theorem dJ2_indexOf_4cfef_21 : decode cJ2_indexOf_4cfef 21 = .ok (.ireturn, 1) := by decide +kernel
theorem dJ2_indexOf_4cfef_22 : decode cJ2_indexOf_4cfef 22 = .ok (.iload_n 1, 1) := by decide +kernel
theorem dJ2_indexOf_4cfef_23 : decode cJ2_indexOf_4cfef 23 = .ok (.ldc 227, 2) := by decide +kernel
theorem dJ2_indexOf_4cfef_25 : decode cJ2_indexOf_4cfef 25 = .ok (.if_icmp .ge 11, 3) := by decide +kernel
theorem dJ2_indexOf_4cfef_28 : decode cJ2_indexOf_4cfef 28 = .ok (.aload_n 0, 1) := by decide +kernel
theorem dJ2_indexOf_4cfef_29 : decode cJ2_indexOf_4cfef 29 = .ok (.iload_n 1, 1) := by decide +kernel
theorem dJ2_indexOf_4cfef_30 : decode cJ2_indexOf_4cfef 30 = .ok (.iload_n 2, 1) := by decide +kernel
theorem dJ2_indexOf_4cfef_31 : decode cJ2_indexOf_4cfef 31 = .ok (.iload_n 3, 1) := by decide +kernel
theorem dJ2_indexOf_4cfef_32 : decode cJ2_indexOf_4cfef 32 = .ok (.invokestatic 228, 3) := by decide +kernel
theorem dJ2_indexOf_4cfef_35 : decode cJ2_indexOf_4cfef 35 = .ok (.ireturn, 1) := by decide +kernel
theorem dJ2_indexOf_4cfef_36 : decode cJ2_indexOf_4cfef 36 = .ok (.aload_n 0, 1) := by decide +kernel
theorem dJ2_indexOf_4cfef_37 : decode cJ2_indexOf_4cfef 37 = .ok (.iload_n 1, 1) := by decide +kernel
theorem dJ2_indexOf_4cfef_38 : decode cJ2_indexOf_4cfef 38 = .ok (.iload_n 2, 1) := by decide +kernel
theorem dJ2_indexOf_4cfef_39 : decode cJ2_indexOf_4cfef 39 = .ok (.iload_n 3, 1) := by decide +kernel
theorem dJ2_indexOf_4cfef_40 : decode cJ2_indexOf_4cfef 40 = .ok (.invokestatic 232, 3) := by decide +kernel
theorem dJ2_indexOf_4cfef_43 : decode cJ2_indexOf_4cfef 43 = .ok (.ireturn, 1) := by decide +kernel
theorem dJ2_indexOfChar_4cfef_0 : decode cJ2_indexOfChar_4cfef 0 = .ok (.iload_n 2, 1) := by decide +kernel
theorem dJ2_indexOfChar_4cfef_1 : decode cJ2_indexOfChar_4cfef 1 = .ok (.iload_n 3, 1) := by decide +kernel
theorem dJ2_indexOfChar_4cfef_2 : decode cJ2_indexOfChar_4cfef 2 = .ok (.aload_n 0, 1) := by decide +kernel
theorem dJ2_indexOfChar_4cfef_3 : decode cJ2_indexOfChar_4cfef 3 = .ok (.invokestatic 96, 3) := by decide +kernel
theorem dJ2_indexOfChar_4cfef_6 : decode cJ2_indexOfChar_4cfef 6 = .ok (.aload_n 0, 1) := by decide +kernel
theorem dJ2_indexOfChar_4cfef_7 : decode cJ2_indexOfChar_4cfef 7 = .ok (.iload_n 1, 1) := by decide +kernel
theorem dJ2_indexOfChar_4cfef_8 : decode cJ2_indexOfChar_4cfef 8 = .ok (.iload_n 2, 1) := by decide +kernel
theorem dJ2_indexOfChar_4cfef_9 : decode cJ2_indexOfChar_4cfef 9 = .ok (.iload_n 3, 1) := by decide +kernel
theorem dJ2_indexOfChar_4cfef_10 : decode cJ2_indexOfChar_4cfef 10 = .ok (.invokestatic 244, 3) := by decide +kernel
theorem dJ2_indexOfChar_4cfef_13 : decode cJ2_indexOfChar_4cfef 13 = .ok (.ireturn, 1) := by decide +kernel
theorem dJ2_indexOfCharUnsafe_4cfef_0 : decode cJ2_indexOfCharUnsafe_4cfef 0 = .ok (.iload_n 2, 1) := by decide +kernel
theorem dJ2_indexOfCharUnsafe_4cfef_1 : decode cJ2_indexOfCharUnsafe_4cfef 1 = .ok (.istore 4, 2) := by decide +kernel
theorem dJ2_indexOfCharUnsafe_4cfef_3 : decode cJ2_indexOfCharUnsafe_4cfef 3 = .ok (.iload 4, 2) := by decide +kernel
theorem dJ2_indexOfCharUnsafe_4cfef_5 : decode cJ2_indexOfCharUnsafe_4cfef 5 = .ok (.iload_n 3, 1) := by decide +kernel
theorem dJ2_indexOfCharUnsafe_4cfef_6 : decode cJ2_indexOfCharUnsafe_4cfef 6 = .ok (.if_icmp .ge 22, 3) := by decide +kernel
theorem dJ2_indexOfCharUnsafe_4cfef_9 : decode cJ2_indexOfCharUnsafe_4cfef 9 = .ok (.aload_n 0, 1) := by decide +kernel
theorem dJ2_indexOfCharUnsafe_4cfef_10 : decode cJ2_indexOfCharUnsafe_4cfef 10 = .ok (.iload 4, 2) := by decide +kernel
theorem dJ2_indexOfCharUnsafe_4cfef_12 : decode cJ2_indexOfCharUnsafe_4cfef 12 = .ok (.invokestatic 71, 3) := by decide +kernel
theorem dJ2_indexOfCharUnsafe_4cfef_15 : decode cJ2_indexOfCharUnsafe_4cfef 15 = .ok (.iload_n 1, 1) := by decide +kernel
theorem dJ2_indexOfCharUnsafe_4cfef_16 : decode cJ2_indexOfCharUnsafe_4cfef 16 = .ok (.if_icmp .ne 6, 3) := by decide +kernel
theorem dJ2_indexOfCharUnsafe_4cfef_19 : decode cJ2_indexOfCharUnsafe_4cfef 19 = .ok (.iload 4, 2) := by decide +kernel
theorem dJ2_indexOfCharUnsafe_4cfef_21 : decode cJ2_indexOfCharUnsafe_4cfef 21 = .ok (.ireturn, 1) := by decide +kernel
theorem dJ2_indexOfCharUnsafe_4cfef_22 : decode cJ2_indexOfCharUnsafe_4cfef 22 = .ok (.iinc 4 1, 3) := by decide +kernel
theorem dJ2_indexOfCharUnsafe_4cfef_25 : decode cJ2_indexOfCharUnsafe_4cfef 25 = .ok (.goto (-22), 3) := by decide +kernel
theorem dJ2_indexOfCharUnsafe_4cfef_28 : decode cJ2_indexOfCharUnsafe_4cfef 28 = .ok (.iconst (-1), 1) := by decide +kernel
theorem dJ2_indexOfCharUnsafe_4cfef_29 : decode cJ2_indexOfCharUnsafe_4cfef 29 = .ok (.ireturn, 1) := by decide +kernel
theorem dJ2_indexOfSupplementary_4cfef_0 : decode cJ2_indexOfSupplementary_4cfef 0 = .ok (.iload_n 1, 1) := by decide +kernel
theorem dJ2_indexOfSupplementary_4cfef_1 : decode cJ2_indexOfSupplementary_4cfef 1 = .ok (.invokestatic 164, 3) := by decide +kernel
theorem dJ2_indexOfSupplementary_4cfef_4 : decode cJ2_indexOfSupplementary_4cfef 4 = .ok (.ifCond .eq 65, 3) := by decide +kernel
theorem dJ2_indexOfSupplementary_4cfef_7 : decode cJ2_indexOfSupplementary_4cfef 7 = .ok (.iload_n 1, 1) := by decide +kernel
theorem dJ2_indexOfSupplementary_4cfef_8 : decode cJ2_indexOfSupplementary_4cfef 8 = .ok (.invokestatic 157, 3) := by decide +kernel
theorem dJ2_indexOfSupplementary_4cfef_11 : decode cJ2_indexOfSupplementary_4cfef 11 = .ok (.istore 4, 2) := by decide +kernel
theorem dJ2_indexOfSupplementary_4cfef_13 : decode cJ2_indexOfSupplementary_4cfef 13 = .ok (.iload_n 1, 1) := by decide +kernel
theorem dJ2_indexOfSupplementary_4cfef_14 : decode cJ2_indexOfSupplementary_4cfef 14 = .ok (.invokestatic 161, 3) := by decide +kernel
theorem dJ2_indexOfSupplementary_4cfef_17 : decode cJ2_indexOfSupplementary_4cfef 17 = .ok (.istore 5, 2) := by decide +kernel
theorem dJ2_indexOfSupplementary_4cfef_19 : decode cJ2_indexOfSupplementary_4cfef 19 = .ok (.iload_n 2, 1) := by decide +kernel
theorem dJ2_indexOfSupplementary_4cfef_20 : decode cJ2_indexOfSupplementary_4cfef 20 = .ok (.iload_n 3, 1) := by decide +kernel
theorem dJ2_indexOfSupplementary_4cfef_21 : decode cJ2_indexOfSupplementary_4cfef 21 = .ok (.aload_n 0, 1) := by decide +kernel
theorem dJ2_indexOfSupplementary_4cfef_22 : decode cJ2_indexOfSupplementary_4cfef 22 = .ok (.invokestatic 96, 3) := by decide +kernel
theorem dJ2_indexOfSupplementary_4cfef_25 : decode cJ2_indexOfSupplementary_4cfef 25 = .ok (.iload_n 2, 1) := by decide +kernel
theorem dJ2_indexOfSupplementary_4cfef_26 : decode cJ2_indexOfSupplementary_4cfef 26 = .ok (.istore 6, 2) := by decide +kernel
theorem dJ2_indexOfSupplementary_4cfef_28 : decode cJ2_indexOfSupplementary_4cfef 28 = .ok (.iload 6, 2) := by decide +kernel
theorem dJ2_indexOfSupplementary_4cfef_30 : decode cJ2_indexOfSupplementary_4cfef 30 = .ok (.iload_n 3, 1) := by decide +kernel
theorem dJ2_indexOfSupplementary_4cfef_31 : decode cJ2_indexOfSupplementary_4cfef 31 = .ok (.iconst 1, 1) := by decide +kernel
theorem dJ2_indexOfSupplementary_4cfef_32 : decode cJ2_indexOfSupplementary_4cfef 32 = .ok (.isub, 1) := by decide +kernel
theorem dJ2_indexOfSupplementary_4cfef_33 : decode cJ2_indexOfSupplementary_4cfef 33 = .ok (.if_icmp .ge 36, 3) := by decide +kernel
theorem dJ2_indexOfSupplementary_4cfef_36 : decode cJ2_indexOfSupplementary_4cfef 36 = .ok (.aload_n 0, 1) := by decide +kernel
theorem dJ2_indexOfSupplementary_4cfef_37 : decode cJ2_indexOfSupplementary_4cfef 37 = .ok (.iload 6, 2) := by decide +kernel
theorem dJ2_indexOfSupplementary_4cfef_39 : decode cJ2_indexOfSupplementary_4cfef 39 = .ok (.invokestatic 71, 3) := by decide +kernel
theorem dJ2_indexOfSupplementary_4cfef_42 : decode cJ2_indexOfSupplementary_4cfef 42 = .ok (.iload 4, 2) := by decide +kernel
theorem dJ2_indexOfSupplementary_4cfef_44 : decode cJ2_indexOfSupplementary_4cfef 44 = .ok (.if_icmp .ne 19, 3) := by decide +kernel
theorem dJ2_indexOfSupplementary_4cfef_47 : decode cJ2_indexOfSupplementary_4cfef 47 = .ok (.aload_n 0, 1) := by decide +kernel
theorem dJ2_indexOfSupplementary_4cfef_48 : decode cJ2_indexOfSupplementary_4cfef 48 = .ok (.iload 6, 2) := by decide +kernel
theorem dJ2_indexOfSupplementary_4cfef_50 : decode cJ2_indexOfSupplementary_4cfef 50 = .ok (.iconst 1, 1) := by decide +kernel
theorem dJ2_indexOfSupplementary_4cfef_51 : decode cJ2_indexOfSupplementary_4cfef 51 = .ok (.iadd, 1) := by decide +kernel
theorem dJ2_indexOfSupplementary_4cfef_52 : decode cJ2_indexOfSupplementary_4cfef 52 = .ok (.invokestatic 71, 3) := by decide +kernel
theorem dJ2_indexOfSupplementary_4cfef_55 : decode cJ2_indexOfSupplementary_4cfef 55 = .ok (.iload 5, 2) := by decide +kernel
theorem dJ2_indexOfSupplementary_4cfef_57 : decode cJ2_indexOfSupplementary_4cfef 57 = .ok (.if_icmp .ne 6, 3) := by decide +kernel
theorem dJ2_indexOfSupplementary_4cfef_60 : decode cJ2_indexOfSupplementary_4cfef 60 = .ok (.iload 6, 2) := by decide +kernel
theorem dJ2_indexOfSupplementary_4cfef_62 : decode cJ2_indexOfSupplementary_4cfef 62 = .ok (.ireturn, 1) := by decide +kernel
theorem dJ2_indexOfSupplementary_4cfef_63 : decode cJ2_indexOfSupplementary_4cfef 63 = .ok (.iinc 6 1, 3) := by decide +kernel
theorem dJ2_indexOfSupplementary_4cfef_66 : decode cJ2_indexOfSupplementary_4cfef 66 = .ok (.goto (-38), 3) := by decide +kernel
theorem dJ2_indexOfSupplementary_4cfef_69 : decode cJ2_indexOfSupplementary_4cfef 69 = .ok (.iconst (-1), 1) := by decide +kernel
theorem dJ2_indexOfSupplementary_4cfef_70 : decode cJ2_indexOfSupplementary_4cfef 70 = .ok (.ireturn, 1) := by decide +kernel
theorem dJ2_checkBoundsBeginEnd_d044e_0 : decode cJ2_checkBoundsBeginEnd_d044e 0 = .ok (.iload_n 0, 1) := by decide +kernel
theorem dJ2_checkBoundsBeginEnd_d044e_1 : decode cJ2_checkBoundsBeginEnd_d044e 1 = .ok (.iload_n 1, 1) := by decide +kernel
theorem dJ2_checkBoundsBeginEnd_d044e_2 : decode cJ2_checkBoundsBeginEnd_d044e 2 = .ok (.aload_n 2, 1) := by decide +kernel
theorem dJ2_checkBoundsBeginEnd_d044e_3 : decode cJ2_checkBoundsBeginEnd_d044e 3 = .ok (.invokestatic 48, 3) := by decide +kernel
theorem dJ2_checkBoundsBeginEnd_d044e_6 : decode cJ2_checkBoundsBeginEnd_d044e 6 = .ok (.invokestatic 241, 3) := by decide +kernel
theorem dJ2_checkBoundsBeginEnd_d044e_9 : decode cJ2_checkBoundsBeginEnd_d044e 9 = .ok (.return_, 1) := by decide +kernel
theorem dJ3_checkFromToIndex_8c36e_0 : decode cJ3_checkFromToIndex_8c36e 0 = .ok (.iload_n 0, 1) := by decide +kernel
theorem dJ3_checkFromToIndex_8c36e_1 : decode cJ3_checkFromToIndex_8c36e 1 = .ok (.ifCond .lt 13, 3) := by decide +kernel
theorem dJ3_checkFromToIndex_8c36e_4 : decode cJ3_checkFromToIndex_8c36e 4 = .ok (.iload_n 0, 1) := by decide +kernel
theorem dJ3_checkFromToIndex_8c36e_5 : decode cJ3_checkFromToIndex_8c36e 5 = .ok (.iload_n 1, 1) := by decide +kernel
theorem dJ3_checkFromToIndex_8c36e_6 : decode cJ3_checkFromToIndex_8c36e 6 = .ok (.if_icmp .gt 8, 3) := by decide +kernel
theorem dJ3_checkFromToIndex_8c36e_9 : decode cJ3_checkFromToIndex_8c36e 9 = .ok (.iload_n 1, 1) := by decide +kernel
theorem dJ3_checkFromToIndex_8c36e_10 : decode cJ3_checkFromToIndex_8c36e 10 = .ok (.iload_n 2, 1) := by decide +kernel
theorem dJ3_checkFromToIndex_8c36e_11 : decode cJ3_checkFromToIndex_8c36e 11 = .ok (.if_icmp .le 11, 3) := by decide +kernel
theorem dJ3_checkFromToIndex_8c36e_14 : decode cJ3_checkFromToIndex_8c36e 14 = .ok (.aload_n 3, 1) := by decide +kernel
theorem dJ3_checkFromToIndex_8c36e_15 : decode cJ3_checkFromToIndex_8c36e 15 = .ok (.iload_n 0, 1) := by decide +kernel
theorem dJ3_checkFromToIndex_8c36e_16 : decode cJ3_checkFromToIndex_8c36e 16 = .ok (.iload_n 1, 1) := by decide +kernel
theorem dJ3_checkFromToIndex_8c36e_17 : decode cJ3_checkFromToIndex_8c36e 17 = .ok (.iload_n 2, 1) := by decide +kernel
theorem dJ3_checkFromToIndex_8c36e_18 : decode cJ3_checkFromToIndex_8c36e 18 = .ok (.invokestatic 99, 3) := by decide +kernel
theorem dJ3_checkFromToIndex_8c36e_21 : decode cJ3_checkFromToIndex_8c36e 21 = .ok (.athrow, 1) := by decide +kernel
theorem dJ3_checkFromToIndex_8c36e_22 : decode cJ3_checkFromToIndex_8c36e 22 = .ok (.iload_n 0, 1) := by decide +kernel
theorem dJ3_checkFromToIndex_8c36e_23 : decode cJ3_checkFromToIndex_8c36e 23 = .ok (.ireturn, 1) := by decide +kernel
theorem dL_law_0 : decode cL_law 0 = .ok (.new 7, 3) := by decide +kernel
theorem dL_law_3 : decode cL_law 3 = .ok (.dup, 1) := by decide +kernel
theorem dL_law_4 : decode cL_law 4 = .ok (.invokespecial 9, 3) := by decide +kernel
theorem dL_law_7 : decode cL_law 7 = .ok (.astore_n 1, 1) := by decide +kernel
theorem dL_law_8 : decode cL_law 8 = .ok (.new 10, 3) := by decide +kernel
theorem dL_law_11 : decode cL_law 11 = .ok (.dup, 1) := by decide +kernel
theorem dL_law_12 : decode cL_law 12 = .ok (.invokespecial 12, 3) := by decide +kernel
theorem dL_law_15 : decode cL_law 15 = .ok (.astore_n 2, 1) := by decide +kernel
theorem dL_law_16 : decode cL_law 16 = .ok (.iconst 0, 1) := by decide +kernel
theorem dL_law_17 : decode cL_law 17 = .ok (.istore_n 3, 1) := by decide +kernel
theorem dL_law_18 : decode cL_law 18 = .ok (.iload_n 3, 1) := by decide +kernel
theorem dL_law_19 : decode cL_law 19 = .ok (.aload_n 0, 1) := by decide +kernel
theorem dL_law_20 : decode cL_law 20 = .ok (.arraylength, 1) := by decide +kernel
theorem dL_law_21 : decode cL_law 21 = .ok (.bipush 6, 2) := by decide +kernel
theorem dL_law_23 : decode cL_law 23 = .ok (.isub, 1) := by decide +kernel
theorem dL_law_24 : decode cL_law 24 = .ok (.if_icmp .gt 1325, 3) := by decide +kernel
theorem dL_law_27 : decode cL_law 27 = .ok (.aload_n 0, 1) := by decide +kernel
theorem dL_law_28 : decode cL_law 28 = .ok (.iload_n 3, 1) := by decide +kernel
theorem dL_law_29 : decode cL_law 29 = .ok (.iaload, 1) := by decide +kernel
theorem dL_law_30 : decode cL_law 30 = .ok (.bipush 63, 2) := by decide +kernel
theorem dL_law_32 : decode cL_law 32 = .ok (.iand, 1) := by decide +kernel
theorem dL_law_33 : decode cL_law 33 = .ok (.tableswitch 1310 0 34 #[155, 188, 221, 254, 287, 320, 353, 386, 449, 472, 495, 548, 571, 594, 617, 640, 683, 716, 759, 812, 845, 898, 941, 984, 1007, 1050, 1093, 1156, 1179, 1202, 1215, 1228, 1251, 1264, 1287], 155) := by decide +kernel
theorem dL_law_188 : decode cL_law 188 = .ok (.aload_n 1, 1) := by decide +kernel
theorem dL_law_189 : decode cL_law 189 = .ok (.aload_n 0, 1) := by decide +kernel
theorem dL_law_190 : decode cL_law 190 = .ok (.iload_n 3, 1) := by decide +kernel
theorem dL_law_191 : decode cL_law 191 = .ok (.iconst 1, 1) := by decide +kernel
theorem dL_law_192 : decode cL_law 192 = .ok (.iadd, 1) := by decide +kernel
theorem dL_law_193 : decode cL_law 193 = .ok (.iaload, 1) := by decide +kernel
theorem dL_law_194 : decode cL_law 194 = .ok (.aload_n 0, 1) := by decide +kernel
theorem dL_law_195 : decode cL_law 195 = .ok (.iload_n 3, 1) := by decide +kernel
theorem dL_law_196 : decode cL_law 196 = .ok (.iconst 2, 1) := by decide +kernel
theorem dL_law_197 : decode cL_law 197 = .ok (.iadd, 1) := by decide +kernel
theorem dL_law_198 : decode cL_law 198 = .ok (.iaload, 1) := by decide +kernel
theorem dL_law_199 : decode cL_law 199 = .ok (.invokevirtual 13, 3) := by decide +kernel
theorem dL_law_202 : decode cL_law 202 = .ok (.aload_n 2, 1) := by decide +kernel
theorem dL_law_203 : decode cL_law 203 = .ok (.aload_n 0, 1) := by decide +kernel
theorem dL_law_204 : decode cL_law 204 = .ok (.iload_n 3, 1) := by decide +kernel
theorem dL_law_205 : decode cL_law 205 = .ok (.iconst 1, 1) := by decide +kernel
theorem dL_law_206 : decode cL_law 206 = .ok (.iadd, 1) := by decide +kernel
theorem dL_law_207 : decode cL_law 207 = .ok (.iaload, 1) := by decide +kernel
theorem dL_law_208 : decode cL_law 208 = .ok (.aload_n 0, 1) := by decide +kernel
theorem dL_law_209 : decode cL_law 209 = .ok (.iload_n 3, 1) := by decide +kernel
theorem dL_law_210 : decode cL_law 210 = .ok (.iconst 2, 1) := by decide +kernel
theorem dL_law_211 : decode cL_law 211 = .ok (.iadd, 1) := by decide +kernel
theorem dL_law_212 : decode cL_law 212 = .ok (.iaload, 1) := by decide +kernel
theorem dL_law_213 : decode cL_law 213 = .ok (.invokevirtual 17, 3) := by decide +kernel
theorem dL_law_216 : decode cL_law 216 = .ok (.if_icmp .eq 1127, 3) := by decide +kernel
theorem dL_law_219 : decode cL_law 219 = .ok (.iconst 0, 1) := by decide +kernel
theorem dL_law_220 : decode cL_law 220 = .ok (.ireturn, 1) := by decide +kernel
theorem dL_law_221 : decode cL_law 221 = .ok (.aload_n 1, 1) := by decide +kernel
theorem dL_law_222 : decode cL_law 222 = .ok (.aload_n 0, 1) := by decide +kernel
theorem dL_law_223 : decode cL_law 223 = .ok (.iload_n 3, 1) := by decide +kernel
theorem dL_law_224 : decode cL_law 224 = .ok (.iconst 1, 1) := by decide +kernel
theorem dL_law_225 : decode cL_law 225 = .ok (.iadd, 1) := by decide +kernel
theorem dL_law_226 : decode cL_law 226 = .ok (.iaload, 1) := by decide +kernel
theorem dL_law_227 : decode cL_law 227 = .ok (.aload_n 0, 1) := by decide +kernel
theorem dL_law_228 : decode cL_law 228 = .ok (.iload_n 3, 1) := by decide +kernel
theorem dL_law_229 : decode cL_law 229 = .ok (.iconst 2, 1) := by decide +kernel
theorem dL_law_230 : decode cL_law 230 = .ok (.iadd, 1) := by decide +kernel
theorem dL_law_231 : decode cL_law 231 = .ok (.iaload, 1) := by decide +kernel
theorem dL_law_232 : decode cL_law 232 = .ok (.invokevirtual 18, 3) := by decide +kernel
theorem dL_law_235 : decode cL_law 235 = .ok (.aload_n 2, 1) := by decide +kernel
theorem dL_law_236 : decode cL_law 236 = .ok (.aload_n 0, 1) := by decide +kernel
theorem dL_law_237 : decode cL_law 237 = .ok (.iload_n 3, 1) := by decide +kernel
theorem dL_law_238 : decode cL_law 238 = .ok (.iconst 1, 1) := by decide +kernel
theorem dL_law_239 : decode cL_law 239 = .ok (.iadd, 1) := by decide +kernel
theorem dL_law_240 : decode cL_law 240 = .ok (.iaload, 1) := by decide +kernel
theorem dL_law_241 : decode cL_law 241 = .ok (.aload_n 0, 1) := by decide +kernel
theorem dL_law_242 : decode cL_law 242 = .ok (.iload_n 3, 1) := by decide +kernel
theorem dL_law_243 : decode cL_law 243 = .ok (.iconst 2, 1) := by decide +kernel
theorem dL_law_244 : decode cL_law 244 = .ok (.iadd, 1) := by decide +kernel
theorem dL_law_245 : decode cL_law 245 = .ok (.iaload, 1) := by decide +kernel
theorem dL_law_246 : decode cL_law 246 = .ok (.invokevirtual 21, 3) := by decide +kernel
theorem dL_law_249 : decode cL_law 249 = .ok (.if_icmp .eq 1094, 3) := by decide +kernel
theorem dL_law_252 : decode cL_law 252 = .ok (.iconst 0, 1) := by decide +kernel
theorem dL_law_253 : decode cL_law 253 = .ok (.ireturn, 1) := by decide +kernel
theorem dL_law_254 : decode cL_law 254 = .ok (.aload_n 1, 1) := by decide +kernel
theorem dL_law_255 : decode cL_law 255 = .ok (.aload_n 0, 1) := by decide +kernel
theorem dL_law_256 : decode cL_law 256 = .ok (.iload_n 3, 1) := by decide +kernel
theorem dL_law_257 : decode cL_law 257 = .ok (.iconst 1, 1) := by decide +kernel
theorem dL_law_258 : decode cL_law 258 = .ok (.iadd, 1) := by decide +kernel
theorem dL_law_259 : decode cL_law 259 = .ok (.iaload, 1) := by decide +kernel
theorem dL_law_260 : decode cL_law 260 = .ok (.aload_n 0, 1) := by decide +kernel
theorem dL_law_261 : decode cL_law 261 = .ok (.iload_n 3, 1) := by decide +kernel
theorem dL_law_262 : decode cL_law 262 = .ok (.iconst 2, 1) := by decide +kernel
theorem dL_law_263 : decode cL_law 263 = .ok (.iadd, 1) := by decide +kernel
theorem dL_law_264 : decode cL_law 264 = .ok (.iaload, 1) := by decide +kernel
theorem dL_law_265 : decode cL_law 265 = .ok (.invokevirtual 22, 3) := by decide +kernel
theorem dL_law_268 : decode cL_law 268 = .ok (.aload_n 2, 1) := by decide +kernel
theorem dL_law_269 : decode cL_law 269 = .ok (.aload_n 0, 1) := by decide +kernel
theorem dL_law_270 : decode cL_law 270 = .ok (.iload_n 3, 1) := by decide +kernel
theorem dL_law_271 : decode cL_law 271 = .ok (.iconst 1, 1) := by decide +kernel
theorem dL_law_272 : decode cL_law 272 = .ok (.iadd, 1) := by decide +kernel
theorem dL_law_273 : decode cL_law 273 = .ok (.iaload, 1) := by decide +kernel
theorem dL_law_274 : decode cL_law 274 = .ok (.aload_n 0, 1) := by decide +kernel
theorem dL_law_275 : decode cL_law 275 = .ok (.iload_n 3, 1) := by decide +kernel
theorem dL_law_276 : decode cL_law 276 = .ok (.iconst 2, 1) := by decide +kernel
theorem dL_law_277 : decode cL_law 277 = .ok (.iadd, 1) := by decide +kernel
theorem dL_law_278 : decode cL_law 278 = .ok (.iaload, 1) := by decide +kernel
theorem dL_law_279 : decode cL_law 279 = .ok (.invokevirtual 25, 3) := by decide +kernel
theorem dL_law_282 : decode cL_law 282 = .ok (.if_icmp .eq 1061, 3) := by decide +kernel
theorem dL_law_285 : decode cL_law 285 = .ok (.iconst 0, 1) := by decide +kernel
theorem dL_law_286 : decode cL_law 286 = .ok (.ireturn, 1) := by decide +kernel
theorem dL_law_287 : decode cL_law 287 = .ok (.aload_n 1, 1) := by decide +kernel
theorem dL_law_288 : decode cL_law 288 = .ok (.aload_n 0, 1) := by decide +kernel
theorem dL_law_289 : decode cL_law 289 = .ok (.iload_n 3, 1) := by decide +kernel
theorem dL_law_290 : decode cL_law 290 = .ok (.iconst 1, 1) := by decide +kernel
theorem dL_law_291 : decode cL_law 291 = .ok (.iadd, 1) := by decide +kernel
theorem dL_law_292 : decode cL_law 292 = .ok (.iaload, 1) := by decide +kernel
theorem dL_law_293 : decode cL_law 293 = .ok (.aload_n 0, 1) := by decide +kernel
theorem dL_law_294 : decode cL_law 294 = .ok (.iload_n 3, 1) := by decide +kernel
theorem dL_law_295 : decode cL_law 295 = .ok (.iconst 2, 1) := by decide +kernel
theorem dL_law_296 : decode cL_law 296 = .ok (.iadd, 1) := by decide +kernel
theorem dL_law_297 : decode cL_law 297 = .ok (.iaload, 1) := by decide +kernel
theorem dL_law_298 : decode cL_law 298 = .ok (.invokevirtual 26, 3) := by decide +kernel
theorem dL_law_301 : decode cL_law 301 = .ok (.aload_n 2, 1) := by decide +kernel
theorem dL_law_302 : decode cL_law 302 = .ok (.aload_n 0, 1) := by decide +kernel
theorem dL_law_303 : decode cL_law 303 = .ok (.iload_n 3, 1) := by decide +kernel
theorem dL_law_304 : decode cL_law 304 = .ok (.iconst 1, 1) := by decide +kernel
theorem dL_law_305 : decode cL_law 305 = .ok (.iadd, 1) := by decide +kernel
theorem dL_law_306 : decode cL_law 306 = .ok (.iaload, 1) := by decide +kernel
theorem dL_law_307 : decode cL_law 307 = .ok (.aload_n 0, 1) := by decide +kernel
theorem dL_law_308 : decode cL_law 308 = .ok (.iload_n 3, 1) := by decide +kernel
theorem dL_law_309 : decode cL_law 309 = .ok (.iconst 2, 1) := by decide +kernel
theorem dL_law_310 : decode cL_law 310 = .ok (.iadd, 1) := by decide +kernel
theorem dL_law_311 : decode cL_law 311 = .ok (.iaload, 1) := by decide +kernel
theorem dL_law_312 : decode cL_law 312 = .ok (.invokevirtual 29, 3) := by decide +kernel
theorem dL_law_315 : decode cL_law 315 = .ok (.if_icmp .eq 1028, 3) := by decide +kernel
theorem dL_law_318 : decode cL_law 318 = .ok (.iconst 0, 1) := by decide +kernel
theorem dL_law_319 : decode cL_law 319 = .ok (.ireturn, 1) := by decide +kernel
theorem dL_law_320 : decode cL_law 320 = .ok (.aload_n 1, 1) := by decide +kernel
theorem dL_law_321 : decode cL_law 321 = .ok (.aload_n 0, 1) := by decide +kernel
theorem dL_law_322 : decode cL_law 322 = .ok (.iload_n 3, 1) := by decide +kernel
theorem dL_law_323 : decode cL_law 323 = .ok (.iconst 1, 1) := by decide +kernel
theorem dL_law_324 : decode cL_law 324 = .ok (.iadd, 1) := by decide +kernel
theorem dL_law_325 : decode cL_law 325 = .ok (.iaload, 1) := by decide +kernel
theorem dL_law_326 : decode cL_law 326 = .ok (.aload_n 0, 1) := by decide +kernel
theorem dL_law_327 : decode cL_law 327 = .ok (.iload_n 3, 1) := by decide +kernel
theorem dL_law_328 : decode cL_law 328 = .ok (.iconst 2, 1) := by decide +kernel
theorem dL_law_329 : decode cL_law 329 = .ok (.iadd, 1) := by decide +kernel
theorem dL_law_330 : decode cL_law 330 = .ok (.iaload, 1) := by decide +kernel
theorem dL_law_331 : decode cL_law 331 = .ok (.invokevirtual 30, 3) := by decide +kernel
theorem dL_law_334 : decode cL_law 334 = .ok (.aload_n 2, 1) := by decide +kernel
theorem dL_law_335 : decode cL_law 335 = .ok (.aload_n 0, 1) := by decide +kernel
theorem dL_law_336 : decode cL_law 336 = .ok (.iload_n 3, 1) := by decide +kernel
theorem dL_law_337 : decode cL_law 337 = .ok (.iconst 1, 1) := by decide +kernel
theorem dL_law_338 : decode cL_law 338 = .ok (.iadd, 1) := by decide +kernel
theorem dL_law_339 : decode cL_law 339 = .ok (.iaload, 1) := by decide +kernel
theorem dL_law_340 : decode cL_law 340 = .ok (.aload_n 0, 1) := by decide +kernel
theorem dL_law_341 : decode cL_law 341 = .ok (.iload_n 3, 1) := by decide +kernel
theorem dL_law_342 : decode cL_law 342 = .ok (.iconst 2, 1) := by decide +kernel
theorem dL_law_343 : decode cL_law 343 = .ok (.iadd, 1) := by decide +kernel
theorem dL_law_344 : decode cL_law 344 = .ok (.iaload, 1) := by decide +kernel
theorem dL_law_345 : decode cL_law 345 = .ok (.invokevirtual 33, 3) := by decide +kernel
theorem dL_law_348 : decode cL_law 348 = .ok (.if_icmp .eq 995, 3) := by decide +kernel
theorem dL_law_351 : decode cL_law 351 = .ok (.iconst 0, 1) := by decide +kernel
theorem dL_law_352 : decode cL_law 352 = .ok (.ireturn, 1) := by decide +kernel
theorem dL_law_353 : decode cL_law 353 = .ok (.aload_n 1, 1) := by decide +kernel
theorem dL_law_354 : decode cL_law 354 = .ok (.aload_n 0, 1) := by decide +kernel
theorem dL_law_355 : decode cL_law 355 = .ok (.iload_n 3, 1) := by decide +kernel
theorem dL_law_356 : decode cL_law 356 = .ok (.iconst 1, 1) := by decide +kernel
theorem dL_law_357 : decode cL_law 357 = .ok (.iadd, 1) := by decide +kernel
theorem dL_law_358 : decode cL_law 358 = .ok (.iaload, 1) := by decide +kernel
theorem dL_law_359 : decode cL_law 359 = .ok (.aload_n 0, 1) := by decide +kernel
theorem dL_law_360 : decode cL_law 360 = .ok (.iload_n 3, 1) := by decide +kernel
theorem dL_law_361 : decode cL_law 361 = .ok (.iconst 2, 1) := by decide +kernel
theorem dL_law_362 : decode cL_law 362 = .ok (.iadd, 1) := by decide +kernel
theorem dL_law_363 : decode cL_law 363 = .ok (.iaload, 1) := by decide +kernel
theorem dL_law_364 : decode cL_law 364 = .ok (.invokevirtual 34, 3) := by decide +kernel
theorem dL_law_367 : decode cL_law 367 = .ok (.aload_n 2, 1) := by decide +kernel
theorem dL_law_368 : decode cL_law 368 = .ok (.aload_n 0, 1) := by decide +kernel
theorem dL_law_369 : decode cL_law 369 = .ok (.iload_n 3, 1) := by decide +kernel
theorem dL_law_370 : decode cL_law 370 = .ok (.iconst 1, 1) := by decide +kernel
theorem dL_law_371 : decode cL_law 371 = .ok (.iadd, 1) := by decide +kernel
theorem dL_law_372 : decode cL_law 372 = .ok (.iaload, 1) := by decide +kernel
theorem dL_law_373 : decode cL_law 373 = .ok (.aload_n 0, 1) := by decide +kernel
theorem dL_law_374 : decode cL_law 374 = .ok (.iload_n 3, 1) := by decide +kernel
theorem dL_law_375 : decode cL_law 375 = .ok (.iconst 2, 1) := by decide +kernel
theorem dL_law_376 : decode cL_law 376 = .ok (.iadd, 1) := by decide +kernel
theorem dL_law_377 : decode cL_law 377 = .ok (.iaload, 1) := by decide +kernel
theorem dL_law_378 : decode cL_law 378 = .ok (.invokevirtual 37, 3) := by decide +kernel
theorem dL_law_381 : decode cL_law 381 = .ok (.if_icmp .eq 962, 3) := by decide +kernel
theorem dL_law_384 : decode cL_law 384 = .ok (.iconst 0, 1) := by decide +kernel
theorem dL_law_385 : decode cL_law 385 = .ok (.ireturn, 1) := by decide +kernel
theorem dL_law_386 : decode cL_law 386 = .ok (.aload_n 1, 1) := by decide +kernel
theorem dL_law_387 : decode cL_law 387 = .ok (.aload_n 0, 1) := by decide +kernel
theorem dL_law_388 : decode cL_law 388 = .ok (.iload_n 3, 1) := by decide +kernel
theorem dL_law_389 : decode cL_law 389 = .ok (.iconst 1, 1) := by decide +kernel
theorem dL_law_390 : decode cL_law 390 = .ok (.iadd, 1) := by decide +kernel
theorem dL_law_391 : decode cL_law 391 = .ok (.iaload, 1) := by decide +kernel
theorem dL_law_392 : decode cL_law 392 = .ok (.aload_n 0, 1) := by decide +kernel
theorem dL_law_393 : decode cL_law 393 = .ok (.iload_n 3, 1) := by decide +kernel
theorem dL_law_394 : decode cL_law 394 = .ok (.iconst 2, 1) := by decide +kernel
theorem dL_law_395 : decode cL_law 395 = .ok (.iadd, 1) := by decide +kernel
theorem dL_law_396 : decode cL_law 396 = .ok (.iaload, 1) := by decide +kernel
theorem dL_law_397 : decode cL_law 397 = .ok (.invokevirtual 38, 3) := by decide +kernel
theorem dL_law_400 : decode cL_law 400 = .ok (.aload_n 2, 1) := by decide +kernel
theorem dL_law_401 : decode cL_law 401 = .ok (.aload_n 0, 1) := by decide +kernel
theorem dL_law_402 : decode cL_law 402 = .ok (.iload_n 3, 1) := by decide +kernel
theorem dL_law_403 : decode cL_law 403 = .ok (.iconst 1, 1) := by decide +kernel
theorem dL_law_404 : decode cL_law 404 = .ok (.iadd, 1) := by decide +kernel
theorem dL_law_405 : decode cL_law 405 = .ok (.iaload, 1) := by decide +kernel
theorem dL_law_406 : decode cL_law 406 = .ok (.aload_n 0, 1) := by decide +kernel
theorem dL_law_407 : decode cL_law 407 = .ok (.iload_n 3, 1) := by decide +kernel
theorem dL_law_408 : decode cL_law 408 = .ok (.iconst 2, 1) := by decide +kernel
theorem dL_law_409 : decode cL_law 409 = .ok (.iadd, 1) := by decide +kernel
theorem dL_law_410 : decode cL_law 410 = .ok (.iaload, 1) := by decide +kernel
theorem dL_law_411 : decode cL_law 411 = .ok (.invokevirtual 41, 3) := by decide +kernel
theorem dL_law_414 : decode cL_law 414 = .ok (.if_icmp .eq 929, 3) := by decide +kernel
theorem dL_law_417 : decode cL_law 417 = .ok (.iconst 0, 1) := by decide +kernel
theorem dL_law_418 : decode cL_law 418 = .ok (.ireturn, 1) := by decide +kernel
theorem dL_law_419 : decode cL_law 419 = .ok (.aload_n 1, 1) := by decide +kernel
theorem dL_law_420 : decode cL_law 420 = .ok (.aload_n 0, 1) := by decide +kernel
theorem dL_law_421 : decode cL_law 421 = .ok (.iload_n 3, 1) := by decide +kernel
theorem dL_law_422 : decode cL_law 422 = .ok (.iconst 1, 1) := by decide +kernel
theorem dL_law_423 : decode cL_law 423 = .ok (.iadd, 1) := by decide +kernel
theorem dL_law_424 : decode cL_law 424 = .ok (.iaload, 1) := by decide +kernel
theorem dL_law_425 : decode cL_law 425 = .ok (.i2l, 1) := by decide +kernel
theorem dL_law_426 : decode cL_law 426 = .ok (.bipush 32, 2) := by decide +kernel
theorem dL_law_428 : decode cL_law 428 = .ok (.lshl, 1) := by decide +kernel
theorem dL_law_429 : decode cL_law 429 = .ok (.aload_n 0, 1) := by decide +kernel
theorem dL_law_430 : decode cL_law 430 = .ok (.iload_n 3, 1) := by decide +kernel
theorem dL_law_431 : decode cL_law 431 = .ok (.iconst 2, 1) := by decide +kernel
theorem dL_law_432 : decode cL_law 432 = .ok (.iadd, 1) := by decide +kernel
theorem dL_law_433 : decode cL_law 433 = .ok (.iaload, 1) := by decide +kernel
theorem dL_law_434 : decode cL_law 434 = .ok (.i2l, 1) := by decide +kernel
theorem dL_law_435 : decode cL_law 435 = .ok (.ldc2_w 42, 3) := by decide +kernel
theorem dL_law_438 : decode cL_law 438 = .ok (.land, 1) := by decide +kernel
theorem dL_law_439 : decode cL_law 439 = .ok (.lor, 1) := by decide +kernel
theorem dL_law_440 : decode cL_law 440 = .ok (.aload_n 0, 1) := by decide +kernel
theorem dL_law_441 : decode cL_law 441 = .ok (.iload_n 3, 1) := by decide +kernel
theorem dL_law_442 : decode cL_law 442 = .ok (.iconst 3, 1) := by decide +kernel
theorem dL_law_443 : decode cL_law 443 = .ok (.iadd, 1) := by decide +kernel
theorem dL_law_444 : decode cL_law 444 = .ok (.iaload, 1) := by decide +kernel
theorem dL_law_445 : decode cL_law 445 = .ok (.invokevirtual 44, 3) := by decide +kernel
theorem dL_law_448 : decode cL_law 448 = .ok (.aload_n 2, 1) := by decide +kernel
theorem dL_law_449 : decode cL_law 449 = .ok (.aload_n 0, 1) := by decide +kernel
theorem dL_law_450 : decode cL_law 450 = .ok (.iload_n 3, 1) := by decide +kernel
theorem dL_law_451 : decode cL_law 451 = .ok (.iconst 1, 1) := by decide +kernel
theorem dL_law_452 : decode cL_law 452 = .ok (.iadd, 1) := by decide +kernel
theorem dL_law_453 : decode cL_law 453 = .ok (.iaload, 1) := by decide +kernel
theorem dL_law_454 : decode cL_law 454 = .ok (.i2l, 1) := by decide +kernel
theorem dL_law_455 : decode cL_law 455 = .ok (.bipush 32, 2) := by decide +kernel
theorem dL_law_457 : decode cL_law 457 = .ok (.lshl, 1) := by decide +kernel
theorem dL_law_458 : decode cL_law 458 = .ok (.aload_n 0, 1) := by decide +kernel
theorem dL_law_459 : decode cL_law 459 = .ok (.iload_n 3, 1) := by decide +kernel
theorem dL_law_460 : decode cL_law 460 = .ok (.iconst 2, 1) := by decide +kernel
theorem dL_law_461 : decode cL_law 461 = .ok (.iadd, 1) := by decide +kernel
theorem dL_law_462 : decode cL_law 462 = .ok (.iaload, 1) := by decide +kernel
theorem dL_law_463 : decode cL_law 463 = .ok (.i2l, 1) := by decide +kernel
theorem dL_law_464 : decode cL_law 464 = .ok (.ldc2_w 42, 3) := by decide +kernel
theorem dL_law_467 : decode cL_law 467 = .ok (.land, 1) := by decide +kernel
theorem dL_law_468 : decode cL_law 468 = .ok (.lor, 1) := by decide +kernel
theorem dL_law_469 : decode cL_law 469 = .ok (.aload_n 0, 1) := by decide +kernel
theorem dL_law_470 : decode cL_law 470 = .ok (.iload_n 3, 1) := by decide +kernel
theorem dL_law_471 : decode cL_law 471 = .ok (.iconst 3, 1) := by decide +kernel
theorem dL_law_472 : decode cL_law 472 = .ok (.iadd, 1) := by decide +kernel
theorem dL_law_473 : decode cL_law 473 = .ok (.iaload, 1) := by decide +kernel
theorem dL_law_474 : decode cL_law 474 = .ok (.invokevirtual 48, 3) := by decide +kernel
theorem dL_law_477 : decode cL_law 477 = .ok (.if_icmp .eq 866, 3) := by decide +kernel
theorem dL_law_480 : decode cL_law 480 = .ok (.iconst 0, 1) := by decide +kernel
theorem dL_law_481 : decode cL_law 481 = .ok (.ireturn, 1) := by decide +kernel
theorem dL_law_482 : decode cL_law 482 = .ok (.aload_n 1, 1) := by decide +kernel
theorem dL_law_483 : decode cL_law 483 = .ok (.aload_n 0, 1) := by decide +kernel
theorem dL_law_484 : decode cL_law 484 = .ok (.iload_n 3, 1) := by decide +kernel
theorem dL_law_485 : decode cL_law 485 = .ok (.iconst 1, 1) := by decide +kernel
theorem dL_law_486 : decode cL_law 486 = .ok (.iadd, 1) := by decide +kernel
theorem dL_law_487 : decode cL_law 487 = .ok (.iaload, 1) := by decide +kernel
theorem dL_law_488 : decode cL_law 488 = .ok (.invokevirtual 49, 3) := by decide +kernel
theorem dL_law_491 : decode cL_law 491 = .ok (.aload_n 2, 1) := by decide +kernel
theorem dL_law_492 : decode cL_law 492 = .ok (.aload_n 0, 1) := by decide +kernel
theorem dL_law_493 : decode cL_law 493 = .ok (.iload_n 3, 1) := by decide +kernel
theorem dL_law_494 : decode cL_law 494 = .ok (.iconst 1, 1) := by decide +kernel
theorem dL_law_495 : decode cL_law 495 = .ok (.iadd, 1) := by decide +kernel
theorem dL_law_496 : decode cL_law 496 = .ok (.iaload, 1) := by decide +kernel
theorem dL_law_497 : decode cL_law 497 = .ok (.invokevirtual 53, 3) := by decide +kernel
theorem dL_law_500 : decode cL_law 500 = .ok (.if_icmp .eq 843, 3) := by decide +kernel
theorem dL_law_503 : decode cL_law 503 = .ok (.iconst 0, 1) := by decide +kernel
theorem dL_law_504 : decode cL_law 504 = .ok (.ireturn, 1) := by decide +kernel
theorem dL_law_505 : decode cL_law 505 = .ok (.aload_n 1, 1) := by decide +kernel
theorem dL_law_506 : decode cL_law 506 = .ok (.aload_n 0, 1) := by decide +kernel
theorem dL_law_507 : decode cL_law 507 = .ok (.iload_n 3, 1) := by decide +kernel
theorem dL_law_508 : decode cL_law 508 = .ok (.iconst 1, 1) := by decide +kernel
theorem dL_law_509 : decode cL_law 509 = .ok (.iadd, 1) := by decide +kernel
theorem dL_law_510 : decode cL_law 510 = .ok (.iaload, 1) := by decide +kernel
theorem dL_law_511 : decode cL_law 511 = .ok (.invokevirtual 54, 3) := by decide +kernel
theorem dL_law_514 : decode cL_law 514 = .ok (.aload_n 2, 1) := by decide +kernel
theorem dL_law_515 : decode cL_law 515 = .ok (.aload_n 0, 1) := by decide +kernel
theorem dL_law_516 : decode cL_law 516 = .ok (.iload_n 3, 1) := by decide +kernel
theorem dL_law_517 : decode cL_law 517 = .ok (.iconst 1, 1) := by decide +kernel
theorem dL_law_518 : decode cL_law 518 = .ok (.iadd, 1) := by decide +kernel
theorem dL_law_519 : decode cL_law 519 = .ok (.iaload, 1) := by decide +kernel
theorem dL_law_520 : decode cL_law 520 = .ok (.invokevirtual 57, 3) := by decide +kernel
theorem dL_law_523 : decode cL_law 523 = .ok (.if_icmp .eq 820, 3) := by decide +kernel
theorem dL_law_526 : decode cL_law 526 = .ok (.iconst 0, 1) := by decide +kernel
theorem dL_law_527 : decode cL_law 527 = .ok (.ireturn, 1) := by decide +kernel
theorem dL_law_528 : decode cL_law 528 = .ok (.aload_n 1, 1) := by decide +kernel
theorem dL_law_529 : decode cL_law 529 = .ok (.aload_n 0, 1) := by decide +kernel
theorem dL_law_530 : decode cL_law 530 = .ok (.iload_n 3, 1) := by decide +kernel
theorem dL_law_531 : decode cL_law 531 = .ok (.iconst 1, 1) := by decide +kernel
theorem dL_law_532 : decode cL_law 532 = .ok (.iadd, 1) := by decide +kernel
theorem dL_law_533 : decode cL_law 533 = .ok (.iaload, 1) := by decide +kernel
theorem dL_law_534 : decode cL_law 534 = .ok (.aload_n 0, 1) := by decide +kernel
theorem dL_law_535 : decode cL_law 535 = .ok (.iload_n 3, 1) := by decide +kernel
theorem dL_law_536 : decode cL_law 536 = .ok (.iconst 2, 1) := by decide +kernel
theorem dL_law_537 : decode cL_law 537 = .ok (.iadd, 1) := by decide +kernel
theorem dL_law_538 : decode cL_law 538 = .ok (.iaload, 1) := by decide +kernel
theorem dL_law_539 : decode cL_law 539 = .ok (.aload_n 0, 1) := by decide +kernel
theorem dL_law_540 : decode cL_law 540 = .ok (.iload_n 3, 1) := by decide +kernel
theorem dL_law_541 : decode cL_law 541 = .ok (.iconst 3, 1) := by decide +kernel
theorem dL_law_542 : decode cL_law 542 = .ok (.iadd, 1) := by decide +kernel
theorem dL_law_543 : decode cL_law 543 = .ok (.iaload, 1) := by decide +kernel
theorem dL_law_544 : decode cL_law 544 = .ok (.aload_n 0, 1) := by decide +kernel
theorem dL_law_545 : decode cL_law 545 = .ok (.iload_n 3, 1) := by decide +kernel
theorem dL_law_546 : decode cL_law 546 = .ok (.iconst 4, 1) := by decide +kernel
theorem dL_law_547 : decode cL_law 547 = .ok (.iadd, 1) := by decide +kernel
theorem dL_law_548 : decode cL_law 548 = .ok (.iaload, 1) := by decide +kernel
theorem dL_law_549 : decode cL_law 549 = .ok (.invokevirtual 58, 3) := by decide +kernel
theorem dL_law_552 : decode cL_law 552 = .ok (.aload_n 2, 1) := by decide +kernel
theorem dL_law_553 : decode cL_law 553 = .ok (.aload_n 0, 1) := by decide +kernel
theorem dL_law_554 : decode cL_law 554 = .ok (.iload_n 3, 1) := by decide +kernel
theorem dL_law_555 : decode cL_law 555 = .ok (.iconst 1, 1) := by decide +kernel
theorem dL_law_556 : decode cL_law 556 = .ok (.iadd, 1) := by decide +kernel
theorem dL_law_557 : decode cL_law 557 = .ok (.iaload, 1) := by decide +kernel
theorem dL_law_558 : decode cL_law 558 = .ok (.aload_n 0, 1) := by decide +kernel
theorem dL_law_559 : decode cL_law 559 = .ok (.iload_n 3, 1) := by decide +kernel
theorem dL_law_560 : decode cL_law 560 = .ok (.iconst 2, 1) := by decide +kernel
theorem dL_law_561 : decode cL_law 561 = .ok (.iadd, 1) := by decide +kernel
theorem dL_law_562 : decode cL_law 562 = .ok (.iaload, 1) := by decide +kernel
theorem dL_law_563 : decode cL_law 563 = .ok (.aload_n 0, 1) := by decide +kernel
theorem dL_law_564 : decode cL_law 564 = .ok (.iload_n 3, 1) := by decide +kernel
theorem dL_law_565 : decode cL_law 565 = .ok (.iconst 3, 1) := by decide +kernel
theorem dL_law_566 : decode cL_law 566 = .ok (.iadd, 1) := by decide +kernel
theorem dL_law_567 : decode cL_law 567 = .ok (.iaload, 1) := by decide +kernel
theorem dL_law_568 : decode cL_law 568 = .ok (.aload_n 0, 1) := by decide +kernel
theorem dL_law_569 : decode cL_law 569 = .ok (.iload_n 3, 1) := by decide +kernel
theorem dL_law_570 : decode cL_law 570 = .ok (.iconst 4, 1) := by decide +kernel
theorem dL_law_571 : decode cL_law 571 = .ok (.iadd, 1) := by decide +kernel
theorem dL_law_572 : decode cL_law 572 = .ok (.iaload, 1) := by decide +kernel
theorem dL_law_573 : decode cL_law 573 = .ok (.invokevirtual 62, 3) := by decide +kernel
theorem dL_law_576 : decode cL_law 576 = .ok (.if_icmp .eq 767, 3) := by decide +kernel
theorem dL_law_579 : decode cL_law 579 = .ok (.iconst 0, 1) := by decide +kernel
theorem dL_law_580 : decode cL_law 580 = .ok (.ireturn, 1) := by decide +kernel
theorem dL_law_581 : decode cL_law 581 = .ok (.aload_n 1, 1) := by decide +kernel
theorem dL_law_582 : decode cL_law 582 = .ok (.aload_n 0, 1) := by decide +kernel
theorem dL_law_583 : decode cL_law 583 = .ok (.iload_n 3, 1) := by decide +kernel
theorem dL_law_584 : decode cL_law 584 = .ok (.iconst 1, 1) := by decide +kernel
theorem dL_law_585 : decode cL_law 585 = .ok (.iadd, 1) := by decide +kernel
theorem dL_law_586 : decode cL_law 586 = .ok (.iaload, 1) := by decide +kernel
theorem dL_law_587 : decode cL_law 587 = .ok (.invokevirtual 63, 3) := by decide +kernel
theorem dL_law_590 : decode cL_law 590 = .ok (.aload_n 2, 1) := by decide +kernel
theorem dL_law_591 : decode cL_law 591 = .ok (.aload_n 0, 1) := by decide +kernel
theorem dL_law_592 : decode cL_law 592 = .ok (.iload_n 3, 1) := by decide +kernel
theorem dL_law_593 : decode cL_law 593 = .ok (.iconst 1, 1) := by decide +kernel
theorem dL_law_594 : decode cL_law 594 = .ok (.iadd, 1) := by decide +kernel
theorem dL_law_595 : decode cL_law 595 = .ok (.iaload, 1) := by decide +kernel
theorem dL_law_596 : decode cL_law 596 = .ok (.invokevirtual 66, 3) := by decide +kernel
theorem dL_law_599 : decode cL_law 599 = .ok (.if_icmp .eq 744, 3) := by decide +kernel
theorem dL_law_602 : decode cL_law 602 = .ok (.iconst 0, 1) := by decide +kernel
theorem dL_law_603 : decode cL_law 603 = .ok (.ireturn, 1) := by decide +kernel
theorem dL_law_604 : decode cL_law 604 = .ok (.aload_n 1, 1) := by decide +kernel
theorem dL_law_605 : decode cL_law 605 = .ok (.aload_n 0, 1) := by decide +kernel
theorem dL_law_606 : decode cL_law 606 = .ok (.iload_n 3, 1) := by decide +kernel
theorem dL_law_607 : decode cL_law 607 = .ok (.iconst 1, 1) := by decide +kernel
theorem dL_law_608 : decode cL_law 608 = .ok (.iadd, 1) := by decide +kernel
theorem dL_law_609 : decode cL_law 609 = .ok (.iaload, 1) := by decide +kernel
theorem dL_law_610 : decode cL_law 610 = .ok (.invokevirtual 67, 3) := by decide +kernel
theorem dL_law_613 : decode cL_law 613 = .ok (.aload_n 2, 1) := by decide +kernel
theorem dL_law_614 : decode cL_law 614 = .ok (.aload_n 0, 1) := by decide +kernel
theorem dL_law_615 : decode cL_law 615 = .ok (.iload_n 3, 1) := by decide +kernel
theorem dL_law_616 : decode cL_law 616 = .ok (.iconst 1, 1) := by decide +kernel
theorem dL_law_617 : decode cL_law 617 = .ok (.iadd, 1) := by decide +kernel
theorem dL_law_618 : decode cL_law 618 = .ok (.iaload, 1) := by decide +kernel
theorem dL_law_619 : decode cL_law 619 = .ok (.invokevirtual 70, 3) := by decide +kernel
theorem dL_law_622 : decode cL_law 622 = .ok (.if_icmp .eq 721, 3) := by decide +kernel
theorem dL_law_625 : decode cL_law 625 = .ok (.iconst 0, 1) := by decide +kernel
theorem dL_law_626 : decode cL_law 626 = .ok (.ireturn, 1) := by decide +kernel
theorem dL_law_627 : decode cL_law 627 = .ok (.aload_n 1, 1) := by decide +kernel
theorem dL_law_628 : decode cL_law 628 = .ok (.aload_n 0, 1) := by decide +kernel
theorem dL_law_629 : decode cL_law 629 = .ok (.iload_n 3, 1) := by decide +kernel
theorem dL_law_630 : decode cL_law 630 = .ok (.iconst 1, 1) := by decide +kernel
theorem dL_law_631 : decode cL_law 631 = .ok (.iadd, 1) := by decide +kernel
theorem dL_law_632 : decode cL_law 632 = .ok (.iaload, 1) := by decide +kernel
theorem dL_law_633 : decode cL_law 633 = .ok (.invokevirtual 71, 3) := by decide +kernel
theorem dL_law_636 : decode cL_law 636 = .ok (.aload_n 2, 1) := by decide +kernel
theorem dL_law_637 : decode cL_law 637 = .ok (.aload_n 0, 1) := by decide +kernel
theorem dL_law_638 : decode cL_law 638 = .ok (.iload_n 3, 1) := by decide +kernel
theorem dL_law_639 : decode cL_law 639 = .ok (.iconst 1, 1) := by decide +kernel
theorem dL_law_640 : decode cL_law 640 = .ok (.iadd, 1) := by decide +kernel
theorem dL_law_641 : decode cL_law 641 = .ok (.iaload, 1) := by decide +kernel
theorem dL_law_642 : decode cL_law 642 = .ok (.invokevirtual 74, 3) := by decide +kernel
theorem dL_law_645 : decode cL_law 645 = .ok (.if_icmp .eq 698, 3) := by decide +kernel
theorem dL_law_648 : decode cL_law 648 = .ok (.iconst 0, 1) := by decide +kernel
theorem dL_law_649 : decode cL_law 649 = .ok (.ireturn, 1) := by decide +kernel
theorem dL_law_650 : decode cL_law 650 = .ok (.aload_n 1, 1) := by decide +kernel
theorem dL_law_651 : decode cL_law 651 = .ok (.aload_n 0, 1) := by decide +kernel
theorem dL_law_652 : decode cL_law 652 = .ok (.iload_n 3, 1) := by decide +kernel
theorem dL_law_653 : decode cL_law 653 = .ok (.iconst 1, 1) := by decide +kernel
theorem dL_law_654 : decode cL_law 654 = .ok (.iadd, 1) := by decide +kernel
theorem dL_law_655 : decode cL_law 655 = .ok (.iaload, 1) := by decide +kernel
theorem dL_law_656 : decode cL_law 656 = .ok (.invokevirtual 75, 3) := by decide +kernel
theorem dL_law_659 : decode cL_law 659 = .ok (.aload_n 2, 1) := by decide +kernel
theorem dL_law_660 : decode cL_law 660 = .ok (.aload_n 0, 1) := by decide +kernel
theorem dL_law_661 : decode cL_law 661 = .ok (.iload_n 3, 1) := by decide +kernel
theorem dL_law_662 : decode cL_law 662 = .ok (.iconst 1, 1) := by decide +kernel
theorem dL_law_663 : decode cL_law 663 = .ok (.iadd, 1) := by decide +kernel
theorem dL_law_664 : decode cL_law 664 = .ok (.iaload, 1) := by decide +kernel
theorem dL_law_665 : decode cL_law 665 = .ok (.invokevirtual 78, 3) := by decide +kernel
theorem dL_law_668 : decode cL_law 668 = .ok (.if_icmp .eq 675, 3) := by decide +kernel
theorem dL_law_671 : decode cL_law 671 = .ok (.iconst 0, 1) := by decide +kernel
theorem dL_law_672 : decode cL_law 672 = .ok (.ireturn, 1) := by decide +kernel
theorem dL_law_673 : decode cL_law 673 = .ok (.aload_n 1, 1) := by decide +kernel
theorem dL_law_674 : decode cL_law 674 = .ok (.aload_n 0, 1) := by decide +kernel
theorem dL_law_675 : decode cL_law 675 = .ok (.iload_n 3, 1) := by decide +kernel
theorem dL_law_676 : decode cL_law 676 = .ok (.iconst 1, 1) := by decide +kernel
theorem dL_law_677 : decode cL_law 677 = .ok (.iadd, 1) := by decide +kernel
theorem dL_law_678 : decode cL_law 678 = .ok (.iaload, 1) := by decide +kernel
theorem dL_law_679 : decode cL_law 679 = .ok (.aload_n 0, 1) := by decide +kernel
theorem dL_law_680 : decode cL_law 680 = .ok (.iload_n 3, 1) := by decide +kernel
theorem dL_law_681 : decode cL_law 681 = .ok (.iconst 2, 1) := by decide +kernel
theorem dL_law_682 : decode cL_law 682 = .ok (.iadd, 1) := by decide +kernel
theorem dL_law_683 : decode cL_law 683 = .ok (.iaload, 1) := by decide +kernel
theorem dL_law_684 : decode cL_law 684 = .ok (.aload_n 0, 1) := by decide +kernel
theorem dL_law_685 : decode cL_law 685 = .ok (.iload_n 3, 1) := by decide +kernel
theorem dL_law_686 : decode cL_law 686 = .ok (.iconst 3, 1) := by decide +kernel
theorem dL_law_687 : decode cL_law 687 = .ok (.iadd, 1) := by decide +kernel
theorem dL_law_688 : decode cL_law 688 = .ok (.iaload, 1) := by decide +kernel
theorem dL_law_689 : decode cL_law 689 = .ok (.invokevirtual 79, 3) := by decide +kernel
theorem dL_law_692 : decode cL_law 692 = .ok (.aload_n 2, 1) := by decide +kernel
theorem dL_law_693 : decode cL_law 693 = .ok (.aload_n 0, 1) := by decide +kernel
theorem dL_law_694 : decode cL_law 694 = .ok (.iload_n 3, 1) := by decide +kernel
theorem dL_law_695 : decode cL_law 695 = .ok (.iconst 1, 1) := by decide +kernel
theorem dL_law_696 : decode cL_law 696 = .ok (.iadd, 1) := by decide +kernel
theorem dL_law_697 : decode cL_law 697 = .ok (.iaload, 1) := by decide +kernel
theorem dL_law_698 : decode cL_law 698 = .ok (.aload_n 0, 1) := by decide +kernel
theorem dL_law_699 : decode cL_law 699 = .ok (.iload_n 3, 1) := by decide +kernel
theorem dL_law_700 : decode cL_law 700 = .ok (.iconst 2, 1) := by decide +kernel
theorem dL_law_701 : decode cL_law 701 = .ok (.iadd, 1) := by decide +kernel
theorem dL_law_702 : decode cL_law 702 = .ok (.iaload, 1) := by decide +kernel
theorem dL_law_703 : decode cL_law 703 = .ok (.aload_n 0, 1) := by decide +kernel
theorem dL_law_704 : decode cL_law 704 = .ok (.iload_n 3, 1) := by decide +kernel
theorem dL_law_705 : decode cL_law 705 = .ok (.iconst 3, 1) := by decide +kernel
theorem dL_law_706 : decode cL_law 706 = .ok (.iadd, 1) := by decide +kernel
theorem dL_law_707 : decode cL_law 707 = .ok (.iaload, 1) := by decide +kernel
theorem dL_law_708 : decode cL_law 708 = .ok (.invokevirtual 83, 3) := by decide +kernel
theorem dL_law_711 : decode cL_law 711 = .ok (.if_icmp .eq 632, 3) := by decide +kernel
theorem dL_law_714 : decode cL_law 714 = .ok (.iconst 0, 1) := by decide +kernel
theorem dL_law_715 : decode cL_law 715 = .ok (.ireturn, 1) := by decide +kernel
theorem dL_law_716 : decode cL_law 716 = .ok (.aload_n 1, 1) := by decide +kernel
theorem dL_law_717 : decode cL_law 717 = .ok (.aload_n 0, 1) := by decide +kernel
theorem dL_law_718 : decode cL_law 718 = .ok (.iload_n 3, 1) := by decide +kernel
theorem dL_law_719 : decode cL_law 719 = .ok (.iconst 1, 1) := by decide +kernel
theorem dL_law_720 : decode cL_law 720 = .ok (.iadd, 1) := by decide +kernel
theorem dL_law_721 : decode cL_law 721 = .ok (.iaload, 1) := by decide +kernel
theorem dL_law_722 : decode cL_law 722 = .ok (.aload_n 0, 1) := by decide +kernel
theorem dL_law_723 : decode cL_law 723 = .ok (.iload_n 3, 1) := by decide +kernel
theorem dL_law_724 : decode cL_law 724 = .ok (.iconst 2, 1) := by decide +kernel
theorem dL_law_725 : decode cL_law 725 = .ok (.iadd, 1) := by decide +kernel
theorem dL_law_726 : decode cL_law 726 = .ok (.iaload, 1) := by decide +kernel
theorem dL_law_727 : decode cL_law 727 = .ok (.invokevirtual 84, 3) := by decide +kernel
theorem dL_law_730 : decode cL_law 730 = .ok (.aload_n 2, 1) := by decide +kernel
theorem dL_law_731 : decode cL_law 731 = .ok (.aload_n 0, 1) := by decide +kernel
theorem dL_law_732 : decode cL_law 732 = .ok (.iload_n 3, 1) := by decide +kernel
theorem dL_law_733 : decode cL_law 733 = .ok (.iconst 1, 1) := by decide +kernel
theorem dL_law_734 : decode cL_law 734 = .ok (.iadd, 1) := by decide +kernel
theorem dL_law_735 : decode cL_law 735 = .ok (.iaload, 1) := by decide +kernel
theorem dL_law_736 : decode cL_law 736 = .ok (.aload_n 0, 1) := by decide +kernel
theorem dL_law_737 : decode cL_law 737 = .ok (.iload_n 3, 1) := by decide +kernel
theorem dL_law_738 : decode cL_law 738 = .ok (.iconst 2, 1) := by decide +kernel
theorem dL_law_739 : decode cL_law 739 = .ok (.iadd, 1) := by decide +kernel
theorem dL_law_740 : decode cL_law 740 = .ok (.iaload, 1) := by decide +kernel
theorem dL_law_741 : decode cL_law 741 = .ok (.invokevirtual 87, 3) := by decide +kernel
theorem dL_law_744 : decode cL_law 744 = .ok (.if_icmp .eq 599, 3) := by decide +kernel
theorem dL_law_747 : decode cL_law 747 = .ok (.iconst 0, 1) := by decide +kernel
theorem dL_law_748 : decode cL_law 748 = .ok (.ireturn, 1) := by decide +kernel
theorem dL_law_749 : decode cL_law 749 = .ok (.aload_n 1, 1) := by decide +kernel
theorem dL_law_750 : decode cL_law 750 = .ok (.aload_n 0, 1) := by decide +kernel
theorem dL_law_751 : decode cL_law 751 = .ok (.iload_n 3, 1) := by decide +kernel
theorem dL_law_752 : decode cL_law 752 = .ok (.iconst 1, 1) := by decide +kernel
theorem dL_law_753 : decode cL_law 753 = .ok (.iadd, 1) := by decide +kernel
theorem dL_law_754 : decode cL_law 754 = .ok (.iaload, 1) := by decide +kernel
theorem dL_law_755 : decode cL_law 755 = .ok (.aload_n 0, 1) := by decide +kernel
theorem dL_law_756 : decode cL_law 756 = .ok (.iload_n 3, 1) := by decide +kernel
theorem dL_law_757 : decode cL_law 757 = .ok (.iconst 2, 1) := by decide +kernel
theorem dL_law_758 : decode cL_law 758 = .ok (.iadd, 1) := by decide +kernel
theorem dL_law_759 : decode cL_law 759 = .ok (.iaload, 1) := by decide +kernel
theorem dL_law_760 : decode cL_law 760 = .ok (.aload_n 0, 1) := by decide +kernel
theorem dL_law_761 : decode cL_law 761 = .ok (.iload_n 3, 1) := by decide +kernel
theorem dL_law_762 : decode cL_law 762 = .ok (.iconst 3, 1) := by decide +kernel
theorem dL_law_763 : decode cL_law 763 = .ok (.iadd, 1) := by decide +kernel
theorem dL_law_764 : decode cL_law 764 = .ok (.iaload, 1) := by decide +kernel
theorem dL_law_765 : decode cL_law 765 = .ok (.invokevirtual 88, 3) := by decide +kernel
theorem dL_law_768 : decode cL_law 768 = .ok (.aload_n 2, 1) := by decide +kernel
theorem dL_law_769 : decode cL_law 769 = .ok (.aload_n 0, 1) := by decide +kernel
theorem dL_law_770 : decode cL_law 770 = .ok (.iload_n 3, 1) := by decide +kernel
theorem dL_law_771 : decode cL_law 771 = .ok (.iconst 1, 1) := by decide +kernel
theorem dL_law_772 : decode cL_law 772 = .ok (.iadd, 1) := by decide +kernel
theorem dL_law_773 : decode cL_law 773 = .ok (.iaload, 1) := by decide +kernel
theorem dL_law_774 : decode cL_law 774 = .ok (.aload_n 0, 1) := by decide +kernel
theorem dL_law_775 : decode cL_law 775 = .ok (.iload_n 3, 1) := by decide +kernel
theorem dL_law_776 : decode cL_law 776 = .ok (.iconst 2, 1) := by decide +kernel
theorem dL_law_777 : decode cL_law 777 = .ok (.iadd, 1) := by decide +kernel
theorem dL_law_778 : decode cL_law 778 = .ok (.iaload, 1) := by decide +kernel
theorem dL_law_779 : decode cL_law 779 = .ok (.aload_n 0, 1) := by decide +kernel
theorem dL_law_780 : decode cL_law 780 = .ok (.iload_n 3, 1) := by decide +kernel
theorem dL_law_781 : decode cL_law 781 = .ok (.iconst 3, 1) := by decide +kernel
theorem dL_law_782 : decode cL_law 782 = .ok (.iadd, 1) := by decide +kernel
theorem dL_law_783 : decode cL_law 783 = .ok (.iaload, 1) := by decide +kernel
theorem dL_law_784 : decode cL_law 784 = .ok (.invokevirtual 91, 3) := by decide +kernel
theorem dL_law_787 : decode cL_law 787 = .ok (.if_icmp .eq 556, 3) := by decide +kernel
theorem dL_law_790 : decode cL_law 790 = .ok (.iconst 0, 1) := by decide +kernel
theorem dL_law_791 : decode cL_law 791 = .ok (.ireturn, 1) := by decide +kernel
theorem dL_law_792 : decode cL_law 792 = .ok (.aload_n 1, 1) := by decide +kernel
theorem dL_law_793 : decode cL_law 793 = .ok (.aload_n 0, 1) := by decide +kernel
theorem dL_law_794 : decode cL_law 794 = .ok (.iload_n 3, 1) := by decide +kernel
theorem dL_law_795 : decode cL_law 795 = .ok (.iconst 1, 1) := by decide +kernel
theorem dL_law_796 : decode cL_law 796 = .ok (.iadd, 1) := by decide +kernel
theorem dL_law_797 : decode cL_law 797 = .ok (.iaload, 1) := by decide +kernel
theorem dL_law_798 : decode cL_law 798 = .ok (.aload_n 0, 1) := by decide +kernel
theorem dL_law_799 : decode cL_law 799 = .ok (.iload_n 3, 1) := by decide +kernel
theorem dL_law_800 : decode cL_law 800 = .ok (.iconst 2, 1) := by decide +kernel
theorem dL_law_801 : decode cL_law 801 = .ok (.iadd, 1) := by decide +kernel
theorem dL_law_802 : decode cL_law 802 = .ok (.iaload, 1) := by decide +kernel
theorem dL_law_803 : decode cL_law 803 = .ok (.aload_n 0, 1) := by decide +kernel
theorem dL_law_804 : decode cL_law 804 = .ok (.iload_n 3, 1) := by decide +kernel
theorem dL_law_805 : decode cL_law 805 = .ok (.iconst 3, 1) := by decide +kernel
theorem dL_law_806 : decode cL_law 806 = .ok (.iadd, 1) := by decide +kernel
theorem dL_law_807 : decode cL_law 807 = .ok (.iaload, 1) := by decide +kernel
theorem dL_law_808 : decode cL_law 808 = .ok (.aload_n 0, 1) := by decide +kernel
theorem dL_law_809 : decode cL_law 809 = .ok (.iload_n 3, 1) := by decide +kernel
theorem dL_law_810 : decode cL_law 810 = .ok (.iconst 4, 1) := by decide +kernel
theorem dL_law_811 : decode cL_law 811 = .ok (.iadd, 1) := by decide +kernel
theorem dL_law_812 : decode cL_law 812 = .ok (.iaload, 1) := by decide +kernel
theorem dL_law_813 : decode cL_law 813 = .ok (.invokevirtual 92, 3) := by decide +kernel
theorem dL_law_816 : decode cL_law 816 = .ok (.aload_n 2, 1) := by decide +kernel
theorem dL_law_817 : decode cL_law 817 = .ok (.aload_n 0, 1) := by decide +kernel
theorem dL_law_818 : decode cL_law 818 = .ok (.iload_n 3, 1) := by decide +kernel
theorem dL_law_819 : decode cL_law 819 = .ok (.iconst 1, 1) := by decide +kernel
theorem dL_law_820 : decode cL_law 820 = .ok (.iadd, 1) := by decide +kernel
theorem dL_law_821 : decode cL_law 821 = .ok (.iaload, 1) := by decide +kernel
theorem dL_law_822 : decode cL_law 822 = .ok (.aload_n 0, 1) := by decide +kernel
theorem dL_law_823 : decode cL_law 823 = .ok (.iload_n 3, 1) := by decide +kernel
theorem dL_law_824 : decode cL_law 824 = .ok (.iconst 2, 1) := by decide +kernel
theorem dL_law_825 : decode cL_law 825 = .ok (.iadd, 1) := by decide +kernel
theorem dL_law_826 : decode cL_law 826 = .ok (.iaload, 1) := by decide +kernel
theorem dL_law_827 : decode cL_law 827 = .ok (.aload_n 0, 1) := by decide +kernel
theorem dL_law_828 : decode cL_law 828 = .ok (.iload_n 3, 1) := by decide +kernel
theorem dL_law_829 : decode cL_law 829 = .ok (.iconst 3, 1) := by decide +kernel
theorem dL_law_830 : decode cL_law 830 = .ok (.iadd, 1) := by decide +kernel
theorem dL_law_831 : decode cL_law 831 = .ok (.iaload, 1) := by decide +kernel
theorem dL_law_832 : decode cL_law 832 = .ok (.aload_n 0, 1) := by decide +kernel
theorem dL_law_833 : decode cL_law 833 = .ok (.iload_n 3, 1) := by decide +kernel
theorem dL_law_834 : decode cL_law 834 = .ok (.iconst 4, 1) := by decide +kernel
theorem dL_law_835 : decode cL_law 835 = .ok (.iadd, 1) := by decide +kernel
theorem dL_law_836 : decode cL_law 836 = .ok (.iaload, 1) := by decide +kernel
theorem dL_law_837 : decode cL_law 837 = .ok (.invokevirtual 95, 3) := by decide +kernel
theorem dL_law_840 : decode cL_law 840 = .ok (.if_icmp .eq 503, 3) := by decide +kernel
theorem dL_law_843 : decode cL_law 843 = .ok (.iconst 0, 1) := by decide +kernel
theorem dL_law_844 : decode cL_law 844 = .ok (.ireturn, 1) := by decide +kernel
theorem dL_law_845 : decode cL_law 845 = .ok (.aload_n 1, 1) := by decide +kernel
theorem dL_law_846 : decode cL_law 846 = .ok (.aload_n 0, 1) := by decide +kernel
theorem dL_law_847 : decode cL_law 847 = .ok (.iload_n 3, 1) := by decide +kernel
theorem dL_law_848 : decode cL_law 848 = .ok (.iconst 1, 1) := by decide +kernel
theorem dL_law_849 : decode cL_law 849 = .ok (.iadd, 1) := by decide +kernel
theorem dL_law_850 : decode cL_law 850 = .ok (.iaload, 1) := by decide +kernel
theorem dL_law_851 : decode cL_law 851 = .ok (.aload_n 0, 1) := by decide +kernel
theorem dL_law_852 : decode cL_law 852 = .ok (.iload_n 3, 1) := by decide +kernel
theorem dL_law_853 : decode cL_law 853 = .ok (.iconst 2, 1) := by decide +kernel
theorem dL_law_854 : decode cL_law 854 = .ok (.iadd, 1) := by decide +kernel
theorem dL_law_855 : decode cL_law 855 = .ok (.iaload, 1) := by decide +kernel
theorem dL_law_856 : decode cL_law 856 = .ok (.invokevirtual 96, 3) := by decide +kernel
theorem dL_law_859 : decode cL_law 859 = .ok (.aload_n 2, 1) := by decide +kernel
theorem dL_law_860 : decode cL_law 860 = .ok (.aload_n 0, 1) := by decide +kernel
theorem dL_law_861 : decode cL_law 861 = .ok (.iload_n 3, 1) := by decide +kernel
theorem dL_law_862 : decode cL_law 862 = .ok (.iconst 1, 1) := by decide +kernel
theorem dL_law_863 : decode cL_law 863 = .ok (.iadd, 1) := by decide +kernel
theorem dL_law_864 : decode cL_law 864 = .ok (.iaload, 1) := by decide +kernel
theorem dL_law_865 : decode cL_law 865 = .ok (.aload_n 0, 1) := by decide +kernel
theorem dL_law_866 : decode cL_law 866 = .ok (.iload_n 3, 1) := by decide +kernel
theorem dL_law_867 : decode cL_law 867 = .ok (.iconst 2, 1) := by decide +kernel
theorem dL_law_868 : decode cL_law 868 = .ok (.iadd, 1) := by decide +kernel
theorem dL_law_869 : decode cL_law 869 = .ok (.iaload, 1) := by decide +kernel
theorem dL_law_870 : decode cL_law 870 = .ok (.invokevirtual 99, 3) := by decide +kernel
theorem dL_law_873 : decode cL_law 873 = .ok (.if_icmp .eq 470, 3) := by decide +kernel
theorem dL_law_876 : decode cL_law 876 = .ok (.iconst 0, 1) := by decide +kernel
theorem dL_law_877 : decode cL_law 877 = .ok (.ireturn, 1) := by decide +kernel
theorem dL_law_878 : decode cL_law 878 = .ok (.aload_n 1, 1) := by decide +kernel
theorem dL_law_879 : decode cL_law 879 = .ok (.aload_n 0, 1) := by decide +kernel
theorem dL_law_880 : decode cL_law 880 = .ok (.iload_n 3, 1) := by decide +kernel
theorem dL_law_881 : decode cL_law 881 = .ok (.iconst 1, 1) := by decide +kernel
theorem dL_law_882 : decode cL_law 882 = .ok (.iadd, 1) := by decide +kernel
theorem dL_law_883 : decode cL_law 883 = .ok (.iaload, 1) := by decide +kernel
theorem dL_law_884 : decode cL_law 884 = .ok (.aload_n 0, 1) := by decide +kernel
theorem dL_law_885 : decode cL_law 885 = .ok (.iload_n 3, 1) := by decide +kernel
theorem dL_law_886 : decode cL_law 886 = .ok (.iconst 2, 1) := by decide +kernel
theorem dL_law_887 : decode cL_law 887 = .ok (.iadd, 1) := by decide +kernel
theorem dL_law_888 : decode cL_law 888 = .ok (.iaload, 1) := by decide +kernel
theorem dL_law_889 : decode cL_law 889 = .ok (.aload_n 0, 1) := by decide +kernel
theorem dL_law_890 : decode cL_law 890 = .ok (.iload_n 3, 1) := by decide +kernel
theorem dL_law_891 : decode cL_law 891 = .ok (.iconst 3, 1) := by decide +kernel
theorem dL_law_892 : decode cL_law 892 = .ok (.iadd, 1) := by decide +kernel
theorem dL_law_893 : decode cL_law 893 = .ok (.iaload, 1) := by decide +kernel
theorem dL_law_894 : decode cL_law 894 = .ok (.aload_n 0, 1) := by decide +kernel
theorem dL_law_895 : decode cL_law 895 = .ok (.iload_n 3, 1) := by decide +kernel
theorem dL_law_896 : decode cL_law 896 = .ok (.iconst 4, 1) := by decide +kernel
theorem dL_law_897 : decode cL_law 897 = .ok (.iadd, 1) := by decide +kernel
theorem dL_law_898 : decode cL_law 898 = .ok (.iaload, 1) := by decide +kernel
theorem dL_law_899 : decode cL_law 899 = .ok (.invokevirtual 100, 3) := by decide +kernel
theorem dL_law_902 : decode cL_law 902 = .ok (.aload_n 2, 1) := by decide +kernel
theorem dL_law_903 : decode cL_law 903 = .ok (.aload_n 0, 1) := by decide +kernel
theorem dL_law_904 : decode cL_law 904 = .ok (.iload_n 3, 1) := by decide +kernel
theorem dL_law_905 : decode cL_law 905 = .ok (.iconst 1, 1) := by decide +kernel
theorem dL_law_906 : decode cL_law 906 = .ok (.iadd, 1) := by decide +kernel
theorem dL_law_907 : decode cL_law 907 = .ok (.iaload, 1) := by decide +kernel
theorem dL_law_908 : decode cL_law 908 = .ok (.aload_n 0, 1) := by decide +kernel
theorem dL_law_909 : decode cL_law 909 = .ok (.iload_n 3, 1) := by decide +kernel
theorem dL_law_910 : decode cL_law 910 = .ok (.iconst 2, 1) := by decide +kernel
theorem dL_law_911 : decode cL_law 911 = .ok (.iadd, 1) := by decide +kernel
theorem dL_law_912 : decode cL_law 912 = .ok (.iaload, 1) := by decide +kernel
theorem dL_law_913 : decode cL_law 913 = .ok (.aload_n 0, 1) := by decide +kernel
theorem dL_law_914 : decode cL_law 914 = .ok (.iload_n 3, 1) := by decide +kernel
theorem dL_law_915 : decode cL_law 915 = .ok (.iconst 3, 1) := by decide +kernel
theorem dL_law_916 : decode cL_law 916 = .ok (.iadd, 1) := by decide +kernel
theorem dL_law_917 : decode cL_law 917 = .ok (.iaload, 1) := by decide +kernel
theorem dL_law_918 : decode cL_law 918 = .ok (.aload_n 0, 1) := by decide +kernel
theorem dL_law_919 : decode cL_law 919 = .ok (.iload_n 3, 1) := by decide +kernel
theorem dL_law_920 : decode cL_law 920 = .ok (.iconst 4, 1) := by decide +kernel
theorem dL_law_921 : decode cL_law 921 = .ok (.iadd, 1) := by decide +kernel
theorem dL_law_922 : decode cL_law 922 = .ok (.iaload, 1) := by decide +kernel
theorem dL_law_923 : decode cL_law 923 = .ok (.invokevirtual 103, 3) := by decide +kernel
theorem dL_law_926 : decode cL_law 926 = .ok (.if_icmp .eq 417, 3) := by decide +kernel
theorem dL_law_929 : decode cL_law 929 = .ok (.iconst 0, 1) := by decide +kernel
theorem dL_law_930 : decode cL_law 930 = .ok (.ireturn, 1) := by decide +kernel
theorem dL_law_931 : decode cL_law 931 = .ok (.aload_n 1, 1) := by decide +kernel
theorem dL_law_932 : decode cL_law 932 = .ok (.aload_n 0, 1) := by decide +kernel
theorem dL_law_933 : decode cL_law 933 = .ok (.iload_n 3, 1) := by decide +kernel
theorem dL_law_934 : decode cL_law 934 = .ok (.iconst 1, 1) := by decide +kernel
theorem dL_law_935 : decode cL_law 935 = .ok (.iadd, 1) := by decide +kernel
theorem dL_law_936 : decode cL_law 936 = .ok (.iaload, 1) := by decide +kernel
theorem dL_law_937 : decode cL_law 937 = .ok (.aload_n 0, 1) := by decide +kernel
theorem dL_law_938 : decode cL_law 938 = .ok (.iload_n 3, 1) := by decide +kernel
theorem dL_law_939 : decode cL_law 939 = .ok (.iconst 2, 1) := by decide +kernel
theorem dL_law_940 : decode cL_law 940 = .ok (.iadd, 1) := by decide +kernel
theorem dL_law_941 : decode cL_law 941 = .ok (.iaload, 1) := by decide +kernel
theorem dL_law_942 : decode cL_law 942 = .ok (.aload_n 0, 1) := by decide +kernel
theorem dL_law_943 : decode cL_law 943 = .ok (.iload_n 3, 1) := by decide +kernel
theorem dL_law_944 : decode cL_law 944 = .ok (.iconst 3, 1) := by decide +kernel
theorem dL_law_945 : decode cL_law 945 = .ok (.iadd, 1) := by decide +kernel
theorem dL_law_946 : decode cL_law 946 = .ok (.iaload, 1) := by decide +kernel
theorem dL_law_947 : decode cL_law 947 = .ok (.invokevirtual 104, 3) := by decide +kernel
theorem dL_law_950 : decode cL_law 950 = .ok (.aload_n 2, 1) := by decide +kernel
theorem dL_law_951 : decode cL_law 951 = .ok (.aload_n 0, 1) := by decide +kernel
theorem dL_law_952 : decode cL_law 952 = .ok (.iload_n 3, 1) := by decide +kernel
theorem dL_law_953 : decode cL_law 953 = .ok (.iconst 1, 1) := by decide +kernel
theorem dL_law_954 : decode cL_law 954 = .ok (.iadd, 1) := by decide +kernel
theorem dL_law_955 : decode cL_law 955 = .ok (.iaload, 1) := by decide +kernel
theorem dL_law_956 : decode cL_law 956 = .ok (.aload_n 0, 1) := by decide +kernel
theorem dL_law_957 : decode cL_law 957 = .ok (.iload_n 3, 1) := by decide +kernel
theorem dL_law_958 : decode cL_law 958 = .ok (.iconst 2, 1) := by decide +kernel
theorem dL_law_959 : decode cL_law 959 = .ok (.iadd, 1) := by decide +kernel
theorem dL_law_960 : decode cL_law 960 = .ok (.iaload, 1) := by decide +kernel
theorem dL_law_961 : decode cL_law 961 = .ok (.aload_n 0, 1) := by decide +kernel
theorem dL_law_962 : decode cL_law 962 = .ok (.iload_n 3, 1) := by decide +kernel
theorem dL_law_963 : decode cL_law 963 = .ok (.iconst 3, 1) := by decide +kernel
theorem dL_law_964 : decode cL_law 964 = .ok (.iadd, 1) := by decide +kernel
theorem dL_law_965 : decode cL_law 965 = .ok (.iaload, 1) := by decide +kernel
theorem dL_law_966 : decode cL_law 966 = .ok (.invokevirtual 107, 3) := by decide +kernel
theorem dL_law_969 : decode cL_law 969 = .ok (.if_icmp .eq 374, 3) := by decide +kernel
theorem dL_law_972 : decode cL_law 972 = .ok (.iconst 0, 1) := by decide +kernel
theorem dL_law_973 : decode cL_law 973 = .ok (.ireturn, 1) := by decide +kernel
theorem dL_law_974 : decode cL_law 974 = .ok (.aload_n 1, 1) := by decide +kernel
theorem dL_law_975 : decode cL_law 975 = .ok (.aload_n 0, 1) := by decide +kernel
theorem dL_law_976 : decode cL_law 976 = .ok (.iload_n 3, 1) := by decide +kernel
theorem dL_law_977 : decode cL_law 977 = .ok (.iconst 1, 1) := by decide +kernel
theorem dL_law_978 : decode cL_law 978 = .ok (.iadd, 1) := by decide +kernel
theorem dL_law_979 : decode cL_law 979 = .ok (.iaload, 1) := by decide +kernel
theorem dL_law_980 : decode cL_law 980 = .ok (.aload_n 0, 1) := by decide +kernel
theorem dL_law_981 : decode cL_law 981 = .ok (.iload_n 3, 1) := by decide +kernel
theorem dL_law_982 : decode cL_law 982 = .ok (.iconst 2, 1) := by decide +kernel
theorem dL_law_983 : decode cL_law 983 = .ok (.iadd, 1) := by decide +kernel
theorem dL_law_984 : decode cL_law 984 = .ok (.iaload, 1) := by decide +kernel
theorem dL_law_985 : decode cL_law 985 = .ok (.aload_n 0, 1) := by decide +kernel
theorem dL_law_986 : decode cL_law 986 = .ok (.iload_n 3, 1) := by decide +kernel
theorem dL_law_987 : decode cL_law 987 = .ok (.iconst 3, 1) := by decide +kernel
theorem dL_law_988 : decode cL_law 988 = .ok (.iadd, 1) := by decide +kernel
theorem dL_law_989 : decode cL_law 989 = .ok (.iaload, 1) := by decide +kernel
theorem dL_law_990 : decode cL_law 990 = .ok (.invokevirtual 108, 3) := by decide +kernel
theorem dL_law_993 : decode cL_law 993 = .ok (.aload_n 2, 1) := by decide +kernel
theorem dL_law_994 : decode cL_law 994 = .ok (.aload_n 0, 1) := by decide +kernel
theorem dL_law_995 : decode cL_law 995 = .ok (.iload_n 3, 1) := by decide +kernel
theorem dL_law_996 : decode cL_law 996 = .ok (.iconst 1, 1) := by decide +kernel
theorem dL_law_997 : decode cL_law 997 = .ok (.iadd, 1) := by decide +kernel
theorem dL_law_998 : decode cL_law 998 = .ok (.iaload, 1) := by decide +kernel
theorem dL_law_999 : decode cL_law 999 = .ok (.aload_n 0, 1) := by decide +kernel
theorem dL_law_1000 : decode cL_law 1000 = .ok (.iload_n 3, 1) := by decide +kernel
theorem dL_law_1001 : decode cL_law 1001 = .ok (.iconst 2, 1) := by decide +kernel
theorem dL_law_1002 : decode cL_law 1002 = .ok (.iadd, 1) := by decide +kernel
theorem dL_law_1003 : decode cL_law 1003 = .ok (.iaload, 1) := by decide +kernel
theorem dL_law_1004 : decode cL_law 1004 = .ok (.aload_n 0, 1) := by decide +kernel
theorem dL_law_1005 : decode cL_law 1005 = .ok (.iload_n 3, 1) := by decide +kernel
theorem dL_law_1006 : decode cL_law 1006 = .ok (.iconst 3, 1) := by decide +kernel
theorem dL_law_1007 : decode cL_law 1007 = .ok (.iadd, 1) := by decide +kernel
theorem dL_law_1008 : decode cL_law 1008 = .ok (.iaload, 1) := by decide +kernel
theorem dL_law_1009 : decode cL_law 1009 = .ok (.invokevirtual 111, 3) := by decide +kernel
theorem dL_law_1012 : decode cL_law 1012 = .ok (.if_icmp .eq 331, 3) := by decide +kernel
theorem dL_law_1015 : decode cL_law 1015 = .ok (.iconst 0, 1) := by decide +kernel
theorem dL_law_1016 : decode cL_law 1016 = .ok (.ireturn, 1) := by decide +kernel
theorem dL_law_1017 : decode cL_law 1017 = .ok (.aload_n 1, 1) := by decide +kernel
theorem dL_law_1018 : decode cL_law 1018 = .ok (.aload_n 0, 1) := by decide +kernel
theorem dL_law_1019 : decode cL_law 1019 = .ok (.iload_n 3, 1) := by decide +kernel
theorem dL_law_1020 : decode cL_law 1020 = .ok (.iconst 1, 1) := by decide +kernel
theorem dL_law_1021 : decode cL_law 1021 = .ok (.iadd, 1) := by decide +kernel
theorem dL_law_1022 : decode cL_law 1022 = .ok (.iaload, 1) := by decide +kernel
theorem dL_law_1023 : decode cL_law 1023 = .ok (.invokevirtual 112, 3) := by decide +kernel
theorem dL_law_1026 : decode cL_law 1026 = .ok (.aload_n 2, 1) := by decide +kernel
theorem dL_law_1027 : decode cL_law 1027 = .ok (.aload_n 0, 1) := by decide +kernel
theorem dL_law_1028 : decode cL_law 1028 = .ok (.iload_n 3, 1) := by decide +kernel
theorem dL_law_1029 : decode cL_law 1029 = .ok (.iconst 1, 1) := by decide +kernel
theorem dL_law_1030 : decode cL_law 1030 = .ok (.iadd, 1) := by decide +kernel
theorem dL_law_1031 : decode cL_law 1031 = .ok (.iaload, 1) := by decide +kernel
theorem dL_law_1032 : decode cL_law 1032 = .ok (.invokevirtual 115, 3) := by decide +kernel
theorem dL_law_1035 : decode cL_law 1035 = .ok (.if_icmp .eq 308, 3) := by decide +kernel
theorem dL_law_1038 : decode cL_law 1038 = .ok (.iconst 0, 1) := by decide +kernel
theorem dL_law_1039 : decode cL_law 1039 = .ok (.ireturn, 1) := by decide +kernel
theorem dL_law_1040 : decode cL_law 1040 = .ok (.aload_n 1, 1) := by decide +kernel
theorem dL_law_1041 : decode cL_law 1041 = .ok (.aload_n 0, 1) := by decide +kernel
theorem dL_law_1042 : decode cL_law 1042 = .ok (.iload_n 3, 1) := by decide +kernel
theorem dL_law_1043 : decode cL_law 1043 = .ok (.iconst 1, 1) := by decide +kernel
theorem dL_law_1044 : decode cL_law 1044 = .ok (.iadd, 1) := by decide +kernel
theorem dL_law_1045 : decode cL_law 1045 = .ok (.iaload, 1) := by decide +kernel
theorem dL_law_1046 : decode cL_law 1046 = .ok (.aload_n 0, 1) := by decide +kernel
theorem dL_law_1047 : decode cL_law 1047 = .ok (.iload_n 3, 1) := by decide +kernel
theorem dL_law_1048 : decode cL_law 1048 = .ok (.iconst 2, 1) := by decide +kernel
theorem dL_law_1049 : decode cL_law 1049 = .ok (.iadd, 1) := by decide +kernel
theorem dL_law_1050 : decode cL_law 1050 = .ok (.iaload, 1) := by decide +kernel
theorem dL_law_1051 : decode cL_law 1051 = .ok (.aload_n 0, 1) := by decide +kernel
theorem dL_law_1052 : decode cL_law 1052 = .ok (.iload_n 3, 1) := by decide +kernel
theorem dL_law_1053 : decode cL_law 1053 = .ok (.iconst 3, 1) := by decide +kernel
theorem dL_law_1054 : decode cL_law 1054 = .ok (.iadd, 1) := by decide +kernel
theorem dL_law_1055 : decode cL_law 1055 = .ok (.iaload, 1) := by decide +kernel
theorem dL_law_1056 : decode cL_law 1056 = .ok (.invokevirtual 116, 3) := by decide +kernel
theorem dL_law_1059 : decode cL_law 1059 = .ok (.aload_n 2, 1) := by decide +kernel
theorem dL_law_1060 : decode cL_law 1060 = .ok (.aload_n 0, 1) := by decide +kernel
theorem dL_law_1061 : decode cL_law 1061 = .ok (.iload_n 3, 1) := by decide +kernel
theorem dL_law_1062 : decode cL_law 1062 = .ok (.iconst 1, 1) := by decide +kernel
theorem dL_law_1063 : decode cL_law 1063 = .ok (.iadd, 1) := by decide +kernel
theorem dL_law_1064 : decode cL_law 1064 = .ok (.iaload, 1) := by decide +kernel
theorem dL_law_1065 : decode cL_law 1065 = .ok (.aload_n 0, 1) := by decide +kernel
theorem dL_law_1066 : decode cL_law 1066 = .ok (.iload_n 3, 1) := by decide +kernel
theorem dL_law_1067 : decode cL_law 1067 = .ok (.iconst 2, 1) := by decide +kernel
theorem dL_law_1068 : decode cL_law 1068 = .ok (.iadd, 1) := by decide +kernel
theorem dL_law_1069 : decode cL_law 1069 = .ok (.iaload, 1) := by decide +kernel
theorem dL_law_1070 : decode cL_law 1070 = .ok (.aload_n 0, 1) := by decide +kernel
theorem dL_law_1071 : decode cL_law 1071 = .ok (.iload_n 3, 1) := by decide +kernel
theorem dL_law_1072 : decode cL_law 1072 = .ok (.iconst 3, 1) := by decide +kernel
theorem dL_law_1073 : decode cL_law 1073 = .ok (.iadd, 1) := by decide +kernel
theorem dL_law_1074 : decode cL_law 1074 = .ok (.iaload, 1) := by decide +kernel
theorem dL_law_1075 : decode cL_law 1075 = .ok (.invokevirtual 119, 3) := by decide +kernel
theorem dL_law_1078 : decode cL_law 1078 = .ok (.if_icmp .eq 265, 3) := by decide +kernel
theorem dL_law_1081 : decode cL_law 1081 = .ok (.iconst 0, 1) := by decide +kernel
theorem dL_law_1082 : decode cL_law 1082 = .ok (.ireturn, 1) := by decide +kernel
theorem dL_law_1083 : decode cL_law 1083 = .ok (.aload_n 1, 1) := by decide +kernel
theorem dL_law_1084 : decode cL_law 1084 = .ok (.aload_n 0, 1) := by decide +kernel
theorem dL_law_1085 : decode cL_law 1085 = .ok (.iload_n 3, 1) := by decide +kernel
theorem dL_law_1086 : decode cL_law 1086 = .ok (.iconst 1, 1) := by decide +kernel
theorem dL_law_1087 : decode cL_law 1087 = .ok (.iadd, 1) := by decide +kernel
theorem dL_law_1088 : decode cL_law 1088 = .ok (.iaload, 1) := by decide +kernel
theorem dL_law_1089 : decode cL_law 1089 = .ok (.aload_n 0, 1) := by decide +kernel
theorem dL_law_1090 : decode cL_law 1090 = .ok (.iload_n 3, 1) := by decide +kernel
theorem dL_law_1091 : decode cL_law 1091 = .ok (.iconst 2, 1) := by decide +kernel
theorem dL_law_1092 : decode cL_law 1092 = .ok (.iadd, 1) := by decide +kernel
theorem dL_law_1093 : decode cL_law 1093 = .ok (.iaload, 1) := by decide +kernel
theorem dL_law_1094 : decode cL_law 1094 = .ok (.aload_n 0, 1) := by decide +kernel
theorem dL_law_1095 : decode cL_law 1095 = .ok (.iload_n 3, 1) := by decide +kernel
theorem dL_law_1096 : decode cL_law 1096 = .ok (.iconst 3, 1) := by decide +kernel
theorem dL_law_1097 : decode cL_law 1097 = .ok (.iadd, 1) := by decide +kernel
theorem dL_law_1098 : decode cL_law 1098 = .ok (.iaload, 1) := by decide +kernel
theorem dL_law_1099 : decode cL_law 1099 = .ok (.invokevirtual 120, 3) := by decide +kernel
theorem dL_law_1102 : decode cL_law 1102 = .ok (.aload_n 2, 1) := by decide +kernel
theorem dL_law_1103 : decode cL_law 1103 = .ok (.aload_n 0, 1) := by decide +kernel
theorem dL_law_1104 : decode cL_law 1104 = .ok (.iload_n 3, 1) := by decide +kernel
theorem dL_law_1105 : decode cL_law 1105 = .ok (.iconst 1, 1) := by decide +kernel
theorem dL_law_1106 : decode cL_law 1106 = .ok (.iadd, 1) := by decide +kernel
theorem dL_law_1107 : decode cL_law 1107 = .ok (.iaload, 1) := by decide +kernel
theorem dL_law_1108 : decode cL_law 1108 = .ok (.aload_n 0, 1) := by decide +kernel
theorem dL_law_1109 : decode cL_law 1109 = .ok (.iload_n 3, 1) := by decide +kernel
theorem dL_law_1110 : decode cL_law 1110 = .ok (.iconst 2, 1) := by decide +kernel
theorem dL_law_1111 : decode cL_law 1111 = .ok (.iadd, 1) := by decide +kernel
theorem dL_law_1112 : decode cL_law 1112 = .ok (.iaload, 1) := by decide +kernel
theorem dL_law_1113 : decode cL_law 1113 = .ok (.aload_n 0, 1) := by decide +kernel
theorem dL_law_1114 : decode cL_law 1114 = .ok (.iload_n 3, 1) := by decide +kernel
theorem dL_law_1115 : decode cL_law 1115 = .ok (.iconst 3, 1) := by decide +kernel
theorem dL_law_1116 : decode cL_law 1116 = .ok (.iadd, 1) := by decide +kernel
theorem dL_law_1117 : decode cL_law 1117 = .ok (.iaload, 1) := by decide +kernel
theorem dL_law_1118 : decode cL_law 1118 = .ok (.invokevirtual 123, 3) := by decide +kernel
theorem dL_law_1121 : decode cL_law 1121 = .ok (.if_icmp .eq 222, 3) := by decide +kernel
theorem dL_law_1124 : decode cL_law 1124 = .ok (.iconst 0, 1) := by decide +kernel
theorem dL_law_1125 : decode cL_law 1125 = .ok (.ireturn, 1) := by decide +kernel
theorem dL_law_1126 : decode cL_law 1126 = .ok (.aload_n 1, 1) := by decide +kernel
theorem dL_law_1127 : decode cL_law 1127 = .ok (.aload_n 0, 1) := by decide +kernel
theorem dL_law_1128 : decode cL_law 1128 = .ok (.iload_n 3, 1) := by decide +kernel
theorem dL_law_1129 : decode cL_law 1129 = .ok (.iconst 1, 1) := by decide +kernel
theorem dL_law_1130 : decode cL_law 1130 = .ok (.iadd, 1) := by decide +kernel
theorem dL_law_1131 : decode cL_law 1131 = .ok (.iaload, 1) := by decide +kernel
theorem dL_law_1132 : decode cL_law 1132 = .ok (.aload_n 0, 1) := by decide +kernel
theorem dL_law_1133 : decode cL_law 1133 = .ok (.iload_n 3, 1) := by decide +kernel
theorem dL_law_1134 : decode cL_law 1134 = .ok (.iconst 2, 1) := by decide +kernel
theorem dL_law_1135 : decode cL_law 1135 = .ok (.iadd, 1) := by decide +kernel
theorem dL_law_1136 : decode cL_law 1136 = .ok (.iaload, 1) := by decide +kernel
theorem dL_law_1137 : decode cL_law 1137 = .ok (.aload_n 0, 1) := by decide +kernel
theorem dL_law_1138 : decode cL_law 1138 = .ok (.iload_n 3, 1) := by decide +kernel
theorem dL_law_1139 : decode cL_law 1139 = .ok (.iconst 3, 1) := by decide +kernel
theorem dL_law_1140 : decode cL_law 1140 = .ok (.iadd, 1) := by decide +kernel
theorem dL_law_1141 : decode cL_law 1141 = .ok (.iaload, 1) := by decide +kernel
theorem dL_law_1142 : decode cL_law 1142 = .ok (.aload_n 0, 1) := by decide +kernel
theorem dL_law_1143 : decode cL_law 1143 = .ok (.iload_n 3, 1) := by decide +kernel
theorem dL_law_1144 : decode cL_law 1144 = .ok (.iconst 4, 1) := by decide +kernel
theorem dL_law_1145 : decode cL_law 1145 = .ok (.iadd, 1) := by decide +kernel
theorem dL_law_1146 : decode cL_law 1146 = .ok (.iaload, 1) := by decide +kernel
theorem dL_law_1147 : decode cL_law 1147 = .ok (.aload_n 0, 1) := by decide +kernel
theorem dL_law_1148 : decode cL_law 1148 = .ok (.iload_n 3, 1) := by decide +kernel
theorem dL_law_1149 : decode cL_law 1149 = .ok (.iconst 5, 1) := by decide +kernel
theorem dL_law_1150 : decode cL_law 1150 = .ok (.iadd, 1) := by decide +kernel
theorem dL_law_1151 : decode cL_law 1151 = .ok (.iaload, 1) := by decide +kernel
theorem dL_law_1152 : decode cL_law 1152 = .ok (.invokevirtual 124, 3) := by decide +kernel
theorem dL_law_1155 : decode cL_law 1155 = .ok (.aload_n 2, 1) := by decide +kernel
theorem dL_law_1156 : decode cL_law 1156 = .ok (.aload_n 0, 1) := by decide +kernel
theorem dL_law_1157 : decode cL_law 1157 = .ok (.iload_n 3, 1) := by decide +kernel
theorem dL_law_1158 : decode cL_law 1158 = .ok (.iconst 1, 1) := by decide +kernel
theorem dL_law_1159 : decode cL_law 1159 = .ok (.iadd, 1) := by decide +kernel
theorem dL_law_1160 : decode cL_law 1160 = .ok (.iaload, 1) := by decide +kernel
theorem dL_law_1161 : decode cL_law 1161 = .ok (.aload_n 0, 1) := by decide +kernel
theorem dL_law_1162 : decode cL_law 1162 = .ok (.iload_n 3, 1) := by decide +kernel
theorem dL_law_1163 : decode cL_law 1163 = .ok (.iconst 2, 1) := by decide +kernel
theorem dL_law_1164 : decode cL_law 1164 = .ok (.iadd, 1) := by decide +kernel
theorem dL_law_1165 : decode cL_law 1165 = .ok (.iaload, 1) := by decide +kernel
theorem dL_law_1166 : decode cL_law 1166 = .ok (.aload_n 0, 1) := by decide +kernel
theorem dL_law_1167 : decode cL_law 1167 = .ok (.iload_n 3, 1) := by decide +kernel
theorem dL_law_1168 : decode cL_law 1168 = .ok (.iconst 3, 1) := by decide +kernel
theorem dL_law_1169 : decode cL_law 1169 = .ok (.iadd, 1) := by decide +kernel
theorem dL_law_1170 : decode cL_law 1170 = .ok (.iaload, 1) := by decide +kernel
theorem dL_law_1171 : decode cL_law 1171 = .ok (.aload_n 0, 1) := by decide +kernel
theorem dL_law_1172 : decode cL_law 1172 = .ok (.iload_n 3, 1) := by decide +kernel
theorem dL_law_1173 : decode cL_law 1173 = .ok (.iconst 4, 1) := by decide +kernel
theorem dL_law_1174 : decode cL_law 1174 = .ok (.iadd, 1) := by decide +kernel
theorem dL_law_1175 : decode cL_law 1175 = .ok (.iaload, 1) := by decide +kernel
theorem dL_law_1176 : decode cL_law 1176 = .ok (.aload_n 0, 1) := by decide +kernel
theorem dL_law_1177 : decode cL_law 1177 = .ok (.iload_n 3, 1) := by decide +kernel
theorem dL_law_1178 : decode cL_law 1178 = .ok (.iconst 5, 1) := by decide +kernel
theorem dL_law_1179 : decode cL_law 1179 = .ok (.iadd, 1) := by decide +kernel
theorem dL_law_1180 : decode cL_law 1180 = .ok (.iaload, 1) := by decide +kernel
theorem dL_law_1181 : decode cL_law 1181 = .ok (.invokevirtual 128, 3) := by decide +kernel
theorem dL_law_1184 : decode cL_law 1184 = .ok (.if_icmp .eq 159, 3) := by decide +kernel
theorem dL_law_1187 : decode cL_law 1187 = .ok (.iconst 0, 1) := by decide +kernel
theorem dL_law_1188 : decode cL_law 1188 = .ok (.ireturn, 1) := by decide +kernel
theorem dL_law_1189 : decode cL_law 1189 = .ok (.aload_n 1, 1) := by decide +kernel
theorem dL_law_1190 : decode cL_law 1190 = .ok (.aload_n 0, 1) := by decide +kernel
theorem dL_law_1191 : decode cL_law 1191 = .ok (.iload_n 3, 1) := by decide +kernel
theorem dL_law_1192 : decode cL_law 1192 = .ok (.iconst 1, 1) := by decide +kernel
theorem dL_law_1193 : decode cL_law 1193 = .ok (.iadd, 1) := by decide +kernel
theorem dL_law_1194 : decode cL_law 1194 = .ok (.iaload, 1) := by decide +kernel
theorem dL_law_1195 : decode cL_law 1195 = .ok (.invokevirtual 129, 3) := by decide +kernel
theorem dL_law_1198 : decode cL_law 1198 = .ok (.aload_n 2, 1) := by decide +kernel
theorem dL_law_1199 : decode cL_law 1199 = .ok (.aload_n 0, 1) := by decide +kernel
theorem dL_law_1200 : decode cL_law 1200 = .ok (.iload_n 3, 1) := by decide +kernel
theorem dL_law_1201 : decode cL_law 1201 = .ok (.iconst 1, 1) := by decide +kernel
theorem dL_law_1202 : decode cL_law 1202 = .ok (.iadd, 1) := by decide +kernel
theorem dL_law_1203 : decode cL_law 1203 = .ok (.iaload, 1) := by decide +kernel
theorem dL_law_1204 : decode cL_law 1204 = .ok (.invokevirtual 132, 3) := by decide +kernel
theorem dL_law_1207 : decode cL_law 1207 = .ok (.if_icmp .eq 136, 3) := by decide +kernel
theorem dL_law_1210 : decode cL_law 1210 = .ok (.iconst 0, 1) := by decide +kernel
theorem dL_law_1211 : decode cL_law 1211 = .ok (.ireturn, 1) := by decide +kernel
theorem dL_law_1212 : decode cL_law 1212 = .ok (.aload_n 1, 1) := by decide +kernel
theorem dL_law_1213 : decode cL_law 1213 = .ok (.aload_n 0, 1) := by decide +kernel
theorem dL_law_1214 : decode cL_law 1214 = .ok (.iload_n 3, 1) := by decide +kernel
theorem dL_law_1215 : decode cL_law 1215 = .ok (.iconst 1, 1) := by decide +kernel
theorem dL_law_1216 : decode cL_law 1216 = .ok (.iadd, 1) := by decide +kernel
theorem dL_law_1217 : decode cL_law 1217 = .ok (.iaload, 1) := by decide +kernel
theorem dL_law_1218 : decode cL_law 1218 = .ok (.invokevirtual 133, 3) := by decide +kernel
theorem dL_law_1221 : decode cL_law 1221 = .ok (.aload_n 2, 1) := by decide +kernel
theorem dL_law_1222 : decode cL_law 1222 = .ok (.aload_n 0, 1) := by decide +kernel
theorem dL_law_1223 : decode cL_law 1223 = .ok (.iload_n 3, 1) := by decide +kernel
theorem dL_law_1224 : decode cL_law 1224 = .ok (.iconst 1, 1) := by decide +kernel
theorem dL_law_1225 : decode cL_law 1225 = .ok (.iadd, 1) := by decide +kernel
theorem dL_law_1226 : decode cL_law 1226 = .ok (.iaload, 1) := by decide +kernel
theorem dL_law_1227 : decode cL_law 1227 = .ok (.invokevirtual 136, 3) := by decide +kernel
theorem dL_law_1230 : decode cL_law 1230 = .ok (.if_icmp .eq 113, 3) := by decide +kernel
theorem dL_law_1233 : decode cL_law 1233 = .ok (.iconst 0, 1) := by decide +kernel
theorem dL_law_1234 : decode cL_law 1234 = .ok (.ireturn, 1) := by decide +kernel
theorem dL_law_1235 : decode cL_law 1235 = .ok (.aload_n 1, 1) := by decide +kernel
theorem dL_law_1236 : decode cL_law 1236 = .ok (.invokevirtual 137, 3) := by decide +kernel
theorem dL_law_1239 : decode cL_law 1239 = .ok (.aload_n 2, 1) := by decide +kernel
theorem dL_law_1240 : decode cL_law 1240 = .ok (.invokevirtual 141, 3) := by decide +kernel
theorem dL_law_1243 : decode cL_law 1243 = .ok (.if_icmp .eq 100, 3) := by decide +kernel
theorem dL_law_1246 : decode cL_law 1246 = .ok (.iconst 0, 1) := by decide +kernel
theorem dL_law_1247 : decode cL_law 1247 = .ok (.ireturn, 1) := by decide +kernel
theorem dL_law_1248 : decode cL_law 1248 = .ok (.aload_n 1, 1) := by decide +kernel
theorem dL_law_1249 : decode cL_law 1249 = .ok (.invokevirtual 142, 3) := by decide +kernel
theorem dL_law_1252 : decode cL_law 1252 = .ok (.aload_n 2, 1) := by decide +kernel
theorem dL_law_1253 : decode cL_law 1253 = .ok (.invokevirtual 145, 3) := by decide +kernel
theorem dL_law_1256 : decode cL_law 1256 = .ok (.if_icmp .eq 87, 3) := by decide +kernel
theorem dL_law_1259 : decode cL_law 1259 = .ok (.iconst 0, 1) := by decide +kernel
theorem dL_law_1260 : decode cL_law 1260 = .ok (.ireturn, 1) := by decide +kernel
theorem dL_law_1261 : decode cL_law 1261 = .ok (.aload_n 1, 1) := by decide +kernel
theorem dL_law_1262 : decode cL_law 1262 = .ok (.aload_n 0, 1) := by decide +kernel
theorem dL_law_1263 : decode cL_law 1263 = .ok (.iload_n 3, 1) := by decide +kernel
theorem dL_law_1264 : decode cL_law 1264 = .ok (.iconst 1, 1) := by decide +kernel
theorem dL_law_1265 : decode cL_law 1265 = .ok (.iadd, 1) := by decide +kernel
theorem dL_law_1266 : decode cL_law 1266 = .ok (.iaload, 1) := by decide +kernel
theorem dL_law_1267 : decode cL_law 1267 = .ok (.invokevirtual 146, 3) := by decide +kernel
theorem dL_law_1270 : decode cL_law 1270 = .ok (.aload_n 2, 1) := by decide +kernel
theorem dL_law_1271 : decode cL_law 1271 = .ok (.aload_n 0, 1) := by decide +kernel
theorem dL_law_1272 : decode cL_law 1272 = .ok (.iload_n 3, 1) := by decide +kernel
theorem dL_law_1273 : decode cL_law 1273 = .ok (.iconst 1, 1) := by decide +kernel
theorem dL_law_1274 : decode cL_law 1274 = .ok (.iadd, 1) := by decide +kernel
theorem dL_law_1275 : decode cL_law 1275 = .ok (.iaload, 1) := by decide +kernel
theorem dL_law_1276 : decode cL_law 1276 = .ok (.invokevirtual 149, 3) := by decide +kernel
theorem dL_law_1279 : decode cL_law 1279 = .ok (.if_icmp .eq 64, 3) := by decide +kernel
theorem dL_law_1282 : decode cL_law 1282 = .ok (.iconst 0, 1) := by decide +kernel
theorem dL_law_1283 : decode cL_law 1283 = .ok (.ireturn, 1) := by decide +kernel
theorem dL_law_1284 : decode cL_law 1284 = .ok (.aload_n 1, 1) := by decide +kernel
theorem dL_law_1285 : decode cL_law 1285 = .ok (.invokevirtual 150, 3) := by decide +kernel
theorem dL_law_1288 : decode cL_law 1288 = .ok (.aload_n 2, 1) := by decide +kernel
theorem dL_law_1289 : decode cL_law 1289 = .ok (.invokevirtual 153, 3) := by decide +kernel
theorem dL_law_1292 : decode cL_law 1292 = .ok (.if_icmp .eq 51, 3) := by decide +kernel
theorem dL_law_1295 : decode cL_law 1295 = .ok (.iconst 0, 1) := by decide +kernel
theorem dL_law_1296 : decode cL_law 1296 = .ok (.ireturn, 1) := by decide +kernel
theorem dL_law_1297 : decode cL_law 1297 = .ok (.aload_n 1, 1) := by decide +kernel
theorem dL_law_1298 : decode cL_law 1298 = .ok (.aload_n 0, 1) := by decide +kernel
theorem dL_law_1299 : decode cL_law 1299 = .ok (.iload_n 3, 1) := by decide +kernel
theorem dL_law_1300 : decode cL_law 1300 = .ok (.iconst 1, 1) := by decide +kernel
theorem dL_law_1301 : decode cL_law 1301 = .ok (.iadd, 1) := by decide +kernel
theorem dL_law_1302 : decode cL_law 1302 = .ok (.iaload, 1) := by decide +kernel
theorem dL_law_1303 : decode cL_law 1303 = .ok (.invokevirtual 154, 3) := by decide +kernel
theorem dL_law_1306 : decode cL_law 1306 = .ok (.aload_n 2, 1) := by decide +kernel
theorem dL_law_1307 : decode cL_law 1307 = .ok (.aload_n 0, 1) := by decide +kernel
theorem dL_law_1308 : decode cL_law 1308 = .ok (.iload_n 3, 1) := by decide +kernel
theorem dL_law_1309 : decode cL_law 1309 = .ok (.iconst 1, 1) := by decide +kernel
theorem dL_law_1310 : decode cL_law 1310 = .ok (.iadd, 1) := by decide +kernel
theorem dL_law_1311 : decode cL_law 1311 = .ok (.iaload, 1) := by decide +kernel
theorem dL_law_1312 : decode cL_law 1312 = .ok (.invokevirtual 157, 3) := by decide +kernel
theorem dL_law_1315 : decode cL_law 1315 = .ok (.if_icmp .eq 28, 3) := by decide +kernel
theorem dL_law_1318 : decode cL_law 1318 = .ok (.iconst 0, 1) := by decide +kernel
theorem dL_law_1319 : decode cL_law 1319 = .ok (.ireturn, 1) := by decide +kernel
theorem dL_law_1320 : decode cL_law 1320 = .ok (.aload_n 1, 1) := by decide +kernel
theorem dL_law_1321 : decode cL_law 1321 = .ok (.aload_n 0, 1) := by decide +kernel
theorem dL_law_1322 : decode cL_law 1322 = .ok (.iload_n 3, 1) := by decide +kernel
theorem dL_law_1323 : decode cL_law 1323 = .ok (.iconst 1, 1) := by decide +kernel
theorem dL_law_1324 : decode cL_law 1324 = .ok (.iadd, 1) := by decide +kernel
theorem dL_law_1325 : decode cL_law 1325 = .ok (.iaload, 1) := by decide +kernel
theorem dL_law_1326 : decode cL_law 1326 = .ok (.invokevirtual 158, 3) := by decide +kernel
theorem dL_law_1329 : decode cL_law 1329 = .ok (.aload_n 2, 1) := by decide +kernel
theorem dL_law_1330 : decode cL_law 1330 = .ok (.aload_n 0, 1) := by decide +kernel
theorem dL_law_1331 : decode cL_law 1331 = .ok (.iload_n 3, 1) := by decide +kernel
theorem dL_law_1332 : decode cL_law 1332 = .ok (.iconst 1, 1) := by decide +kernel
theorem dL_law_1333 : decode cL_law 1333 = .ok (.iadd, 1) := by decide +kernel
theorem dL_law_1334 : decode cL_law 1334 = .ok (.iaload, 1) := by decide +kernel
theorem dL_law_1335 : decode cL_law 1335 = .ok (.invokevirtual 161, 3) := by decide +kernel
theorem dL_law_1338 : decode cL_law 1338 = .ok (.if_icmp .eq 5, 3) := by decide +kernel
theorem dL_law_1341 : decode cL_law 1341 = .ok (.iconst 0, 1) := by decide +kernel
theorem dL_law_1342 : decode cL_law 1342 = .ok (.ireturn, 1) := by decide +kernel
theorem dL_law_1343 : decode cL_law 1343 = .ok (.iinc 3 6, 3) := by decide +kernel
theorem dL_law_1346 : decode cL_law 1346 = .ok (.goto (-1328), 3) := by decide +kernel
theorem dL_law_1349 : decode cL_law 1349 = .ok (.iconst 1, 1) := by decide +kernel
theorem dL_law_1350 : decode cL_law 1350 = .ok (.ireturn, 1) := by decide +kernel
