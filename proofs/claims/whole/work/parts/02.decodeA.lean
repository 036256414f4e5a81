theorem dX0_init_0 : decode cX0_init 0 = .ok (.aload_n 0, 1) := by decide +kernel
theorem dX0_init_1 : decode cX0_init 1 = .ok (.invokespecial 3, 3) := by decide +kernel
theorem dX0_init_4 : decode cX0_init 4 = .ok (.aload_n 0, 1) := by decide +kernel
theorem dX0_init_5 : decode cX0_init 5 = .ok (.bipush 8, 2) := by decide +kernel
theorem dX0_init_7 : decode cX0_init 7 = .ok (.newarray .int, 2) := by decide +kernel
theorem dX0_init_9 : decode cX0_init 9 = .ok (.putfield 9, 3) := by decide +kernel
theorem dX0_init_12 : decode cX0_init 12 = .ok (.aload_n 0, 1) := by decide +kernel
theorem dX0_init_13 : decode cX0_init 13 = .ok (.bipush 8, 2) := by decide +kernel
theorem dX0_init_15 : decode cX0_init 15 = .ok (.newarray .int, 2) := by decide +kernel
theorem dX0_init_17 : decode cX0_init 17 = .ok (.putfield 15, 3) := by decide +kernel
theorem dX0_init_20 : decode cX0_init 20 = .ok (.aload_n 0, 1) := by decide +kernel
theorem dX0_init_21 : decode cX0_init 21 = .ok (.iconst 0, 1) := by decide +kernel
theorem dX0_init_22 : decode cX0_init 22 = .ok (.putfield 18, 3) := by decide +kernel
theorem dX0_init_25 : decode cX0_init 25 = .ok (.aload_n 0, 1) := by decide +kernel
theorem dX0_init_26 : decode cX0_init 26 = .ok (.iconst 0, 1) := by decide +kernel
theorem dX0_init_27 : decode cX0_init 27 = .ok (.putfield 22, 3) := by decide +kernel
theorem dX0_init_30 : decode cX0_init 30 = .ok (.aload_n 0, 1) := by decide +kernel
theorem dX0_init_31 : decode cX0_init 31 = .ok (.iconst 0, 1) := by decide +kernel
theorem dX0_init_32 : decode cX0_init 32 = .ok (.putfield 25, 3) := by decide +kernel
theorem dX0_init_35 : decode cX0_init 35 = .ok (.aload_n 0, 1) := by decide +kernel
theorem dX0_init_36 : decode cX0_init 36 = .ok (.iconst 1, 1) := by decide +kernel
theorem dX0_init_37 : decode cX0_init 37 = .ok (.putfield 28, 3) := by decide +kernel
theorem dX0_init_40 : decode cX0_init 40 = .ok (.return_, 1) := by decide +kernel
theorem dX0_load_0 : decode cX0_load 0 = .ok (.aload_n 0, 1) := by decide +kernel
theorem dX0_load_1 : decode cX0_load 1 = .ok (.aload_n 1, 1) := by decide +kernel
theorem dX0_load_2 : decode cX0_load 2 = .ok (.getfield 31, 3) := by decide +kernel
theorem dX0_load_5 : decode cX0_load 5 = .ok (.putfield 18, 3) := by decide +kernel
theorem dX0_load_8 : decode cX0_load 8 = .ok (.iconst 0, 1) := by decide +kernel
theorem dX0_load_9 : decode cX0_load 9 = .ok (.istore_n 3, 1) := by decide +kernel
theorem dX0_load_10 : decode cX0_load 10 = .ok (.iload_n 3, 1) := by decide +kernel
theorem dX0_load_11 : decode cX0_load 11 = .ok (.aload_n 0, 1) := by decide +kernel
theorem dX0_load_12 : decode cX0_load 12 = .ok (.getfield 18, 3) := by decide +kernel
theorem dX0_load_15 : decode cX0_load 15 = .ok (.if_icmp .ge 47, 3) := by decide +kernel
theorem dX0_load_18 : decode cX0_load 18 = .ok (.aload_n 0, 1) := by decide +kernel
theorem dX0_load_19 : decode cX0_load 19 = .ok (.getfield 9, 3) := by decide +kernel
theorem dX0_load_22 : decode cX0_load 22 = .ok (.iload_n 3, 1) := by decide +kernel
theorem dX0_load_23 : decode cX0_load 23 = .ok (.aload_n 1, 1) := by decide +kernel
theorem dX0_load_24 : decode cX0_load 24 = .ok (.getfield 34, 3) := by decide +kernel
theorem dX0_load_27 : decode cX0_load 27 = .ok (.iload_n 3, 1) := by decide +kernel
theorem dX0_load_28 : decode cX0_load 28 = .ok (.iaload, 1) := by decide +kernel
theorem dX0_load_29 : decode cX0_load 29 = .ok (.aload_n 1, 1) := by decide +kernel
theorem dX0_load_30 : decode cX0_load 30 = .ok (.getfield 37, 3) := by decide +kernel
theorem dX0_load_33 : decode cX0_load 33 = .ok (.imul, 1) := by decide +kernel
theorem dX0_load_34 : decode cX0_load 34 = .ok (.aload_n 2, 1) := by decide +kernel
theorem dX0_load_35 : decode cX0_load 35 = .ok (.iload_n 3, 1) := by decide +kernel
theorem dX0_load_36 : decode cX0_load 36 = .ok (.invokevirtual 40, 3) := by decide +kernel
theorem dX0_load_39 : decode cX0_load 39 = .ok (.invokestatic 46, 3) := by decide +kernel
theorem dX0_load_42 : decode cX0_load 42 = .ok (.imul, 1) := by decide +kernel
theorem dX0_load_43 : decode cX0_load 43 = .ok (.iastore, 1) := by decide +kernel
theorem dX0_load_44 : decode cX0_load 44 = .ok (.aload_n 0, 1) := by decide +kernel
theorem dX0_load_45 : decode cX0_load 45 = .ok (.getfield 15, 3) := by decide +kernel
theorem dX0_load_48 : decode cX0_load 48 = .ok (.iload_n 3, 1) := by decide +kernel
theorem dX0_load_49 : decode cX0_load 49 = .ok (.aload_n 1, 1) := by decide +kernel
theorem dX0_load_50 : decode cX0_load 50 = .ok (.getfield 51, 3) := by decide +kernel
theorem dX0_load_53 : decode cX0_load 53 = .ok (.iload_n 3, 1) := by decide +kernel
theorem dX0_load_54 : decode cX0_load 54 = .ok (.iaload, 1) := by decide +kernel
theorem dX0_load_55 : decode cX0_load 55 = .ok (.iastore, 1) := by decide +kernel
theorem dX0_load_56 : decode cX0_load 56 = .ok (.iinc 3 1, 3) := by decide +kernel
theorem dX0_load_59 : decode cX0_load 59 = .ok (.goto (-49), 3) := by decide +kernel
theorem dX0_load_62 : decode cX0_load 62 = .ok (.return_, 1) := by decide +kernel
theorem dX0_choose_0 : decode cX0_choose 0 = .ok (.aload_n 0, 1) := by decide +kernel
theorem dX0_choose_1 : decode cX0_choose 1 = .ok (.iconst (-1), 1) := by decide +kernel
theorem dX0_choose_2 : decode cX0_choose 2 = .ok (.putfield 22, 3) := by decide +kernel
theorem dX0_choose_5 : decode cX0_choose 5 = .ok (.aload_n 0, 1) := by decide +kernel
theorem dX0_choose_6 : decode cX0_choose 6 = .ok (.ldc 52, 2) := by decide +kernel
theorem dX0_choose_8 : decode cX0_choose 8 = .ok (.putfield 25, 3) := by decide +kernel
theorem dX0_choose_11 : decode cX0_choose 11 = .ok (.aload_n 0, 1) := by decide +kernel
theorem dX0_choose_12 : decode cX0_choose 12 = .ok (.ldc 52, 2) := by decide +kernel
theorem dX0_choose_14 : decode cX0_choose 14 = .ok (.putfield 28, 3) := by decide +kernel
theorem dX0_choose_17 : decode cX0_choose 17 = .ok (.iconst 0, 1) := by decide +kernel
theorem dX0_choose_18 : decode cX0_choose 18 = .ok (.istore_n 3, 1) := by decide +kernel
theorem dX0_choose_19 : decode cX0_choose 19 = .ok (.iload_n 3, 1) := by decide +kernel
theorem dX0_choose_20 : decode cX0_choose 20 = .ok (.iconst 1, 1) := by decide +kernel
theorem dX0_choose_21 : decode cX0_choose 21 = .ok (.aload_n 0, 1) := by decide +kernel
theorem dX0_choose_22 : decode cX0_choose 22 = .ok (.getfield 18, 3) := by decide +kernel
theorem dX0_choose_25 : decode cX0_choose 25 = .ok (.ishl, 1) := by decide +kernel
theorem dX0_choose_26 : decode cX0_choose 26 = .ok (.if_icmp .ge 88, 3) := by decide +kernel
theorem dX0_choose_29 : decode cX0_choose 29 = .ok (.aload_n 0, 1) := by decide +kernel
theorem dX0_choose_30 : decode cX0_choose 30 = .ok (.iload_n 3, 1) := by decide +kernel
theorem dX0_choose_31 : decode cX0_choose 31 = .ok (.invokevirtual 53, 3) := by decide +kernel
theorem dX0_choose_34 : decode cX0_choose 34 = .ok (.ifCond .eq 7, 3) := by decide +kernel
theorem dX0_choose_37 : decode cX0_choose 37 = .ok (.iconst (-1), 1) := by decide +kernel
theorem dX0_choose_38 : decode cX0_choose 38 = .ok (.goto 9, 3) := by decide +kernel
theorem dX0_choose_41 : decode cX0_choose 41 = .ok (.aload_n 0, 1) := by decide +kernel
theorem dX0_choose_42 : decode cX0_choose 42 = .ok (.iload_n 3, 1) := by decide +kernel
theorem dX0_choose_43 : decode cX0_choose 43 = .ok (.iload_n 1, 1) := by decide +kernel
theorem dX0_choose_44 : decode cX0_choose 44 = .ok (.invokevirtual 57, 3) := by decide +kernel
theorem dX0_choose_47 : decode cX0_choose 47 = .ok (.istore 4, 2) := by decide +kernel
theorem dX0_choose_49 : decode cX0_choose 49 = .ok (.iload 4, 2) := by decide +kernel
theorem dX0_choose_51 : decode cX0_choose 51 = .ok (.iconst (-1), 1) := by decide +kernel
theorem dX0_choose_52 : decode cX0_choose 52 = .ok (.if_icmp .ne 6, 3) := by decide +kernel
theorem dX0_choose_55 : decode cX0_choose 55 = .ok (.goto 53, 3) := by decide +kernel
theorem dX0_choose_58 : decode cX0_choose 58 = .ok (.aload_n 0, 1) := by decide +kernel
theorem dX0_choose_59 : decode cX0_choose 59 = .ok (.aload_n 0, 1) := by decide +kernel
theorem dX0_choose_60 : decode cX0_choose 60 = .ok (.getfield 28, 3) := by decide +kernel
theorem dX0_choose_63 : decode cX0_choose 63 = .ok (.iload 4, 2) := by decide +kernel
theorem dX0_choose_65 : decode cX0_choose 65 = .ok (.iconst 1, 1) := by decide +kernel
theorem dX0_choose_66 : decode cX0_choose 66 = .ok (.invokestatic 61, 3) := by decide +kernel
theorem dX0_choose_69 : decode cX0_choose 69 = .ok (.invokestatic 66, 3) := by decide +kernel
theorem dX0_choose_72 : decode cX0_choose 72 = .ok (.putfield 28, 3) := by decide +kernel
theorem dX0_choose_75 : decode cX0_choose 75 = .ok (.aload_n 0, 1) := by decide +kernel
theorem dX0_choose_76 : decode cX0_choose 76 = .ok (.iload_n 3, 1) := by decide +kernel
theorem dX0_choose_77 : decode cX0_choose 77 = .ok (.invokevirtual 69, 3) := by decide +kernel
theorem dX0_choose_80 : decode cX0_choose 80 = .ok (.istore 5, 2) := by decide +kernel
theorem dX0_choose_82 : decode cX0_choose 82 = .ok (.iload 4, 2) := by decide +kernel
theorem dX0_choose_84 : decode cX0_choose 84 = .ok (.iload_n 2, 1) := by decide +kernel
theorem dX0_choose_85 : decode cX0_choose 85 = .ok (.if_icmp .gt 23, 3) := by decide +kernel
theorem dX0_choose_88 : decode cX0_choose 88 = .ok (.iload 5, 2) := by decide +kernel
theorem dX0_choose_90 : decode cX0_choose 90 = .ok (.aload_n 0, 1) := by decide +kernel
theorem dX0_choose_91 : decode cX0_choose 91 = .ok (.getfield 25, 3) := by decide +kernel
theorem dX0_choose_94 : decode cX0_choose 94 = .ok (.if_icmp .ge 14, 3) := by decide +kernel
theorem dX0_choose_97 : decode cX0_choose 97 = .ok (.aload_n 0, 1) := by decide +kernel
theorem dX0_choose_98 : decode cX0_choose 98 = .ok (.iload_n 3, 1) := by decide +kernel
theorem dX0_choose_99 : decode cX0_choose 99 = .ok (.putfield 22, 3) := by decide +kernel
theorem dX0_choose_102 : decode cX0_choose 102 = .ok (.aload_n 0, 1) := by decide +kernel
theorem dX0_choose_103 : decode cX0_choose 103 = .ok (.iload 5, 2) := by decide +kernel
theorem dX0_choose_105 : decode cX0_choose 105 = .ok (.putfield 25, 3) := by decide +kernel
theorem dX0_choose_108 : decode cX0_choose 108 = .ok (.iinc 3 1, 3) := by decide +kernel
theorem dX0_choose_111 : decode cX0_choose 111 = .ok (.goto (-92), 3) := by decide +kernel
theorem dX0_choose_114 : decode cX0_choose 114 = .ok (.return_, 1) := by decide +kernel
theorem dX0_hasWay_0 : decode cX0_hasWay 0 = .ok (.aload_n 0, 1) := by decide +kernel
theorem dX0_hasWay_1 : decode cX0_hasWay 1 = .ok (.getfield 22, 3) := by decide +kernel
theorem dX0_hasWay_4 : decode cX0_hasWay 4 = .ok (.iconst (-1), 1) := by decide +kernel
theorem dX0_hasWay_5 : decode cX0_hasWay 5 = .ok (.if_icmp .eq 7, 3) := by decide +kernel
theorem dX0_hasWay_8 : decode cX0_hasWay 8 = .ok (.iconst 1, 1) := by decide +kernel
theorem dX0_hasWay_9 : decode cX0_hasWay 9 = .ok (.goto 4, 3) := by decide +kernel
theorem dX0_hasWay_12 : decode cX0_hasWay 12 = .ok (.iconst 0, 1) := by decide +kernel
theorem dX0_hasWay_13 : decode cX0_hasWay 13 = .ok (.ireturn, 1) := by decide +kernel
theorem dX0_goesOut_0 : decode cX0_goesOut 0 = .ok (.iload_n 1, 1) := by decide +kernel
theorem dX0_goesOut_1 : decode cX0_goesOut 1 = .ok (.aload_n 0, 1) := by decide +kernel
theorem dX0_goesOut_2 : decode cX0_goesOut 2 = .ok (.getfield 18, 3) := by decide +kernel
theorem dX0_goesOut_5 : decode cX0_goesOut 5 = .ok (.iconst 1, 1) := by decide +kernel
theorem dX0_goesOut_6 : decode cX0_goesOut 6 = .ok (.isub, 1) := by decide +kernel
theorem dX0_goesOut_7 : decode cX0_goesOut 7 = .ok (.iload_n 2, 1) := by decide +kernel
theorem dX0_goesOut_8 : decode cX0_goesOut 8 = .ok (.isub, 1) := by decide +kernel
theorem dX0_goesOut_9 : decode cX0_goesOut 9 = .ok (.ishr, 1) := by decide +kernel
theorem dX0_goesOut_10 : decode cX0_goesOut 10 = .ok (.iconst 1, 1) := by decide +kernel
theorem dX0_goesOut_11 : decode cX0_goesOut 11 = .ok (.iand, 1) := by decide +kernel
theorem dX0_goesOut_12 : decode cX0_goesOut 12 = .ok (.ifCond .ne 7, 3) := by decide +kernel
theorem dX0_goesOut_15 : decode cX0_goesOut 15 = .ok (.iconst 1, 1) := by decide +kernel
theorem dX0_goesOut_16 : decode cX0_goesOut 16 = .ok (.goto 4, 3) := by decide +kernel
theorem dX0_goesOut_19 : decode cX0_goesOut 19 = .ok (.iconst 0, 1) := by decide +kernel
theorem dX0_goesOut_20 : decode cX0_goesOut 20 = .ok (.ireturn, 1) := by decide +kernel
theorem dX0_turnsAt_0 : decode cX0_turnsAt 0 = .ok (.iload_n 2, 1) := by decide +kernel
theorem dX0_turnsAt_1 : decode cX0_turnsAt 1 = .ok (.ifCond .le 24, 3) := by decide +kernel
theorem dX0_turnsAt_4 : decode cX0_turnsAt 4 = .ok (.aload_n 0, 1) := by decide +kernel
theorem dX0_turnsAt_5 : decode cX0_turnsAt 5 = .ok (.iload_n 1, 1) := by decide +kernel
theorem dX0_turnsAt_6 : decode cX0_turnsAt 6 = .ok (.iload_n 2, 1) := by decide +kernel
theorem dX0_turnsAt_7 : decode cX0_turnsAt 7 = .ok (.invokevirtual 72, 3) := by decide +kernel
theorem dX0_turnsAt_10 : decode cX0_turnsAt 10 = .ok (.aload_n 0, 1) := by decide +kernel
theorem dX0_turnsAt_11 : decode cX0_turnsAt 11 = .ok (.iload_n 1, 1) := by decide +kernel
theorem dX0_turnsAt_12 : decode cX0_turnsAt 12 = .ok (.iload_n 2, 1) := by decide +kernel
theorem dX0_turnsAt_13 : decode cX0_turnsAt 13 = .ok (.iconst 1, 1) := by decide +kernel
theorem dX0_turnsAt_14 : decode cX0_turnsAt 14 = .ok (.isub, 1) := by decide +kernel
theorem dX0_turnsAt_15 : decode cX0_turnsAt 15 = .ok (.invokevirtual 72, 3) := by decide +kernel
theorem dX0_turnsAt_18 : decode cX0_turnsAt 18 = .ok (.if_icmp .eq 7, 3) := by decide +kernel
theorem dX0_turnsAt_21 : decode cX0_turnsAt 21 = .ok (.iconst 1, 1) := by decide +kernel
theorem dX0_turnsAt_22 : decode cX0_turnsAt 22 = .ok (.goto 4, 3) := by decide +kernel
theorem dX0_turnsAt_25 : decode cX0_turnsAt 25 = .ok (.iconst 0, 1) := by decide +kernel
theorem dX0_turnsAt_26 : decode cX0_turnsAt 26 = .ok (.ireturn, 1) := by decide +kernel
theorem dX0_turnsWhenTied_0 : decode cX0_turnsWhenTied 0 = .ok (.iconst 1, 1) := by decide +kernel
theorem dX0_turnsWhenTied_1 : decode cX0_turnsWhenTied 1 = .ok (.istore_n 2, 1) := by decide +kernel
theorem dX0_turnsWhenTied_2 : decode cX0_turnsWhenTied 2 = .ok (.iload_n 2, 1) := by decide +kernel
theorem dX0_turnsWhenTied_3 : decode cX0_turnsWhenTied 3 = .ok (.aload_n 0, 1) := by decide +kernel
theorem dX0_turnsWhenTied_4 : decode cX0_turnsWhenTied 4 = .ok (.getfield 18, 3) := by decide +kernel
theorem dX0_turnsWhenTied_7 : decode cX0_turnsWhenTied 7 = .ok (.if_icmp .ge 30, 3) := by decide +kernel
theorem dX0_turnsWhenTied_10 : decode cX0_turnsWhenTied 10 = .ok (.aload_n 0, 1) := by decide +kernel
theorem dX0_turnsWhenTied_11 : decode cX0_turnsWhenTied 11 = .ok (.getfield 15, 3) := by decide +kernel
theorem dX0_turnsWhenTied_14 : decode cX0_turnsWhenTied 14 = .ok (.iload_n 2, 1) := by decide +kernel
theorem dX0_turnsWhenTied_15 : decode cX0_turnsWhenTied 15 = .ok (.iaload, 1) := by decide +kernel
theorem dX0_turnsWhenTied_16 : decode cX0_turnsWhenTied 16 = .ok (.iconst 3, 1) := by decide +kernel
theorem dX0_turnsWhenTied_17 : decode cX0_turnsWhenTied 17 = .ok (.if_icmp .ne 14, 3) := by decide +kernel
theorem dX0_turnsWhenTied_20 : decode cX0_turnsWhenTied 20 = .ok (.aload_n 0, 1) := by decide +kernel
theorem dX0_turnsWhenTied_21 : decode cX0_turnsWhenTied 21 = .ok (.iload_n 1, 1) := by decide +kernel
theorem dX0_turnsWhenTied_22 : decode cX0_turnsWhenTied 22 = .ok (.iload_n 2, 1) := by decide +kernel
theorem dX0_turnsWhenTied_23 : decode cX0_turnsWhenTied 23 = .ok (.invokevirtual 76, 3) := by decide +kernel
theorem dX0_turnsWhenTied_26 : decode cX0_turnsWhenTied 26 = .ok (.ifCond .eq 5, 3) := by decide +kernel
theorem dX0_turnsWhenTied_29 : decode cX0_turnsWhenTied 29 = .ok (.iconst 1, 1) := by decide +kernel
theorem dX0_turnsWhenTied_30 : decode cX0_turnsWhenTied 30 = .ok (.ireturn, 1) := by decide +kernel
theorem dX0_turnsWhenTied_31 : decode cX0_turnsWhenTied 31 = .ok (.iinc 2 1, 3) := by decide +kernel
theorem dX0_turnsWhenTied_34 : decode cX0_turnsWhenTied 34 = .ok (.goto (-32), 3) := by decide +kernel
theorem dX0_turnsWhenTied_37 : decode cX0_turnsWhenTied 37 = .ok (.iconst 0, 1) := by decide +kernel
theorem dX0_turnsWhenTied_38 : decode cX0_turnsWhenTied 38 = .ok (.ireturn, 1) := by decide +kernel
theorem dX0_airMoved_0 : decode cX0_airMoved 0 = .ok (.aload_n 0, 1) := by decide +kernel
theorem dX0_airMoved_1 : decode cX0_airMoved 1 = .ok (.iload_n 1, 1) := by decide +kernel
theorem dX0_airMoved_2 : decode cX0_airMoved 2 = .ok (.iload_n 2, 1) := by decide +kernel
theorem dX0_airMoved_3 : decode cX0_airMoved 3 = .ok (.invokevirtual 72, 3) := by decide +kernel
theorem dX0_airMoved_6 : decode cX0_airMoved 6 = .ok (.ifCond .eq 12, 3) := by decide +kernel
theorem dX0_airMoved_9 : decode cX0_airMoved 9 = .ok (.aload_n 0, 1) := by decide +kernel
theorem dX0_airMoved_10 : decode cX0_airMoved 10 = .ok (.getfield 9, 3) := by decide +kernel
theorem dX0_airMoved_13 : decode cX0_airMoved 13 = .ok (.iload_n 2, 1) := by decide +kernel
theorem dX0_airMoved_14 : decode cX0_airMoved 14 = .ok (.iaload, 1) := by decide +kernel
theorem dX0_airMoved_15 : decode cX0_airMoved 15 = .ok (.goto 10, 3) := by decide +kernel
theorem dX0_airMoved_18 : decode cX0_airMoved 18 = .ok (.aload_n 0, 1) := by decide +kernel
theorem dX0_airMoved_19 : decode cX0_airMoved 19 = .ok (.getfield 9, 3) := by decide +kernel
theorem dX0_airMoved_22 : decode cX0_airMoved 22 = .ok (.iload_n 2, 1) := by decide +kernel
theorem dX0_airMoved_23 : decode cX0_airMoved 23 = .ok (.iaload, 1) := by decide +kernel
theorem dX0_airMoved_24 : decode cX0_airMoved 24 = .ok (.ineg, 1) := by decide +kernel
theorem dX0_airMoved_25 : decode cX0_airMoved 25 = .ok (.ireturn, 1) := by decide +kernel
theorem dX0_peakOf_0 : decode cX0_peakOf 0 = .ok (.iload_n 2, 1) := by decide +kernel
theorem dX0_peakOf_1 : decode cX0_peakOf 1 = .ok (.istore_n 3, 1) := by decide +kernel
theorem dX0_peakOf_2 : decode cX0_peakOf 2 = .ok (.iload_n 2, 1) := by decide +kernel
theorem dX0_peakOf_3 : decode cX0_peakOf 3 = .ok (.istore 4, 2) := by decide +kernel
theorem dX0_peakOf_5 : decode cX0_peakOf 5 = .ok (.iconst 0, 1) := by decide +kernel
theorem dX0_peakOf_6 : decode cX0_peakOf 6 = .ok (.istore 5, 2) := by decide +kernel
theorem dX0_peakOf_8 : decode cX0_peakOf 8 = .ok (.iload 5, 2) := by decide +kernel
theorem dX0_peakOf_10 : decode cX0_peakOf 10 = .ok (.aload_n 0, 1) := by decide +kernel
theorem dX0_peakOf_11 : decode cX0_peakOf 11 = .ok (.getfield 18, 3) := by decide +kernel
theorem dX0_peakOf_14 : decode cX0_peakOf 14 = .ok (.if_icmp .ge 33, 3) := by decide +kernel
theorem dX0_peakOf_17 : decode cX0_peakOf 17 = .ok (.iload_n 3, 1) := by decide +kernel
theorem dX0_peakOf_18 : decode cX0_peakOf 18 = .ok (.aload_n 0, 1) := by decide +kernel
theorem dX0_peakOf_19 : decode cX0_peakOf 19 = .ok (.iload_n 1, 1) := by decide +kernel
theorem dX0_peakOf_20 : decode cX0_peakOf 20 = .ok (.iload 5, 2) := by decide +kernel
theorem dX0_peakOf_22 : decode cX0_peakOf 22 = .ok (.invokevirtual 79, 3) := by decide +kernel
theorem dX0_peakOf_25 : decode cX0_peakOf 25 = .ok (.iadd, 1) := by decide +kernel
theorem dX0_peakOf_26 : decode cX0_peakOf 26 = .ok (.istore_n 3, 1) := by decide +kernel
theorem dX0_peakOf_27 : decode cX0_peakOf 27 = .ok (.iload_n 3, 1) := by decide +kernel
theorem dX0_peakOf_28 : decode cX0_peakOf 28 = .ok (.ifCond .ge 5, 3) := by decide +kernel
theorem dX0_peakOf_31 : decode cX0_peakOf 31 = .ok (.iconst (-1), 1) := by decide +kernel
theorem dX0_peakOf_32 : decode cX0_peakOf 32 = .ok (.ireturn, 1) := by decide +kernel
theorem dX0_peakOf_33 : decode cX0_peakOf 33 = .ok (.iload 4, 2) := by decide +kernel
theorem dX0_peakOf_35 : decode cX0_peakOf 35 = .ok (.iload_n 3, 1) := by decide +kernel
theorem dX0_peakOf_36 : decode cX0_peakOf 36 = .ok (.invokestatic 61, 3) := by decide +kernel
theorem dX0_peakOf_39 : decode cX0_peakOf 39 = .ok (.istore 4, 2) := by decide +kernel
theorem dX0_peakOf_41 : decode cX0_peakOf 41 = .ok (.iinc 5 1, 3) := by decide +kernel
theorem dX0_peakOf_44 : decode cX0_peakOf 44 = .ok (.goto (-36), 3) := by decide +kernel
theorem dX0_peakOf_47 : decode cX0_peakOf 47 = .ok (.iload 4, 2) := by decide +kernel
theorem dX0_peakOf_49 : decode cX0_peakOf 49 = .ok (.ireturn, 1) := by decide +kernel
theorem dX0_priceOf_0 : decode cX0_priceOf 0 = .ok (.iconst 0, 1) := by decide +kernel
theorem dX0_priceOf_1 : decode cX0_priceOf 1 = .ok (.istore_n 2, 1) := by decide +kernel
theorem dX0_priceOf_2 : decode cX0_priceOf 2 = .ok (.iconst 1, 1) := by decide +kernel
theorem dX0_priceOf_3 : decode cX0_priceOf 3 = .ok (.istore_n 3, 1) := by decide +kernel
theorem dX0_priceOf_4 : decode cX0_priceOf 4 = .ok (.iload_n 3, 1) := by decide +kernel
theorem dX0_priceOf_5 : decode cX0_priceOf 5 = .ok (.aload_n 0, 1) := by decide +kernel
theorem dX0_priceOf_6 : decode cX0_priceOf 6 = .ok (.getfield 18, 3) := by decide +kernel
theorem dX0_priceOf_9 : decode cX0_priceOf 9 = .ok (.if_icmp .ge 31, 3) := by decide +kernel
theorem dX0_priceOf_12 : decode cX0_priceOf 12 = .ok (.aload_n 0, 1) := by decide +kernel
theorem dX0_priceOf_13 : decode cX0_priceOf 13 = .ok (.iload_n 1, 1) := by decide +kernel
theorem dX0_priceOf_14 : decode cX0_priceOf 14 = .ok (.iload_n 3, 1) := by decide +kernel
theorem dX0_priceOf_15 : decode cX0_priceOf 15 = .ok (.invokevirtual 76, 3) := by decide +kernel
theorem dX0_priceOf_18 : decode cX0_priceOf 18 = .ok (.ifCond .eq 16, 3) := by decide +kernel
theorem dX0_priceOf_21 : decode cX0_priceOf 21 = .ok (.iload_n 2, 1) := by decide +kernel
theorem dX0_priceOf_22 : decode cX0_priceOf 22 = .ok (.getstatic 82, 3) := by decide +kernel
theorem dX0_priceOf_25 : decode cX0_priceOf 25 = .ok (.aload_n 0, 1) := by decide +kernel
theorem dX0_priceOf_26 : decode cX0_priceOf 26 = .ok (.getfield 15, 3) := by decide +kernel
theorem dX0_priceOf_29 : decode cX0_priceOf 29 = .ok (.iload_n 3, 1) := by decide +kernel
theorem dX0_priceOf_30 : decode cX0_priceOf 30 = .ok (.iaload, 1) := by decide +kernel
theorem dX0_priceOf_31 : decode cX0_priceOf 31 = .ok (.iaload, 1) := by decide +kernel
theorem dX0_priceOf_32 : decode cX0_priceOf 32 = .ok (.iadd, 1) := by decide +kernel
theorem dX0_priceOf_33 : decode cX0_priceOf 33 = .ok (.istore_n 2, 1) := by decide +kernel
theorem dX0_priceOf_34 : decode cX0_priceOf 34 = .ok (.iinc 3 1, 3) := by decide +kernel
theorem dX0_priceOf_37 : decode cX0_priceOf 37 = .ok (.goto (-33), 3) := by decide +kernel
theorem dX0_priceOf_40 : decode cX0_priceOf 40 = .ok (.iload_n 2, 1) := by decide +kernel
theorem dX0_priceOf_41 : decode cX0_priceOf 41 = .ok (.ireturn, 1) := by decide +kernel
theorem dX0_turnsOf_0 : decode cX0_turnsOf 0 = .ok (.iconst 0, 1) := by decide +kernel
theorem dX0_turnsOf_1 : decode cX0_turnsOf 1 = .ok (.istore_n 2, 1) := by decide +kernel
theorem dX0_turnsOf_2 : decode cX0_turnsOf 2 = .ok (.iconst 1, 1) := by decide +kernel
theorem dX0_turnsOf_3 : decode cX0_turnsOf 3 = .ok (.istore_n 3, 1) := by decide +kernel
theorem dX0_turnsOf_4 : decode cX0_turnsOf 4 = .ok (.iload_n 3, 1) := by decide +kernel
theorem dX0_turnsOf_5 : decode cX0_turnsOf 5 = .ok (.aload_n 0, 1) := by decide +kernel
theorem dX0_turnsOf_6 : decode cX0_turnsOf 6 = .ok (.getfield 18, 3) := by decide +kernel
theorem dX0_turnsOf_9 : decode cX0_turnsOf 9 = .ok (.if_icmp .ge 21, 3) := by decide +kernel
theorem dX0_turnsOf_12 : decode cX0_turnsOf 12 = .ok (.aload_n 0, 1) := by decide +kernel
theorem dX0_turnsOf_13 : decode cX0_turnsOf 13 = .ok (.iload_n 1, 1) := by decide +kernel
theorem dX0_turnsOf_14 : decode cX0_turnsOf 14 = .ok (.iload_n 3, 1) := by decide +kernel
theorem dX0_turnsOf_15 : decode cX0_turnsOf 15 = .ok (.invokevirtual 76, 3) := by decide +kernel
theorem dX0_turnsOf_18 : decode cX0_turnsOf 18 = .ok (.ifCond .eq 6, 3) := by decide +kernel
theorem dX0_turnsOf_21 : decode cX0_turnsOf 21 = .ok (.iinc 2 1, 3) := by decide +kernel
theorem dX0_turnsOf_24 : decode cX0_turnsOf 24 = .ok (.iinc 3 1, 3) := by decide +kernel
theorem dX0_turnsOf_27 : decode cX0_turnsOf 27 = .ok (.goto (-23), 3) := by decide +kernel
theorem dX0_turnsOf_30 : decode cX0_turnsOf 30 = .ok (.iload_n 2, 1) := by decide +kernel
theorem dX0_turnsOf_31 : decode cX0_turnsOf 31 = .ok (.ireturn, 1) := by decide +kernel
theorem dX0_airBehind_0 : decode cX0_airBehind 0 = .ok (.iload_n 2, 1) := by decide +kernel
theorem dX0_airBehind_1 : decode cX0_airBehind 1 = .ok (.istore_n 3, 1) := by decide +kernel
theorem dX0_airBehind_2 : decode cX0_airBehind 2 = .ok (.iconst 0, 1) := by decide +kernel
theorem dX0_airBehind_3 : decode cX0_airBehind 3 = .ok (.istore 4, 2) := by decide +kernel
theorem dX0_airBehind_5 : decode cX0_airBehind 5 = .ok (.iload 4, 2) := by decide +kernel
theorem dX0_airBehind_7 : decode cX0_airBehind 7 = .ok (.iload_n 1, 1) := by decide +kernel
theorem dX0_airBehind_8 : decode cX0_airBehind 8 = .ok (.if_icmp .gt 22, 3) := by decide +kernel
theorem dX0_airBehind_11 : decode cX0_airBehind 11 = .ok (.iload_n 3, 1) := by decide +kernel
theorem dX0_airBehind_12 : decode cX0_airBehind 12 = .ok (.aload_n 0, 1) := by decide +kernel
theorem dX0_airBehind_13 : decode cX0_airBehind 13 = .ok (.aload_n 0, 1) := by decide +kernel
theorem dX0_airBehind_14 : decode cX0_airBehind 14 = .ok (.getfield 22, 3) := by decide +kernel
theorem dX0_airBehind_17 : decode cX0_airBehind 17 = .ok (.iload 4, 2) := by decide +kernel
theorem dX0_airBehind_19 : decode cX0_airBehind 19 = .ok (.invokevirtual 79, 3) := by decide +kernel
theorem dX0_airBehind_22 : decode cX0_airBehind 22 = .ok (.iadd, 1) := by decide +kernel
theorem dX0_airBehind_23 : decode cX0_airBehind 23 = .ok (.istore_n 3, 1) := by decide +kernel
theorem dX0_airBehind_24 : decode cX0_airBehind 24 = .ok (.iinc 4 1, 3) := by decide +kernel
theorem dX0_airBehind_27 : decode cX0_airBehind 27 = .ok (.goto (-22), 3) := by decide +kernel
theorem dX0_airBehind_30 : decode cX0_airBehind 30 = .ok (.iload_n 3, 1) := by decide +kernel
theorem dX0_airBehind_31 : decode cX0_airBehind 31 = .ok (.ireturn, 1) := by decide +kernel
theorem dX1_init_0 : decode cX1_init 0 = .ok (.aload_n 0, 1) := by decide +kernel
theorem dX1_init_1 : decode cX1_init 1 = .ok (.invokespecial 3, 3) := by decide +kernel
theorem dX1_init_4 : decode cX1_init 4 = .ok (.aload_n 0, 1) := by decide +kernel
theorem dX1_init_5 : decode cX1_init 5 = .ok (.bipush 72, 2) := by decide +kernel
theorem dX1_init_7 : decode cX1_init 7 = .ok (.newarray .int, 2) := by decide +kernel
theorem dX1_init_9 : decode cX1_init 9 = .ok (.putfield 9, 3) := by decide +kernel
theorem dX1_init_12 : decode cX1_init 12 = .ok (.aload_n 0, 1) := by decide +kernel
theorem dX1_init_13 : decode cX1_init 13 = .ok (.bipush 48, 2) := by decide +kernel
theorem dX1_init_15 : decode cX1_init 15 = .ok (.newarray .int, 2) := by decide +kernel
theorem dX1_init_17 : decode cX1_init 17 = .ok (.putfield 15, 3) := by decide +kernel
theorem dX1_init_20 : decode cX1_init 20 = .ok (.aload_n 0, 1) := by decide +kernel
theorem dX1_init_21 : decode cX1_init 21 = .ok (.iconst 0, 1) := by decide +kernel
theorem dX1_init_22 : decode cX1_init 22 = .ok (.putfield 18, 3) := by decide +kernel
theorem dX1_init_25 : decode cX1_init 25 = .ok (.return_, 1) := by decide +kernel
theorem dX1_tune_0 : decode cX1_tune 0 = .ok (.aload_n 0, 1) := by decide +kernel
theorem dX1_tune_1 : decode cX1_tune 1 = .ok (.iconst 0, 1) := by decide +kernel
theorem dX1_tune_2 : decode cX1_tune 2 = .ok (.putfield 18, 3) := by decide +kernel
theorem dX1_tune_5 : decode cX1_tune 5 = .ok (.iconst 0, 1) := by decide +kernel
theorem dX1_tune_6 : decode cX1_tune 6 = .ok (.istore_n 3, 1) := by decide +kernel
theorem dX1_tune_7 : decode cX1_tune 7 = .ok (.iload_n 3, 1) := by decide +kernel
theorem dX1_tune_8 : decode cX1_tune 8 = .ok (.bipush 72, 2) := by decide +kernel
theorem dX1_tune_10 : decode cX1_tune 10 = .ok (.if_icmp .ge 104, 3) := by decide +kernel
theorem dX1_tune_13 : decode cX1_tune 13 = .ok (.iload_n 3, 1) := by decide +kernel
theorem dX1_tune_14 : decode cX1_tune 14 = .ok (.bipush 6, 2) := by decide +kernel
theorem dX1_tune_16 : decode cX1_tune 16 = .ok (.irem, 1) := by decide +kernel
theorem dX1_tune_17 : decode cX1_tune 17 = .ok (.istore 4, 2) := by decide +kernel
theorem dX1_tune_19 : decode cX1_tune 19 = .ok (.iload_n 2, 1) := by decide +kernel
theorem dX1_tune_20 : decode cX1_tune 20 = .ok (.iload 4, 2) := by decide +kernel
theorem dX1_tune_22 : decode cX1_tune 22 = .ok (.ishr, 1) := by decide +kernel
theorem dX1_tune_23 : decode cX1_tune 23 = .ok (.iconst 1, 1) := by decide +kernel
theorem dX1_tune_24 : decode cX1_tune 24 = .ok (.iand, 1) := by decide +kernel
theorem dX1_tune_25 : decode cX1_tune 25 = .ok (.iconst 1, 1) := by decide +kernel
theorem dX1_tune_26 : decode cX1_tune 26 = .ok (.if_icmp .ne 7, 3) := by decide +kernel
theorem dX1_tune_29 : decode cX1_tune 29 = .ok (.iconst 1, 1) := by decide +kernel
theorem dX1_tune_30 : decode cX1_tune 30 = .ok (.goto 4, 3) := by decide +kernel
theorem dX1_tune_33 : decode cX1_tune 33 = .ok (.iconst 0, 1) := by decide +kernel
theorem dX1_tune_34 : decode cX1_tune 34 = .ok (.istore 5, 2) := by decide +kernel
theorem dX1_tune_36 : decode cX1_tune 36 = .ok (.aload_n 0, 1) := by decide +kernel
theorem dX1_tune_37 : decode cX1_tune 37 = .ok (.getfield 9, 3) := by decide +kernel
theorem dX1_tune_40 : decode cX1_tune 40 = .ok (.iload_n 3, 1) := by decide +kernel
theorem dX1_tune_41 : decode cX1_tune 41 = .ok (.iload 5, 2) := by decide +kernel
theorem dX1_tune_43 : decode cX1_tune 43 = .ok (.ifCond .eq 23, 3) := by decide +kernel
theorem dX1_tune_46 : decode cX1_tune 46 = .ok (.getstatic 22, 3) := by decide +kernel
theorem dX1_tune_49 : decode cX1_tune 49 = .ok (.iload 4, 2) := by decide +kernel
theorem dX1_tune_51 : decode cX1_tune 51 = .ok (.iaload, 1) := by decide +kernel
theorem dX1_tune_52 : decode cX1_tune 52 = .ok (.iload_n 1, 1) := by decide +kernel
theorem dX1_tune_53 : decode cX1_tune 53 = .ok (.iload_n 3, 1) := by decide +kernel
theorem dX1_tune_54 : decode cX1_tune 54 = .ok (.bipush 6, 2) := by decide +kernel
theorem dX1_tune_56 : decode cX1_tune 56 = .ok (.idiv, 1) := by decide +kernel
theorem dX1_tune_57 : decode cX1_tune 57 = .ok (.invokestatic 25, 3) := by decide +kernel
theorem dX1_tune_60 : decode cX1_tune 60 = .ok (.invokestatic 29, 3) := by decide +kernel
theorem dX1_tune_63 : decode cX1_tune 63 = .ok (.goto 4, 3) := by decide +kernel
theorem dX1_tune_66 : decode cX1_tune 66 = .ok (.iconst 0, 1) := by decide +kernel
theorem dX1_tune_67 : decode cX1_tune 67 = .ok (.iastore, 1) := by decide +kernel
theorem dX1_tune_68 : decode cX1_tune 68 = .ok (.iload 5, 2) := by decide +kernel
theorem dX1_tune_70 : decode cX1_tune 70 = .ok (.ifCond .eq 38, 3) := by decide +kernel
theorem dX1_tune_73 : decode cX1_tune 73 = .ok (.iload 4, 2) := by decide +kernel
theorem dX1_tune_75 : decode cX1_tune 75 = .ok (.iconst 2, 1) := by decide +kernel
theorem dX1_tune_76 : decode cX1_tune 76 = .ok (.if_icmp .lt 32, 3) := by decide +kernel
theorem dX1_tune_79 : decode cX1_tune 79 = .ok (.aload_n 0, 1) := by decide +kernel
theorem dX1_tune_80 : decode cX1_tune 80 = .ok (.getfield 18, 3) := by decide +kernel
theorem dX1_tune_83 : decode cX1_tune 83 = .ok (.bipush 48, 2) := by decide +kernel
theorem dX1_tune_85 : decode cX1_tune 85 = .ok (.if_icmp .ge 23, 3) := by decide +kernel
theorem dX1_tune_88 : decode cX1_tune 88 = .ok (.aload_n 0, 1) := by decide +kernel
theorem dX1_tune_89 : decode cX1_tune 89 = .ok (.getfield 15, 3) := by decide +kernel
theorem dX1_tune_92 : decode cX1_tune 92 = .ok (.aload_n 0, 1) := by decide +kernel
theorem dX1_tune_93 : decode cX1_tune 93 = .ok (.getfield 18, 3) := by decide +kernel
theorem dX1_tune_96 : decode cX1_tune 96 = .ok (.iload_n 3, 1) := by decide +kernel
theorem dX1_tune_97 : decode cX1_tune 97 = .ok (.iastore, 1) := by decide +kernel
theorem dX1_tune_98 : decode cX1_tune 98 = .ok (.aload_n 0, 1) := by decide +kernel
theorem dX1_tune_99 : decode cX1_tune 99 = .ok (.dup, 1) := by decide +kernel
theorem dX1_tune_100 : decode cX1_tune 100 = .ok (.getfield 18, 3) := by decide +kernel
theorem dX1_tune_103 : decode cX1_tune 103 = .ok (.iconst 1, 1) := by decide +kernel
theorem dX1_tune_104 : decode cX1_tune 104 = .ok (.iadd, 1) := by decide +kernel
theorem dX1_tune_105 : decode cX1_tune 105 = .ok (.putfield 18, 3) := by decide +kernel
theorem dX1_tune_108 : decode cX1_tune 108 = .ok (.iinc 3 1, 3) := by decide +kernel
theorem dX1_tune_111 : decode cX1_tune 111 = .ok (.goto (-104), 3) := by decide +kernel
theorem dX1_tune_114 : decode cX1_tune 114 = .ok (.return_, 1) := by decide +kernel
theorem dX1_raised_0 : decode cX1_raised 0 = .ok (.iload_n 0, 1) := by decide +kernel
theorem dX1_raised_1 : decode cX1_raised 1 = .ok (.iload_n 1, 1) := by decide +kernel
theorem dX1_raised_2 : decode cX1_raised 2 = .ok (.ishl, 1) := by decide +kernel
theorem dX1_raised_3 : decode cX1_raised 3 = .ok (.iload_n 0, 1) := by decide +kernel
theorem dX1_raised_4 : decode cX1_raised 4 = .ok (.bipush 12, 2) := by decide +kernel
theorem dX1_raised_6 : decode cX1_raised 6 = .ok (.iload_n 1, 1) := by decide +kernel
theorem dX1_raised_7 : decode cX1_raised 7 = .ok (.isub, 1) := by decide +kernel
theorem dX1_raised_8 : decode cX1_raised 8 = .ok (.ishr, 1) := by decide +kernel
theorem dX1_raised_9 : decode cX1_raised 9 = .ok (.ior, 1) := by decide +kernel
theorem dX1_raised_10 : decode cX1_raised 10 = .ok (.sipush 4095, 3) := by decide +kernel
theorem dX1_raised_13 : decode cX1_raised 13 = .ok (.iand, 1) := by decide +kernel
theorem dX1_raised_14 : decode cX1_raised 14 = .ok (.ireturn, 1) := by decide +kernel
theorem dX1_lowButton_0 : decode cX1_lowButton 0 = .ok (.iload_n 2, 1) := by decide +kernel
theorem dX1_lowButton_1 : decode cX1_lowButton 1 = .ok (.ifCond .ge 5, 3) := by decide +kernel
theorem dX1_lowButton_4 : decode cX1_lowButton 4 = .ok (.iconst (-1), 1) := by decide +kernel
theorem dX1_lowButton_5 : decode cX1_lowButton 5 = .ok (.ireturn, 1) := by decide +kernel
theorem dX1_lowButton_6 : decode cX1_lowButton 6 = .ok (.iload_n 1, 1) := by decide +kernel
theorem dX1_lowButton_7 : decode cX1_lowButton 7 = .ok (.istore_n 3, 1) := by decide +kernel
theorem dX1_lowButton_8 : decode cX1_lowButton 8 = .ok (.iload_n 3, 1) := by decide +kernel
theorem dX1_lowButton_9 : decode cX1_lowButton 9 = .ok (.bipush 72, 2) := by decide +kernel
theorem dX1_lowButton_11 : decode cX1_lowButton 11 = .ok (.if_icmp .ge 23, 3) := by decide +kernel
theorem dX1_lowButton_14 : decode cX1_lowButton 14 = .ok (.aload_n 0, 1) := by decide +kernel
theorem dX1_lowButton_15 : decode cX1_lowButton 15 = .ok (.getfield 9, 3) := by decide +kernel
theorem dX1_lowButton_18 : decode cX1_lowButton 18 = .ok (.iload_n 3, 1) := by decide +kernel
theorem dX1_lowButton_19 : decode cX1_lowButton 19 = .ok (.iaload, 1) := by decide +kernel
theorem dX1_lowButton_20 : decode cX1_lowButton 20 = .ok (.iconst 1, 1) := by decide +kernel
theorem dX1_lowButton_21 : decode cX1_lowButton 21 = .ok (.iload_n 2, 1) := by decide +kernel
theorem dX1_lowButton_22 : decode cX1_lowButton 22 = .ok (.ishl, 1) := by decide +kernel
theorem dX1_lowButton_23 : decode cX1_lowButton 23 = .ok (.if_icmp .ne 5, 3) := by decide +kernel
theorem dX1_lowButton_26 : decode cX1_lowButton 26 = .ok (.iload_n 3, 1) := by decide +kernel
theorem dX1_lowButton_27 : decode cX1_lowButton 27 = .ok (.ireturn, 1) := by decide +kernel
theorem dX1_lowButton_28 : decode cX1_lowButton 28 = .ok (.iinc 3 6, 3) := by decide +kernel
theorem dX1_lowButton_31 : decode cX1_lowButton 31 = .ok (.goto (-23), 3) := by decide +kernel
theorem dX1_lowButton_34 : decode cX1_lowButton 34 = .ok (.iconst (-1), 1) := by decide +kernel
theorem dX1_lowButton_35 : decode cX1_lowButton 35 = .ok (.ireturn, 1) := by decide +kernel
theorem dX2_init_0 : decode cX2_init 0 = .ok (.aload_n 0, 1) := by decide +kernel
theorem dX2_init_1 : decode cX2_init 1 = .ok (.invokespecial 3, 3) := by decide +kernel
theorem dX2_init_4 : decode cX2_init 4 = .ok (.aload_n 0, 1) := by decide +kernel
theorem dX2_init_5 : decode cX2_init 5 = .ok (.iconst 0, 1) := by decide +kernel
theorem dX2_init_6 : decode cX2_init 6 = .ok (.putfield 9, 3) := by decide +kernel
theorem dX2_init_9 : decode cX2_init 9 = .ok (.aload_n 0, 1) := by decide +kernel
theorem dX2_init_10 : decode cX2_init 10 = .ok (.bipush 63, 2) := by decide +kernel
theorem dX2_init_12 : decode cX2_init 12 = .ok (.putfield 15, 3) := by decide +kernel
theorem dX2_init_15 : decode cX2_init 15 = .ok (.aload_n 0, 1) := by decide +kernel
theorem dX2_init_16 : decode cX2_init 16 = .ok (.iconst 1, 1) := by decide +kernel
theorem dX2_init_17 : decode cX2_init 17 = .ok (.putfield 18, 3) := by decide +kernel
theorem dX2_init_20 : decode cX2_init 20 = .ok (.aload_n 0, 1) := by decide +kernel
theorem dX2_init_21 : decode cX2_init 21 = .ok (.bipush 100, 2) := by decide +kernel
theorem dX2_init_23 : decode cX2_init 23 = .ok (.putfield 21, 3) := by decide +kernel
theorem dX2_init_26 : decode cX2_init 26 = .ok (.aload_n 0, 1) := by decide +kernel
theorem dX2_init_27 : decode cX2_init 27 = .ok (.iconst 0, 1) := by decide +kernel
theorem dX2_init_28 : decode cX2_init 28 = .ok (.putfield 24, 3) := by decide +kernel
theorem dX2_init_31 : decode cX2_init 31 = .ok (.aload_n 0, 1) := by decide +kernel
theorem dX2_init_32 : decode cX2_init 32 = .ok (.iconst 0, 1) := by decide +kernel
theorem dX2_init_33 : decode cX2_init 33 = .ok (.putfield 27, 3) := by decide +kernel
theorem dX2_init_36 : decode cX2_init 36 = .ok (.aload_n 0, 1) := by decide +kernel
theorem dX2_init_37 : decode cX2_init 37 = .ok (.bipush 8, 2) := by decide +kernel
theorem dX2_init_39 : decode cX2_init 39 = .ok (.newarray .int, 2) := by decide +kernel
theorem dX2_init_41 : decode cX2_init 41 = .ok (.putfield 30, 3) := by decide +kernel
theorem dX2_init_44 : decode cX2_init 44 = .ok (.aload_n 0, 1) := by decide +kernel
theorem dX2_init_45 : decode cX2_init 45 = .ok (.bipush 8, 2) := by decide +kernel
theorem dX2_init_47 : decode cX2_init 47 = .ok (.newarray .int, 2) := by decide +kernel
theorem dX2_init_49 : decode cX2_init 49 = .ok (.putfield 34, 3) := by decide +kernel
theorem dX2_init_52 : decode cX2_init 52 = .ok (.aload_n 0, 1) := by decide +kernel
theorem dX2_init_53 : decode cX2_init 53 = .ok (.bipush 8, 2) := by decide +kernel
theorem dX2_init_55 : decode cX2_init 55 = .ok (.newarray .int, 2) := by decide +kernel
theorem dX2_init_57 : decode cX2_init 57 = .ok (.putfield 37, 3) := by decide +kernel
theorem dX2_init_60 : decode cX2_init 60 = .ok (.aload_n 0, 1) := by decide +kernel
theorem dX2_init_61 : decode cX2_init 61 = .ok (.bipush 8, 2) := by decide +kernel
theorem dX2_init_63 : decode cX2_init 63 = .ok (.newarray .int, 2) := by decide +kernel
theorem dX2_init_65 : decode cX2_init 65 = .ok (.putfield 40, 3) := by decide +kernel
theorem dX2_init_68 : decode cX2_init 68 = .ok (.return_, 1) := by decide +kernel
theorem dX2_has_0 : decode cX2_has 0 = .ok (.iload_n 1, 1) := by decide +kernel
theorem dX2_has_1 : decode cX2_has 1 = .ok (.ifCond .lt 15, 3) := by decide +kernel
theorem dX2_has_4 : decode cX2_has 4 = .ok (.iload_n 1, 1) := by decide +kernel
theorem dX2_has_5 : decode cX2_has 5 = .ok (.aload_n 0, 1) := by decide +kernel
theorem dX2_has_6 : decode cX2_has 6 = .ok (.getfield 27, 3) := by decide +kernel
theorem dX2_has_9 : decode cX2_has 9 = .ok (.if_icmp .ge 7, 3) := by decide +kernel
theorem dX2_has_12 : decode cX2_has 12 = .ok (.iconst 1, 1) := by decide +kernel
theorem dX2_has_13 : decode cX2_has 13 = .ok (.goto 4, 3) := by decide +kernel
theorem dX2_has_16 : decode cX2_has 16 = .ok (.iconst 0, 1) := by decide +kernel
theorem dX2_has_17 : decode cX2_has 17 = .ok (.ireturn, 1) := by decide +kernel
theorem dX2_write_0 : decode cX2_write 0 = .ok (.aload_n 0, 1) := by decide +kernel
theorem dX2_write_1 : decode cX2_write 1 = .ok (.getfield 30, 3) := by decide +kernel
theorem dX2_write_4 : decode cX2_write 4 = .ok (.iload_n 1, 1) := by decide +kernel
theorem dX2_write_5 : decode cX2_write 5 = .ok (.iload_n 2, 1) := by decide +kernel
theorem dX2_write_6 : decode cX2_write 6 = .ok (.iastore, 1) := by decide +kernel
theorem dX2_write_7 : decode cX2_write 7 = .ok (.aload_n 0, 1) := by decide +kernel
theorem dX2_write_8 : decode cX2_write 8 = .ok (.getfield 34, 3) := by decide +kernel
theorem dX2_write_11 : decode cX2_write 11 = .ok (.iload_n 1, 1) := by decide +kernel
theorem dX2_write_12 : decode cX2_write 12 = .ok (.iload_n 3, 1) := by decide +kernel
theorem dX2_write_13 : decode cX2_write 13 = .ok (.iastore, 1) := by decide +kernel
theorem dX2_write_14 : decode cX2_write 14 = .ok (.aload_n 0, 1) := by decide +kernel
theorem dX2_write_15 : decode cX2_write 15 = .ok (.getfield 37, 3) := by decide +kernel
theorem dX2_write_18 : decode cX2_write 18 = .ok (.iload_n 1, 1) := by decide +kernel
theorem dX2_write_19 : decode cX2_write 19 = .ok (.iload 4, 2) := by decide +kernel
theorem dX2_write_21 : decode cX2_write 21 = .ok (.iastore, 1) := by decide +kernel
theorem dX2_write_22 : decode cX2_write 22 = .ok (.aload_n 0, 1) := by decide +kernel
theorem dX2_write_23 : decode cX2_write 23 = .ok (.getfield 40, 3) := by decide +kernel
theorem dX2_write_26 : decode cX2_write 26 = .ok (.iload_n 1, 1) := by decide +kernel
theorem dX2_write_27 : decode cX2_write 27 = .ok (.iload 5, 2) := by decide +kernel
theorem dX2_write_29 : decode cX2_write 29 = .ok (.iastore, 1) := by decide +kernel
theorem dX2_write_30 : decode cX2_write 30 = .ok (.return_, 1) := by decide +kernel
theorem dX2_copyFrom_0 : decode cX2_copyFrom 0 = .ok (.aload_n 0, 1) := by decide +kernel
theorem dX2_copyFrom_1 : decode cX2_copyFrom 1 = .ok (.aload_n 1, 1) := by decide +kernel
theorem dX2_copyFrom_2 : decode cX2_copyFrom 2 = .ok (.getfield 9, 3) := by decide +kernel
theorem dX2_copyFrom_5 : decode cX2_copyFrom 5 = .ok (.putfield 9, 3) := by decide +kernel
theorem dX2_copyFrom_8 : decode cX2_copyFrom 8 = .ok (.aload_n 0, 1) := by decide +kernel
theorem dX2_copyFrom_9 : decode cX2_copyFrom 9 = .ok (.aload_n 1, 1) := by decide +kernel
theorem dX2_copyFrom_10 : decode cX2_copyFrom 10 = .ok (.getfield 15, 3) := by decide +kernel
theorem dX2_copyFrom_13 : decode cX2_copyFrom 13 = .ok (.putfield 15, 3) := by decide +kernel
theorem dX2_copyFrom_16 : decode cX2_copyFrom 16 = .ok (.aload_n 0, 1) := by decide +kernel
theorem dX2_copyFrom_17 : decode cX2_copyFrom 17 = .ok (.aload_n 1, 1) := by decide +kernel
theorem dX2_copyFrom_18 : decode cX2_copyFrom 18 = .ok (.getfield 18, 3) := by decide +kernel
theorem dX2_copyFrom_21 : decode cX2_copyFrom 21 = .ok (.putfield 18, 3) := by decide +kernel
theorem dX2_copyFrom_24 : decode cX2_copyFrom 24 = .ok (.aload_n 0, 1) := by decide +kernel
theorem dX2_copyFrom_25 : decode cX2_copyFrom 25 = .ok (.aload_n 1, 1) := by decide +kernel
theorem dX2_copyFrom_26 : decode cX2_copyFrom 26 = .ok (.getfield 21, 3) := by decide +kernel
theorem dX2_copyFrom_29 : decode cX2_copyFrom 29 = .ok (.putfield 21, 3) := by decide +kernel
theorem dX2_copyFrom_32 : decode cX2_copyFrom 32 = .ok (.aload_n 0, 1) := by decide +kernel
theorem dX2_copyFrom_33 : decode cX2_copyFrom 33 = .ok (.aload_n 1, 1) := by decide +kernel
theorem dX2_copyFrom_34 : decode cX2_copyFrom 34 = .ok (.getfield 24, 3) := by decide +kernel
theorem dX2_copyFrom_37 : decode cX2_copyFrom 37 = .ok (.putfield 24, 3) := by decide +kernel
theorem dX2_copyFrom_40 : decode cX2_copyFrom 40 = .ok (.aload_n 0, 1) := by decide +kernel
theorem dX2_copyFrom_41 : decode cX2_copyFrom 41 = .ok (.aload_n 1, 1) := by decide +kernel
theorem dX2_copyFrom_42 : decode cX2_copyFrom 42 = .ok (.getfield 27, 3) := by decide +kernel
theorem dX2_copyFrom_45 : decode cX2_copyFrom 45 = .ok (.putfield 27, 3) := by decide +kernel
theorem dX2_copyFrom_48 : decode cX2_copyFrom 48 = .ok (.iconst 0, 1) := by decide +kernel
theorem dX2_copyFrom_49 : decode cX2_copyFrom 49 = .ok (.istore_n 2, 1) := by decide +kernel
theorem dX2_copyFrom_50 : decode cX2_copyFrom 50 = .ok (.iload_n 2, 1) := by decide +kernel
theorem dX2_copyFrom_51 : decode cX2_copyFrom 51 = .ok (.bipush 8, 2) := by decide +kernel
theorem dX2_copyFrom_53 : decode cX2_copyFrom 53 = .ok (.if_icmp .ge 38, 3) := by decide +kernel
theorem dX2_copyFrom_56 : decode cX2_copyFrom 56 = .ok (.aload_n 0, 1) := by decide +kernel
theorem dX2_copyFrom_57 : decode cX2_copyFrom 57 = .ok (.iload_n 2, 1) := by decide +kernel
theorem dX2_copyFrom_58 : decode cX2_copyFrom 58 = .ok (.aload_n 1, 1) := by decide +kernel
theorem dX2_copyFrom_59 : decode cX2_copyFrom 59 = .ok (.getfield 30, 3) := by decide +kernel
theorem dX2_copyFrom_62 : decode cX2_copyFrom 62 = .ok (.iload_n 2, 1) := by decide +kernel
theorem dX2_copyFrom_63 : decode cX2_copyFrom 63 = .ok (.iaload, 1) := by decide +kernel
theorem dX2_copyFrom_64 : decode cX2_copyFrom 64 = .ok (.aload_n 1, 1) := by decide +kernel
theorem dX2_copyFrom_65 : decode cX2_copyFrom 65 = .ok (.getfield 34, 3) := by decide +kernel
theorem dX2_copyFrom_68 : decode cX2_copyFrom 68 = .ok (.iload_n 2, 1) := by decide +kernel
theorem dX2_copyFrom_69 : decode cX2_copyFrom 69 = .ok (.iaload, 1) := by decide +kernel
theorem dX2_copyFrom_70 : decode cX2_copyFrom 70 = .ok (.aload_n 1, 1) := by decide +kernel
theorem dX2_copyFrom_71 : decode cX2_copyFrom 71 = .ok (.getfield 37, 3) := by decide +kernel
theorem dX2_copyFrom_74 : decode cX2_copyFrom 74 = .ok (.iload_n 2, 1) := by decide +kernel
theorem dX2_copyFrom_75 : decode cX2_copyFrom 75 = .ok (.iaload, 1) := by decide +kernel
theorem dX2_copyFrom_76 : decode cX2_copyFrom 76 = .ok (.aload_n 1, 1) := by decide +kernel
theorem dX2_copyFrom_77 : decode cX2_copyFrom 77 = .ok (.getfield 40, 3) := by decide +kernel
theorem dX2_copyFrom_80 : decode cX2_copyFrom 80 = .ok (.iload_n 2, 1) := by decide +kernel
theorem dX2_copyFrom_81 : decode cX2_copyFrom 81 = .ok (.iaload, 1) := by decide +kernel
theorem dX2_copyFrom_82 : decode cX2_copyFrom 82 = .ok (.invokevirtual 43, 3) := by decide +kernel
theorem dX2_copyFrom_85 : decode cX2_copyFrom 85 = .ok (.iinc 2 1, 3) := by decide +kernel
theorem dX2_copyFrom_88 : decode cX2_copyFrom 88 = .ok (.goto (-38), 3) := by decide +kernel
theorem dX2_copyFrom_91 : decode cX2_copyFrom 91 = .ok (.return_, 1) := by decide +kernel
theorem dX3_init_0 : decode cX3_init 0 = .ok (.aload_n 0, 1) := by decide +kernel
theorem dX3_init_1 : decode cX3_init 1 = .ok (.invokespecial 3, 3) := by decide +kernel
theorem dX3_init_4 : decode cX3_init 4 = .ok (.aload_n 0, 1) := by decide +kernel
theorem dX3_init_5 : decode cX3_init 5 = .ok (.bipush 20, 2) := by decide +kernel
theorem dX3_init_7 : decode cX3_init 7 = .ok (.newarray .int, 2) := by decide +kernel
theorem dX3_init_9 : decode cX3_init 9 = .ok (.putfield 9, 3) := by decide +kernel
theorem dX3_init_12 : decode cX3_init 12 = .ok (.aload_n 0, 1) := by decide +kernel
theorem dX3_init_13 : decode cX3_init 13 = .ok (.iconst 0, 1) := by decide +kernel
theorem dX3_init_14 : decode cX3_init 14 = .ok (.putfield 15, 3) := by decide +kernel
theorem dX3_init_17 : decode cX3_init 17 = .ok (.aload_n 0, 1) := by decide +kernel
theorem dX3_init_18 : decode cX3_init 18 = .ok (.iconst 0, 1) := by decide +kernel
theorem dX3_init_19 : decode cX3_init 19 = .ok (.putfield 19, 3) := by decide +kernel
theorem dX3_init_22 : decode cX3_init 22 = .ok (.aload_n 0, 1) := by decide +kernel
theorem dX3_init_23 : decode cX3_init 23 = .ok (.iconst 0, 1) := by decide +kernel
theorem dX3_init_24 : decode cX3_init 24 = .ok (.putfield 22, 3) := by decide +kernel
theorem dX3_init_27 : decode cX3_init 27 = .ok (.aload_n 0, 1) := by decide +kernel
theorem dX3_init_28 : decode cX3_init 28 = .ok (.iconst 0, 1) := by decide +kernel
theorem dX3_init_29 : decode cX3_init 29 = .ok (.putfield 25, 3) := by decide +kernel
theorem dX3_init_32 : decode cX3_init 32 = .ok (.aload_n 0, 1) := by decide +kernel
theorem dX3_init_33 : decode cX3_init 33 = .ok (.iconst 0, 1) := by decide +kernel
theorem dX3_init_34 : decode cX3_init 34 = .ok (.putfield 28, 3) := by decide +kernel
theorem dX3_init_37 : decode cX3_init 37 = .ok (.aload_n 0, 1) := by decide +kernel
theorem dX3_init_38 : decode cX3_init 38 = .ok (.iconst (-1), 1) := by decide +kernel
theorem dX3_init_39 : decode cX3_init 39 = .ok (.putfield 31, 3) := by decide +kernel
theorem dX3_init_42 : decode cX3_init 42 = .ok (.aload_n 0, 1) := by decide +kernel
theorem dX3_init_43 : decode cX3_init 43 = .ok (.iconst (-1), 1) := by decide +kernel
theorem dX3_init_44 : decode cX3_init 44 = .ok (.putfield 34, 3) := by decide +kernel
theorem dX3_init_47 : decode cX3_init 47 = .ok (.aload_n 0, 1) := by decide +kernel
theorem dX3_init_48 : decode cX3_init 48 = .ok (.iconst 0, 1) := by decide +kernel
theorem dX3_init_49 : decode cX3_init 49 = .ok (.putfield 37, 3) := by decide +kernel
theorem dX3_init_52 : decode cX3_init 52 = .ok (.return_, 1) := by decide +kernel
theorem dX3_find_0 : decode cX3_find 0 = .ok (.aload_n 0, 1) := by decide +kernel
theorem dX3_find_1 : decode cX3_find 1 = .ok (.iload_n 2, 1) := by decide +kernel
theorem dX3_find_2 : decode cX3_find 2 = .ok (.putfield 28, 3) := by decide +kernel
theorem dX3_find_5 : decode cX3_find 5 = .ok (.aload_n 0, 1) := by decide +kernel
theorem dX3_find_6 : decode cX3_find 6 = .ok (.aload_n 1, 1) := by decide +kernel
theorem dX3_find_7 : decode cX3_find 7 = .ok (.iconst 0, 1) := by decide +kernel
theorem dX3_find_8 : decode cX3_find 8 = .ok (.iload_n 3, 1) := by decide +kernel
theorem dX3_find_9 : decode cX3_find 9 = .ok (.invokevirtual 40, 3) := by decide +kernel
theorem dX3_find_12 : decode cX3_find 12 = .ok (.putfield 31, 3) := by decide +kernel
theorem dX3_find_15 : decode cX3_find 15 = .ok (.aload_n 0, 1) := by decide +kernel
theorem dX3_find_16 : decode cX3_find 16 = .ok (.aload_n 1, 1) := by decide +kernel
theorem dX3_find_17 : decode cX3_find 17 = .ok (.iconst 1, 1) := by decide +kernel
theorem dX3_find_18 : decode cX3_find 18 = .ok (.iload_n 3, 1) := by decide +kernel
theorem dX3_find_19 : decode cX3_find 19 = .ok (.invokevirtual 40, 3) := by decide +kernel
theorem dX3_find_22 : decode cX3_find 22 = .ok (.putfield 34, 3) := by decide +kernel
theorem dX3_find_25 : decode cX3_find 25 = .ok (.aload_n 0, 1) := by decide +kernel
theorem dX3_find_26 : decode cX3_find 26 = .ok (.iconst 0, 1) := by decide +kernel
theorem dX3_find_27 : decode cX3_find 27 = .ok (.putfield 15, 3) := by decide +kernel
theorem dX3_find_30 : decode cX3_find 30 = .ok (.aload_n 0, 1) := by decide +kernel
theorem dX3_find_31 : decode cX3_find 31 = .ok (.ldc 46, 2) := by decide +kernel
theorem dX3_find_33 : decode cX3_find 33 = .ok (.putfield 37, 3) := by decide +kernel
theorem dX3_find_36 : decode cX3_find 36 = .ok (.aload_n 0, 1) := by decide +kernel
theorem dX3_find_37 : decode cX3_find 37 = .ok (.iconst (-1), 1) := by decide +kernel
theorem dX3_find_38 : decode cX3_find 38 = .ok (.iconst (-1), 1) := by decide +kernel
theorem dX3_find_39 : decode cX3_find 39 = .ok (.iconst 0, 1) := by decide +kernel
theorem dX3_find_40 : decode cX3_find 40 = .ok (.iconst 0, 1) := by decide +kernel
theorem dX3_find_41 : decode cX3_find 41 = .ok (.invokevirtual 47, 3) := by decide +kernel
theorem dX3_find_44 : decode cX3_find 44 = .ok (.aload_n 0, 1) := by decide +kernel
theorem dX3_find_45 : decode cX3_find 45 = .ok (.aload_n 1, 1) := by decide +kernel
theorem dX3_find_46 : decode cX3_find 46 = .ok (.invokevirtual 51, 3) := by decide +kernel
theorem dX3_find_49 : decode cX3_find 49 = .ok (.aload_n 0, 1) := by decide +kernel
theorem dX3_find_50 : decode cX3_find 50 = .ok (.getfield 37, 3) := by decide +kernel
theorem dX3_find_53 : decode cX3_find 53 = .ok (.iconst 4, 1) := by decide +kernel
theorem dX3_find_54 : decode cX3_find 54 = .ok (.ishr, 1) := by decide +kernel
theorem dX3_find_55 : decode cX3_find 55 = .ok (.ifCond .eq 8, 3) := by decide +kernel
theorem dX3_find_58 : decode cX3_find 58 = .ok (.aload_n 0, 1) := by decide +kernel
theorem dX3_find_59 : decode cX3_find 59 = .ok (.aload_n 1, 1) := by decide +kernel
theorem dX3_find_60 : decode cX3_find 60 = .ok (.invokevirtual 55, 3) := by decide +kernel
theorem dX3_find_63 : decode cX3_find 63 = .ok (.aload_n 0, 1) := by decide +kernel
theorem dX3_find_64 : decode cX3_find 64 = .ok (.aload_n 0, 1) := by decide +kernel
theorem dX3_find_65 : decode cX3_find 65 = .ok (.getfield 37, 3) := by decide +kernel
theorem dX3_find_68 : decode cX3_find 68 = .ok (.bipush 8, 2) := by decide +kernel
theorem dX3_find_70 : decode cX3_find 70 = .ok (.ishr, 1) := by decide +kernel
theorem dX3_find_71 : decode cX3_find 71 = .ok (.iload_n 3, 1) := by decide +kernel
theorem dX3_find_72 : decode cX3_find 72 = .ok (.ifCond .lt 14, 3) := by decide +kernel
theorem dX3_find_75 : decode cX3_find 75 = .ok (.aload_n 0, 1) := by decide +kernel
theorem dX3_find_76 : decode cX3_find 76 = .ok (.invokevirtual 58, 3) := by decide +kernel
theorem dX3_find_79 : decode cX3_find 79 = .ok (.ifCond .ne 7, 3) := by decide +kernel
theorem dX3_find_82 : decode cX3_find 82 = .ok (.iconst 1, 1) := by decide +kernel
theorem dX3_find_83 : decode cX3_find 83 = .ok (.goto 4, 3) := by decide +kernel
theorem dX3_find_86 : decode cX3_find 86 = .ok (.iconst 0, 1) := by decide +kernel
theorem dX3_find_87 : decode cX3_find 87 = .ok (.iadd, 1) := by decide +kernel
theorem dX3_find_88 : decode cX3_find 88 = .ok (.putfield 22, 3) := by decide +kernel
theorem dX3_find_91 : decode cX3_find 91 = .ok (.aload_n 0, 1) := by decide +kernel
theorem dX3_find_92 : decode cX3_find 92 = .ok (.aload_n 0, 1) := by decide +kernel
theorem dX3_find_93 : decode cX3_find 93 = .ok (.getfield 37, 3) := by decide +kernel
theorem dX3_find_96 : decode cX3_find 96 = .ok (.iconst 4, 1) := by decide +kernel
theorem dX3_find_97 : decode cX3_find 97 = .ok (.ishr, 1) := by decide +kernel
theorem dX3_find_98 : decode cX3_find 98 = .ok (.bipush 15, 2) := by decide +kernel
theorem dX3_find_100 : decode cX3_find 100 = .ok (.iand, 1) := by decide +kernel
theorem dX3_find_101 : decode cX3_find 101 = .ok (.putfield 25, 3) := by decide +kernel
theorem dX3_find_104 : decode cX3_find 104 = .ok (.aload_n 0, 1) := by decide +kernel
theorem dX3_find_105 : decode cX3_find 105 = .ok (.aload_n 0, 1) := by decide +kernel
theorem dX3_find_106 : decode cX3_find 106 = .ok (.getfield 37, 3) := by decide +kernel
theorem dX3_find_109 : decode cX3_find 109 = .ok (.bipush 15, 2) := by decide +kernel
theorem dX3_find_111 : decode cX3_find 111 = .ok (.iand, 1) := by decide +kernel
theorem dX3_find_112 : decode cX3_find 112 = .ok (.aload_n 0, 1) := by decide +kernel
theorem dX3_find_113 : decode cX3_find 113 = .ok (.invokevirtual 58, 3) := by decide +kernel
theorem dX3_find_116 : decode cX3_find 116 = .ok (.ifCond .eq 7, 3) := by decide +kernel
theorem dX3_find_119 : decode cX3_find 119 = .ok (.iconst 1, 1) := by decide +kernel
theorem dX3_find_120 : decode cX3_find 120 = .ok (.goto 4, 3) := by decide +kernel
theorem dX3_find_123 : decode cX3_find 123 = .ok (.iconst 0, 1) := by decide +kernel
theorem dX3_find_124 : decode cX3_find 124 = .ok (.iadd, 1) := by decide +kernel
theorem dX3_find_125 : decode cX3_find 125 = .ok (.putfield 19, 3) := by decide +kernel
theorem dX3_find_128 : decode cX3_find 128 = .ok (.return_, 1) := by decide +kernel
theorem dX3_hasLowButton_0 : decode cX3_hasLowButton 0 = .ok (.aload_n 0, 1) := by decide +kernel
theorem dX3_hasLowButton_1 : decode cX3_hasLowButton 1 = .ok (.getfield 31, 3) := by decide +kernel
theorem dX3_hasLowButton_4 : decode cX3_hasLowButton 4 = .ok (.iconst (-1), 1) := by decide +kernel
theorem dX3_hasLowButton_5 : decode cX3_hasLowButton 5 = .ok (.if_icmp .ne 11, 3) := by decide +kernel
theorem dX3_hasLowButton_8 : decode cX3_hasLowButton 8 = .ok (.aload_n 0, 1) := by decide +kernel
theorem dX3_hasLowButton_9 : decode cX3_hasLowButton 9 = .ok (.getfield 34, 3) := by decide +kernel
theorem dX3_hasLowButton_12 : decode cX3_hasLowButton 12 = .ok (.iconst (-1), 1) := by decide +kernel
theorem dX3_hasLowButton_13 : decode cX3_hasLowButton 13 = .ok (.if_icmp .eq 7, 3) := by decide +kernel
theorem dX3_hasLowButton_16 : decode cX3_hasLowButton 16 = .ok (.iconst 1, 1) := by decide +kernel
theorem dX3_hasLowButton_17 : decode cX3_hasLowButton 17 = .ok (.goto 4, 3) := by decide +kernel
theorem dX3_hasLowButton_20 : decode cX3_hasLowButton 20 = .ok (.iconst 0, 1) := by decide +kernel
theorem dX3_hasLowButton_21 : decode cX3_hasLowButton 21 = .ok (.ireturn, 1) := by decide +kernel
theorem dX3_offerSingles_0 : decode cX3_offerSingles 0 = .ok (.iconst 0, 1) := by decide +kernel
theorem dX3_offerSingles_1 : decode cX3_offerSingles 1 = .ok (.istore_n 2, 1) := by decide +kernel
theorem dX3_offerSingles_2 : decode cX3_offerSingles 2 = .ok (.iload_n 2, 1) := by decide +kernel
theorem dX3_offerSingles_3 : decode cX3_offerSingles 3 = .ok (.aload_n 1, 1) := by decide +kernel
theorem dX3_offerSingles_4 : decode cX3_offerSingles 4 = .ok (.getfield 62, 3) := by decide +kernel
theorem dX3_offerSingles_7 : decode cX3_offerSingles 7 = .ok (.if_icmp .ge 29, 3) := by decide +kernel
theorem dX3_offerSingles_10 : decode cX3_offerSingles 10 = .ok (.aload_n 1, 1) := by decide +kernel
theorem dX3_offerSingles_11 : decode cX3_offerSingles 11 = .ok (.getfield 65, 3) := by decide +kernel
theorem dX3_offerSingles_14 : decode cX3_offerSingles 14 = .ok (.iload_n 2, 1) := by decide +kernel
theorem dX3_offerSingles_15 : decode cX3_offerSingles 15 = .ok (.iaload, 1) := by decide +kernel
theorem dX3_offerSingles_16 : decode cX3_offerSingles 16 = .ok (.istore_n 3, 1) := by decide +kernel
theorem dX3_offerSingles_17 : decode cX3_offerSingles 17 = .ok (.aload_n 0, 1) := by decide +kernel
theorem dX3_offerSingles_18 : decode cX3_offerSingles 18 = .ok (.iconst (-1), 1) := by decide +kernel
theorem dX3_offerSingles_19 : decode cX3_offerSingles 19 = .ok (.iload_n 3, 1) := by decide +kernel
theorem dX3_offerSingles_20 : decode cX3_offerSingles 20 = .ok (.iconst 1, 1) := by decide +kernel
theorem dX3_offerSingles_21 : decode cX3_offerSingles 21 = .ok (.aload_n 1, 1) := by decide +kernel
theorem dX3_offerSingles_22 : decode cX3_offerSingles 22 = .ok (.getfield 68, 3) := by decide +kernel
theorem dX3_offerSingles_25 : decode cX3_offerSingles 25 = .ok (.iload_n 3, 1) := by decide +kernel
theorem dX3_offerSingles_26 : decode cX3_offerSingles 26 = .ok (.iaload, 1) := by decide +kernel
theorem dX3_offerSingles_27 : decode cX3_offerSingles 27 = .ok (.invokevirtual 47, 3) := by decide +kernel
theorem dX3_offerSingles_30 : decode cX3_offerSingles 30 = .ok (.iinc 2 1, 3) := by decide +kernel
theorem dX3_offerSingles_33 : decode cX3_offerSingles 33 = .ok (.goto (-31), 3) := by decide +kernel
theorem dX3_offerSingles_36 : decode cX3_offerSingles 36 = .ok (.return_, 1) := by decide +kernel
theorem dX3_offerPairs_0 : decode cX3_offerPairs 0 = .ok (.iconst 0, 1) := by decide +kernel
theorem dX3_offerPairs_1 : decode cX3_offerPairs 1 = .ok (.istore_n 2, 1) := by decide +kernel
theorem dX3_offerPairs_2 : decode cX3_offerPairs 2 = .ok (.iload_n 2, 1) := by decide +kernel
theorem dX3_offerPairs_3 : decode cX3_offerPairs 3 = .ok (.aload_n 1, 1) := by decide +kernel
theorem dX3_offerPairs_4 : decode cX3_offerPairs 4 = .ok (.getfield 62, 3) := by decide +kernel
theorem dX3_offerPairs_7 : decode cX3_offerPairs 7 = .ok (.if_icmp .ge 67, 3) := by decide +kernel
theorem dX3_offerPairs_10 : decode cX3_offerPairs 10 = .ok (.aload_n 1, 1) := by decide +kernel
theorem dX3_offerPairs_11 : decode cX3_offerPairs 11 = .ok (.getfield 65, 3) := by decide +kernel
theorem dX3_offerPairs_14 : decode cX3_offerPairs 14 = .ok (.iload_n 2, 1) := by decide +kernel
theorem dX3_offerPairs_15 : decode cX3_offerPairs 15 = .ok (.iaload, 1) := by decide +kernel
theorem dX3_offerPairs_16 : decode cX3_offerPairs 16 = .ok (.istore_n 3, 1) := by decide +kernel
theorem dX3_offerPairs_17 : decode cX3_offerPairs 17 = .ok (.iload_n 2, 1) := by decide +kernel
theorem dX3_offerPairs_18 : decode cX3_offerPairs 18 = .ok (.iconst 1, 1) := by decide +kernel
theorem dX3_offerPairs_19 : decode cX3_offerPairs 19 = .ok (.iadd, 1) := by decide +kernel
theorem dX3_offerPairs_20 : decode cX3_offerPairs 20 = .ok (.istore 4, 2) := by decide +kernel
theorem dX3_offerPairs_22 : decode cX3_offerPairs 22 = .ok (.iload 4, 2) := by decide +kernel
theorem dX3_offerPairs_24 : decode cX3_offerPairs 24 = .ok (.aload_n 1, 1) := by decide +kernel
theorem dX3_offerPairs_25 : decode cX3_offerPairs 25 = .ok (.getfield 62, 3) := by decide +kernel
theorem dX3_offerPairs_28 : decode cX3_offerPairs 28 = .ok (.if_icmp .ge 40, 3) := by decide +kernel
theorem dX3_offerPairs_31 : decode cX3_offerPairs 31 = .ok (.aload_n 1, 1) := by decide +kernel
theorem dX3_offerPairs_32 : decode cX3_offerPairs 32 = .ok (.getfield 65, 3) := by decide +kernel
theorem dX3_offerPairs_35 : decode cX3_offerPairs 35 = .ok (.iload 4, 2) := by decide +kernel
theorem dX3_offerPairs_37 : decode cX3_offerPairs 37 = .ok (.iaload, 1) := by decide +kernel
theorem dX3_offerPairs_38 : decode cX3_offerPairs 38 = .ok (.istore 5, 2) := by decide +kernel
theorem dX3_offerPairs_40 : decode cX3_offerPairs 40 = .ok (.aload_n 0, 1) := by decide +kernel
theorem dX3_offerPairs_41 : decode cX3_offerPairs 41 = .ok (.iload_n 3, 1) := by decide +kernel
theorem dX3_offerPairs_42 : decode cX3_offerPairs 42 = .ok (.iload 5, 2) := by decide +kernel
theorem dX3_offerPairs_44 : decode cX3_offerPairs 44 = .ok (.iconst 2, 1) := by decide +kernel
theorem dX3_offerPairs_45 : decode cX3_offerPairs 45 = .ok (.aload_n 1, 1) := by decide +kernel
theorem dX3_offerPairs_46 : decode cX3_offerPairs 46 = .ok (.getfield 68, 3) := by decide +kernel
theorem dX3_offerPairs_49 : decode cX3_offerPairs 49 = .ok (.iload_n 3, 1) := by decide +kernel
theorem dX3_offerPairs_50 : decode cX3_offerPairs 50 = .ok (.iaload, 1) := by decide +kernel
theorem dX3_offerPairs_51 : decode cX3_offerPairs 51 = .ok (.aload_n 1, 1) := by decide +kernel
theorem dX3_offerPairs_52 : decode cX3_offerPairs 52 = .ok (.getfield 68, 3) := by decide +kernel
theorem dX3_offerPairs_55 : decode cX3_offerPairs 55 = .ok (.iload 5, 2) := by decide +kernel
theorem dX3_offerPairs_57 : decode cX3_offerPairs 57 = .ok (.iaload, 1) := by decide +kernel
theorem dX3_offerPairs_58 : decode cX3_offerPairs 58 = .ok (.ior, 1) := by decide +kernel
theorem dX3_offerPairs_59 : decode cX3_offerPairs 59 = .ok (.invokevirtual 47, 3) := by decide +kernel
theorem dX3_offerPairs_62 : decode cX3_offerPairs 62 = .ok (.iinc 4 1, 3) := by decide +kernel
theorem dX3_offerPairs_65 : decode cX3_offerPairs 65 = .ok (.goto (-43), 3) := by decide +kernel
theorem dX3_offerPairs_68 : decode cX3_offerPairs 68 = .ok (.iinc 2 1, 3) := by decide +kernel
theorem dX3_offerPairs_71 : decode cX3_offerPairs 71 = .ok (.goto (-69), 3) := by decide +kernel
theorem dX3_offerPairs_74 : decode cX3_offerPairs 74 = .ok (.return_, 1) := by decide +kernel
theorem dX3_offer_0 : decode cX3_offer 0 = .ok (.aload_n 0, 1) := by decide +kernel
theorem dX3_offer_1 : decode cX3_offer 1 = .ok (.getfield 28, 3) := by decide +kernel
theorem dX3_offer_4 : decode cX3_offer 4 = .ok (.iload 4, 2) := by decide +kernel
theorem dX3_offer_6 : decode cX3_offer 6 = .ok (.iconst (-1), 1) := by decide +kernel
theorem dX3_offer_7 : decode cX3_offer 7 = .ok (.ixor, 1) := by decide +kernel
theorem dX3_offer_8 : decode cX3_offer 8 = .ok (.iand, 1) := by decide +kernel
theorem dX3_offer_9 : decode cX3_offer 9 = .ok (.invokestatic 71, 3) := by decide +kernel
theorem dX3_offer_12 : decode cX3_offer 12 = .ok (.istore 5, 2) := by decide +kernel
theorem dX3_offer_14 : decode cX3_offer 14 = .ok (.iload 4, 2) := by decide +kernel
theorem dX3_offer_16 : decode cX3_offer 16 = .ok (.aload_n 0, 1) := by decide +kernel
theorem dX3_offer_17 : decode cX3_offer 17 = .ok (.getfield 28, 3) := by decide +kernel
theorem dX3_offer_20 : decode cX3_offer 20 = .ok (.iconst (-1), 1) := by decide +kernel
theorem dX3_offer_21 : decode cX3_offer 21 = .ok (.ixor, 1) := by decide +kernel
theorem dX3_offer_22 : decode cX3_offer 22 = .ok (.iand, 1) := by decide +kernel
theorem dX3_offer_23 : decode cX3_offer 23 = .ok (.invokestatic 71, 3) := by decide +kernel
theorem dX3_offer_26 : decode cX3_offer 26 = .ok (.istore 6, 2) := by decide +kernel
theorem dX3_offer_28 : decode cX3_offer 28 = .ok (.iload 5, 2) := by decide +kernel
theorem dX3_offer_30 : decode cX3_offer 30 = .ok (.iconst 4, 1) := by decide +kernel
theorem dX3_offer_31 : decode cX3_offer 31 = .ok (.ishl, 1) := by decide +kernel
theorem dX3_offer_32 : decode cX3_offer 32 = .ok (.iload 6, 2) := by decide +kernel
theorem dX3_offer_34 : decode cX3_offer 34 = .ok (.ior, 1) := by decide +kernel
theorem dX3_offer_35 : decode cX3_offer 35 = .ok (.iconst 4, 1) := by decide +kernel
theorem dX3_offer_36 : decode cX3_offer 36 = .ok (.ishl, 1) := by decide +kernel
theorem dX3_offer_37 : decode cX3_offer 37 = .ok (.iload_n 3, 1) := by decide +kernel
theorem dX3_offer_38 : decode cX3_offer 38 = .ok (.ior, 1) := by decide +kernel
theorem dX3_offer_39 : decode cX3_offer 39 = .ok (.istore 7, 2) := by decide +kernel
theorem dX3_offer_41 : decode cX3_offer 41 = .ok (.iload 7, 2) := by decide +kernel
theorem dX3_offer_43 : decode cX3_offer 43 = .ok (.aload_n 0, 1) := by decide +kernel
theorem dX3_offer_44 : decode cX3_offer 44 = .ok (.getfield 37, 3) := by decide +kernel
theorem dX3_offer_47 : decode cX3_offer 47 = .ok (.if_icmp .ge 14, 3) := by decide +kernel
theorem dX3_offer_50 : decode cX3_offer 50 = .ok (.aload_n 0, 1) := by decide +kernel
theorem dX3_offer_51 : decode cX3_offer 51 = .ok (.iload 7, 2) := by decide +kernel
theorem dX3_offer_53 : decode cX3_offer 53 = .ok (.putfield 37, 3) := by decide +kernel
theorem dX3_offer_56 : decode cX3_offer 56 = .ok (.aload_n 0, 1) := by decide +kernel
theorem dX3_offer_57 : decode cX3_offer 57 = .ok (.iconst 0, 1) := by decide +kernel
theorem dX3_offer_58 : decode cX3_offer 58 = .ok (.putfield 15, 3) := by decide +kernel
theorem dX3_offer_61 : decode cX3_offer 61 = .ok (.iload 7, 2) := by decide +kernel
theorem dX3_offer_63 : decode cX3_offer 63 = .ok (.aload_n 0, 1) := by decide +kernel
theorem dX3_offer_64 : decode cX3_offer 64 = .ok (.getfield 37, 3) := by decide +kernel
theorem dX3_offer_67 : decode cX3_offer 67 = .ok (.if_icmp .ne 9, 3) := by decide +kernel
theorem dX3_offer_70 : decode cX3_offer 70 = .ok (.aload_n 0, 1) := by decide +kernel
theorem dX3_offer_71 : decode cX3_offer 71 = .ok (.iload_n 1, 1) := by decide +kernel
theorem dX3_offer_72 : decode cX3_offer 72 = .ok (.iload_n 2, 1) := by decide +kernel
theorem dX3_offer_73 : decode cX3_offer 73 = .ok (.invokevirtual 77, 3) := by decide +kernel
theorem dX3_offer_76 : decode cX3_offer 76 = .ok (.return_, 1) := by decide +kernel
theorem dX3_takeWithLow_0 : decode cX3_takeWithLow 0 = .ok (.aload_n 0, 1) := by decide +kernel
theorem dX3_takeWithLow_1 : decode cX3_takeWithLow 1 = .ok (.invokevirtual 58, 3) := by decide +kernel
theorem dX3_takeWithLow_4 : decode cX3_takeWithLow 4 = .ok (.ifCond .ne 13, 3) := by decide +kernel
theorem dX3_takeWithLow_7 : decode cX3_takeWithLow 7 = .ok (.aload_n 0, 1) := by decide +kernel
theorem dX3_takeWithLow_8 : decode cX3_takeWithLow 8 = .ok (.iconst (-1), 1) := by decide +kernel
theorem dX3_takeWithLow_9 : decode cX3_takeWithLow 9 = .ok (.iload_n 1, 1) := by decide +kernel
theorem dX3_takeWithLow_10 : decode cX3_takeWithLow 10 = .ok (.iload_n 2, 1) := by decide +kernel
theorem dX3_takeWithLow_11 : decode cX3_takeWithLow 11 = .ok (.invokestatic 81, 3) := by decide +kernel
theorem dX3_takeWithLow_14 : decode cX3_takeWithLow 14 = .ok (.invokevirtual 85, 3) := by decide +kernel
theorem dX3_takeWithLow_17 : decode cX3_takeWithLow 17 = .ok (.aload_n 0, 1) := by decide +kernel
theorem dX3_takeWithLow_18 : decode cX3_takeWithLow 18 = .ok (.getfield 31, 3) := by decide +kernel
theorem dX3_takeWithLow_21 : decode cX3_takeWithLow 21 = .ok (.iconst (-1), 1) := by decide +kernel
theorem dX3_takeWithLow_22 : decode cX3_takeWithLow 22 = .ok (.if_icmp .eq 16, 3) := by decide +kernel
theorem dX3_takeWithLow_25 : decode cX3_takeWithLow 25 = .ok (.aload_n 0, 1) := by decide +kernel
theorem dX3_takeWithLow_26 : decode cX3_takeWithLow 26 = .ok (.aload_n 0, 1) := by decide +kernel
theorem dX3_takeWithLow_27 : decode cX3_takeWithLow 27 = .ok (.getfield 31, 3) := by decide +kernel
theorem dX3_takeWithLow_30 : decode cX3_takeWithLow 30 = .ok (.iload_n 1, 1) := by decide +kernel
theorem dX3_takeWithLow_31 : decode cX3_takeWithLow 31 = .ok (.iload_n 2, 1) := by decide +kernel
theorem dX3_takeWithLow_32 : decode cX3_takeWithLow 32 = .ok (.invokestatic 81, 3) := by decide +kernel
theorem dX3_takeWithLow_35 : decode cX3_takeWithLow 35 = .ok (.invokevirtual 85, 3) := by decide +kernel
theorem dX3_takeWithLow_38 : decode cX3_takeWithLow 38 = .ok (.aload_n 0, 1) := by decide +kernel
theorem dX3_takeWithLow_39 : decode cX3_takeWithLow 39 = .ok (.getfield 34, 3) := by decide +kernel
theorem dX3_takeWithLow_42 : decode cX3_takeWithLow 42 = .ok (.iconst (-1), 1) := by decide +kernel
theorem dX3_takeWithLow_43 : decode cX3_takeWithLow 43 = .ok (.if_icmp .eq 16, 3) := by decide +kernel
theorem dX3_takeWithLow_46 : decode cX3_takeWithLow 46 = .ok (.aload_n 0, 1) := by decide +kernel
theorem dX3_takeWithLow_47 : decode cX3_takeWithLow 47 = .ok (.aload_n 0, 1) := by decide +kernel
theorem dX3_takeWithLow_48 : decode cX3_takeWithLow 48 = .ok (.getfield 34, 3) := by decide +kernel
theorem dX3_takeWithLow_51 : decode cX3_takeWithLow 51 = .ok (.iload_n 1, 1) := by decide +kernel
theorem dX3_takeWithLow_52 : decode cX3_takeWithLow 52 = .ok (.iload_n 2, 1) := by decide +kernel
theorem dX3_takeWithLow_53 : decode cX3_takeWithLow 53 = .ok (.invokestatic 81, 3) := by decide +kernel
theorem dX3_takeWithLow_56 : decode cX3_takeWithLow 56 = .ok (.invokevirtual 85, 3) := by decide +kernel
theorem dX3_takeWithLow_59 : decode cX3_takeWithLow 59 = .ok (.return_, 1) := by decide +kernel
theorem dX3_packed_0 : decode cX3_packed 0 = .ok (.iload_n 0, 1) := by decide +kernel
theorem dX3_packed_1 : decode cX3_packed 1 = .ok (.iload_n 1, 1) := by decide +kernel
theorem dX3_packed_2 : decode cX3_packed 2 = .ok (.iload_n 2, 1) := by decide +kernel
theorem dX3_packed_3 : decode cX3_packed 3 = .ok (.invokestatic 89, 3) := by decide +kernel
theorem dX3_packed_6 : decode cX3_packed 6 = .ok (.invokestatic 89, 3) := by decide +kernel
theorem dX3_packed_9 : decode cX3_packed 9 = .ok (.istore_n 3, 1) := by decide +kernel
theorem dX3_packed_10 : decode cX3_packed 10 = .ok (.iload_n 0, 1) := by decide +kernel
theorem dX3_packed_11 : decode cX3_packed 11 = .ok (.iload_n 1, 1) := by decide +kernel
theorem dX3_packed_12 : decode cX3_packed 12 = .ok (.iload_n 2, 1) := by decide +kernel
theorem dX3_packed_13 : decode cX3_packed 13 = .ok (.invokestatic 94, 3) := by decide +kernel
theorem dX3_packed_16 : decode cX3_packed 16 = .ok (.invokestatic 94, 3) := by decide +kernel
theorem dX3_packed_19 : decode cX3_packed 19 = .ok (.istore 4, 2) := by decide +kernel
theorem dX3_packed_21 : decode cX3_packed 21 = .ok (.iload_n 0, 1) := by decide +kernel
theorem dX3_packed_22 : decode cX3_packed 22 = .ok (.iload_n 1, 1) := by decide +kernel
theorem dX3_packed_23 : decode cX3_packed 23 = .ok (.iadd, 1) := by decide +kernel
theorem dX3_packed_24 : decode cX3_packed 24 = .ok (.iload_n 2, 1) := by decide +kernel
theorem dX3_packed_25 : decode cX3_packed 25 = .ok (.iadd, 1) := by decide +kernel
theorem dX3_packed_26 : decode cX3_packed 26 = .ok (.iload_n 3, 1) := by decide +kernel
theorem dX3_packed_27 : decode cX3_packed 27 = .ok (.isub, 1) := by decide +kernel
theorem dX3_packed_28 : decode cX3_packed 28 = .ok (.iload 4, 2) := by decide +kernel
theorem dX3_packed_30 : decode cX3_packed 30 = .ok (.isub, 1) := by decide +kernel
theorem dX3_packed_31 : decode cX3_packed 31 = .ok (.istore 5, 2) := by decide +kernel
theorem dX3_packed_33 : decode cX3_packed 33 = .ok (.iload_n 3, 1) := by decide +kernel
theorem dX3_packed_34 : decode cX3_packed 34 = .ok (.iconst 0, 1) := by decide +kernel
theorem dX3_packed_35 : decode cX3_packed 35 = .ok (.invokestatic 94, 3) := by decide +kernel
theorem dX3_packed_38 : decode cX3_packed 38 = .ok (.bipush 7, 2) := by decide +kernel
theorem dX3_packed_40 : decode cX3_packed 40 = .ok (.ishl, 1) := by decide +kernel
theorem dX3_packed_41 : decode cX3_packed 41 = .ok (.iload 5, 2) := by decide +kernel
theorem dX3_packed_43 : decode cX3_packed 43 = .ok (.iconst 0, 1) := by decide +kernel
theorem dX3_packed_44 : decode cX3_packed 44 = .ok (.invokestatic 94, 3) := by decide +kernel
theorem dX3_packed_47 : decode cX3_packed 47 = .ok (.ior, 1) := by decide +kernel
theorem dX3_packed_48 : decode cX3_packed 48 = .ok (.istore 6, 2) := by decide +kernel
theorem dX3_packed_50 : decode cX3_packed 50 = .ok (.iload 6, 2) := by decide +kernel
theorem dX3_packed_52 : decode cX3_packed 52 = .ok (.bipush 7, 2) := by decide +kernel
theorem dX3_packed_54 : decode cX3_packed 54 = .ok (.ishl, 1) := by decide +kernel
theorem dX3_packed_55 : decode cX3_packed 55 = .ok (.iload 4, 2) := by decide +kernel
theorem dX3_packed_57 : decode cX3_packed 57 = .ok (.iconst 0, 1) := by decide +kernel
theorem dX3_packed_58 : decode cX3_packed 58 = .ok (.invokestatic 94, 3) := by decide +kernel
theorem dX3_packed_61 : decode cX3_packed 61 = .ok (.ior, 1) := by decide +kernel
theorem dX3_packed_62 : decode cX3_packed 62 = .ok (.ireturn, 1) := by decide +kernel
theorem dX3_insert_0 : decode cX3_insert 0 = .ok (.aload_n 0, 1) := by decide +kernel
theorem dX3_insert_1 : decode cX3_insert 1 = .ok (.getfield 15, 3) := by decide +kernel
theorem dX3_insert_4 : decode cX3_insert 4 = .ok (.istore_n 2, 1) := by decide +kernel
theorem dX3_insert_5 : decode cX3_insert 5 = .ok (.aload_n 0, 1) := by decide +kernel
theorem dX3_insert_6 : decode cX3_insert 6 = .ok (.getfield 15, 3) := by decide +kernel
theorem dX3_insert_9 : decode cX3_insert 9 = .ok (.iconst 1, 1) := by decide +kernel
theorem dX3_insert_10 : decode cX3_insert 10 = .ok (.isub, 1) := by decide +kernel
theorem dX3_insert_11 : decode cX3_insert 11 = .ok (.istore_n 3, 1) := by decide +kernel
theorem dX3_insert_12 : decode cX3_insert 12 = .ok (.iload_n 3, 1) := by decide +kernel
theorem dX3_insert_13 : decode cX3_insert 13 = .ok (.ifCond .lt 21, 3) := by decide +kernel
theorem dX3_insert_16 : decode cX3_insert 16 = .ok (.aload_n 0, 1) := by decide +kernel
theorem dX3_insert_17 : decode cX3_insert 17 = .ok (.getfield 9, 3) := by decide +kernel
theorem dX3_insert_20 : decode cX3_insert 20 = .ok (.iload_n 3, 1) := by decide +kernel
theorem dX3_insert_21 : decode cX3_insert 21 = .ok (.iaload, 1) := by decide +kernel
theorem dX3_insert_22 : decode cX3_insert 22 = .ok (.iload_n 1, 1) := by decide +kernel
theorem dX3_insert_23 : decode cX3_insert 23 = .ok (.if_icmp .le 11, 3) := by decide +kernel
theorem dX3_insert_26 : decode cX3_insert 26 = .ok (.iload_n 3, 1) := by decide +kernel
theorem dX3_insert_27 : decode cX3_insert 27 = .ok (.istore_n 2, 1) := by decide +kernel
theorem dX3_insert_28 : decode cX3_insert 28 = .ok (.iinc 3 (-1), 3) := by decide +kernel
theorem dX3_insert_31 : decode cX3_insert 31 = .ok (.goto (-19), 3) := by decide +kernel
theorem dX3_insert_34 : decode cX3_insert 34 = .ok (.iload_n 2, 1) := by decide +kernel
theorem dX3_insert_35 : decode cX3_insert 35 = .ok (.bipush 20, 2) := by decide +kernel
theorem dX3_insert_37 : decode cX3_insert 37 = .ok (.if_icmp .lt 4, 3) := by decide +kernel
theorem dX3_insert_40 : decode cX3_insert 40 = .ok (.return_, 1) := by decide +kernel
theorem dX3_insert_41 : decode cX3_insert 41 = .ok (.aload_n 0, 1) := by decide +kernel
theorem dX3_insert_42 : decode cX3_insert 42 = .ok (.getfield 15, 3) := by decide +kernel
theorem dX3_insert_45 : decode cX3_insert 45 = .ok (.bipush 19, 2) := by decide +kernel
theorem dX3_insert_47 : decode cX3_insert 47 = .ok (.invokestatic 89, 3) := by decide +kernel
theorem dX3_insert_50 : decode cX3_insert 50 = .ok (.istore_n 3, 1) := by decide +kernel
theorem dX3_insert_51 : decode cX3_insert 51 = .ok (.iload_n 3, 1) := by decide +kernel
theorem dX3_insert_52 : decode cX3_insert 52 = .ok (.iload_n 2, 1) := by decide +kernel
theorem dX3_insert_53 : decode cX3_insert 53 = .ok (.if_icmp .le 23, 3) := by decide +kernel
theorem dX3_insert_56 : decode cX3_insert 56 = .ok (.aload_n 0, 1) := by decide +kernel
theorem dX3_insert_57 : decode cX3_insert 57 = .ok (.getfield 9, 3) := by decide +kernel
theorem dX3_insert_60 : decode cX3_insert 60 = .ok (.iload_n 3, 1) := by decide +kernel
theorem dX3_insert_61 : decode cX3_insert 61 = .ok (.aload_n 0, 1) := by decide +kernel
theorem dX3_insert_62 : decode cX3_insert 62 = .ok (.getfield 9, 3) := by decide +kernel
theorem dX3_insert_65 : decode cX3_insert 65 = .ok (.iload_n 3, 1) := by decide +kernel
theorem dX3_insert_66 : decode cX3_insert 66 = .ok (.iconst 1, 1) := by decide +kernel
theorem dX3_insert_67 : decode cX3_insert 67 = .ok (.isub, 1) := by decide +kernel
theorem dX3_insert_68 : decode cX3_insert 68 = .ok (.iaload, 1) := by decide +kernel
theorem dX3_insert_69 : decode cX3_insert 69 = .ok (.iastore, 1) := by decide +kernel
theorem dX3_insert_70 : decode cX3_insert 70 = .ok (.iinc 3 (-1), 3) := by decide +kernel
theorem dX3_insert_73 : decode cX3_insert 73 = .ok (.goto (-22), 3) := by decide +kernel
theorem dX3_insert_76 : decode cX3_insert 76 = .ok (.aload_n 0, 1) := by decide +kernel
theorem dX3_insert_77 : decode cX3_insert 77 = .ok (.getfield 9, 3) := by decide +kernel
theorem dX3_insert_80 : decode cX3_insert 80 = .ok (.iload_n 2, 1) := by decide +kernel
theorem dX3_insert_81 : decode cX3_insert 81 = .ok (.iload_n 1, 1) := by decide +kernel
theorem dX3_insert_82 : decode cX3_insert 82 = .ok (.iastore, 1) := by decide +kernel
theorem dX3_insert_83 : decode cX3_insert 83 = .ok (.aload_n 0, 1) := by decide +kernel
theorem dX3_insert_84 : decode cX3_insert 84 = .ok (.aload_n 0, 1) := by decide +kernel
theorem dX3_insert_85 : decode cX3_insert 85 = .ok (.getfield 15, 3) := by decide +kernel
theorem dX3_insert_88 : decode cX3_insert 88 = .ok (.iconst 1, 1) := by decide +kernel
theorem dX3_insert_89 : decode cX3_insert 89 = .ok (.iadd, 1) := by decide +kernel
theorem dX3_insert_90 : decode cX3_insert 90 = .ok (.bipush 20, 2) := by decide +kernel
theorem dX3_insert_92 : decode cX3_insert 92 = .ok (.invokestatic 89, 3) := by decide +kernel
theorem dX3_insert_95 : decode cX3_insert 95 = .ok (.putfield 15, 3) := by decide +kernel
theorem dX3_insert_98 : decode cX3_insert 98 = .ok (.return_, 1) := by decide +kernel
theorem dX3_buttonAt_0 : decode cX3_buttonAt 0 = .ok (.aload_n 0, 1) := by decide +kernel
theorem dX3_buttonAt_1 : decode cX3_buttonAt 1 = .ok (.getfield 9, 3) := by decide +kernel
theorem dX3_buttonAt_4 : decode cX3_buttonAt 4 = .ok (.iload_n 1, 1) := by decide +kernel
theorem dX3_buttonAt_5 : decode cX3_buttonAt 5 = .ok (.iaload, 1) := by decide +kernel
theorem dX3_buttonAt_6 : decode cX3_buttonAt 6 = .ok (.bipush 7, 2) := by decide +kernel
theorem dX3_buttonAt_8 : decode cX3_buttonAt 8 = .ok (.aload_n 0, 1) := by decide +kernel
theorem dX3_buttonAt_9 : decode cX3_buttonAt 9 = .ok (.getfield 19, 3) := by decide +kernel
theorem dX3_buttonAt_12 : decode cX3_buttonAt 12 = .ok (.iconst 1, 1) := by decide +kernel
theorem dX3_buttonAt_13 : decode cX3_buttonAt 13 = .ok (.isub, 1) := by decide +kernel
theorem dX3_buttonAt_14 : decode cX3_buttonAt 14 = .ok (.iload_n 2, 1) := by decide +kernel
theorem dX3_buttonAt_15 : decode cX3_buttonAt 15 = .ok (.isub, 1) := by decide +kernel
theorem dX3_buttonAt_16 : decode cX3_buttonAt 16 = .ok (.imul, 1) := by decide +kernel
theorem dX3_buttonAt_17 : decode cX3_buttonAt 17 = .ok (.ishr, 1) := by decide +kernel
theorem dX3_buttonAt_18 : decode cX3_buttonAt 18 = .ok (.bipush 127, 2) := by decide +kernel
theorem dX3_buttonAt_20 : decode cX3_buttonAt 20 = .ok (.iand, 1) := by decide +kernel
theorem dX3_buttonAt_21 : decode cX3_buttonAt 21 = .ok (.ireturn, 1) := by decide +kernel
theorem dX3_placeOf_0 : decode cX3_placeOf 0 = .ok (.aload_n 0, 1) := by decide +kernel
theorem dX3_placeOf_1 : decode cX3_placeOf 1 = .ok (.iload_n 1, 1) := by decide +kernel
theorem dX3_placeOf_2 : decode cX3_placeOf 2 = .ok (.iconst 0, 1) := by decide +kernel
theorem dX3_placeOf_3 : decode cX3_placeOf 3 = .ok (.invokevirtual 97, 3) := by decide +kernel
theorem dX3_placeOf_6 : decode cX3_placeOf 6 = .ok (.bipush 6, 2) := by decide +kernel
theorem dX3_placeOf_8 : decode cX3_placeOf 8 = .ok (.idiv, 1) := by decide +kernel
theorem dX3_placeOf_9 : decode cX3_placeOf 9 = .ok (.ireturn, 1) := by decide +kernel
theorem dX4_init_0 : decode cX4_init 0 = .ok (.aload_n 0, 1) := by decide +kernel
theorem dX4_init_1 : decode cX4_init 1 = .ok (.invokespecial 3, 3) := by decide +kernel
theorem dX4_init_4 : decode cX4_init 4 = .ok (.aload_n 0, 1) := by decide +kernel
theorem dX4_init_5 : decode cX4_init 5 = .ok (.new 9, 3) := by decide +kernel
theorem dX4_init_8 : decode cX4_init 8 = .ok (.dup, 1) := by decide +kernel
theorem dX4_init_9 : decode cX4_init 9 = .ok (.invokespecial 11, 3) := by decide +kernel
theorem dX4_init_12 : decode cX4_init 12 = .ok (.putfield 12, 3) := by decide +kernel
theorem dX4_init_15 : decode cX4_init 15 = .ok (.aload_n 0, 1) := by decide +kernel
theorem dX4_init_16 : decode cX4_init 16 = .ok (.bipush 8, 2) := by decide +kernel
theorem dX4_init_18 : decode cX4_init 18 = .ok (.anewarray 18, 3) := by decide +kernel
theorem dX4_init_21 : decode cX4_init 21 = .ok (.putfield 20, 3) := by decide +kernel
theorem dX4_init_24 : decode cX4_init 24 = .ok (.aload_n 0, 1) := by decide +kernel
theorem dX4_init_25 : decode cX4_init 25 = .ok (.bipush 8, 2) := by decide +kernel
theorem dX4_init_27 : decode cX4_init 27 = .ok (.newarray .int, 2) := by decide +kernel
theorem dX4_init_29 : decode cX4_init 29 = .ok (.putfield 24, 3) := by decide +kernel
theorem dX4_init_32 : decode cX4_init 32 = .ok (.aload_n 0, 1) := by decide +kernel
theorem dX4_init_33 : decode cX4_init 33 = .ok (.iconst 0, 1) := by decide +kernel
theorem dX4_init_34 : decode cX4_init 34 = .ok (.putfield 28, 3) := by decide +kernel
theorem dX4_init_37 : decode cX4_init 37 = .ok (.aload_n 0, 1) := by decide +kernel
theorem dX4_init_38 : decode cX4_init 38 = .ok (.bipush 8, 2) := by decide +kernel
theorem dX4_init_40 : decode cX4_init 40 = .ok (.bipush 20, 2) := by decide +kernel
theorem dX4_init_42 : decode cX4_init 42 = .ok (.multianewarray 32 2, 4) := by decide +kernel
theorem dX4_init_46 : decode cX4_init 46 = .ok (.putfield 34, 3) := by decide +kernel
theorem dX4_init_49 : decode cX4_init 49 = .ok (.aload_n 0, 1) := by decide +kernel
theorem dX4_init_50 : decode cX4_init 50 = .ok (.getfield 12, 3) := by decide +kernel
theorem dX4_init_53 : decode cX4_init 53 = .ok (.iconst 0, 1) := by decide +kernel
theorem dX4_init_54 : decode cX4_init 54 = .ok (.bipush 63, 2) := by decide +kernel
theorem dX4_init_56 : decode cX4_init 56 = .ok (.invokevirtual 37, 3) := by decide +kernel
theorem dX4_init_59 : decode cX4_init 59 = .ok (.iconst 0, 1) := by decide +kernel
theorem dX4_init_60 : decode cX4_init 60 = .ok (.istore_n 1, 1) := by decide +kernel
theorem dX4_init_61 : decode cX4_init 61 = .ok (.iload_n 1, 1) := by decide +kernel
theorem dX4_init_62 : decode cX4_init 62 = .ok (.bipush 8, 2) := by decide +kernel
theorem dX4_init_64 : decode cX4_init 64 = .ok (.if_icmp .ge 22, 3) := by decide +kernel
theorem dX4_init_67 : decode cX4_init 67 = .ok (.aload_n 0, 1) := by decide +kernel
theorem dX4_init_68 : decode cX4_init 68 = .ok (.getfield 20, 3) := by decide +kernel
theorem dX4_init_71 : decode cX4_init 71 = .ok (.iload_n 1, 1) := by decide +kernel
theorem dX4_init_72 : decode cX4_init 72 = .ok (.new 18, 3) := by decide +kernel
theorem dX4_init_75 : decode cX4_init 75 = .ok (.dup, 1) := by decide +kernel
theorem dX4_init_76 : decode cX4_init 76 = .ok (.invokespecial 41, 3) := by decide +kernel
theorem dX4_init_79 : decode cX4_init 79 = .ok (.aastore, 1) := by decide +kernel
theorem dX4_init_80 : decode cX4_init 80 = .ok (.iinc 1 1, 3) := by decide +kernel
theorem dX4_init_83 : decode cX4_init 83 = .ok (.goto (-22), 3) := by decide +kernel
theorem dX4_init_86 : decode cX4_init 86 = .ok (.return_, 1) := by decide +kernel
theorem dX4_learn_0 : decode cX4_learn 0 = .ok (.aload_n 0, 1) := by decide +kernel
theorem dX4_learn_1 : decode cX4_learn 1 = .ok (.getfield 12, 3) := by decide +kernel
theorem dX4_learn_4 : decode cX4_learn 4 = .ok (.iload_n 1, 1) := by decide +kernel
theorem dX4_learn_5 : decode cX4_learn 5 = .ok (.iload_n 2, 1) := by decide +kernel
theorem dX4_learn_6 : decode cX4_learn 6 = .ok (.invokevirtual 37, 3) := by decide +kernel
theorem dX4_learn_9 : decode cX4_learn 9 = .ok (.iconst 0, 1) := by decide +kernel
theorem dX4_learn_10 : decode cX4_learn 10 = .ok (.istore 4, 2) := by decide +kernel
theorem dX4_learn_12 : decode cX4_learn 12 = .ok (.iload 4, 2) := by decide +kernel
theorem dX4_learn_14 : decode cX4_learn 14 = .ok (.aload_n 3, 1) := by decide +kernel
theorem dX4_learn_15 : decode cX4_learn 15 = .ok (.getfield 42, 3) := by decide +kernel
theorem dX4_learn_18 : decode cX4_learn 18 = .ok (.if_icmp .ge 37, 3) := by decide +kernel
theorem dX4_learn_21 : decode cX4_learn 21 = .ok (.aload_n 0, 1) := by decide +kernel
theorem dX4_learn_22 : decode cX4_learn 22 = .ok (.getfield 20, 3) := by decide +kernel
theorem dX4_learn_25 : decode cX4_learn 25 = .ok (.iload 4, 2) := by decide +kernel
theorem dX4_learn_27 : decode cX4_learn 27 = .ok (.aaload, 1) := by decide +kernel
theorem dX4_learn_28 : decode cX4_learn 28 = .ok (.aload_n 0, 1) := by decide +kernel
theorem dX4_learn_29 : decode cX4_learn 29 = .ok (.getfield 12, 3) := by decide +kernel
theorem dX4_learn_32 : decode cX4_learn 32 = .ok (.aload_n 3, 1) := by decide +kernel
theorem dX4_learn_33 : decode cX4_learn 33 = .ok (.getfield 47, 3) := by decide +kernel
theorem dX4_learn_36 : decode cX4_learn 36 = .ok (.iload 4, 2) := by decide +kernel
theorem dX4_learn_38 : decode cX4_learn 38 = .ok (.iaload, 1) := by decide +kernel
theorem dX4_learn_39 : decode cX4_learn 39 = .ok (.aload_n 3, 1) := by decide +kernel
theorem dX4_learn_40 : decode cX4_learn 40 = .ok (.getfield 50, 3) := by decide +kernel
theorem dX4_learn_43 : decode cX4_learn 43 = .ok (.iload 4, 2) := by decide +kernel
theorem dX4_learn_45 : decode cX4_learn 45 = .ok (.iaload, 1) := by decide +kernel
theorem dX4_learn_46 : decode cX4_learn 46 = .ok (.invokevirtual 53, 3) := by decide +kernel
theorem dX4_learn_49 : decode cX4_learn 49 = .ok (.iinc 4 1, 3) := by decide +kernel
theorem dX4_learn_52 : decode cX4_learn 52 = .ok (.goto (-40), 3) := by decide +kernel
theorem dX4_learn_55 : decode cX4_learn 55 = .ok (.return_, 1) := by decide +kernel
theorem dX4_choose_0 : decode cX4_choose 0 = .ok (.aload_n 0, 1) := by decide +kernel
theorem dX4_choose_1 : decode cX4_choose 1 = .ok (.iload_n 1, 1) := by decide +kernel
theorem dX4_choose_2 : decode cX4_choose 2 = .ok (.invokevirtual 57, 3) := by decide +kernel
theorem dX4_choose_5 : decode cX4_choose 5 = .ok (.aload_n 0, 1) := by decide +kernel
theorem dX4_choose_6 : decode cX4_choose 6 = .ok (.iconst 0, 1) := by decide +kernel
theorem dX4_choose_7 : decode cX4_choose 7 = .ok (.putfield 28, 3) := by decide +kernel
theorem dX4_choose_10 : decode cX4_choose 10 = .ok (.iconst (-1), 1) := by decide +kernel
theorem dX4_choose_11 : decode cX4_choose 11 = .ok (.istore_n 2, 1) := by decide +kernel
theorem dX4_choose_12 : decode cX4_choose 12 = .ok (.iconst 0, 1) := by decide +kernel
theorem dX4_choose_13 : decode cX4_choose 13 = .ok (.istore_n 3, 1) := by decide +kernel
theorem dX4_choose_14 : decode cX4_choose 14 = .ok (.iload_n 3, 1) := by decide +kernel
theorem dX4_choose_15 : decode cX4_choose 15 = .ok (.iload_n 1, 1) := by decide +kernel
theorem dX4_choose_16 : decode cX4_choose 16 = .ok (.if_icmp .ge 63, 3) := by decide +kernel
theorem dX4_choose_19 : decode cX4_choose 19 = .ok (.aload_n 0, 1) := by decide +kernel
theorem dX4_choose_20 : decode cX4_choose 20 = .ok (.getfield 24, 3) := by decide +kernel
theorem dX4_choose_23 : decode cX4_choose 23 = .ok (.iload_n 3, 1) := by decide +kernel
theorem dX4_choose_24 : decode cX4_choose 24 = .ok (.iconst 0, 1) := by decide +kernel
theorem dX4_choose_25 : decode cX4_choose 25 = .ok (.iastore, 1) := by decide +kernel
theorem dX4_choose_26 : decode cX4_choose 26 = .ok (.aload_n 0, 1) := by decide +kernel
theorem dX4_choose_27 : decode cX4_choose 27 = .ok (.getfield 20, 3) := by decide +kernel
theorem dX4_choose_30 : decode cX4_choose 30 = .ok (.iload_n 3, 1) := by decide +kernel
theorem dX4_choose_31 : decode cX4_choose 31 = .ok (.aaload, 1) := by decide +kernel
theorem dX4_choose_32 : decode cX4_choose 32 = .ok (.getfield 61, 3) := by decide +kernel
theorem dX4_choose_35 : decode cX4_choose 35 = .ok (.ifCond .le 38, 3) := by decide +kernel
theorem dX4_choose_38 : decode cX4_choose 38 = .ok (.aload_n 0, 1) := by decide +kernel
theorem dX4_choose_39 : decode cX4_choose 39 = .ok (.getfield 24, 3) := by decide +kernel
theorem dX4_choose_42 : decode cX4_choose 42 = .ok (.iload_n 3, 1) := by decide +kernel
theorem dX4_choose_43 : decode cX4_choose 43 = .ok (.aload_n 0, 1) := by decide +kernel
theorem dX4_choose_44 : decode cX4_choose 44 = .ok (.iload_n 2, 1) := by decide +kernel
theorem dX4_choose_45 : decode cX4_choose 45 = .ok (.iload_n 3, 1) := by decide +kernel
theorem dX4_choose_46 : decode cX4_choose 46 = .ok (.invokevirtual 64, 3) := by decide +kernel
theorem dX4_choose_49 : decode cX4_choose 49 = .ok (.iastore, 1) := by decide +kernel
theorem dX4_choose_50 : decode cX4_choose 50 = .ok (.aload_n 0, 1) := by decide +kernel
theorem dX4_choose_51 : decode cX4_choose 51 = .ok (.dup, 1) := by decide +kernel
theorem dX4_choose_52 : decode cX4_choose 52 = .ok (.getfield 28, 3) := by decide +kernel
theorem dX4_choose_55 : decode cX4_choose 55 = .ok (.aload_n 0, 1) := by decide +kernel
theorem dX4_choose_56 : decode cX4_choose 56 = .ok (.iload_n 2, 1) := by decide +kernel
theorem dX4_choose_57 : decode cX4_choose 57 = .ok (.iload_n 3, 1) := by decide +kernel
theorem dX4_choose_58 : decode cX4_choose 58 = .ok (.aload_n 0, 1) := by decide +kernel
theorem dX4_choose_59 : decode cX4_choose 59 = .ok (.getfield 24, 3) := by decide +kernel
theorem dX4_choose_62 : decode cX4_choose 62 = .ok (.iload_n 3, 1) := by decide +kernel
theorem dX4_choose_63 : decode cX4_choose 63 = .ok (.iaload, 1) := by decide +kernel
theorem dX4_choose_64 : decode cX4_choose 64 = .ok (.invokevirtual 68, 3) := by decide +kernel
theorem dX4_choose_67 : decode cX4_choose 67 = .ok (.iadd, 1) := by decide +kernel
theorem dX4_choose_68 : decode cX4_choose 68 = .ok (.putfield 28, 3) := by decide +kernel
theorem dX4_choose_71 : decode cX4_choose 71 = .ok (.iload_n 3, 1) := by decide +kernel
theorem dX4_choose_72 : decode cX4_choose 72 = .ok (.istore_n 2, 1) := by decide +kernel
theorem dX4_choose_73 : decode cX4_choose 73 = .ok (.iinc 3 1, 3) := by decide +kernel
theorem dX4_choose_76 : decode cX4_choose 76 = .ok (.goto (-62), 3) := by decide +kernel
theorem dX4_choose_79 : decode cX4_choose 79 = .ok (.return_, 1) := by decide +kernel
theorem dX4_lookAhead_0 : decode cX4_lookAhead 0 = .ok (.iconst (-1), 1) := by decide +kernel
theorem dX4_lookAhead_1 : decode cX4_lookAhead 1 = .ok (.istore_n 2, 1) := by decide +kernel
theorem dX4_lookAhead_2 : decode cX4_lookAhead 2 = .ok (.iload_n 1, 1) := by decide +kernel
theorem dX4_lookAhead_3 : decode cX4_lookAhead 3 = .ok (.iconst 1, 1) := by decide +kernel
theorem dX4_lookAhead_4 : decode cX4_lookAhead 4 = .ok (.isub, 1) := by decide +kernel
theorem dX4_lookAhead_5 : decode cX4_lookAhead 5 = .ok (.istore_n 3, 1) := by decide +kernel
theorem dX4_lookAhead_6 : decode cX4_lookAhead 6 = .ok (.iload_n 3, 1) := by decide +kernel
theorem dX4_lookAhead_7 : decode cX4_lookAhead 7 = .ok (.ifCond .lt 80, 3) := by decide +kernel
theorem dX4_lookAhead_10 : decode cX4_lookAhead 10 = .ok (.aload_n 0, 1) := by decide +kernel
theorem dX4_lookAhead_11 : decode cX4_lookAhead 11 = .ok (.getfield 20, 3) := by decide +kernel
theorem dX4_lookAhead_14 : decode cX4_lookAhead 14 = .ok (.iload_n 3, 1) := by decide +kernel
theorem dX4_lookAhead_15 : decode cX4_lookAhead 15 = .ok (.aaload, 1) := by decide +kernel
theorem dX4_lookAhead_16 : decode cX4_lookAhead 16 = .ok (.getfield 61, 3) := by decide +kernel
theorem dX4_lookAhead_19 : decode cX4_lookAhead 19 = .ok (.ifCond .le 62, 3) := by decide +kernel
theorem dX4_lookAhead_22 : decode cX4_lookAhead 22 = .ok (.iconst 0, 1) := by decide +kernel
theorem dX4_lookAhead_23 : decode cX4_lookAhead 23 = .ok (.istore 4, 2) := by decide +kernel
theorem dX4_lookAhead_25 : decode cX4_lookAhead 25 = .ok (.iload 4, 2) := by decide +kernel
theorem dX4_lookAhead_27 : decode cX4_lookAhead 27 = .ok (.aload_n 0, 1) := by decide +kernel
theorem dX4_lookAhead_28 : decode cX4_lookAhead 28 = .ok (.getfield 20, 3) := by decide +kernel
theorem dX4_lookAhead_31 : decode cX4_lookAhead 31 = .ok (.iload_n 3, 1) := by decide +kernel
theorem dX4_lookAhead_32 : decode cX4_lookAhead 32 = .ok (.aaload, 1) := by decide +kernel
theorem dX4_lookAhead_33 : decode cX4_lookAhead 33 = .ok (.getfield 72, 3) := by decide +kernel
theorem dX4_lookAhead_36 : decode cX4_lookAhead 36 = .ok (.if_icmp .ge 43, 3) := by decide +kernel
theorem dX4_lookAhead_39 : decode cX4_lookAhead 39 = .ok (.aload_n 0, 1) := by decide +kernel
theorem dX4_lookAhead_40 : decode cX4_lookAhead 40 = .ok (.getfield 34, 3) := by decide +kernel
theorem dX4_lookAhead_43 : decode cX4_lookAhead 43 = .ok (.iload_n 3, 1) := by decide +kernel
theorem dX4_lookAhead_44 : decode cX4_lookAhead 44 = .ok (.aaload, 1) := by decide +kernel
theorem dX4_lookAhead_45 : decode cX4_lookAhead 45 = .ok (.iload 4, 2) := by decide +kernel
theorem dX4_lookAhead_47 : decode cX4_lookAhead 47 = .ok (.iload_n 2, 1) := by decide +kernel
theorem dX4_lookAhead_48 : decode cX4_lookAhead 48 = .ok (.iconst (-1), 1) := by decide +kernel
theorem dX4_lookAhead_49 : decode cX4_lookAhead 49 = .ok (.if_icmp .ne 7, 3) := by decide +kernel
theorem dX4_lookAhead_52 : decode cX4_lookAhead 52 = .ok (.iconst 0, 1) := by decide +kernel
theorem dX4_lookAhead_53 : decode cX4_lookAhead 53 = .ok (.goto 19, 3) := by decide +kernel
theorem dX4_lookAhead_56 : decode cX4_lookAhead 56 = .ok (.aload_n 0, 1) := by decide +kernel
theorem dX4_lookAhead_57 : decode cX4_lookAhead 57 = .ok (.aload_n 0, 1) := by decide +kernel
theorem dX4_lookAhead_58 : decode cX4_lookAhead 58 = .ok (.getfield 20, 3) := by decide +kernel
theorem dX4_lookAhead_61 : decode cX4_lookAhead 61 = .ok (.iload_n 3, 1) := by decide +kernel
theorem dX4_lookAhead_62 : decode cX4_lookAhead 62 = .ok (.aaload, 1) := by decide +kernel
theorem dX4_lookAhead_63 : decode cX4_lookAhead 63 = .ok (.iload 4, 2) := by decide +kernel
theorem dX4_lookAhead_65 : decode cX4_lookAhead 65 = .ok (.invokevirtual 75, 3) := by decide +kernel
theorem dX4_lookAhead_68 : decode cX4_lookAhead 68 = .ok (.iload_n 2, 1) := by decide +kernel
theorem dX4_lookAhead_69 : decode cX4_lookAhead 69 = .ok (.invokevirtual 79, 3) := by decide +kernel
theorem dX4_lookAhead_72 : decode cX4_lookAhead 72 = .ok (.iastore, 1) := by decide +kernel
theorem dX4_lookAhead_73 : decode cX4_lookAhead 73 = .ok (.iinc 4 1, 3) := by decide +kernel
theorem dX4_lookAhead_76 : decode cX4_lookAhead 76 = .ok (.goto (-51), 3) := by decide +kernel
theorem dX4_lookAhead_79 : decode cX4_lookAhead 79 = .ok (.iload_n 3, 1) := by decide +kernel
theorem dX4_lookAhead_80 : decode cX4_lookAhead 80 = .ok (.istore_n 2, 1) := by decide +kernel
theorem dX4_lookAhead_81 : decode cX4_lookAhead 81 = .ok (.iinc 3 (-1), 3) := by decide +kernel
theorem dX4_lookAhead_84 : decode cX4_lookAhead 84 = .ok (.goto (-78), 3) := by decide +kernel
theorem dX4_lookAhead_87 : decode cX4_lookAhead 87 = .ok (.return_, 1) := by decide +kernel
theorem dX4_fewestOnward_0 : decode cX4_fewestOnward 0 = .ok (.ldc 82, 2) := by decide +kernel
theorem dX4_fewestOnward_2 : decode cX4_fewestOnward 2 = .ok (.istore_n 3, 1) := by decide +kernel
theorem dX4_fewestOnward_3 : decode cX4_fewestOnward 3 = .ok (.iconst 0, 1) := by decide +kernel
theorem dX4_fewestOnward_4 : decode cX4_fewestOnward 4 = .ok (.istore 4, 2) := by decide +kernel
theorem dX4_fewestOnward_6 : decode cX4_fewestOnward 6 = .ok (.iload 4, 2) := by decide +kernel
theorem dX4_fewestOnward_8 : decode cX4_fewestOnward 8 = .ok (.aload_n 0, 1) := by decide +kernel
theorem dX4_fewestOnward_9 : decode cX4_fewestOnward 9 = .ok (.getfield 20, 3) := by decide +kernel
theorem dX4_fewestOnward_12 : decode cX4_fewestOnward 12 = .ok (.iload_n 2, 1) := by decide +kernel
theorem dX4_fewestOnward_13 : decode cX4_fewestOnward 13 = .ok (.aaload, 1) := by decide +kernel
theorem dX4_fewestOnward_14 : decode cX4_fewestOnward 14 = .ok (.getfield 72, 3) := by decide +kernel
theorem dX4_fewestOnward_17 : decode cX4_fewestOnward 17 = .ok (.if_icmp .ge 44, 3) := by decide +kernel
theorem dX4_fewestOnward_20 : decode cX4_fewestOnward 20 = .ok (.iload_n 1, 1) := by decide +kernel
theorem dX4_fewestOnward_21 : decode cX4_fewestOnward 21 = .ok (.aload_n 0, 1) := by decide +kernel
theorem dX4_fewestOnward_22 : decode cX4_fewestOnward 22 = .ok (.getfield 20, 3) := by decide +kernel
theorem dX4_fewestOnward_25 : decode cX4_fewestOnward 25 = .ok (.iload_n 2, 1) := by decide +kernel
theorem dX4_fewestOnward_26 : decode cX4_fewestOnward 26 = .ok (.aaload, 1) := by decide +kernel
theorem dX4_fewestOnward_27 : decode cX4_fewestOnward 27 = .ok (.iload 4, 2) := by decide +kernel
theorem dX4_fewestOnward_29 : decode cX4_fewestOnward 29 = .ok (.invokevirtual 75, 3) := by decide +kernel
theorem dX4_fewestOnward_32 : decode cX4_fewestOnward 32 = .ok (.isub, 1) := by decide +kernel
theorem dX4_fewestOnward_33 : decode cX4_fewestOnward 33 = .ok (.invokestatic 83, 3) := by decide +kernel
theorem dX4_fewestOnward_36 : decode cX4_fewestOnward 36 = .ok (.istore 5, 2) := by decide +kernel
theorem dX4_fewestOnward_38 : decode cX4_fewestOnward 38 = .ok (.iload_n 3, 1) := by decide +kernel
theorem dX4_fewestOnward_39 : decode cX4_fewestOnward 39 = .ok (.iload 5, 2) := by decide +kernel
theorem dX4_fewestOnward_41 : decode cX4_fewestOnward 41 = .ok (.aload_n 0, 1) := by decide +kernel
theorem dX4_fewestOnward_42 : decode cX4_fewestOnward 42 = .ok (.getfield 34, 3) := by decide +kernel
theorem dX4_fewestOnward_45 : decode cX4_fewestOnward 45 = .ok (.iload_n 2, 1) := by decide +kernel
theorem dX4_fewestOnward_46 : decode cX4_fewestOnward 46 = .ok (.aaload, 1) := by decide +kernel
theorem dX4_fewestOnward_47 : decode cX4_fewestOnward 47 = .ok (.iload 4, 2) := by decide +kernel
theorem dX4_fewestOnward_49 : decode cX4_fewestOnward 49 = .ok (.iaload, 1) := by decide +kernel
theorem dX4_fewestOnward_50 : decode cX4_fewestOnward 50 = .ok (.iadd, 1) := by decide +kernel
theorem dX4_fewestOnward_51 : decode cX4_fewestOnward 51 = .ok (.invokestatic 88, 3) := by decide +kernel
theorem dX4_fewestOnward_54 : decode cX4_fewestOnward 54 = .ok (.istore_n 3, 1) := by decide +kernel
theorem dX4_fewestOnward_55 : decode cX4_fewestOnward 55 = .ok (.iinc 4 1, 3) := by decide +kernel
theorem dX4_fewestOnward_58 : decode cX4_fewestOnward 58 = .ok (.goto (-52), 3) := by decide +kernel
theorem dX4_fewestOnward_61 : decode cX4_fewestOnward 61 = .ok (.iload_n 3, 1) := by decide +kernel
theorem dX4_fewestOnward_62 : decode cX4_fewestOnward 62 = .ok (.ireturn, 1) := by decide +kernel
theorem dX4_firstBest_0 : decode cX4_firstBest 0 = .ok (.iconst 0, 1) := by decide +kernel
theorem dX4_firstBest_1 : decode cX4_firstBest 1 = .ok (.istore_n 3, 1) := by decide +kernel
theorem dX4_firstBest_2 : decode cX4_firstBest 2 = .ok (.ldc 82, 2) := by decide +kernel
theorem dX4_firstBest_4 : decode cX4_firstBest 4 = .ok (.istore 4, 2) := by decide +kernel
theorem dX4_firstBest_6 : decode cX4_firstBest 6 = .ok (.iconst 0, 1) := by decide +kernel
theorem dX4_firstBest_7 : decode cX4_firstBest 7 = .ok (.istore 5, 2) := by decide +kernel
theorem dX4_firstBest_9 : decode cX4_firstBest 9 = .ok (.iload 5, 2) := by decide +kernel
theorem dX4_firstBest_11 : decode cX4_firstBest 11 = .ok (.aload_n 0, 1) := by decide +kernel
theorem dX4_firstBest_12 : decode cX4_firstBest 12 = .ok (.getfield 20, 3) := by decide +kernel
theorem dX4_firstBest_15 : decode cX4_firstBest 15 = .ok (.iload_n 2, 1) := by decide +kernel
theorem dX4_firstBest_16 : decode cX4_firstBest 16 = .ok (.aaload, 1) := by decide +kernel
theorem dX4_firstBest_17 : decode cX4_firstBest 17 = .ok (.getfield 72, 3) := by decide +kernel
theorem dX4_firstBest_20 : decode cX4_firstBest 20 = .ok (.if_icmp .ge 43, 3) := by decide +kernel
theorem dX4_firstBest_23 : decode cX4_firstBest 23 = .ok (.aload_n 0, 1) := by decide +kernel
theorem dX4_firstBest_24 : decode cX4_firstBest 24 = .ok (.iload_n 1, 1) := by decide +kernel
theorem dX4_firstBest_25 : decode cX4_firstBest 25 = .ok (.iload_n 2, 1) := by decide +kernel
theorem dX4_firstBest_26 : decode cX4_firstBest 26 = .ok (.iload 5, 2) := by decide +kernel
theorem dX4_firstBest_28 : decode cX4_firstBest 28 = .ok (.invokevirtual 68, 3) := by decide +kernel
theorem dX4_firstBest_31 : decode cX4_firstBest 31 = .ok (.aload_n 0, 1) := by decide +kernel
theorem dX4_firstBest_32 : decode cX4_firstBest 32 = .ok (.getfield 34, 3) := by decide +kernel
theorem dX4_firstBest_35 : decode cX4_firstBest 35 = .ok (.iload_n 2, 1) := by decide +kernel
theorem dX4_firstBest_36 : decode cX4_firstBest 36 = .ok (.aaload, 1) := by decide +kernel
theorem dX4_firstBest_37 : decode cX4_firstBest 37 = .ok (.iload 5, 2) := by decide +kernel
theorem dX4_firstBest_39 : decode cX4_firstBest 39 = .ok (.iaload, 1) := by decide +kernel
theorem dX4_firstBest_40 : decode cX4_firstBest 40 = .ok (.iadd, 1) := by decide +kernel
theorem dX4_firstBest_41 : decode cX4_firstBest 41 = .ok (.istore 6, 2) := by decide +kernel
theorem dX4_firstBest_43 : decode cX4_firstBest 43 = .ok (.iload 6, 2) := by decide +kernel
theorem dX4_firstBest_45 : decode cX4_firstBest 45 = .ok (.iload 4, 2) := by decide +kernel
theorem dX4_firstBest_47 : decode cX4_firstBest 47 = .ok (.if_icmp .ge 10, 3) := by decide +kernel
theorem dX4_firstBest_50 : decode cX4_firstBest 50 = .ok (.iload 6, 2) := by decide +kernel
theorem dX4_firstBest_52 : decode cX4_firstBest 52 = .ok (.istore 4, 2) := by decide +kernel
theorem dX4_firstBest_54 : decode cX4_firstBest 54 = .ok (.iload 5, 2) := by decide +kernel
theorem dX4_firstBest_56 : decode cX4_firstBest 56 = .ok (.istore_n 3, 1) := by decide +kernel
theorem dX4_firstBest_57 : decode cX4_firstBest 57 = .ok (.iinc 5 1, 3) := by decide +kernel
theorem dX4_firstBest_60 : decode cX4_firstBest 60 = .ok (.goto (-51), 3) := by decide +kernel
theorem dX4_firstBest_63 : decode cX4_firstBest 63 = .ok (.iload_n 3, 1) := by decide +kernel
theorem dX4_firstBest_64 : decode cX4_firstBest 64 = .ok (.ireturn, 1) := by decide +kernel
theorem dX4_jumpFromChosen_0 : decode cX4_jumpFromChosen 0 = .ok (.iload_n 1, 1) := by decide +kernel
theorem dX4_jumpFromChosen_1 : decode cX4_jumpFromChosen 1 = .ok (.iconst (-1), 1) := by decide +kernel
theorem dX4_jumpFromChosen_2 : decode cX4_jumpFromChosen 2 = .ok (.if_icmp .ne 5, 3) := by decide +kernel
theorem dX4_jumpFromChosen_5 : decode cX4_jumpFromChosen 5 = .ok (.iconst 0, 1) := by decide +kernel
theorem dX4_jumpFromChosen_6 : decode cX4_jumpFromChosen 6 = .ok (.ireturn, 1) := by decide +kernel
theorem dX4_jumpFromChosen_7 : decode cX4_jumpFromChosen 7 = .ok (.aload_n 0, 1) := by decide +kernel
theorem dX4_jumpFromChosen_8 : decode cX4_jumpFromChosen 8 = .ok (.getfield 20, 3) := by decide +kernel
theorem dX4_jumpFromChosen_11 : decode cX4_jumpFromChosen 11 = .ok (.iload_n 1, 1) := by decide +kernel
theorem dX4_jumpFromChosen_12 : decode cX4_jumpFromChosen 12 = .ok (.aaload, 1) := by decide +kernel
theorem dX4_jumpFromChosen_13 : decode cX4_jumpFromChosen 13 = .ok (.aload_n 0, 1) := by decide +kernel
theorem dX4_jumpFromChosen_14 : decode cX4_jumpFromChosen 14 = .ok (.getfield 24, 3) := by decide +kernel
theorem dX4_jumpFromChosen_17 : decode cX4_jumpFromChosen 17 = .ok (.iload_n 1, 1) := by decide +kernel
theorem dX4_jumpFromChosen_18 : decode cX4_jumpFromChosen 18 = .ok (.iaload, 1) := by decide +kernel
theorem dX4_jumpFromChosen_19 : decode cX4_jumpFromChosen 19 = .ok (.invokevirtual 75, 3) := by decide +kernel
theorem dX4_jumpFromChosen_22 : decode cX4_jumpFromChosen 22 = .ok (.aload_n 0, 1) := by decide +kernel
theorem dX4_jumpFromChosen_23 : decode cX4_jumpFromChosen 23 = .ok (.getfield 20, 3) := by decide +kernel
theorem dX4_jumpFromChosen_26 : decode cX4_jumpFromChosen 26 = .ok (.iload_n 2, 1) := by decide +kernel
theorem dX4_jumpFromChosen_27 : decode cX4_jumpFromChosen 27 = .ok (.aaload, 1) := by decide +kernel
theorem dX4_jumpFromChosen_28 : decode cX4_jumpFromChosen 28 = .ok (.iload_n 3, 1) := by decide +kernel
theorem dX4_jumpFromChosen_29 : decode cX4_jumpFromChosen 29 = .ok (.invokevirtual 75, 3) := by decide +kernel
theorem dX4_jumpFromChosen_32 : decode cX4_jumpFromChosen 32 = .ok (.isub, 1) := by decide +kernel
theorem dX4_jumpFromChosen_33 : decode cX4_jumpFromChosen 33 = .ok (.invokestatic 83, 3) := by decide +kernel
theorem dX4_jumpFromChosen_36 : decode cX4_jumpFromChosen 36 = .ok (.ireturn, 1) := by decide +kernel
theorem dX4_notesOf_0 : decode cX4_notesOf 0 = .ok (.iconst 0, 1) := by decide +kernel
theorem dX4_notesOf_1 : decode cX4_notesOf 1 = .ok (.istore_n 2, 1) := by decide +kernel
theorem dX4_notesOf_2 : decode cX4_notesOf 2 = .ok (.iconst 0, 1) := by decide +kernel
theorem dX4_notesOf_3 : decode cX4_notesOf 3 = .ok (.istore_n 3, 1) := by decide +kernel
theorem dX4_notesOf_4 : decode cX4_notesOf 4 = .ok (.iload_n 3, 1) := by decide +kernel
theorem dX4_notesOf_5 : decode cX4_notesOf 5 = .ok (.aload_n 0, 1) := by decide +kernel
theorem dX4_notesOf_6 : decode cX4_notesOf 6 = .ok (.getfield 20, 3) := by decide +kernel
theorem dX4_notesOf_9 : decode cX4_notesOf 9 = .ok (.iload_n 1, 1) := by decide +kernel
theorem dX4_notesOf_10 : decode cX4_notesOf 10 = .ok (.aaload, 1) := by decide +kernel
theorem dX4_notesOf_11 : decode cX4_notesOf 11 = .ok (.getfield 61, 3) := by decide +kernel
theorem dX4_notesOf_14 : decode cX4_notesOf 14 = .ok (.if_icmp .ge 36, 3) := by decide +kernel
theorem dX4_notesOf_17 : decode cX4_notesOf 17 = .ok (.iload_n 2, 1) := by decide +kernel
theorem dX4_notesOf_18 : decode cX4_notesOf 18 = .ok (.aload_n 0, 1) := by decide +kernel
theorem dX4_notesOf_19 : decode cX4_notesOf 19 = .ok (.getfield 12, 3) := by decide +kernel
theorem dX4_notesOf_22 : decode cX4_notesOf 22 = .ok (.getfield 91, 3) := by decide +kernel
theorem dX4_notesOf_25 : decode cX4_notesOf 25 = .ok (.aload_n 0, 1) := by decide +kernel
theorem dX4_notesOf_26 : decode cX4_notesOf 26 = .ok (.getfield 20, 3) := by decide +kernel
theorem dX4_notesOf_29 : decode cX4_notesOf 29 = .ok (.iload_n 1, 1) := by decide +kernel
theorem dX4_notesOf_30 : decode cX4_notesOf 30 = .ok (.aaload, 1) := by decide +kernel
theorem dX4_notesOf_31 : decode cX4_notesOf 31 = .ok (.aload_n 0, 1) := by decide +kernel
theorem dX4_notesOf_32 : decode cX4_notesOf 32 = .ok (.getfield 24, 3) := by decide +kernel
theorem dX4_notesOf_35 : decode cX4_notesOf 35 = .ok (.iload_n 1, 1) := by decide +kernel
theorem dX4_notesOf_36 : decode cX4_notesOf 36 = .ok (.iaload, 1) := by decide +kernel
theorem dX4_notesOf_37 : decode cX4_notesOf 37 = .ok (.iload_n 3, 1) := by decide +kernel
theorem dX4_notesOf_38 : decode cX4_notesOf 38 = .ok (.invokevirtual 94, 3) := by decide +kernel
theorem dX4_notesOf_41 : decode cX4_notesOf 41 = .ok (.iaload, 1) := by decide +kernel
theorem dX4_notesOf_42 : decode cX4_notesOf 42 = .ok (.ior, 1) := by decide +kernel
theorem dX4_notesOf_43 : decode cX4_notesOf 43 = .ok (.istore_n 2, 1) := by decide +kernel
theorem dX4_notesOf_44 : decode cX4_notesOf 44 = .ok (.iinc 3 1, 3) := by decide +kernel
theorem dX4_notesOf_47 : decode cX4_notesOf 47 = .ok (.goto (-43), 3) := by decide +kernel
theorem dX4_notesOf_50 : decode cX4_notesOf 50 = .ok (.iload_n 2, 1) := by decide +kernel
theorem dX4_notesOf_51 : decode cX4_notesOf 51 = .ok (.ireturn, 1) := by decide +kernel
theorem dX4_hasSameButtons_0 : decode cX4_hasSameButtons 0 = .ok (.aload_n 0, 1) := by decide +kernel
theorem dX4_hasSameButtons_1 : decode cX4_hasSameButtons 1 = .ok (.getfield 20, 3) := by decide +kernel
theorem dX4_hasSameButtons_4 : decode cX4_hasSameButtons 4 = .ok (.iload_n 2, 1) := by decide +kernel
theorem dX4_hasSameButtons_5 : decode cX4_hasSameButtons 5 = .ok (.aaload, 1) := by decide +kernel
theorem dX4_hasSameButtons_6 : decode cX4_hasSameButtons 6 = .ok (.getfield 61, 3) := by decide +kernel
theorem dX4_hasSameButtons_9 : decode cX4_hasSameButtons 9 = .ok (.aload_n 1, 1) := by decide +kernel
theorem dX4_hasSameButtons_10 : decode cX4_hasSameButtons 10 = .ok (.getfield 20, 3) := by decide +kernel
theorem dX4_hasSameButtons_13 : decode cX4_hasSameButtons 13 = .ok (.iload_n 2, 1) := by decide +kernel
theorem dX4_hasSameButtons_14 : decode cX4_hasSameButtons 14 = .ok (.aaload, 1) := by decide +kernel
theorem dX4_hasSameButtons_15 : decode cX4_hasSameButtons 15 = .ok (.getfield 61, 3) := by decide +kernel
theorem dX4_hasSameButtons_18 : decode cX4_hasSameButtons 18 = .ok (.if_icmp .ne 42, 3) := by decide +kernel
theorem dX4_hasSameButtons_21 : decode cX4_hasSameButtons 21 = .ok (.aload_n 0, 1) := by decide +kernel
theorem dX4_hasSameButtons_22 : decode cX4_hasSameButtons 22 = .ok (.getfield 20, 3) := by decide +kernel
theorem dX4_hasSameButtons_25 : decode cX4_hasSameButtons 25 = .ok (.iload_n 2, 1) := by decide +kernel
theorem dX4_hasSameButtons_26 : decode cX4_hasSameButtons 26 = .ok (.aaload, 1) := by decide +kernel
theorem dX4_hasSameButtons_27 : decode cX4_hasSameButtons 27 = .ok (.getfield 97, 3) := by decide +kernel
theorem dX4_hasSameButtons_30 : decode cX4_hasSameButtons 30 = .ok (.aload_n 0, 1) := by decide +kernel
theorem dX4_hasSameButtons_31 : decode cX4_hasSameButtons 31 = .ok (.getfield 24, 3) := by decide +kernel
theorem dX4_hasSameButtons_34 : decode cX4_hasSameButtons 34 = .ok (.iload_n 2, 1) := by decide +kernel
theorem dX4_hasSameButtons_35 : decode cX4_hasSameButtons 35 = .ok (.iaload, 1) := by decide +kernel
theorem dX4_hasSameButtons_36 : decode cX4_hasSameButtons 36 = .ok (.iaload, 1) := by decide +kernel
theorem dX4_hasSameButtons_37 : decode cX4_hasSameButtons 37 = .ok (.aload_n 1, 1) := by decide +kernel
theorem dX4_hasSameButtons_38 : decode cX4_hasSameButtons 38 = .ok (.getfield 20, 3) := by decide +kernel
theorem dX4_hasSameButtons_41 : decode cX4_hasSameButtons 41 = .ok (.iload_n 2, 1) := by decide +kernel
theorem dX4_hasSameButtons_42 : decode cX4_hasSameButtons 42 = .ok (.aaload, 1) := by decide +kernel
theorem dX4_hasSameButtons_43 : decode cX4_hasSameButtons 43 = .ok (.getfield 97, 3) := by decide +kernel
theorem dX4_hasSameButtons_46 : decode cX4_hasSameButtons 46 = .ok (.aload_n 1, 1) := by decide +kernel
theorem dX4_hasSameButtons_47 : decode cX4_hasSameButtons 47 = .ok (.getfield 24, 3) := by decide +kernel
theorem dX4_hasSameButtons_50 : decode cX4_hasSameButtons 50 = .ok (.iload_n 2, 1) := by decide +kernel
theorem dX4_hasSameButtons_51 : decode cX4_hasSameButtons 51 = .ok (.iaload, 1) := by decide +kernel
theorem dX4_hasSameButtons_52 : decode cX4_hasSameButtons 52 = .ok (.iaload, 1) := by decide +kernel
theorem dX4_hasSameButtons_53 : decode cX4_hasSameButtons 53 = .ok (.if_icmp .ne 7, 3) := by decide +kernel
theorem dX4_hasSameButtons_56 : decode cX4_hasSameButtons 56 = .ok (.iconst 1, 1) := by decide +kernel
theorem dX4_hasSameButtons_57 : decode cX4_hasSameButtons 57 = .ok (.goto 4, 3) := by decide +kernel
theorem dX4_hasSameButtons_60 : decode cX4_hasSameButtons 60 = .ok (.iconst 0, 1) := by decide +kernel
theorem dX4_hasSameButtons_61 : decode cX4_hasSameButtons 61 = .ok (.ireturn, 1) := by decide +kernel
theorem dX4_lackOfAll_0 : decode cX4_lackOfAll 0 = .ok (.iconst 0, 1) := by decide +kernel
theorem dX4_lackOfAll_1 : decode cX4_lackOfAll 1 = .ok (.istore_n 2, 1) := by decide +kernel
theorem dX4_lackOfAll_2 : decode cX4_lackOfAll 2 = .ok (.iconst 0, 1) := by decide +kernel
theorem dX4_lackOfAll_3 : decode cX4_lackOfAll 3 = .ok (.istore_n 3, 1) := by decide +kernel
theorem dX4_lackOfAll_4 : decode cX4_lackOfAll 4 = .ok (.iload_n 3, 1) := by decide +kernel
theorem dX4_lackOfAll_5 : decode cX4_lackOfAll 5 = .ok (.iload_n 1, 1) := by decide +kernel
theorem dX4_lackOfAll_6 : decode cX4_lackOfAll 6 = .ok (.if_icmp .ge 21, 3) := by decide +kernel
theorem dX4_lackOfAll_9 : decode cX4_lackOfAll 9 = .ok (.iload_n 2, 1) := by decide +kernel
theorem dX4_lackOfAll_10 : decode cX4_lackOfAll 10 = .ok (.aload_n 0, 1) := by decide +kernel
theorem dX4_lackOfAll_11 : decode cX4_lackOfAll 11 = .ok (.getfield 20, 3) := by decide +kernel
theorem dX4_lackOfAll_14 : decode cX4_lackOfAll 14 = .ok (.iload_n 3, 1) := by decide +kernel
theorem dX4_lackOfAll_15 : decode cX4_lackOfAll 15 = .ok (.aaload, 1) := by decide +kernel
theorem dX4_lackOfAll_16 : decode cX4_lackOfAll 16 = .ok (.getfield 100, 3) := by decide +kernel
theorem dX4_lackOfAll_19 : decode cX4_lackOfAll 19 = .ok (.iadd, 1) := by decide +kernel
theorem dX4_lackOfAll_20 : decode cX4_lackOfAll 20 = .ok (.istore_n 2, 1) := by decide +kernel
theorem dX4_lackOfAll_21 : decode cX4_lackOfAll 21 = .ok (.iinc 3 1, 3) := by decide +kernel
theorem dX4_lackOfAll_24 : decode cX4_lackOfAll 24 = .ok (.goto (-20), 3) := by decide +kernel
theorem dX4_lackOfAll_27 : decode cX4_lackOfAll 27 = .ok (.iload_n 2, 1) := by decide +kernel
theorem dX4_lackOfAll_28 : decode cX4_lackOfAll 28 = .ok (.ireturn, 1) := by decide +kernel
theorem dX4_extraOfAll_0 : decode cX4_extraOfAll 0 = .ok (.iconst 0, 1) := by decide +kernel
theorem dX4_extraOfAll_1 : decode cX4_extraOfAll 1 = .ok (.istore_n 2, 1) := by decide +kernel
theorem dX4_extraOfAll_2 : decode cX4_extraOfAll 2 = .ok (.iconst 0, 1) := by decide +kernel
theorem dX4_extraOfAll_3 : decode cX4_extraOfAll 3 = .ok (.istore_n 3, 1) := by decide +kernel
theorem dX4_extraOfAll_4 : decode cX4_extraOfAll 4 = .ok (.iload_n 3, 1) := by decide +kernel
theorem dX4_extraOfAll_5 : decode cX4_extraOfAll 5 = .ok (.iload_n 1, 1) := by decide +kernel
theorem dX4_extraOfAll_6 : decode cX4_extraOfAll 6 = .ok (.if_icmp .ge 21, 3) := by decide +kernel
theorem dX4_extraOfAll_9 : decode cX4_extraOfAll 9 = .ok (.iload_n 2, 1) := by decide +kernel
theorem dX4_extraOfAll_10 : decode cX4_extraOfAll 10 = .ok (.aload_n 0, 1) := by decide +kernel
theorem dX4_extraOfAll_11 : decode cX4_extraOfAll 11 = .ok (.getfield 20, 3) := by decide +kernel
theorem dX4_extraOfAll_14 : decode cX4_extraOfAll 14 = .ok (.iload_n 3, 1) := by decide +kernel
theorem dX4_extraOfAll_15 : decode cX4_extraOfAll 15 = .ok (.aaload, 1) := by decide +kernel
theorem dX4_extraOfAll_16 : decode cX4_extraOfAll 16 = .ok (.getfield 103, 3) := by decide +kernel
theorem dX4_extraOfAll_19 : decode cX4_extraOfAll 19 = .ok (.iadd, 1) := by decide +kernel
theorem dX4_extraOfAll_20 : decode cX4_extraOfAll 20 = .ok (.istore_n 2, 1) := by decide +kernel
theorem dX4_extraOfAll_21 : decode cX4_extraOfAll 21 = .ok (.iinc 3 1, 3) := by decide +kernel
theorem dX4_extraOfAll_24 : decode cX4_extraOfAll 24 = .ok (.goto (-20), 3) := by decide +kernel
theorem dX4_extraOfAll_27 : decode cX4_extraOfAll 27 = .ok (.iload_n 2, 1) := by decide +kernel
theorem dX4_extraOfAll_28 : decode cX4_extraOfAll 28 = .ok (.ireturn, 1) := by decide +kernel
theorem dX4_buttonsOfAll_0 : decode cX4_buttonsOfAll 0 = .ok (.iconst 0, 1) := by decide +kernel
theorem dX4_buttonsOfAll_1 : decode cX4_buttonsOfAll 1 = .ok (.istore_n 2, 1) := by decide +kernel
theorem dX4_buttonsOfAll_2 : decode cX4_buttonsOfAll 2 = .ok (.iconst 0, 1) := by decide +kernel
theorem dX4_buttonsOfAll_3 : decode cX4_buttonsOfAll 3 = .ok (.istore_n 3, 1) := by decide +kernel
theorem dX4_buttonsOfAll_4 : decode cX4_buttonsOfAll 4 = .ok (.iload_n 3, 1) := by decide +kernel
theorem dX4_buttonsOfAll_5 : decode cX4_buttonsOfAll 5 = .ok (.iload_n 1, 1) := by decide +kernel
theorem dX4_buttonsOfAll_6 : decode cX4_buttonsOfAll 6 = .ok (.if_icmp .ge 21, 3) := by decide +kernel
theorem dX4_buttonsOfAll_9 : decode cX4_buttonsOfAll 9 = .ok (.iload_n 2, 1) := by decide +kernel
theorem dX4_buttonsOfAll_10 : decode cX4_buttonsOfAll 10 = .ok (.aload_n 0, 1) := by decide +kernel
theorem dX4_buttonsOfAll_11 : decode cX4_buttonsOfAll 11 = .ok (.getfield 20, 3) := by decide +kernel
theorem dX4_buttonsOfAll_14 : decode cX4_buttonsOfAll 14 = .ok (.iload_n 3, 1) := by decide +kernel
theorem dX4_buttonsOfAll_15 : decode cX4_buttonsOfAll 15 = .ok (.aaload, 1) := by decide +kernel
theorem dX4_buttonsOfAll_16 : decode cX4_buttonsOfAll 16 = .ok (.getfield 61, 3) := by decide +kernel
theorem dX4_buttonsOfAll_19 : decode cX4_buttonsOfAll 19 = .ok (.iadd, 1) := by decide +kernel
theorem dX4_buttonsOfAll_20 : decode cX4_buttonsOfAll 20 = .ok (.istore_n 2, 1) := by decide +kernel
theorem dX4_buttonsOfAll_21 : decode cX4_buttonsOfAll 21 = .ok (.iinc 3 1, 3) := by decide +kernel
theorem dX4_buttonsOfAll_24 : decode cX4_buttonsOfAll 24 = .ok (.goto (-20), 3) := by decide +kernel
theorem dX4_buttonsOfAll_27 : decode cX4_buttonsOfAll 27 = .ok (.iload_n 2, 1) := by decide +kernel
theorem dX4_buttonsOfAll_28 : decode cX4_buttonsOfAll 28 = .ok (.ireturn, 1) := by decide +kernel
theorem dX5_init_0 : decode cX5_init 0 = .ok (.aload_n 0, 1) := by decide +kernel
theorem dX5_init_1 : decode cX5_init 1 = .ok (.invokespecial 1, 3) := by decide +kernel
theorem dX5_init_4 : decode cX5_init 4 = .ok (.aload_n 0, 1) := by decide +kernel
theorem dX5_init_5 : decode cX5_init 5 = .ok (.new 7, 3) := by decide +kernel
theorem dX5_init_8 : decode cX5_init 8 = .ok (.dup, 1) := by decide +kernel
theorem dX5_init_9 : decode cX5_init 9 = .ok (.invokespecial 9, 3) := by decide +kernel
theorem dX5_init_12 : decode cX5_init 12 = .ok (.putfield 10, 3) := by decide +kernel
theorem dX5_init_15 : decode cX5_init 15 = .ok (.aload_n 0, 1) := by decide +kernel
theorem dX5_init_16 : decode cX5_init 16 = .ok (.new 7, 3) := by decide +kernel
theorem dX5_init_19 : decode cX5_init 19 = .ok (.dup, 1) := by decide +kernel
theorem dX5_init_20 : decode cX5_init 20 = .ok (.invokespecial 9, 3) := by decide +kernel
theorem dX5_init_23 : decode cX5_init 23 = .ok (.putfield 16, 3) := by decide +kernel
theorem dX5_init_26 : decode cX5_init 26 = .ok (.aload_n 0, 1) := by decide +kernel
theorem dX5_init_27 : decode cX5_init 27 = .ok (.iconst 0, 1) := by decide +kernel
theorem dX5_init_28 : decode cX5_init 28 = .ok (.putfield 19, 3) := by decide +kernel
theorem dX5_init_31 : decode cX5_init 31 = .ok (.aload_n 0, 1) := by decide +kernel
theorem dX5_init_32 : decode cX5_init 32 = .ok (.new 23, 3) := by decide +kernel
theorem dX5_init_35 : decode cX5_init 35 = .ok (.dup, 1) := by decide +kernel
theorem dX5_init_36 : decode cX5_init 36 = .ok (.invokespecial 25, 3) := by decide +kernel
theorem dX5_init_39 : decode cX5_init 39 = .ok (.putfield 26, 3) := by decide +kernel
theorem dX5_init_42 : decode cX5_init 42 = .ok (.aload_n 0, 1) := by decide +kernel
theorem dX5_init_43 : decode cX5_init 43 = .ok (.new 23, 3) := by decide +kernel
theorem dX5_init_46 : decode cX5_init 46 = .ok (.dup, 1) := by decide +kernel
theorem dX5_init_47 : decode cX5_init 47 = .ok (.invokespecial 25, 3) := by decide +kernel
theorem dX5_init_50 : decode cX5_init 50 = .ok (.putfield 30, 3) := by decide +kernel
theorem dX5_init_53 : decode cX5_init 53 = .ok (.aload_n 0, 1) := by decide +kernel
theorem dX5_init_54 : decode cX5_init 54 = .ok (.new 33, 3) := by decide +kernel
theorem dX5_init_57 : decode cX5_init 57 = .ok (.dup, 1) := by decide +kernel
theorem dX5_init_58 : decode cX5_init 58 = .ok (.invokespecial 35, 3) := by decide +kernel
theorem dX5_init_61 : decode cX5_init 61 = .ok (.putfield 36, 3) := by decide +kernel
theorem dX5_init_64 : decode cX5_init 64 = .ok (.return_, 1) := by decide +kernel
theorem dX5_system_0 : decode cX5_system 0 = .ok (.iload_n 1, 1) := by decide +kernel
theorem dX5_system_1 : decode cX5_system 1 = .ok (.iload_n 2, 1) := by decide +kernel
theorem dX5_system_2 : decode cX5_system 2 = .ok (.invokestatic 40, 3) := by decide +kernel
theorem dX5_system_5 : decode cX5_system 5 = .ok (.ifCond .ne 5, 3) := by decide +kernel
theorem dX5_system_8 : decode cX5_system 8 = .ok (.iconst (-1), 1) := by decide +kernel
theorem dX5_system_9 : decode cX5_system 9 = .ok (.ireturn, 1) := by decide +kernel
theorem dX5_system_10 : decode cX5_system 10 = .ok (.aload_n 0, 1) := by decide +kernel
theorem dX5_system_11 : decode cX5_system 11 = .ok (.getfield 10, 3) := by decide +kernel
theorem dX5_system_14 : decode cX5_system 14 = .ok (.iload_n 1, 1) := by decide +kernel
theorem dX5_system_15 : decode cX5_system 15 = .ok (.putfield 44, 3) := by decide +kernel
theorem dX5_system_18 : decode cX5_system 18 = .ok (.aload_n 0, 1) := by decide +kernel
theorem dX5_system_19 : decode cX5_system 19 = .ok (.getfield 10, 3) := by decide +kernel
theorem dX5_system_22 : decode cX5_system 22 = .ok (.iload_n 2, 1) := by decide +kernel
theorem dX5_system_23 : decode cX5_system 23 = .ok (.putfield 48, 3) := by decide +kernel
theorem dX5_system_26 : decode cX5_system 26 = .ok (.aload_n 0, 1) := by decide +kernel
theorem dX5_system_27 : decode cX5_system 27 = .ok (.getfield 26, 3) := by decide +kernel
theorem dX5_system_30 : decode cX5_system 30 = .ok (.iload_n 1, 1) := by decide +kernel
theorem dX5_system_31 : decode cX5_system 31 = .ok (.iload_n 2, 1) := by decide +kernel
theorem dX5_system_32 : decode cX5_system 32 = .ok (.aload_n 0, 1) := by decide +kernel
theorem dX5_system_33 : decode cX5_system 33 = .ok (.getfield 10, 3) := by decide +kernel
theorem dX5_system_36 : decode cX5_system 36 = .ok (.invokevirtual 51, 3) := by decide +kernel
theorem dX5_system_39 : decode cX5_system 39 = .ok (.aload_n 0, 1) := by decide +kernel
theorem dX5_system_40 : decode cX5_system 40 = .ok (.invokevirtual 55, 3) := by decide +kernel
theorem dX5_system_43 : decode cX5_system 43 = .ok (.iconst 1, 1) := by decide +kernel
theorem dX5_system_44 : decode cX5_system 44 = .ok (.ireturn, 1) := by decide +kernel
theorem dX5_sound_0 : decode cX5_sound 0 = .ok (.iload_n 1, 1) := by decide +kernel
theorem dX5_sound_1 : decode cX5_sound 1 = .ok (.ifCond .lt 9, 3) := by decide +kernel
theorem dX5_sound_4 : decode cX5_sound 4 = .ok (.iload_n 1, 1) := by decide +kernel
theorem dX5_sound_5 : decode cX5_sound 5 = .ok (.bipush 72, 2) := by decide +kernel
theorem dX5_sound_7 : decode cX5_sound 7 = .ok (.if_icmp .lt 5, 3) := by decide +kernel
theorem dX5_sound_10 : decode cX5_sound 10 = .ok (.iconst (-1), 1) := by decide +kernel
theorem dX5_sound_11 : decode cX5_sound 11 = .ok (.ireturn, 1) := by decide +kernel
theorem dX5_sound_12 : decode cX5_sound 12 = .ok (.aload_n 0, 1) := by decide +kernel
theorem dX5_sound_13 : decode cX5_sound 13 = .ok (.getfield 26, 3) := by decide +kernel
theorem dX5_sound_16 : decode cX5_sound 16 = .ok (.getfield 58, 3) := by decide +kernel
theorem dX5_sound_19 : decode cX5_sound 19 = .ok (.getfield 62, 3) := by decide +kernel
theorem dX5_sound_22 : decode cX5_sound 22 = .ok (.iload_n 1, 1) := by decide +kernel
theorem dX5_sound_23 : decode cX5_sound 23 = .ok (.iaload, 1) := by decide +kernel
theorem dX5_sound_24 : decode cX5_sound 24 = .ok (.istore_n 2, 1) := by decide +kernel
theorem dX5_sound_25 : decode cX5_sound 25 = .ok (.iload_n 2, 1) := by decide +kernel
theorem dX5_sound_26 : decode cX5_sound 26 = .ok (.ifCond .ne 8, 3) := by decide +kernel
theorem dX5_sound_29 : decode cX5_sound 29 = .ok (.bipush (-3), 2) := by decide +kernel
theorem dX5_sound_31 : decode cX5_sound 31 = .ok (.goto 4, 3) := by decide +kernel
theorem dX5_sound_34 : decode cX5_sound 34 = .ok (.iload_n 2, 1) := by decide +kernel
theorem dX5_sound_35 : decode cX5_sound 35 = .ok (.ireturn, 1) := by decide +kernel
theorem dX5_root_0 : decode cX5_root 0 = .ok (.iload_n 1, 1) := by decide +kernel
theorem dX5_root_1 : decode cX5_root 1 = .ok (.ifCond .lt 9, 3) := by decide +kernel
theorem dX5_root_4 : decode cX5_root 4 = .ok (.iload_n 1, 1) := by decide +kernel
theorem dX5_root_5 : decode cX5_root 5 = .ok (.bipush 12, 2) := by decide +kernel
theorem dX5_root_7 : decode cX5_root 7 = .ok (.if_icmp .lt 5, 3) := by decide +kernel
theorem dX5_root_10 : decode cX5_root 10 = .ok (.iconst (-1), 1) := by decide +kernel
theorem dX5_root_11 : decode cX5_root 11 = .ok (.ireturn, 1) := by decide +kernel
theorem dX5_root_12 : decode cX5_root 12 = .ok (.aload_n 0, 1) := by decide +kernel
theorem dX5_root_13 : decode cX5_root 13 = .ok (.getfield 10, 3) := by decide +kernel
theorem dX5_root_16 : decode cX5_root 16 = .ok (.getfield 44, 3) := by decide +kernel
theorem dX5_root_19 : decode cX5_root 19 = .ok (.iload_n 1, 1) := by decide +kernel
theorem dX5_root_20 : decode cX5_root 20 = .ok (.invokestatic 68, 3) := by decide +kernel
theorem dX5_root_23 : decode cX5_root 23 = .ok (.ireturn, 1) := by decide +kernel
theorem dX5_rule_0 : decode cX5_rule 0 = .ok (.iload_n 1, 1) := by decide +kernel
theorem dX5_rule_1 : decode cX5_rule 1 = .ok (.tableswitch 45 0 2 #[27, 33, 39], 27) := by decide +kernel
theorem dX5_rule_28 : decode cX5_rule 28 = .ok (.aload_n 0, 1) := by decide +kernel
theorem dX5_rule_29 : decode cX5_rule 29 = .ok (.iload_n 2, 1) := by decide +kernel
theorem dX5_rule_30 : decode cX5_rule 30 = .ok (.invokevirtual 72, 3) := by decide +kernel
theorem dX5_rule_33 : decode cX5_rule 33 = .ok (.ireturn, 1) := by decide +kernel
theorem dX5_rule_34 : decode cX5_rule 34 = .ok (.aload_n 0, 1) := by decide +kernel
theorem dX5_rule_35 : decode cX5_rule 35 = .ok (.iload_n 2, 1) := by decide +kernel
theorem dX5_rule_36 : decode cX5_rule 36 = .ok (.invokevirtual 76, 3) := by decide +kernel
theorem dX5_rule_39 : decode cX5_rule 39 = .ok (.ireturn, 1) := by decide +kernel
theorem dX5_rule_40 : decode cX5_rule 40 = .ok (.aload_n 0, 1) := by decide +kernel
theorem dX5_rule_41 : decode cX5_rule 41 = .ok (.iload_n 2, 1) := by decide +kernel
theorem dX5_rule_42 : decode cX5_rule 42 = .ok (.invokevirtual 79, 3) := by decide +kernel
theorem dX5_rule_45 : decode cX5_rule 45 = .ok (.ireturn, 1) := by decide +kernel
theorem dX5_rule_46 : decode cX5_rule 46 = .ok (.iconst (-1), 1) := by decide +kernel
theorem dX5_rule_47 : decode cX5_rule 47 = .ok (.ireturn, 1) := by decide +kernel
theorem dX5_beat_0 : decode cX5_beat 0 = .ok (.iload_n 1, 1) := by decide +kernel
theorem dX5_beat_1 : decode cX5_beat 1 = .ok (.iload_n 2, 1) := by decide +kernel
theorem dX5_beat_2 : decode cX5_beat 2 = .ok (.iload_n 3, 1) := by decide +kernel
theorem dX5_beat_3 : decode cX5_beat 3 = .ok (.iload 4, 2) := by decide +kernel
theorem dX5_beat_5 : decode cX5_beat 5 = .ok (.invokestatic 82, 3) := by decide +kernel
theorem dX5_beat_8 : decode cX5_beat 8 = .ok (.ifCond .ne 5, 3) := by decide +kernel
theorem dX5_beat_11 : decode cX5_beat 11 = .ok (.iconst (-1), 1) := by decide +kernel
theorem dX5_beat_12 : decode cX5_beat 12 = .ok (.ireturn, 1) := by decide +kernel
theorem dX5_beat_13 : decode cX5_beat 13 = .ok (.aload_n 0, 1) := by decide +kernel
theorem dX5_beat_14 : decode cX5_beat 14 = .ok (.getfield 10, 3) := by decide +kernel
theorem dX5_beat_17 : decode cX5_beat 17 = .ok (.getfield 86, 3) := by decide +kernel
theorem dX5_beat_20 : decode cX5_beat 20 = .ok (.bipush 8, 2) := by decide +kernel
theorem dX5_beat_22 : decode cX5_beat 22 = .ok (.if_icmp .lt 6, 3) := by decide +kernel
theorem dX5_beat_25 : decode cX5_beat 25 = .ok (.bipush (-2), 2) := by decide +kernel
theorem dX5_beat_27 : decode cX5_beat 27 = .ok (.ireturn, 1) := by decide +kernel
theorem dX5_beat_28 : decode cX5_beat 28 = .ok (.aload_n 0, 1) := by decide +kernel
theorem dX5_beat_29 : decode cX5_beat 29 = .ok (.getfield 10, 3) := by decide +kernel
theorem dX5_beat_32 : decode cX5_beat 32 = .ok (.getfield 86, 3) := by decide +kernel
theorem dX5_beat_35 : decode cX5_beat 35 = .ok (.istore 5, 2) := by decide +kernel
theorem dX5_beat_37 : decode cX5_beat 37 = .ok (.aload_n 0, 1) := by decide +kernel
theorem dX5_beat_38 : decode cX5_beat 38 = .ok (.getfield 10, 3) := by decide +kernel
theorem dX5_beat_41 : decode cX5_beat 41 = .ok (.iload 5, 2) := by decide +kernel
theorem dX5_beat_43 : decode cX5_beat 43 = .ok (.iconst 1, 1) := by decide +kernel
theorem dX5_beat_44 : decode cX5_beat 44 = .ok (.iadd, 1) := by decide +kernel
theorem dX5_beat_45 : decode cX5_beat 45 = .ok (.putfield 86, 3) := by decide +kernel
theorem dX5_beat_48 : decode cX5_beat 48 = .ok (.aload_n 0, 1) := by decide +kernel
theorem dX5_beat_49 : decode cX5_beat 49 = .ok (.getfield 10, 3) := by decide +kernel
theorem dX5_beat_52 : decode cX5_beat 52 = .ok (.iload 5, 2) := by decide +kernel
theorem dX5_beat_54 : decode cX5_beat 54 = .ok (.iload_n 1, 1) := by decide +kernel
theorem dX5_beat_55 : decode cX5_beat 55 = .ok (.iload_n 2, 1) := by decide +kernel
theorem dX5_beat_56 : decode cX5_beat 56 = .ok (.iload_n 3, 1) := by decide +kernel
theorem dX5_beat_57 : decode cX5_beat 57 = .ok (.iload 4, 2) := by decide +kernel
theorem dX5_beat_59 : decode cX5_beat 59 = .ok (.invokevirtual 89, 3) := by decide +kernel
theorem dX5_beat_62 : decode cX5_beat 62 = .ok (.aload_n 0, 1) := by decide +kernel
theorem dX5_beat_63 : decode cX5_beat 63 = .ok (.iload 5, 2) := by decide +kernel
theorem dX5_beat_65 : decode cX5_beat 65 = .ok (.invokevirtual 93, 3) := by decide +kernel
theorem dX5_beat_68 : decode cX5_beat 68 = .ok (.iload 5, 2) := by decide +kernel
theorem dX5_beat_70 : decode cX5_beat 70 = .ok (.ireturn, 1) := by decide +kernel
theorem dX5_alter_0 : decode cX5_alter 0 = .ok (.aload_n 0, 1) := by decide +kernel
theorem dX5_alter_1 : decode cX5_alter 1 = .ok (.getfield 10, 3) := by decide +kernel
theorem dX5_alter_4 : decode cX5_alter 4 = .ok (.iload_n 1, 1) := by decide +kernel
theorem dX5_alter_5 : decode cX5_alter 5 = .ok (.invokevirtual 97, 3) := by decide +kernel
theorem dX5_alter_8 : decode cX5_alter 8 = .ok (.ifCond .eq 15, 3) := by decide +kernel
theorem dX5_alter_11 : decode cX5_alter 11 = .ok (.iload_n 2, 1) := by decide +kernel
theorem dX5_alter_12 : decode cX5_alter 12 = .ok (.iload_n 3, 1) := by decide +kernel
theorem dX5_alter_13 : decode cX5_alter 13 = .ok (.iload 4, 2) := by decide +kernel
theorem dX5_alter_15 : decode cX5_alter 15 = .ok (.iload 5, 2) := by decide +kernel
theorem dX5_alter_17 : decode cX5_alter 17 = .ok (.invokestatic 82, 3) := by decide +kernel
theorem dX5_alter_20 : decode cX5_alter 20 = .ok (.ifCond .ne 5, 3) := by decide +kernel
theorem dX5_alter_23 : decode cX5_alter 23 = .ok (.iconst (-1), 1) := by decide +kernel
theorem dX5_alter_24 : decode cX5_alter 24 = .ok (.ireturn, 1) := by decide +kernel
theorem dX5_alter_25 : decode cX5_alter 25 = .ok (.aload_n 0, 1) := by decide +kernel
theorem dX5_alter_26 : decode cX5_alter 26 = .ok (.getfield 10, 3) := by decide +kernel
theorem dX5_alter_29 : decode cX5_alter 29 = .ok (.iload_n 1, 1) := by decide +kernel
theorem dX5_alter_30 : decode cX5_alter 30 = .ok (.iload_n 2, 1) := by decide +kernel
theorem dX5_alter_31 : decode cX5_alter 31 = .ok (.iload_n 3, 1) := by decide +kernel
theorem dX5_alter_32 : decode cX5_alter 32 = .ok (.iload 4, 2) := by decide +kernel
theorem dX5_alter_34 : decode cX5_alter 34 = .ok (.iload 5, 2) := by decide +kernel
theorem dX5_alter_36 : decode cX5_alter 36 = .ok (.invokevirtual 89, 3) := by decide +kernel
theorem dX5_alter_39 : decode cX5_alter 39 = .ok (.aload_n 0, 1) := by decide +kernel
theorem dX5_alter_40 : decode cX5_alter 40 = .ok (.iload_n 1, 1) := by decide +kernel
theorem dX5_alter_41 : decode cX5_alter 41 = .ok (.invokevirtual 93, 3) := by decide +kernel
theorem dX5_alter_44 : decode cX5_alter 44 = .ok (.iconst 1, 1) := by decide +kernel
theorem dX5_alter_45 : decode cX5_alter 45 = .ok (.ireturn, 1) := by decide +kernel
theorem dX5_drop_0 : decode cX5_drop 0 = .ok (.aload_n 0, 1) := by decide +kernel
theorem dX5_drop_1 : decode cX5_drop 1 = .ok (.getfield 10, 3) := by decide +kernel
theorem dX5_drop_4 : decode cX5_drop 4 = .ok (.getfield 86, 3) := by decide +kernel
theorem dX5_drop_7 : decode cX5_drop 7 = .ok (.ifCond .gt 6, 3) := by decide +kernel
theorem dX5_drop_10 : decode cX5_drop 10 = .ok (.bipush (-3), 2) := by decide +kernel
theorem dX5_drop_12 : decode cX5_drop 12 = .ok (.ireturn, 1) := by decide +kernel
theorem dX5_drop_13 : decode cX5_drop 13 = .ok (.aload_n 0, 1) := by decide +kernel
theorem dX5_drop_14 : decode cX5_drop 14 = .ok (.getfield 10, 3) := by decide +kernel
theorem dX5_drop_17 : decode cX5_drop 17 = .ok (.dup, 1) := by decide +kernel
theorem dX5_drop_18 : decode cX5_drop 18 = .ok (.getfield 86, 3) := by decide +kernel
theorem dX5_drop_21 : decode cX5_drop 21 = .ok (.iconst 1, 1) := by decide +kernel
theorem dX5_drop_22 : decode cX5_drop 22 = .ok (.isub, 1) := by decide +kernel
theorem dX5_drop_23 : decode cX5_drop 23 = .ok (.putfield 86, 3) := by decide +kernel
theorem dX5_drop_26 : decode cX5_drop 26 = .ok (.aload_n 0, 1) := by decide +kernel
theorem dX5_drop_27 : decode cX5_drop 27 = .ok (.invokevirtual 55, 3) := by decide +kernel
theorem dX5_drop_30 : decode cX5_drop 30 = .ok (.aload_n 0, 1) := by decide +kernel
theorem dX5_drop_31 : decode cX5_drop 31 = .ok (.getfield 10, 3) := by decide +kernel
theorem dX5_drop_34 : decode cX5_drop 34 = .ok (.getfield 86, 3) := by decide +kernel
theorem dX5_drop_37 : decode cX5_drop 37 = .ok (.ireturn, 1) := by decide +kernel
theorem dX5_of_0 : decode cX5_of 0 = .ok (.aload_n 0, 1) := by decide +kernel
theorem dX5_of_1 : decode cX5_of 1 = .ok (.getfield 10, 3) := by decide +kernel
theorem dX5_of_4 : decode cX5_of 4 = .ok (.iload_n 1, 1) := by decide +kernel
theorem dX5_of_5 : decode cX5_of 5 = .ok (.invokevirtual 97, 3) := by decide +kernel
theorem dX5_of_8 : decode cX5_of 8 = .ok (.ifCond .ne 6, 3) := by decide +kernel
theorem dX5_of_11 : decode cX5_of 11 = .ok (.bipush (-9), 2) := by decide +kernel
theorem dX5_of_13 : decode cX5_of 13 = .ok (.ireturn, 1) := by decide +kernel
theorem dX5_of_14 : decode cX5_of 14 = .ok (.iload_n 2, 1) := by decide +kernel
theorem dX5_of_15 : decode cX5_of 15 = .ok (.tableswitch 69 0 3 #[29, 39, 49, 59], 29) := by decide +kernel
theorem dX5_of_44 : decode cX5_of 44 = .ok (.aload_n 0, 1) := by decide +kernel
theorem dX5_of_45 : decode cX5_of 45 = .ok (.getfield 10, 3) := by decide +kernel
theorem dX5_of_48 : decode cX5_of 48 = .ok (.getfield 101, 3) := by decide +kernel
theorem dX5_of_51 : decode cX5_of 51 = .ok (.iload_n 1, 1) := by decide +kernel
theorem dX5_of_52 : decode cX5_of 52 = .ok (.iaload, 1) := by decide +kernel
theorem dX5_of_53 : decode cX5_of 53 = .ok (.ireturn, 1) := by decide +kernel
theorem dX5_of_54 : decode cX5_of 54 = .ok (.aload_n 0, 1) := by decide +kernel
theorem dX5_of_55 : decode cX5_of 55 = .ok (.getfield 10, 3) := by decide +kernel
theorem dX5_of_58 : decode cX5_of 58 = .ok (.getfield 104, 3) := by decide +kernel
theorem dX5_of_61 : decode cX5_of 61 = .ok (.iload_n 1, 1) := by decide +kernel
theorem dX5_of_62 : decode cX5_of 62 = .ok (.iaload, 1) := by decide +kernel
theorem dX5_of_63 : decode cX5_of 63 = .ok (.ireturn, 1) := by decide +kernel
theorem dX5_of_64 : decode cX5_of 64 = .ok (.aload_n 0, 1) := by decide +kernel
theorem dX5_of_65 : decode cX5_of 65 = .ok (.getfield 10, 3) := by decide +kernel
theorem dX5_of_68 : decode cX5_of 68 = .ok (.getfield 107, 3) := by decide +kernel
theorem dX5_of_71 : decode cX5_of 71 = .ok (.iload_n 1, 1) := by decide +kernel
theorem dX5_of_72 : decode cX5_of 72 = .ok (.iaload, 1) := by decide +kernel
theorem dX5_of_73 : decode cX5_of 73 = .ok (.ireturn, 1) := by decide +kernel
theorem dX5_of_74 : decode cX5_of 74 = .ok (.aload_n 0, 1) := by decide +kernel
theorem dX5_of_75 : decode cX5_of 75 = .ok (.getfield 10, 3) := by decide +kernel
theorem dX5_of_78 : decode cX5_of 78 = .ok (.getfield 110, 3) := by decide +kernel
theorem dX5_of_81 : decode cX5_of 81 = .ok (.iload_n 1, 1) := by decide +kernel
theorem dX5_of_82 : decode cX5_of 82 = .ok (.iaload, 1) := by decide +kernel
theorem dX5_of_83 : decode cX5_of 83 = .ok (.ireturn, 1) := by decide +kernel
theorem dX5_of_84 : decode cX5_of 84 = .ok (.bipush (-9), 2) := by decide +kernel
theorem dX5_of_86 : decode cX5_of 86 = .ok (.ireturn, 1) := by decide +kernel
theorem dX5_good_0 : decode cX5_good 0 = .ok (.aload_n 0, 1) := by decide +kernel
theorem dX5_good_1 : decode cX5_good 1 = .ok (.getfield 10, 3) := by decide +kernel
theorem dX5_good_4 : decode cX5_good 4 = .ok (.iload_n 1, 1) := by decide +kernel
theorem dX5_good_5 : decode cX5_good 5 = .ok (.invokevirtual 97, 3) := by decide +kernel
theorem dX5_good_8 : decode cX5_good 8 = .ok (.ifCond .ne 5, 3) := by decide +kernel
theorem dX5_good_11 : decode cX5_good 11 = .ok (.iconst (-1), 1) := by decide +kernel
theorem dX5_good_12 : decode cX5_good 12 = .ok (.ireturn, 1) := by decide +kernel
theorem dX5_good_13 : decode cX5_good 13 = .ok (.aload_n 0, 1) := by decide +kernel
theorem dX5_good_14 : decode cX5_good 14 = .ok (.getfield 26, 3) := by decide +kernel
theorem dX5_good_17 : decode cX5_good 17 = .ok (.getfield 113, 3) := by decide +kernel
theorem dX5_good_20 : decode cX5_good 20 = .ok (.iload_n 1, 1) := by decide +kernel
theorem dX5_good_21 : decode cX5_good 21 = .ok (.aaload, 1) := by decide +kernel
theorem dX5_good_22 : decode cX5_good 22 = .ok (.astore_n 3, 1) := by decide +kernel
theorem dX5_good_23 : decode cX5_good 23 = .ok (.iload_n 2, 1) := by decide +kernel
theorem dX5_good_24 : decode cX5_good 24 = .ok (.tableswitch 52 0 3 #[32, 37, 42, 47], 32) := by decide +kernel
theorem dX5_good_56 : decode cX5_good 56 = .ok (.aload_n 3, 1) := by decide +kernel
theorem dX5_good_57 : decode cX5_good 57 = .ok (.getfield 117, 3) := by decide +kernel
theorem dX5_good_60 : decode cX5_good 60 = .ok (.ireturn, 1) := by decide +kernel
theorem dX5_good_61 : decode cX5_good 61 = .ok (.aload_n 3, 1) := by decide +kernel
theorem dX5_good_62 : decode cX5_good 62 = .ok (.getfield 122, 3) := by decide +kernel
theorem dX5_good_65 : decode cX5_good 65 = .ok (.ireturn, 1) := by decide +kernel
theorem dX5_good_66 : decode cX5_good 66 = .ok (.aload_n 3, 1) := by decide +kernel
theorem dX5_good_67 : decode cX5_good 67 = .ok (.getfield 125, 3) := by decide +kernel
theorem dX5_good_70 : decode cX5_good 70 = .ok (.ireturn, 1) := by decide +kernel
theorem dX5_good_71 : decode cX5_good 71 = .ok (.aload_n 3, 1) := by decide +kernel
theorem dX5_good_72 : decode cX5_good 72 = .ok (.getfield 128, 3) := by decide +kernel
theorem dX5_good_75 : decode cX5_good 75 = .ok (.ireturn, 1) := by decide +kernel
theorem dX5_good_76 : decode cX5_good 76 = .ok (.iconst (-1), 1) := by decide +kernel
theorem dX5_good_77 : decode cX5_good 77 = .ok (.ireturn, 1) := by decide +kernel
theorem dX5_button_0 : decode cX5_button 0 = .ok (.aload_n 0, 1) := by decide +kernel
theorem dX5_button_1 : decode cX5_button 1 = .ok (.getfield 10, 3) := by decide +kernel
theorem dX5_button_4 : decode cX5_button 4 = .ok (.iload_n 1, 1) := by decide +kernel
theorem dX5_button_5 : decode cX5_button 5 = .ok (.invokevirtual 97, 3) := by decide +kernel
theorem dX5_button_8 : decode cX5_button 8 = .ok (.ifCond .ne 5, 3) := by decide +kernel
theorem dX5_button_11 : decode cX5_button 11 = .ok (.iconst (-1), 1) := by decide +kernel
theorem dX5_button_12 : decode cX5_button 12 = .ok (.ireturn, 1) := by decide +kernel
theorem dX5_button_13 : decode cX5_button 13 = .ok (.aload_n 0, 1) := by decide +kernel
theorem dX5_button_14 : decode cX5_button 14 = .ok (.getfield 26, 3) := by decide +kernel
theorem dX5_button_17 : decode cX5_button 17 = .ok (.getfield 113, 3) := by decide +kernel
theorem dX5_button_20 : decode cX5_button 20 = .ok (.iload_n 1, 1) := by decide +kernel
theorem dX5_button_21 : decode cX5_button 21 = .ok (.aaload, 1) := by decide +kernel
theorem dX5_button_22 : decode cX5_button 22 = .ok (.astore 4, 2) := by decide +kernel
theorem dX5_button_24 : decode cX5_button 24 = .ok (.iload_n 2, 1) := by decide +kernel
theorem dX5_button_25 : decode cX5_button 25 = .ok (.ifCond .lt 25, 3) := by decide +kernel
theorem dX5_button_28 : decode cX5_button 28 = .ok (.iload_n 2, 1) := by decide +kernel
theorem dX5_button_29 : decode cX5_button 29 = .ok (.aload 4, 2) := by decide +kernel
theorem dX5_button_31 : decode cX5_button 31 = .ok (.getfield 128, 3) := by decide +kernel
theorem dX5_button_34 : decode cX5_button 34 = .ok (.if_icmp .ge 16, 3) := by decide +kernel
theorem dX5_button_37 : decode cX5_button 37 = .ok (.iload_n 3, 1) := by decide +kernel
theorem dX5_button_38 : decode cX5_button 38 = .ok (.ifCond .lt 12, 3) := by decide +kernel
theorem dX5_button_41 : decode cX5_button 41 = .ok (.iload_n 3, 1) := by decide +kernel
theorem dX5_button_42 : decode cX5_button 42 = .ok (.aload 4, 2) := by decide +kernel
theorem dX5_button_44 : decode cX5_button 44 = .ok (.getfield 125, 3) := by decide +kernel
theorem dX5_button_47 : decode cX5_button 47 = .ok (.if_icmp .lt 6, 3) := by decide +kernel
theorem dX5_button_50 : decode cX5_button 50 = .ok (.bipush (-3), 2) := by decide +kernel
theorem dX5_button_52 : decode cX5_button 52 = .ok (.ireturn, 1) := by decide +kernel
theorem dX5_button_53 : decode cX5_button 53 = .ok (.aload 4, 2) := by decide +kernel
theorem dX5_button_55 : decode cX5_button 55 = .ok (.iload_n 2, 1) := by decide +kernel
theorem dX5_button_56 : decode cX5_button 56 = .ok (.iload_n 3, 1) := by decide +kernel
theorem dX5_button_57 : decode cX5_button 57 = .ok (.invokevirtual 131, 3) := by decide +kernel
theorem dX5_button_60 : decode cX5_button 60 = .ok (.ireturn, 1) := by decide +kernel
theorem dX5_hand_0 : decode cX5_hand 0 = .ok (.aload_n 0, 1) := by decide +kernel
theorem dX5_hand_1 : decode cX5_hand 1 = .ok (.getfield 10, 3) := by decide +kernel
theorem dX5_hand_4 : decode cX5_hand 4 = .ok (.iload_n 1, 1) := by decide +kernel
theorem dX5_hand_5 : decode cX5_hand 5 = .ok (.invokevirtual 97, 3) := by decide +kernel
theorem dX5_hand_8 : decode cX5_hand 8 = .ok (.ifCond .eq 15, 3) := by decide +kernel
theorem dX5_hand_11 : decode cX5_hand 11 = .ok (.aload_n 0, 1) := by decide +kernel
theorem dX5_hand_12 : decode cX5_hand 12 = .ok (.getfield 26, 3) := by decide +kernel
theorem dX5_hand_15 : decode cX5_hand 15 = .ok (.getfield 134, 3) := by decide +kernel
theorem dX5_hand_18 : decode cX5_hand 18 = .ok (.iload_n 1, 1) := by decide +kernel
theorem dX5_hand_19 : decode cX5_hand 19 = .ok (.iaload, 1) := by decide +kernel
theorem dX5_hand_20 : decode cX5_hand 20 = .ok (.goto 4, 3) := by decide +kernel
theorem dX5_hand_23 : decode cX5_hand 23 = .ok (.iconst (-1), 1) := by decide +kernel
theorem dX5_hand_24 : decode cX5_hand 24 = .ok (.ireturn, 1) := by decide +kernel
theorem dX5_jumps_0 : decode cX5_jumps 0 = .ok (.aload_n 0, 1) := by decide +kernel
theorem dX5_jumps_1 : decode cX5_jumps 1 = .ok (.getfield 26, 3) := by decide +kernel
theorem dX5_jumps_4 : decode cX5_jumps 4 = .ok (.getfield 137, 3) := by decide +kernel
theorem dX5_jumps_7 : decode cX5_jumps 7 = .ok (.ireturn, 1) := by decide +kernel
theorem dX5_sounds_0 : decode cX5_sounds 0 = .ok (.aload_n 0, 1) := by decide +kernel
theorem dX5_sounds_1 : decode cX5_sounds 1 = .ok (.getfield 10, 3) := by decide +kernel
theorem dX5_sounds_4 : decode cX5_sounds 4 = .ok (.iload_n 1, 1) := by decide +kernel
theorem dX5_sounds_5 : decode cX5_sounds 5 = .ok (.invokevirtual 97, 3) := by decide +kernel
theorem dX5_sounds_8 : decode cX5_sounds 8 = .ok (.ifCond .eq 14, 3) := by decide +kernel
theorem dX5_sounds_11 : decode cX5_sounds 11 = .ok (.aload_n 0, 1) := by decide +kernel
theorem dX5_sounds_12 : decode cX5_sounds 12 = .ok (.getfield 26, 3) := by decide +kernel
theorem dX5_sounds_15 : decode cX5_sounds 15 = .ok (.iload_n 1, 1) := by decide +kernel
theorem dX5_sounds_16 : decode cX5_sounds 16 = .ok (.invokevirtual 140, 3) := by decide +kernel
theorem dX5_sounds_19 : decode cX5_sounds 19 = .ok (.goto 4, 3) := by decide +kernel
theorem dX5_sounds_22 : decode cX5_sounds 22 = .ok (.iconst (-1), 1) := by decide +kernel
theorem dX5_sounds_23 : decode cX5_sounds 23 = .ok (.ireturn, 1) := by decide +kernel
theorem dX5_changed_0 : decode cX5_changed 0 = .ok (.iload_n 1, 1) := by decide +kernel
theorem dX5_changed_1 : decode cX5_changed 1 = .ok (.iload_n 2, 1) := by decide +kernel
theorem dX5_changed_2 : decode cX5_changed 2 = .ok (.invokestatic 40, 3) := by decide +kernel
theorem dX5_changed_5 : decode cX5_changed 5 = .ok (.ifCond .ne 5, 3) := by decide +kernel
theorem dX5_changed_8 : decode cX5_changed 8 = .ok (.iconst (-1), 1) := by decide +kernel
theorem dX5_changed_9 : decode cX5_changed 9 = .ok (.ireturn, 1) := by decide +kernel
theorem dX5_changed_10 : decode cX5_changed 10 = .ok (.aload_n 0, 1) := by decide +kernel
theorem dX5_changed_11 : decode cX5_changed 11 = .ok (.getfield 30, 3) := by decide +kernel
theorem dX5_changed_14 : decode cX5_changed 14 = .ok (.iload_n 1, 1) := by decide +kernel
theorem dX5_changed_15 : decode cX5_changed 15 = .ok (.iload_n 2, 1) := by decide +kernel
theorem dX5_changed_16 : decode cX5_changed 16 = .ok (.aload_n 0, 1) := by decide +kernel
theorem dX5_changed_17 : decode cX5_changed 17 = .ok (.getfield 10, 3) := by decide +kernel
theorem dX5_changed_20 : decode cX5_changed 20 = .ok (.invokevirtual 51, 3) := by decide +kernel
theorem dX5_changed_23 : decode cX5_changed 23 = .ok (.aload_n 0, 1) := by decide +kernel
theorem dX5_changed_24 : decode cX5_changed 24 = .ok (.getfield 30, 3) := by decide +kernel
theorem dX5_changed_27 : decode cX5_changed 27 = .ok (.aload_n 0, 1) := by decide +kernel
theorem dX5_changed_28 : decode cX5_changed 28 = .ok (.getfield 10, 3) := by decide +kernel
theorem dX5_changed_31 : decode cX5_changed 31 = .ok (.getfield 86, 3) := by decide +kernel
theorem dX5_changed_34 : decode cX5_changed 34 = .ok (.invokevirtual 143, 3) := by decide +kernel
theorem dX5_changed_37 : decode cX5_changed 37 = .ok (.iconst 0, 1) := by decide +kernel
theorem dX5_changed_38 : decode cX5_changed 38 = .ok (.istore_n 3, 1) := by decide +kernel
theorem dX5_changed_39 : decode cX5_changed 39 = .ok (.iconst 0, 1) := by decide +kernel
theorem dX5_changed_40 : decode cX5_changed 40 = .ok (.istore 4, 2) := by decide +kernel
theorem dX5_changed_42 : decode cX5_changed 42 = .ok (.iload 4, 2) := by decide +kernel
theorem dX5_changed_44 : decode cX5_changed 44 = .ok (.aload_n 0, 1) := by decide +kernel
theorem dX5_changed_45 : decode cX5_changed 45 = .ok (.getfield 10, 3) := by decide +kernel
theorem dX5_changed_48 : decode cX5_changed 48 = .ok (.getfield 86, 3) := by decide +kernel
theorem dX5_changed_51 : decode cX5_changed 51 = .ok (.if_icmp .ge 28, 3) := by decide +kernel
theorem dX5_changed_54 : decode cX5_changed 54 = .ok (.aload_n 0, 1) := by decide +kernel
theorem dX5_changed_55 : decode cX5_changed 55 = .ok (.getfield 26, 3) := by decide +kernel
theorem dX5_changed_58 : decode cX5_changed 58 = .ok (.aload_n 0, 1) := by decide +kernel
theorem dX5_changed_59 : decode cX5_changed 59 = .ok (.getfield 30, 3) := by decide +kernel
theorem dX5_changed_62 : decode cX5_changed 62 = .ok (.iload 4, 2) := by decide +kernel
theorem dX5_changed_64 : decode cX5_changed 64 = .ok (.invokevirtual 146, 3) := by decide +kernel
theorem dX5_changed_67 : decode cX5_changed 67 = .ok (.ifCond .ne 6, 3) := by decide +kernel
theorem dX5_changed_70 : decode cX5_changed 70 = .ok (.iinc 3 1, 3) := by decide +kernel
theorem dX5_changed_73 : decode cX5_changed 73 = .ok (.iinc 4 1, 3) := by decide +kernel
theorem dX5_changed_76 : decode cX5_changed 76 = .ok (.goto (-34), 3) := by decide +kernel
theorem dX5_changed_79 : decode cX5_changed 79 = .ok (.iload_n 3, 1) := by decide +kernel
theorem dX5_changed_80 : decode cX5_changed 80 = .ok (.ireturn, 1) := by decide +kernel
theorem dX5_use_0 : decode cX5_use 0 = .ok (.aload_n 0, 1) := by decide +kernel
theorem dX5_use_1 : decode cX5_use 1 = .ok (.getfield 10, 3) := by decide +kernel
theorem dX5_use_4 : decode cX5_use 4 = .ok (.iload_n 1, 1) := by decide +kernel
theorem dX5_use_5 : decode cX5_use 5 = .ok (.invokevirtual 97, 3) := by decide +kernel
theorem dX5_use_8 : decode cX5_use 8 = .ok (.ifCond .eq 15, 3) := by decide +kernel
theorem dX5_use_11 : decode cX5_use 11 = .ok (.aload_n 0, 1) := by decide +kernel
theorem dX5_use_12 : decode cX5_use 12 = .ok (.getfield 36, 3) := by decide +kernel
theorem dX5_use_15 : decode cX5_use 15 = .ok (.getfield 150, 3) := by decide +kernel
theorem dX5_use_18 : decode cX5_use 18 = .ok (.iload_n 1, 1) := by decide +kernel
theorem dX5_use_19 : decode cX5_use 19 = .ok (.iaload, 1) := by decide +kernel
theorem dX5_use_20 : decode cX5_use 20 = .ok (.goto 4, 3) := by decide +kernel
theorem dX5_use_23 : decode cX5_use 23 = .ok (.iconst (-1), 1) := by decide +kernel
theorem dX5_use_24 : decode cX5_use 24 = .ok (.ireturn, 1) := by decide +kernel
theorem dX5_bellows_0 : decode cX5_bellows 0 = .ok (.aload_n 0, 1) := by decide +kernel
theorem dX5_bellows_1 : decode cX5_bellows 1 = .ok (.getfield 10, 3) := by decide +kernel
theorem dX5_bellows_4 : decode cX5_bellows 4 = .ok (.iload_n 1, 1) := by decide +kernel
theorem dX5_bellows_5 : decode cX5_bellows 5 = .ok (.invokevirtual 97, 3) := by decide +kernel
theorem dX5_bellows_8 : decode cX5_bellows 8 = .ok (.ifCond .ne 5, 3) := by decide +kernel
theorem dX5_bellows_11 : decode cX5_bellows 11 = .ok (.iconst (-1), 1) := by decide +kernel
theorem dX5_bellows_12 : decode cX5_bellows 12 = .ok (.ireturn, 1) := by decide +kernel
theorem dX5_bellows_13 : decode cX5_bellows 13 = .ok (.aload_n 0, 1) := by decide +kernel
theorem dX5_bellows_14 : decode cX5_bellows 14 = .ok (.getfield 36, 3) := by decide +kernel
theorem dX5_bellows_17 : decode cX5_bellows 17 = .ok (.invokevirtual 153, 3) := by decide +kernel
theorem dX5_bellows_20 : decode cX5_bellows 20 = .ok (.ifCond .ne 6, 3) := by decide +kernel
theorem dX5_bellows_23 : decode cX5_bellows 23 = .ok (.bipush (-3), 2) := by decide +kernel
theorem dX5_bellows_25 : decode cX5_bellows 25 = .ok (.ireturn, 1) := by decide +kernel
theorem dX5_bellows_26 : decode cX5_bellows 26 = .ok (.aload_n 0, 1) := by decide +kernel
theorem dX5_bellows_27 : decode cX5_bellows 27 = .ok (.getfield 36, 3) := by decide +kernel
theorem dX5_bellows_30 : decode cX5_bellows 30 = .ok (.aload_n 0, 1) := by decide +kernel
theorem dX5_bellows_31 : decode cX5_bellows 31 = .ok (.getfield 36, 3) := by decide +kernel
theorem dX5_bellows_34 : decode cX5_bellows 34 = .ok (.getfield 157, 3) := by decide +kernel
theorem dX5_bellows_37 : decode cX5_bellows 37 = .ok (.iload_n 1, 1) := by decide +kernel
theorem dX5_bellows_38 : decode cX5_bellows 38 = .ok (.invokevirtual 160, 3) := by decide +kernel
theorem dX5_bellows_41 : decode cX5_bellows 41 = .ok (.ifCond .eq 7, 3) := by decide +kernel
theorem dX5_bellows_44 : decode cX5_bellows 44 = .ok (.iconst 1, 1) := by decide +kernel
theorem dX5_bellows_45 : decode cX5_bellows 45 = .ok (.goto 4, 3) := by decide +kernel
theorem dX5_bellows_48 : decode cX5_bellows 48 = .ok (.iconst 0, 1) := by decide +kernel
theorem dX5_bellows_49 : decode cX5_bellows 49 = .ok (.ireturn, 1) := by decide +kernel
theorem dX5_air_0 : decode cX5_air 0 = .ok (.aload_n 0, 1) := by decide +kernel
theorem dX5_air_1 : decode cX5_air 1 = .ok (.getfield 10, 3) := by decide +kernel
theorem dX5_air_4 : decode cX5_air 4 = .ok (.iload_n 1, 1) := by decide +kernel
theorem dX5_air_5 : decode cX5_air 5 = .ok (.invokevirtual 97, 3) := by decide +kernel
theorem dX5_air_8 : decode cX5_air 8 = .ok (.ifCond .ne 5, 3) := by decide +kernel
theorem dX5_air_11 : decode cX5_air 11 = .ok (.iconst (-1), 1) := by decide +kernel
theorem dX5_air_12 : decode cX5_air 12 = .ok (.ireturn, 1) := by decide +kernel
theorem dX5_air_13 : decode cX5_air 13 = .ok (.aload_n 0, 1) := by decide +kernel
theorem dX5_air_14 : decode cX5_air 14 = .ok (.getfield 36, 3) := by decide +kernel
theorem dX5_air_17 : decode cX5_air 17 = .ok (.invokevirtual 153, 3) := by decide +kernel
theorem dX5_air_20 : decode cX5_air 20 = .ok (.ifCond .eq 21, 3) := by decide +kernel
theorem dX5_air_23 : decode cX5_air 23 = .ok (.aload_n 0, 1) := by decide +kernel
theorem dX5_air_24 : decode cX5_air 24 = .ok (.getfield 36, 3) := by decide +kernel
theorem dX5_air_27 : decode cX5_air 27 = .ok (.iload_n 1, 1) := by decide +kernel
theorem dX5_air_28 : decode cX5_air 28 = .ok (.aload_n 0, 1) := by decide +kernel
theorem dX5_air_29 : decode cX5_air 29 = .ok (.getfield 10, 3) := by decide +kernel
theorem dX5_air_32 : decode cX5_air 32 = .ok (.getfield 163, 3) := by decide +kernel
theorem dX5_air_35 : decode cX5_air 35 = .ok (.invokevirtual 166, 3) := by decide +kernel
theorem dX5_air_38 : decode cX5_air 38 = .ok (.goto 5, 3) := by decide +kernel
theorem dX5_air_41 : decode cX5_air 41 = .ok (.bipush (-3), 2) := by decide +kernel
theorem dX5_air_43 : decode cX5_air 43 = .ok (.ireturn, 1) := by decide +kernel
theorem dX5_cost_0 : decode cX5_cost 0 = .ok (.aload_n 0, 1) := by decide +kernel
theorem dX5_cost_1 : decode cX5_cost 1 = .ok (.getfield 36, 3) := by decide +kernel
theorem dX5_cost_4 : decode cX5_cost 4 = .ok (.invokevirtual 153, 3) := by decide +kernel
theorem dX5_cost_7 : decode cX5_cost 7 = .ok (.ifCond .eq 13, 3) := by decide +kernel
theorem dX5_cost_10 : decode cX5_cost 10 = .ok (.aload_n 0, 1) := by decide +kernel
theorem dX5_cost_11 : decode cX5_cost 11 = .ok (.getfield 36, 3) := by decide +kernel
theorem dX5_cost_14 : decode cX5_cost 14 = .ok (.getfield 169, 3) := by decide +kernel
theorem dX5_cost_17 : decode cX5_cost 17 = .ok (.goto 5, 3) := by decide +kernel
theorem dX5_cost_20 : decode cX5_cost 20 = .ok (.bipush (-3), 2) := by decide +kernel
theorem dX5_cost_22 : decode cX5_cost 22 = .ok (.ireturn, 1) := by decide +kernel
theorem dX5_wants_0 : decode cX5_wants 0 = .ok (.aload_n 0, 1) := by decide +kernel
theorem dX5_wants_1 : decode cX5_wants 1 = .ok (.getfield 36, 3) := by decide +kernel
theorem dX5_wants_4 : decode cX5_wants 4 = .ok (.getfield 172, 3) := by decide +kernel
theorem dX5_wants_7 : decode cX5_wants 7 = .ok (.sipush 400, 3) := by decide +kernel
theorem dX5_wants_10 : decode cX5_wants 10 = .ok (.if_icmp .gt 13, 3) := by decide +kernel
theorem dX5_wants_13 : decode cX5_wants 13 = .ok (.aload_n 0, 1) := by decide +kernel
theorem dX5_wants_14 : decode cX5_wants 14 = .ok (.getfield 36, 3) := by decide +kernel
theorem dX5_wants_17 : decode cX5_wants 17 = .ok (.getfield 172, 3) := by decide +kernel
theorem dX5_wants_20 : decode cX5_wants 20 = .ok (.goto 5, 3) := by decide +kernel
theorem dX5_wants_23 : decode cX5_wants 23 = .ok (.bipush (-3), 2) := by decide +kernel
theorem dX5_wants_25 : decode cX5_wants 25 = .ok (.ireturn, 1) := by decide +kernel
theorem dX5_many_0 : decode cX5_many 0 = .ok (.iload_n 1, 1) := by decide +kernel
theorem dX5_many_1 : decode cX5_many 1 = .ok (.tableswitch 159 0 7 #[47, 55, 69, 84, 99, 114, 143, 151], 47) := by decide +kernel
theorem dX5_many_48 : decode cX5_many 48 = .ok (.aload_n 0, 1) := by decide +kernel
theorem dX5_many_49 : decode cX5_many 49 = .ok (.getfield 10, 3) := by decide +kernel
theorem dX5_many_52 : decode cX5_many 52 = .ok (.getfield 86, 3) := by decide +kernel
theorem dX5_many_55 : decode cX5_many 55 = .ok (.ireturn, 1) := by decide +kernel
theorem dX5_many_56 : decode cX5_many 56 = .ok (.bipush 12, 2) := by decide +kernel
theorem dX5_many_58 : decode cX5_many 58 = .ok (.aload_n 0, 1) := by decide +kernel
theorem dX5_many_59 : decode cX5_many 59 = .ok (.getfield 10, 3) := by decide +kernel
theorem dX5_many_62 : decode cX5_many 62 = .ok (.getfield 48, 3) := by decide +kernel
theorem dX5_many_65 : decode cX5_many 65 = .ok (.invokestatic 175, 3) := by decide +kernel
theorem dX5_many_68 : decode cX5_many 68 = .ok (.imul, 1) := by decide +kernel
theorem dX5_many_69 : decode cX5_many 69 = .ok (.ireturn, 1) := by decide +kernel
theorem dX5_many_70 : decode cX5_many 70 = .ok (.aload_n 0, 1) := by decide +kernel
theorem dX5_many_71 : decode cX5_many 71 = .ok (.getfield 26, 3) := by decide +kernel
theorem dX5_many_74 : decode cX5_many 74 = .ok (.aload_n 0, 1) := by decide +kernel
theorem dX5_many_75 : decode cX5_many 75 = .ok (.getfield 10, 3) := by decide +kernel
theorem dX5_many_78 : decode cX5_many 78 = .ok (.getfield 86, 3) := by decide +kernel
theorem dX5_many_81 : decode cX5_many 81 = .ok (.invokevirtual 180, 3) := by decide +kernel
theorem dX5_many_84 : decode cX5_many 84 = .ok (.ireturn, 1) := by decide +kernel
theorem dX5_many_85 : decode cX5_many 85 = .ok (.aload_n 0, 1) := by decide +kernel
theorem dX5_many_86 : decode cX5_many 86 = .ok (.getfield 26, 3) := by decide +kernel
theorem dX5_many_89 : decode cX5_many 89 = .ok (.aload_n 0, 1) := by decide +kernel
theorem dX5_many_90 : decode cX5_many 90 = .ok (.getfield 10, 3) := by decide +kernel
theorem dX5_many_93 : decode cX5_many 93 = .ok (.getfield 86, 3) := by decide +kernel
theorem dX5_many_96 : decode cX5_many 96 = .ok (.invokevirtual 183, 3) := by decide +kernel
theorem dX5_many_99 : decode cX5_many 99 = .ok (.ireturn, 1) := by decide +kernel
theorem dX5_many_100 : decode cX5_many 100 = .ok (.aload_n 0, 1) := by decide +kernel
theorem dX5_many_101 : decode cX5_many 101 = .ok (.getfield 26, 3) := by decide +kernel
theorem dX5_many_104 : decode cX5_many 104 = .ok (.aload_n 0, 1) := by decide +kernel
theorem dX5_many_105 : decode cX5_many 105 = .ok (.getfield 10, 3) := by decide +kernel
theorem dX5_many_108 : decode cX5_many 108 = .ok (.getfield 86, 3) := by decide +kernel
theorem dX5_many_111 : decode cX5_many 111 = .ok (.invokevirtual 186, 3) := by decide +kernel
theorem dX5_many_114 : decode cX5_many 114 = .ok (.ireturn, 1) := by decide +kernel
theorem dX5_many_115 : decode cX5_many 115 = .ok (.aload_n 0, 1) := by decide +kernel
theorem dX5_many_116 : decode cX5_many 116 = .ok (.getfield 36, 3) := by decide +kernel
theorem dX5_many_119 : decode cX5_many 119 = .ok (.invokevirtual 153, 3) := by decide +kernel
theorem dX5_many_122 : decode cX5_many 122 = .ok (.ifCond .eq 20, 3) := by decide +kernel
theorem dX5_many_125 : decode cX5_many 125 = .ok (.aload_n 0, 1) := by decide +kernel
theorem dX5_many_126 : decode cX5_many 126 = .ok (.getfield 36, 3) := by decide +kernel
theorem dX5_many_129 : decode cX5_many 129 = .ok (.aload_n 0, 1) := by decide +kernel
theorem dX5_many_130 : decode cX5_many 130 = .ok (.getfield 36, 3) := by decide +kernel
theorem dX5_many_133 : decode cX5_many 133 = .ok (.getfield 157, 3) := by decide +kernel
theorem dX5_many_136 : decode cX5_many 136 = .ok (.invokevirtual 189, 3) := by decide +kernel
theorem dX5_many_139 : decode cX5_many 139 = .ok (.goto 4, 3) := by decide +kernel
theorem dX5_many_142 : decode cX5_many 142 = .ok (.iconst 0, 1) := by decide +kernel
theorem dX5_many_143 : decode cX5_many 143 = .ok (.ireturn, 1) := by decide +kernel
theorem dX5_many_144 : decode cX5_many 144 = .ok (.aload_n 0, 1) := by decide +kernel
theorem dX5_many_145 : decode cX5_many 145 = .ok (.getfield 10, 3) := by decide +kernel
theorem dX5_many_148 : decode cX5_many 148 = .ok (.getfield 44, 3) := by decide +kernel
theorem dX5_many_151 : decode cX5_many 151 = .ok (.ireturn, 1) := by decide +kernel
theorem dX5_many_152 : decode cX5_many 152 = .ok (.aload_n 0, 1) := by decide +kernel
theorem dX5_many_153 : decode cX5_many 153 = .ok (.getfield 10, 3) := by decide +kernel
theorem dX5_many_156 : decode cX5_many 156 = .ok (.getfield 48, 3) := by decide +kernel
theorem dX5_many_159 : decode cX5_many 159 = .ok (.ireturn, 1) := by decide +kernel
theorem dX5_many_160 : decode cX5_many 160 = .ok (.iconst (-1), 1) := by decide +kernel
theorem dX5_many_161 : decode cX5_many 161 = .ok (.ireturn, 1) := by decide +kernel
theorem dX5_keep_0 : decode cX5_keep 0 = .ok (.aload_n 0, 1) := by decide +kernel
theorem dX5_keep_1 : decode cX5_keep 1 = .ok (.getfield 16, 3) := by decide +kernel
theorem dX5_keep_4 : decode cX5_keep 4 = .ok (.aload_n 0, 1) := by decide +kernel
theorem dX5_keep_5 : decode cX5_keep 5 = .ok (.getfield 10, 3) := by decide +kernel
theorem dX5_keep_8 : decode cX5_keep 8 = .ok (.invokevirtual 192, 3) := by decide +kernel
theorem dX5_keep_11 : decode cX5_keep 11 = .ok (.aload_n 0, 1) := by decide +kernel
theorem dX5_keep_12 : decode cX5_keep 12 = .ok (.iconst 1, 1) := by decide +kernel
theorem dX5_keep_13 : decode cX5_keep 13 = .ok (.putfield 19, 3) := by decide +kernel
theorem dX5_keep_16 : decode cX5_keep 16 = .ok (.iconst 1, 1) := by decide +kernel
theorem dX5_keep_17 : decode cX5_keep 17 = .ok (.ireturn, 1) := by decide +kernel
theorem dX5_back_0 : decode cX5_back 0 = .ok (.aload_n 0, 1) := by decide +kernel
theorem dX5_back_1 : decode cX5_back 1 = .ok (.getfield 19, 3) := by decide +kernel
theorem dX5_back_4 : decode cX5_back 4 = .ok (.ifCond .ne 6, 3) := by decide +kernel
theorem dX5_back_7 : decode cX5_back 7 = .ok (.bipush (-3), 2) := by decide +kernel
theorem dX5_back_9 : decode cX5_back 9 = .ok (.ireturn, 1) := by decide +kernel
theorem dX5_back_10 : decode cX5_back 10 = .ok (.aload_n 0, 1) := by decide +kernel
theorem dX5_back_11 : decode cX5_back 11 = .ok (.getfield 10, 3) := by decide +kernel
theorem dX5_back_14 : decode cX5_back 14 = .ok (.aload_n 0, 1) := by decide +kernel
theorem dX5_back_15 : decode cX5_back 15 = .ok (.getfield 16, 3) := by decide +kernel
theorem dX5_back_18 : decode cX5_back 18 = .ok (.invokevirtual 192, 3) := by decide +kernel
theorem dX5_back_21 : decode cX5_back 21 = .ok (.aload_n 0, 1) := by decide +kernel
theorem dX5_back_22 : decode cX5_back 22 = .ok (.getfield 26, 3) := by decide +kernel
theorem dX5_back_25 : decode cX5_back 25 = .ok (.aload_n 0, 1) := by decide +kernel
theorem dX5_back_26 : decode cX5_back 26 = .ok (.getfield 10, 3) := by decide +kernel
theorem dX5_back_29 : decode cX5_back 29 = .ok (.getfield 44, 3) := by decide +kernel
theorem dX5_back_32 : decode cX5_back 32 = .ok (.aload_n 0, 1) := by decide +kernel
theorem dX5_back_33 : decode cX5_back 33 = .ok (.getfield 10, 3) := by decide +kernel
theorem dX5_back_36 : decode cX5_back 36 = .ok (.getfield 48, 3) := by decide +kernel
theorem dX5_back_39 : decode cX5_back 39 = .ok (.aload_n 0, 1) := by decide +kernel
theorem dX5_back_40 : decode cX5_back 40 = .ok (.getfield 10, 3) := by decide +kernel
theorem dX5_back_43 : decode cX5_back 43 = .ok (.invokevirtual 51, 3) := by decide +kernel
theorem dX5_back_46 : decode cX5_back 46 = .ok (.aload_n 0, 1) := by decide +kernel
theorem dX5_back_47 : decode cX5_back 47 = .ok (.invokevirtual 55, 3) := by decide +kernel
theorem dX5_back_50 : decode cX5_back 50 = .ok (.iconst 1, 1) := by decide +kernel
theorem dX5_back_51 : decode cX5_back 51 = .ok (.ireturn, 1) := by decide +kernel
theorem dX5_isSystem_0 : decode cX5_isSystem 0 = .ok (.iload_n 0, 1) := by decide +kernel
theorem dX5_isSystem_1 : decode cX5_isSystem 1 = .ok (.ifCond .lt 23, 3) := by decide +kernel
theorem dX5_isSystem_4 : decode cX5_isSystem 4 = .ok (.iload_n 0, 1) := by decide +kernel
theorem dX5_isSystem_5 : decode cX5_isSystem 5 = .ok (.bipush 12, 2) := by decide +kernel
theorem dX5_isSystem_7 : decode cX5_isSystem 7 = .ok (.if_icmp .ge 17, 3) := by decide +kernel
theorem dX5_isSystem_10 : decode cX5_isSystem 10 = .ok (.iload_n 1, 1) := by decide +kernel
theorem dX5_isSystem_11 : decode cX5_isSystem 11 = .ok (.ifCond .lt 13, 3) := by decide +kernel
theorem dX5_isSystem_14 : decode cX5_isSystem 14 = .ok (.iload_n 1, 1) := by decide +kernel
theorem dX5_isSystem_15 : decode cX5_isSystem 15 = .ok (.bipush 63, 2) := by decide +kernel
theorem dX5_isSystem_17 : decode cX5_isSystem 17 = .ok (.if_icmp .gt 7, 3) := by decide +kernel
theorem dX5_isSystem_20 : decode cX5_isSystem 20 = .ok (.iconst 1, 1) := by decide +kernel
theorem dX5_isSystem_21 : decode cX5_isSystem 21 = .ok (.goto 4, 3) := by decide +kernel
theorem dX5_isSystem_24 : decode cX5_isSystem 24 = .ok (.iconst 0, 1) := by decide +kernel
theorem dX5_isSystem_25 : decode cX5_isSystem 25 = .ok (.ireturn, 1) := by decide +kernel
theorem dX5_isBeat_0 : decode cX5_isBeat 0 = .ok (.iload_n 0, 1) := by decide +kernel
theorem dX5_isBeat_1 : decode cX5_isBeat 1 = .ok (.ifCond .lt 45, 3) := by decide +kernel
theorem dX5_isBeat_4 : decode cX5_isBeat 4 = .ok (.iload_n 0, 1) := by decide +kernel
theorem dX5_isBeat_5 : decode cX5_isBeat 5 = .ok (.sipush 4095, 3) := by decide +kernel
theorem dX5_isBeat_8 : decode cX5_isBeat 8 = .ok (.if_icmp .gt 38, 3) := by decide +kernel
theorem dX5_isBeat_11 : decode cX5_isBeat 11 = .ok (.iload_n 1, 1) := by decide +kernel
theorem dX5_isBeat_12 : decode cX5_isBeat 12 = .ok (.iconst (-1), 1) := by decide +kernel
theorem dX5_isBeat_13 : decode cX5_isBeat 13 = .ok (.if_icmp .lt 33, 3) := by decide +kernel
theorem dX5_isBeat_16 : decode cX5_isBeat 16 = .ok (.iload_n 1, 1) := by decide +kernel
theorem dX5_isBeat_17 : decode cX5_isBeat 17 = .ok (.bipush 12, 2) := by decide +kernel
theorem dX5_isBeat_19 : decode cX5_isBeat 19 = .ok (.if_icmp .ge 27, 3) := by decide +kernel
theorem dX5_isBeat_22 : decode cX5_isBeat 22 = .ok (.iload_n 2, 1) := by decide +kernel
theorem dX5_isBeat_23 : decode cX5_isBeat 23 = .ok (.iconst 1, 1) := by decide +kernel
theorem dX5_isBeat_24 : decode cX5_isBeat 24 = .ok (.if_icmp .lt 22, 3) := by decide +kernel
theorem dX5_isBeat_27 : decode cX5_isBeat 27 = .ok (.iload_n 2, 1) := by decide +kernel
theorem dX5_isBeat_28 : decode cX5_isBeat 28 = .ok (.bipush 8, 2) := by decide +kernel
theorem dX5_isBeat_30 : decode cX5_isBeat 30 = .ok (.if_icmp .gt 16, 3) := by decide +kernel
theorem dX5_isBeat_33 : decode cX5_isBeat 33 = .ok (.iload_n 3, 1) := by decide +kernel
theorem dX5_isBeat_34 : decode cX5_isBeat 34 = .ok (.ifCond .lt 12, 3) := by decide +kernel
theorem dX5_isBeat_37 : decode cX5_isBeat 37 = .ok (.iload_n 3, 1) := by decide +kernel
theorem dX5_isBeat_38 : decode cX5_isBeat 38 = .ok (.iconst 3, 1) := by decide +kernel
theorem dX5_isBeat_39 : decode cX5_isBeat 39 = .ok (.if_icmp .gt 7, 3) := by decide +kernel
theorem dX5_isBeat_42 : decode cX5_isBeat 42 = .ok (.iconst 1, 1) := by decide +kernel
theorem dX5_isBeat_43 : decode cX5_isBeat 43 = .ok (.goto 4, 3) := by decide +kernel
theorem dX5_isBeat_46 : decode cX5_isBeat 46 = .ok (.iconst 0, 1) := by decide +kernel
theorem dX5_isBeat_47 : decode cX5_isBeat 47 = .ok (.ireturn, 1) := by decide +kernel
theorem dX5_rootOf_0 : decode cX5_rootOf 0 = .ok (.iload_n 0, 1) := by decide +kernel
theorem dX5_rootOf_1 : decode cX5_rootOf 1 = .ok (.bipush 7, 2) := by decide +kernel
theorem dX5_rootOf_3 : decode cX5_rootOf 3 = .ok (.iload_n 1, 1) := by decide +kernel
theorem dX5_rootOf_4 : decode cX5_rootOf 4 = .ok (.imul, 1) := by decide +kernel
theorem dX5_rootOf_5 : decode cX5_rootOf 5 = .ok (.iadd, 1) := by decide +kernel
theorem dX5_rootOf_6 : decode cX5_rootOf 6 = .ok (.bipush 12, 2) := by decide +kernel
theorem dX5_rootOf_8 : decode cX5_rootOf 8 = .ok (.irem, 1) := by decide +kernel
theorem dX5_rootOf_9 : decode cX5_rootOf 9 = .ok (.ireturn, 1) := by decide +kernel
theorem dX5_setRegister_0 : decode cX5_setRegister 0 = .ok (.iload_n 1, 1) := by decide +kernel
theorem dX5_setRegister_1 : decode cX5_setRegister 1 = .ok (.iconst 1, 1) := by decide +kernel
theorem dX5_setRegister_2 : decode cX5_setRegister 2 = .ok (.if_icmp .lt 8, 3) := by decide +kernel
theorem dX5_setRegister_5 : decode cX5_setRegister 5 = .ok (.iload_n 1, 1) := by decide +kernel
theorem dX5_setRegister_6 : decode cX5_setRegister 6 = .ok (.iconst 3, 1) := by decide +kernel
theorem dX5_setRegister_7 : decode cX5_setRegister 7 = .ok (.if_icmp .le 5, 3) := by decide +kernel
theorem dX5_setRegister_10 : decode cX5_setRegister 10 = .ok (.iconst (-1), 1) := by decide +kernel
theorem dX5_setRegister_11 : decode cX5_setRegister 11 = .ok (.ireturn, 1) := by decide +kernel
theorem dX5_setRegister_12 : decode cX5_setRegister 12 = .ok (.aload_n 0, 1) := by decide +kernel
theorem dX5_setRegister_13 : decode cX5_setRegister 13 = .ok (.getfield 10, 3) := by decide +kernel
theorem dX5_setRegister_16 : decode cX5_setRegister 16 = .ok (.getfield 196, 3) := by decide +kernel
theorem dX5_setRegister_19 : decode cX5_setRegister 19 = .ok (.istore_n 2, 1) := by decide +kernel
theorem dX5_setRegister_20 : decode cX5_setRegister 20 = .ok (.aload_n 0, 1) := by decide +kernel
theorem dX5_setRegister_21 : decode cX5_setRegister 21 = .ok (.getfield 10, 3) := by decide +kernel
theorem dX5_setRegister_24 : decode cX5_setRegister 24 = .ok (.iload_n 1, 1) := by decide +kernel
theorem dX5_setRegister_25 : decode cX5_setRegister 25 = .ok (.putfield 196, 3) := by decide +kernel
theorem dX5_setRegister_28 : decode cX5_setRegister 28 = .ok (.aload_n 0, 1) := by decide +kernel
theorem dX5_setRegister_29 : decode cX5_setRegister 29 = .ok (.invokevirtual 199, 3) := by decide +kernel
theorem dX5_setRegister_32 : decode cX5_setRegister 32 = .ok (.iload_n 2, 1) := by decide +kernel
theorem dX5_setRegister_33 : decode cX5_setRegister 33 = .ok (.ireturn, 1) := by decide +kernel
theorem dX5_setRoom_0 : decode cX5_setRoom 0 = .ok (.iload_n 1, 1) := by decide +kernel
theorem dX5_setRoom_1 : decode cX5_setRoom 1 = .ok (.iconst 1, 1) := by decide +kernel
theorem dX5_setRoom_2 : decode cX5_setRoom 2 = .ok (.if_icmp .lt 21, 3) := by decide +kernel
theorem dX5_setRoom_5 : decode cX5_setRoom 5 = .ok (.iload_n 1, 1) := by decide +kernel
theorem dX5_setRoom_6 : decode cX5_setRoom 6 = .ok (.sipush 400, 3) := by decide +kernel
theorem dX5_setRoom_9 : decode cX5_setRoom 9 = .ok (.if_icmp .gt 14, 3) := by decide +kernel
theorem dX5_setRoom_12 : decode cX5_setRoom 12 = .ok (.iload_n 1, 1) := by decide +kernel
theorem dX5_setRoom_13 : decode cX5_setRoom 13 = .ok (.aload_n 0, 1) := by decide +kernel
theorem dX5_setRoom_14 : decode cX5_setRoom 14 = .ok (.getfield 10, 3) := by decide +kernel
theorem dX5_setRoom_17 : decode cX5_setRoom 17 = .ok (.getfield 163, 3) := by decide +kernel
theorem dX5_setRoom_20 : decode cX5_setRoom 20 = .ok (.if_icmp .ge 5, 3) := by decide +kernel
theorem dX5_setRoom_23 : decode cX5_setRoom 23 = .ok (.iconst (-1), 1) := by decide +kernel
theorem dX5_setRoom_24 : decode cX5_setRoom 24 = .ok (.ireturn, 1) := by decide +kernel
theorem dX5_setRoom_25 : decode cX5_setRoom 25 = .ok (.aload_n 0, 1) := by decide +kernel
theorem dX5_setRoom_26 : decode cX5_setRoom 26 = .ok (.getfield 10, 3) := by decide +kernel
theorem dX5_setRoom_29 : decode cX5_setRoom 29 = .ok (.getfield 202, 3) := by decide +kernel
theorem dX5_setRoom_32 : decode cX5_setRoom 32 = .ok (.istore_n 2, 1) := by decide +kernel
theorem dX5_setRoom_33 : decode cX5_setRoom 33 = .ok (.aload_n 0, 1) := by decide +kernel
theorem dX5_setRoom_34 : decode cX5_setRoom 34 = .ok (.getfield 10, 3) := by decide +kernel
theorem dX5_setRoom_37 : decode cX5_setRoom 37 = .ok (.iload_n 1, 1) := by decide +kernel
theorem dX5_setRoom_38 : decode cX5_setRoom 38 = .ok (.putfield 202, 3) := by decide +kernel
theorem dX5_setRoom_41 : decode cX5_setRoom 41 = .ok (.aload_n 0, 1) := by decide +kernel
theorem dX5_setRoom_42 : decode cX5_setRoom 42 = .ok (.invokevirtual 199, 3) := by decide +kernel
theorem dX5_setRoom_45 : decode cX5_setRoom 45 = .ok (.iload_n 2, 1) := by decide +kernel
theorem dX5_setRoom_46 : decode cX5_setRoom 46 = .ok (.ireturn, 1) := by decide +kernel
theorem dX5_setStart_0 : decode cX5_setStart 0 = .ok (.iload_n 1, 1) := by decide +kernel
theorem dX5_setStart_1 : decode cX5_setStart 1 = .ok (.ifCond .lt 14, 3) := by decide +kernel
theorem dX5_setStart_4 : decode cX5_setStart 4 = .ok (.iload_n 1, 1) := by decide +kernel
theorem dX5_setStart_5 : decode cX5_setStart 5 = .ok (.aload_n 0, 1) := by decide +kernel
theorem dX5_setStart_6 : decode cX5_setStart 6 = .ok (.getfield 10, 3) := by decide +kernel
theorem dX5_setStart_9 : decode cX5_setStart 9 = .ok (.getfield 202, 3) := by decide +kernel
theorem dX5_setStart_12 : decode cX5_setStart 12 = .ok (.if_icmp .le 5, 3) := by decide +kernel
theorem dX5_setStart_15 : decode cX5_setStart 15 = .ok (.iconst (-1), 1) := by decide +kernel
theorem dX5_setStart_16 : decode cX5_setStart 16 = .ok (.ireturn, 1) := by decide +kernel
theorem dX5_setStart_17 : decode cX5_setStart 17 = .ok (.aload_n 0, 1) := by decide +kernel
theorem dX5_setStart_18 : decode cX5_setStart 18 = .ok (.getfield 10, 3) := by decide +kernel
theorem dX5_setStart_21 : decode cX5_setStart 21 = .ok (.getfield 163, 3) := by decide +kernel
theorem dX5_setStart_24 : decode cX5_setStart 24 = .ok (.istore_n 2, 1) := by decide +kernel
theorem dX5_setStart_25 : decode cX5_setStart 25 = .ok (.aload_n 0, 1) := by decide +kernel
theorem dX5_setStart_26 : decode cX5_setStart 26 = .ok (.getfield 10, 3) := by decide +kernel
theorem dX5_setStart_29 : decode cX5_setStart 29 = .ok (.iload_n 1, 1) := by decide +kernel
theorem dX5_setStart_30 : decode cX5_setStart 30 = .ok (.putfield 163, 3) := by decide +kernel
theorem dX5_setStart_33 : decode cX5_setStart 33 = .ok (.aload_n 0, 1) := by decide +kernel
theorem dX5_setStart_34 : decode cX5_setStart 34 = .ok (.invokevirtual 199, 3) := by decide +kernel
theorem dX5_setStart_37 : decode cX5_setStart 37 = .ok (.iload_n 2, 1) := by decide +kernel
theorem dX5_setStart_38 : decode cX5_setStart 38 = .ok (.ireturn, 1) := by decide +kernel
theorem dX5_settleBeat_0 : decode cX5_settleBeat 0 = .ok (.aload_n 0, 1) := by decide +kernel
theorem dX5_settleBeat_1 : decode cX5_settleBeat 1 = .ok (.getfield 26, 3) := by decide +kernel
theorem dX5_settleBeat_4 : decode cX5_settleBeat 4 = .ok (.getfield 113, 3) := by decide +kernel
theorem dX5_settleBeat_7 : decode cX5_settleBeat 7 = .ok (.iload_n 1, 1) := by decide +kernel
theorem dX5_settleBeat_8 : decode cX5_settleBeat 8 = .ok (.aaload, 1) := by decide +kernel
theorem dX5_settleBeat_9 : decode cX5_settleBeat 9 = .ok (.aload_n 0, 1) := by decide +kernel
theorem dX5_settleBeat_10 : decode cX5_settleBeat 10 = .ok (.getfield 26, 3) := by decide +kernel
theorem dX5_settleBeat_13 : decode cX5_settleBeat 13 = .ok (.getfield 58, 3) := by decide +kernel
theorem dX5_settleBeat_16 : decode cX5_settleBeat 16 = .ok (.aload_n 0, 1) := by decide +kernel
theorem dX5_settleBeat_17 : decode cX5_settleBeat 17 = .ok (.getfield 10, 3) := by decide +kernel
theorem dX5_settleBeat_20 : decode cX5_settleBeat 20 = .ok (.getfield 101, 3) := by decide +kernel
theorem dX5_settleBeat_23 : decode cX5_settleBeat 23 = .ok (.iload_n 1, 1) := by decide +kernel
theorem dX5_settleBeat_24 : decode cX5_settleBeat 24 = .ok (.iaload, 1) := by decide +kernel
theorem dX5_settleBeat_25 : decode cX5_settleBeat 25 = .ok (.aload_n 0, 1) := by decide +kernel
theorem dX5_settleBeat_26 : decode cX5_settleBeat 26 = .ok (.getfield 10, 3) := by decide +kernel
theorem dX5_settleBeat_29 : decode cX5_settleBeat 29 = .ok (.getfield 104, 3) := by decide +kernel
theorem dX5_settleBeat_32 : decode cX5_settleBeat 32 = .ok (.iload_n 1, 1) := by decide +kernel
theorem dX5_settleBeat_33 : decode cX5_settleBeat 33 = .ok (.iaload, 1) := by decide +kernel
theorem dX5_settleBeat_34 : decode cX5_settleBeat 34 = .ok (.invokevirtual 205, 3) := by decide +kernel
theorem dX5_settleBeat_37 : decode cX5_settleBeat 37 = .ok (.aload_n 0, 1) := by decide +kernel
theorem dX5_settleBeat_38 : decode cX5_settleBeat 38 = .ok (.invokevirtual 55, 3) := by decide +kernel
theorem dX5_settleBeat_41 : decode cX5_settleBeat 41 = .ok (.return_, 1) := by decide +kernel
theorem dX5_settleHand_0 : decode cX5_settleHand 0 = .ok (.aload_n 0, 1) := by decide +kernel
theorem dX5_settleHand_1 : decode cX5_settleHand 1 = .ok (.getfield 26, 3) := by decide +kernel
theorem dX5_settleHand_4 : decode cX5_settleHand 4 = .ok (.aload_n 0, 1) := by decide +kernel
theorem dX5_settleHand_5 : decode cX5_settleHand 5 = .ok (.getfield 10, 3) := by decide +kernel
theorem dX5_settleHand_8 : decode cX5_settleHand 8 = .ok (.getfield 86, 3) := by decide +kernel
theorem dX5_settleHand_11 : decode cX5_settleHand 11 = .ok (.invokevirtual 143, 3) := by decide +kernel
theorem dX5_settleHand_14 : decode cX5_settleHand 14 = .ok (.aload_n 0, 1) := by decide +kernel
theorem dX5_settleHand_15 : decode cX5_settleHand 15 = .ok (.invokevirtual 199, 3) := by decide +kernel
theorem dX5_settleHand_18 : decode cX5_settleHand 18 = .ok (.return_, 1) := by decide +kernel
theorem dX5_settleBellows_0 : decode cX5_settleBellows 0 = .ok (.aload_n 0, 1) := by decide +kernel
theorem dX5_settleBellows_1 : decode cX5_settleBellows 1 = .ok (.getfield 36, 3) := by decide +kernel
theorem dX5_settleBellows_4 : decode cX5_settleBellows 4 = .ok (.aload_n 0, 1) := by decide +kernel
theorem dX5_settleBellows_5 : decode cX5_settleBellows 5 = .ok (.getfield 10, 3) := by decide +kernel
theorem dX5_settleBellows_8 : decode cX5_settleBellows 8 = .ok (.aload_n 0, 1) := by decide +kernel
theorem dX5_settleBellows_9 : decode cX5_settleBellows 9 = .ok (.getfield 26, 3) := by decide +kernel
theorem dX5_settleBellows_12 : decode cX5_settleBellows 12 = .ok (.invokevirtual 209, 3) := by decide +kernel
theorem dX5_settleBellows_15 : decode cX5_settleBellows 15 = .ok (.aload_n 0, 1) := by decide +kernel
theorem dX5_settleBellows_16 : decode cX5_settleBellows 16 = .ok (.getfield 36, 3) := by decide +kernel
theorem dX5_settleBellows_19 : decode cX5_settleBellows 19 = .ok (.aload_n 0, 1) := by decide +kernel
theorem dX5_settleBellows_20 : decode cX5_settleBellows 20 = .ok (.getfield 10, 3) := by decide +kernel
theorem dX5_settleBellows_23 : decode cX5_settleBellows 23 = .ok (.getfield 163, 3) := by decide +kernel
theorem dX5_settleBellows_26 : decode cX5_settleBellows 26 = .ok (.aload_n 0, 1) := by decide +kernel
theorem dX5_settleBellows_27 : decode cX5_settleBellows 27 = .ok (.getfield 10, 3) := by decide +kernel
theorem dX5_settleBellows_30 : decode cX5_settleBellows 30 = .ok (.getfield 202, 3) := by decide +kernel
theorem dX5_settleBellows_33 : decode cX5_settleBellows 33 = .ok (.invokevirtual 213, 3) := by decide +kernel
theorem dX5_settleBellows_36 : decode cX5_settleBellows 36 = .ok (.return_, 1) := by decide +kernel
theorem dJ6_bitCount_0f7a4_0 : decode cJ6_bitCount_0f7a4 0 = .ok (.iload_n 0, 1) := by decide +kernel
theorem dJ6_bitCount_0f7a4_1 : decode cJ6_bitCount_0f7a4 1 = .ok (.iload_n 0, 1) := by decide +kernel
theorem dJ6_bitCount_0f7a4_2 : decode cJ6_bitCount_0f7a4 2 = .ok (.iconst 1, 1) := by decide +kernel
theorem dJ6_bitCount_0f7a4_3 : decode cJ6_bitCount_0f7a4 3 = .ok (.iushr, 1) := by decide +kernel
theorem dJ6_bitCount_0f7a4_4 : decode cJ6_bitCount_0f7a4 4 = .ok (.ldc_w 265, 3) := by decide +kernel
theorem dJ6_bitCount_0f7a4_7 : decode cJ6_bitCount_0f7a4 7 = .ok (.iand, 1) := by decide +kernel
theorem dJ6_bitCount_0f7a4_8 : decode cJ6_bitCount_0f7a4 8 = .ok (.isub, 1) := by decide +kernel
theorem dJ6_bitCount_0f7a4_9 : decode cJ6_bitCount_0f7a4 9 = .ok (.istore_n 0, 1) := by decide +kernel
theorem dJ6_bitCount_0f7a4_10 : decode cJ6_bitCount_0f7a4 10 = .ok (.iload_n 0, 1) := by decide +kernel
theorem dJ6_bitCount_0f7a4_11 : decode cJ6_bitCount_0f7a4 11 = .ok (.ldc_w 266, 3) := by decide +kernel
theorem dJ6_bitCount_0f7a4_14 : decode cJ6_bitCount_0f7a4 14 = .ok (.iand, 1) := by decide +kernel
theorem dJ6_bitCount_0f7a4_15 : decode cJ6_bitCount_0f7a4 15 = .ok (.iload_n 0, 1) := by decide +kernel
theorem dJ6_bitCount_0f7a4_16 : decode cJ6_bitCount_0f7a4 16 = .ok (.iconst 2, 1) := by decide +kernel
theorem dJ6_bitCount_0f7a4_17 : decode cJ6_bitCount_0f7a4 17 = .ok (.iushr, 1) := by decide +kernel
theorem dJ6_bitCount_0f7a4_18 : decode cJ6_bitCount_0f7a4 18 = .ok (.ldc_w 266, 3) := by decide +kernel
theorem dJ6_bitCount_0f7a4_21 : decode cJ6_bitCount_0f7a4 21 = .ok (.iand, 1) := by decide +kernel
theorem dJ6_bitCount_0f7a4_22 : decode cJ6_bitCount_0f7a4 22 = .ok (.iadd, 1) := by decide +kernel
theorem dJ6_bitCount_0f7a4_23 : decode cJ6_bitCount_0f7a4 23 = .ok (.istore_n 0, 1) := by decide +kernel
theorem dJ6_bitCount_0f7a4_24 : decode cJ6_bitCount_0f7a4 24 = .ok (.iload_n 0, 1) := by decide +kernel
theorem dJ6_bitCount_0f7a4_25 : decode cJ6_bitCount_0f7a4 25 = .ok (.iload_n 0, 1) := by decide +kernel
theorem dJ6_bitCount_0f7a4_26 : decode cJ6_bitCount_0f7a4 26 = .ok (.iconst 4, 1) := by decide +kernel
theorem dJ6_bitCount_0f7a4_27 : decode cJ6_bitCount_0f7a4 27 = .ok (.iushr, 1) := by decide +kernel
theorem dJ6_bitCount_0f7a4_28 : decode cJ6_bitCount_0f7a4 28 = .ok (.iadd, 1) := by decide +kernel
theorem dJ6_bitCount_0f7a4_29 : decode cJ6_bitCount_0f7a4 29 = .ok (.ldc_w 267, 3) := by decide +kernel
theorem dJ6_bitCount_0f7a4_32 : decode cJ6_bitCount_0f7a4 32 = .ok (.iand, 1) := by decide +kernel
theorem dJ6_bitCount_0f7a4_33 : decode cJ6_bitCount_0f7a4 33 = .ok (.istore_n 0, 1) := by decide +kernel
theorem dJ6_bitCount_0f7a4_34 : decode cJ6_bitCount_0f7a4 34 = .ok (.iload_n 0, 1) := by decide +kernel
theorem dJ6_bitCount_0f7a4_35 : decode cJ6_bitCount_0f7a4 35 = .ok (.iload_n 0, 1) := by decide +kernel
theorem dJ6_bitCount_0f7a4_36 : decode cJ6_bitCount_0f7a4 36 = .ok (.bipush 8, 2) := by decide +kernel
theorem dJ6_bitCount_0f7a4_38 : decode cJ6_bitCount_0f7a4 38 = .ok (.iushr, 1) := by decide +kernel
theorem dJ6_bitCount_0f7a4_39 : decode cJ6_bitCount_0f7a4 39 = .ok (.iadd, 1) := by decide +kernel
theorem dJ6_bitCount_0f7a4_40 : decode cJ6_bitCount_0f7a4 40 = .ok (.istore_n 0, 1) := by decide +kernel
theorem dJ6_bitCount_0f7a4_41 : decode cJ6_bitCount_0f7a4 41 = .ok (.iload_n 0, 1) := by decide +kernel
theorem dJ6_bitCount_0f7a4_42 : decode cJ6_bitCount_0f7a4 42 = .ok (.iload_n 0, 1) := by decide +kernel
theorem dJ6_bitCount_0f7a4_43 : decode cJ6_bitCount_0f7a4 43 = .ok (.bipush 16, 2) := by decide +kernel
theorem dJ6_bitCount_0f7a4_45 : decode cJ6_bitCount_0f7a4 45 = .ok (.iushr, 1) := by decide +kernel
theorem dJ6_bitCount_0f7a4_46 : decode cJ6_bitCount_0f7a4 46 = .ok (.iadd, 1) := by decide +kernel
theorem dJ6_bitCount_0f7a4_47 : decode cJ6_bitCount_0f7a4 47 = .ok (.istore_n 0, 1) := by decide +kernel
theorem dJ6_bitCount_0f7a4_48 : decode cJ6_bitCount_0f7a4 48 = .ok (.iload_n 0, 1) := by decide +kernel
theorem dJ6_bitCount_0f7a4_49 : decode cJ6_bitCount_0f7a4 49 = .ok (.bipush 63, 2) := by decide +kernel
theorem dJ6_bitCount_0f7a4_51 : decode cJ6_bitCount_0f7a4 51 = .ok (.iand, 1) := by decide +kernel
theorem dJ6_bitCount_0f7a4_52 : decode cJ6_bitCount_0f7a4 52 = .ok (.ireturn, 1) := by decide +kernel
theorem dJ9_abs_0f7a4_0 : decode cJ9_abs_0f7a4 0 = .ok (.iload_n 0, 1) := by decide +kernel
theorem dJ9_abs_0f7a4_1 : decode cJ9_abs_0f7a4 1 = .ok (.ifCond .ge 8, 3) := by decide +kernel
theorem dJ9_abs_0f7a4_4 : decode cJ9_abs_0f7a4 4 = .ok (.iload_n 0, 1) := by decide +kernel
theorem dJ9_abs_0f7a4_5 : decode cJ9_abs_0f7a4 5 = .ok (.ineg, 1) := by decide +kernel
theorem dJ9_abs_0f7a4_6 : decode cJ9_abs_0f7a4 6 = .ok (.goto 4, 3) := by decide +kernel
theorem dJ9_abs_0f7a4_9 : decode cJ9_abs_0f7a4 9 = .ok (.iload_n 0, 1) := by decide +kernel
theorem dJ9_abs_0f7a4_10 : decode cJ9_abs_0f7a4 10 = .ok (.ireturn, 1) := by decide +kernel
theorem dJ9_max_7cf53_0 : decode cJ9_max_7cf53 0 = .ok (.iload_n 0, 1) := by decide +kernel
theorem dJ9_max_7cf53_1 : decode cJ9_max_7cf53 1 = .ok (.iload_n 1, 1) := by decide +kernel
theorem dJ9_max_7cf53_2 : decode cJ9_max_7cf53 2 = .ok (.if_icmp .lt 7, 3) := by decide +kernel
theorem dJ9_max_7cf53_5 : decode cJ9_max_7cf53 5 = .ok (.iload_n 0, 1) := by decide +kernel
theorem dJ9_max_7cf53_6 : decode cJ9_max_7cf53 6 = .ok (.goto 4, 3) := by decide +kernel
theorem dJ9_max_7cf53_9 : decode cJ9_max_7cf53 9 = .ok (.iload_n 1, 1) := by decide +kernel
theorem dJ9_max_7cf53_10 : decode cJ9_max_7cf53 10 = .ok (.ireturn, 1) := by decide +kernel
theorem dJ9_min_7cf53_0 : decode cJ9_min_7cf53 0 = .ok (.iload_n 0, 1) := by decide +kernel
theorem dJ9_min_7cf53_1 : decode cJ9_min_7cf53 1 = .ok (.iload_n 1, 1) := by decide +kernel
theorem dJ9_min_7cf53_2 : decode cJ9_min_7cf53 2 = .ok (.if_icmp .gt 7, 3) := by decide +kernel
theorem dJ9_min_7cf53_5 : decode cJ9_min_7cf53 5 = .ok (.iload_n 0, 1) := by decide +kernel
theorem dJ9_min_7cf53_6 : decode cJ9_min_7cf53 6 = .ok (.goto 4, 3) := by decide +kernel
theorem dJ9_min_7cf53_9 : decode cJ9_min_7cf53 9 = .ok (.iload_n 1, 1) := by decide +kernel
theorem dJ9_min_7cf53_10 : decode cJ9_min_7cf53 10 = .ok (.ireturn, 1) := by decide +kernel
