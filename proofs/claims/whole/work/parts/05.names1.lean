theorem dX1_init_0 : decode cX1_init 0 = .ok (.aload_n 0, 1) := by decide +kernel
theorem dX1_init_1 : decode cX1_init 1 = .ok (.invokespecial 1, 3) := by decide +kernel
theorem dX1_init_4 : decode cX1_init 4 = .ok (.aload_n 0, 1) := by decide +kernel
theorem dX1_init_5 : decode cX1_init 5 = .ok (.iconst 3, 1) := by decide +kernel
theorem dX1_init_6 : decode cX1_init 6 = .ok (.putfield 7, 3) := by decide +kernel
theorem dX1_init_9 : decode cX1_init 9 = .ok (.aload_n 0, 1) := by decide +kernel
theorem dX1_init_10 : decode cX1_init 10 = .ok (.iconst 3, 1) := by decide +kernel
theorem dX1_init_11 : decode cX1_init 11 = .ok (.putfield 13, 3) := by decide +kernel
theorem dX1_init_14 : decode cX1_init 14 = .ok (.aload_n 0, 1) := by decide +kernel
theorem dX1_init_15 : decode cX1_init 15 = .ok (.bipush 6, 2) := by decide +kernel
theorem dX1_init_17 : decode cX1_init 17 = .ok (.newarray .int, 2) := by decide +kernel
theorem dX1_init_19 : decode cX1_init 19 = .ok (.putfield 16, 3) := by decide +kernel
theorem dX1_init_22 : decode cX1_init 22 = .ok (.aload_n 0, 1) := by decide +kernel
theorem dX1_init_23 : decode cX1_init 23 = .ok (.bipush 6, 2) := by decide +kernel
theorem dX1_init_25 : decode cX1_init 25 = .ok (.newarray .int, 2) := by decide +kernel
theorem dX1_init_27 : decode cX1_init 27 = .ok (.putfield 20, 3) := by decide +kernel
theorem dX1_init_30 : decode cX1_init 30 = .ok (.aload_n 0, 1) := by decide +kernel
theorem dX1_init_31 : decode cX1_init 31 = .ok (.bipush 6, 2) := by decide +kernel
theorem dX1_init_33 : decode cX1_init 33 = .ok (.newarray .int, 2) := by decide +kernel
theorem dX1_init_35 : decode cX1_init 35 = .ok (.putfield 23, 3) := by decide +kernel
theorem dX1_init_38 : decode cX1_init 38 = .ok (.aload_n 0, 1) := by decide +kernel
theorem dX1_init_39 : decode cX1_init 39 = .ok (.bipush 25, 2) := by decide +kernel
theorem dX1_init_41 : decode cX1_init 41 = .ok (.newarray .boolean, 2) := by decide +kernel
theorem dX1_init_43 : decode cX1_init 43 = .ok (.putfield 26, 3) := by decide +kernel
theorem dX1_init_46 : decode cX1_init 46 = .ok (.aload_n 0, 1) := by decide +kernel
theorem dX1_init_47 : decode cX1_init 47 = .ok (.sipush 500, 3) := by decide +kernel
theorem dX1_init_50 : decode cX1_init 50 = .ok (.newarray .int, 2) := by decide +kernel
theorem dX1_init_52 : decode cX1_init 52 = .ok (.putfield 30, 3) := by decide +kernel
theorem dX1_init_55 : decode cX1_init 55 = .ok (.aload_n 0, 1) := by decide +kernel
theorem dX1_init_56 : decode cX1_init 56 = .ok (.sipush 500, 3) := by decide +kernel
theorem dX1_init_59 : decode cX1_init 59 = .ok (.newarray .int, 2) := by decide +kernel
theorem dX1_init_61 : decode cX1_init 61 = .ok (.putfield 33, 3) := by decide +kernel
theorem dX1_init_64 : decode cX1_init 64 = .ok (.aload_n 0, 1) := by decide +kernel
theorem dX1_init_65 : decode cX1_init 65 = .ok (.bipush 6, 2) := by decide +kernel
theorem dX1_init_67 : decode cX1_init 67 = .ok (.newarray .int, 2) := by decide +kernel
theorem dX1_init_69 : decode cX1_init 69 = .ok (.putfield 36, 3) := by decide +kernel
theorem dX1_init_72 : decode cX1_init 72 = .ok (.aload_n 0, 1) := by decide +kernel
theorem dX1_init_73 : decode cX1_init 73 = .ok (.sipush 15625, 3) := by decide +kernel
theorem dX1_init_76 : decode cX1_init 76 = .ok (.newarray .int, 2) := by decide +kernel
theorem dX1_init_78 : decode cX1_init 78 = .ok (.putfield 39, 3) := by decide +kernel
theorem dX1_init_81 : decode cX1_init 81 = .ok (.aload_n 0, 1) := by decide +kernel
theorem dX1_init_82 : decode cX1_init 82 = .ok (.sipush 15625, 3) := by decide +kernel
theorem dX1_init_85 : decode cX1_init 85 = .ok (.newarray .int, 2) := by decide +kernel
theorem dX1_init_87 : decode cX1_init 87 = .ok (.putfield 42, 3) := by decide +kernel
theorem dX1_init_90 : decode cX1_init 90 = .ok (.aload_n 0, 1) := by decide +kernel
theorem dX1_init_91 : decode cX1_init 91 = .ok (.bipush 63, 2) := by decide +kernel
theorem dX1_init_93 : decode cX1_init 93 = .ok (.newarray .int, 2) := by decide +kernel
theorem dX1_init_95 : decode cX1_init 95 = .ok (.putfield 45, 3) := by decide +kernel
theorem dX1_init_98 : decode cX1_init 98 = .ok (.aload_n 0, 1) := by decide +kernel
theorem dX1_init_99 : decode cX1_init 99 = .ok (.iconst 3, 1) := by decide +kernel
theorem dX1_init_100 : decode cX1_init 100 = .ok (.iconst 3, 1) := by decide +kernel
theorem dX1_init_101 : decode cX1_init 101 = .ok (.invokevirtual 48, 3) := by decide +kernel
theorem dX1_init_104 : decode cX1_init 104 = .ok (.return_, 1) := by decide +kernel
theorem dX1_thrown_0 : decode cX1_thrown 0 = .ok (.aload_n 0, 1) := by decide +kernel
theorem dX1_thrown_1 : decode cX1_thrown 1 = .ok (.getfield 52, 3) := by decide +kernel
theorem dX1_thrown_4 : decode cX1_thrown 4 = .ok (.ireturn, 1) := by decide +kernel
theorem dX1_goesWell_0 : decode cX1_goesWell 0 = .ok (.aload_n 0, 1) := by decide +kernel
theorem dX1_goesWell_1 : decode cX1_goesWell 1 = .ok (.iload_n 1, 1) := by decide +kernel
theorem dX1_goesWell_2 : decode cX1_goesWell 2 = .ok (.putfield 52, 3) := by decide +kernel
theorem dX1_goesWell_5 : decode cX1_goesWell 5 = .ok (.iload_n 1, 1) := by decide +kernel
theorem dX1_goesWell_6 : decode cX1_goesWell 6 = .ok (.ifCond .ne 7, 3) := by decide +kernel
theorem dX1_goesWell_9 : decode cX1_goesWell 9 = .ok (.iconst 1, 1) := by decide +kernel
theorem dX1_goesWell_10 : decode cX1_goesWell 10 = .ok (.goto 4, 3) := by decide +kernel
theorem dX1_goesWell_13 : decode cX1_goesWell 13 = .ok (.iconst 0, 1) := by decide +kernel
theorem dX1_goesWell_14 : decode cX1_goesWell 14 = .ok (.ireturn, 1) := by decide +kernel
theorem dX1_in_0 : decode cX1_in 0 = .ok (.iload_n 0, 1) := by decide +kernel
theorem dX1_in_1 : decode cX1_in 1 = .ok (.iload_n 1, 1) := by decide +kernel
theorem dX1_in_2 : decode cX1_in 2 = .ok (.if_icmp .lt 12, 3) := by decide +kernel
theorem dX1_in_5 : decode cX1_in 5 = .ok (.iload_n 0, 1) := by decide +kernel
theorem dX1_in_6 : decode cX1_in 6 = .ok (.iload_n 2, 1) := by decide +kernel
theorem dX1_in_7 : decode cX1_in 7 = .ok (.if_icmp .gt 7, 3) := by decide +kernel
theorem dX1_in_10 : decode cX1_in 10 = .ok (.iconst 1, 1) := by decide +kernel
theorem dX1_in_11 : decode cX1_in 11 = .ok (.goto 4, 3) := by decide +kernel
theorem dX1_in_14 : decode cX1_in 14 = .ok (.iconst 0, 1) := by decide +kernel
theorem dX1_in_15 : decode cX1_in 15 = .ok (.ireturn, 1) := by decide +kernel
theorem dX1_isDisk_0 : decode cX1_isDisk 0 = .ok (.iload_n 1, 1) := by decide +kernel
theorem dX1_isDisk_1 : decode cX1_isDisk 1 = .ok (.iconst 0, 1) := by decide +kernel
theorem dX1_isDisk_2 : decode cX1_isDisk 2 = .ok (.aload_n 0, 1) := by decide +kernel
theorem dX1_isDisk_3 : decode cX1_isDisk 3 = .ok (.getfield 13, 3) := by decide +kernel
theorem dX1_isDisk_6 : decode cX1_isDisk 6 = .ok (.iconst 1, 1) := by decide +kernel
theorem dX1_isDisk_7 : decode cX1_isDisk 7 = .ok (.isub, 1) := by decide +kernel
theorem dX1_isDisk_8 : decode cX1_isDisk 8 = .ok (.invokestatic 55, 3) := by decide +kernel
theorem dX1_isDisk_11 : decode cX1_isDisk 11 = .ok (.ireturn, 1) := by decide +kernel
theorem dX1_isPeg_0 : decode cX1_isPeg 0 = .ok (.iload_n 1, 1) := by decide +kernel
theorem dX1_isPeg_1 : decode cX1_isPeg 1 = .ok (.iconst 0, 1) := by decide +kernel
theorem dX1_isPeg_2 : decode cX1_isPeg 2 = .ok (.aload_n 0, 1) := by decide +kernel
theorem dX1_isPeg_3 : decode cX1_isPeg 3 = .ok (.getfield 7, 3) := by decide +kernel
theorem dX1_isPeg_6 : decode cX1_isPeg 6 = .ok (.iconst 1, 1) := by decide +kernel
theorem dX1_isPeg_7 : decode cX1_isPeg 7 = .ok (.isub, 1) := by decide +kernel
theorem dX1_isPeg_8 : decode cX1_isPeg 8 = .ok (.invokestatic 55, 3) := by decide +kernel
theorem dX1_isPeg_11 : decode cX1_isPeg 11 = .ok (.ireturn, 1) := by decide +kernel
theorem dX1_all_0 : decode cX1_all 0 = .ok (.iconst 1, 1) := by decide +kernel
theorem dX1_all_1 : decode cX1_all 1 = .ok (.istore_n 1, 1) := by decide +kernel
theorem dX1_all_2 : decode cX1_all 2 = .ok (.iconst 0, 1) := by decide +kernel
theorem dX1_all_3 : decode cX1_all 3 = .ok (.istore_n 2, 1) := by decide +kernel
theorem dX1_all_4 : decode cX1_all 4 = .ok (.iload_n 2, 1) := by decide +kernel
theorem dX1_all_5 : decode cX1_all 5 = .ok (.aload_n 0, 1) := by decide +kernel
theorem dX1_all_6 : decode cX1_all 6 = .ok (.getfield 13, 3) := by decide +kernel
theorem dX1_all_9 : decode cX1_all 9 = .ok (.if_icmp .ge 16, 3) := by decide +kernel
theorem dX1_all_12 : decode cX1_all 12 = .ok (.iload_n 1, 1) := by decide +kernel
theorem dX1_all_13 : decode cX1_all 13 = .ok (.aload_n 0, 1) := by decide +kernel
theorem dX1_all_14 : decode cX1_all 14 = .ok (.getfield 7, 3) := by decide +kernel
theorem dX1_all_17 : decode cX1_all 17 = .ok (.imul, 1) := by decide +kernel
theorem dX1_all_18 : decode cX1_all 18 = .ok (.istore_n 1, 1) := by decide +kernel
theorem dX1_all_19 : decode cX1_all 19 = .ok (.iinc 2 1, 3) := by decide +kernel
theorem dX1_all_22 : decode cX1_all 22 = .ok (.goto (-18), 3) := by decide +kernel
theorem dX1_all_25 : decode cX1_all 25 = .ok (.iload_n 1, 1) := by decide +kernel
theorem dX1_all_26 : decode cX1_all 26 = .ok (.ireturn, 1) := by decide +kernel
theorem dX1_lay_0 : decode cX1_lay 0 = .ok (.aload_n 0, 1) := by decide +kernel
theorem dX1_lay_1 : decode cX1_lay 1 = .ok (.iload_n 1, 1) := by decide +kernel
theorem dX1_lay_2 : decode cX1_lay 2 = .ok (.putfield 7, 3) := by decide +kernel
theorem dX1_lay_5 : decode cX1_lay 5 = .ok (.aload_n 0, 1) := by decide +kernel
theorem dX1_lay_6 : decode cX1_lay 6 = .ok (.iload_n 2, 1) := by decide +kernel
theorem dX1_lay_7 : decode cX1_lay 7 = .ok (.putfield 13, 3) := by decide +kernel
theorem dX1_lay_10 : decode cX1_lay 10 = .ok (.iconst 0, 1) := by decide +kernel
theorem dX1_lay_11 : decode cX1_lay 11 = .ok (.istore_n 3, 1) := by decide +kernel
theorem dX1_lay_12 : decode cX1_lay 12 = .ok (.iload_n 3, 1) := by decide +kernel
theorem dX1_lay_13 : decode cX1_lay 13 = .ok (.bipush 6, 2) := by decide +kernel
theorem dX1_lay_15 : decode cX1_lay 15 = .ok (.if_icmp .ge 32, 3) := by decide +kernel
theorem dX1_lay_18 : decode cX1_lay 18 = .ok (.aload_n 0, 1) := by decide +kernel
theorem dX1_lay_19 : decode cX1_lay 19 = .ok (.getfield 16, 3) := by decide +kernel
theorem dX1_lay_22 : decode cX1_lay 22 = .ok (.iload_n 3, 1) := by decide +kernel
theorem dX1_lay_23 : decode cX1_lay 23 = .ok (.iconst 0, 1) := by decide +kernel
theorem dX1_lay_24 : decode cX1_lay 24 = .ok (.iastore, 1) := by decide +kernel
theorem dX1_lay_25 : decode cX1_lay 25 = .ok (.aload_n 0, 1) := by decide +kernel
theorem dX1_lay_26 : decode cX1_lay 26 = .ok (.getfield 20, 3) := by decide +kernel
theorem dX1_lay_29 : decode cX1_lay 29 = .ok (.iload_n 3, 1) := by decide +kernel
theorem dX1_lay_30 : decode cX1_lay 30 = .ok (.iload_n 1, 1) := by decide +kernel
theorem dX1_lay_31 : decode cX1_lay 31 = .ok (.iconst 1, 1) := by decide +kernel
theorem dX1_lay_32 : decode cX1_lay 32 = .ok (.isub, 1) := by decide +kernel
theorem dX1_lay_33 : decode cX1_lay 33 = .ok (.iastore, 1) := by decide +kernel
theorem dX1_lay_34 : decode cX1_lay 34 = .ok (.aload_n 0, 1) := by decide +kernel
theorem dX1_lay_35 : decode cX1_lay 35 = .ok (.getfield 23, 3) := by decide +kernel
theorem dX1_lay_38 : decode cX1_lay 38 = .ok (.iload_n 3, 1) := by decide +kernel
theorem dX1_lay_39 : decode cX1_lay 39 = .ok (.iconst 0, 1) := by decide +kernel
theorem dX1_lay_40 : decode cX1_lay 40 = .ok (.iastore, 1) := by decide +kernel
theorem dX1_lay_41 : decode cX1_lay 41 = .ok (.iinc 3 1, 3) := by decide +kernel
theorem dX1_lay_44 : decode cX1_lay 44 = .ok (.goto (-32), 3) := by decide +kernel
theorem dX1_lay_47 : decode cX1_lay 47 = .ok (.iconst 0, 1) := by decide +kernel
theorem dX1_lay_48 : decode cX1_lay 48 = .ok (.istore_n 3, 1) := by decide +kernel
theorem dX1_lay_49 : decode cX1_lay 49 = .ok (.iload_n 3, 1) := by decide +kernel
theorem dX1_lay_50 : decode cX1_lay 50 = .ok (.bipush 25, 2) := by decide +kernel
theorem dX1_lay_52 : decode cX1_lay 52 = .ok (.if_icmp .ge 16, 3) := by decide +kernel
theorem dX1_lay_55 : decode cX1_lay 55 = .ok (.aload_n 0, 1) := by decide +kernel
theorem dX1_lay_56 : decode cX1_lay 56 = .ok (.getfield 26, 3) := by decide +kernel
theorem dX1_lay_59 : decode cX1_lay 59 = .ok (.iload_n 3, 1) := by decide +kernel
theorem dX1_lay_60 : decode cX1_lay 60 = .ok (.iconst 0, 1) := by decide +kernel
theorem dX1_lay_61 : decode cX1_lay 61 = .ok (.bastore, 1) := by decide +kernel
theorem dX1_lay_62 : decode cX1_lay 62 = .ok (.iinc 3 1, 3) := by decide +kernel
theorem dX1_lay_65 : decode cX1_lay 65 = .ok (.goto (-16), 3) := by decide +kernel
theorem dX1_lay_68 : decode cX1_lay 68 = .ok (.aload_n 0, 1) := by decide +kernel
theorem dX1_lay_69 : decode cX1_lay 69 = .ok (.iconst 0, 1) := by decide +kernel
theorem dX1_lay_70 : decode cX1_lay 70 = .ok (.putfield 59, 3) := by decide +kernel
theorem dX1_lay_73 : decode cX1_lay 73 = .ok (.aload_n 0, 1) := by decide +kernel
theorem dX1_lay_74 : decode cX1_lay 74 = .ok (.iconst 0, 1) := by decide +kernel
theorem dX1_lay_75 : decode cX1_lay 75 = .ok (.putfield 63, 3) := by decide +kernel
theorem dX1_lay_78 : decode cX1_lay 78 = .ok (.return_, 1) := by decide +kernel
theorem dX1_begin_0 : decode cX1_begin 0 = .ok (.aload_n 0, 1) := by decide +kernel
theorem dX1_begin_1 : decode cX1_begin 1 = .ok (.iload_n 1, 1) := by decide +kernel
theorem dX1_begin_2 : decode cX1_begin 2 = .ok (.iconst 3, 1) := by decide +kernel
theorem dX1_begin_3 : decode cX1_begin 3 = .ok (.iconst 5, 1) := by decide +kernel
theorem dX1_begin_4 : decode cX1_begin 4 = .ok (.invokestatic 55, 3) := by decide +kernel
theorem dX1_begin_7 : decode cX1_begin 7 = .ok (.ifCond .eq 17, 3) := by decide +kernel
theorem dX1_begin_10 : decode cX1_begin 10 = .ok (.iload_n 2, 1) := by decide +kernel
theorem dX1_begin_11 : decode cX1_begin 11 = .ok (.iconst 1, 1) := by decide +kernel
theorem dX1_begin_12 : decode cX1_begin 12 = .ok (.bipush 6, 2) := by decide +kernel
theorem dX1_begin_14 : decode cX1_begin 14 = .ok (.invokestatic 55, 3) := by decide +kernel
theorem dX1_begin_17 : decode cX1_begin 17 = .ok (.ifCond .eq 7, 3) := by decide +kernel
theorem dX1_begin_20 : decode cX1_begin 20 = .ok (.iconst 0, 1) := by decide +kernel
theorem dX1_begin_21 : decode cX1_begin 21 = .ok (.goto 4, 3) := by decide +kernel
theorem dX1_begin_24 : decode cX1_begin 24 = .ok (.iconst 1, 1) := by decide +kernel
theorem dX1_begin_25 : decode cX1_begin 25 = .ok (.invokevirtual 66, 3) := by decide +kernel
theorem dX1_begin_28 : decode cX1_begin 28 = .ok (.ifCond .ne 5, 3) := by decide +kernel
theorem dX1_begin_31 : decode cX1_begin 31 = .ok (.iconst 0, 1) := by decide +kernel
theorem dX1_begin_32 : decode cX1_begin 32 = .ok (.ireturn, 1) := by decide +kernel
theorem dX1_begin_33 : decode cX1_begin 33 = .ok (.aload_n 0, 1) := by decide +kernel
theorem dX1_begin_34 : decode cX1_begin 34 = .ok (.iload_n 1, 1) := by decide +kernel
theorem dX1_begin_35 : decode cX1_begin 35 = .ok (.iload_n 2, 1) := by decide +kernel
theorem dX1_begin_36 : decode cX1_begin 36 = .ok (.invokevirtual 48, 3) := by decide +kernel
theorem dX1_begin_39 : decode cX1_begin 39 = .ok (.aload_n 0, 1) := by decide +kernel
theorem dX1_begin_40 : decode cX1_begin 40 = .ok (.invokevirtual 70, 3) := by decide +kernel
theorem dX1_begin_43 : decode cX1_begin 43 = .ok (.ireturn, 1) := by decide +kernel
theorem dX1_put_0 : decode cX1_put 0 = .ok (.aload_n 0, 1) := by decide +kernel
theorem dX1_put_1 : decode cX1_put 1 = .ok (.aload_n 0, 1) := by decide +kernel
theorem dX1_put_2 : decode cX1_put 2 = .ok (.iload_n 1, 1) := by decide +kernel
theorem dX1_put_3 : decode cX1_put 3 = .ok (.invokevirtual 74, 3) := by decide +kernel
theorem dX1_put_6 : decode cX1_put 6 = .ok (.ifCond .eq 11, 3) := by decide +kernel
theorem dX1_put_9 : decode cX1_put 9 = .ok (.aload_n 0, 1) := by decide +kernel
theorem dX1_put_10 : decode cX1_put 10 = .ok (.iload_n 2, 1) := by decide +kernel
theorem dX1_put_11 : decode cX1_put 11 = .ok (.invokevirtual 77, 3) := by decide +kernel
theorem dX1_put_14 : decode cX1_put 14 = .ok (.ifCond .ne 7, 3) := by decide +kernel
theorem dX1_put_17 : decode cX1_put 17 = .ok (.iconst 1, 1) := by decide +kernel
theorem dX1_put_18 : decode cX1_put 18 = .ok (.goto 15, 3) := by decide +kernel
theorem dX1_put_21 : decode cX1_put 21 = .ok (.aload_n 0, 1) := by decide +kernel
theorem dX1_put_22 : decode cX1_put 22 = .ok (.getfield 63, 3) := by decide +kernel
theorem dX1_put_25 : decode cX1_put 25 = .ok (.ifCond .le 7, 3) := by decide +kernel
theorem dX1_put_28 : decode cX1_put 28 = .ok (.iconst 2, 1) := by decide +kernel
theorem dX1_put_29 : decode cX1_put 29 = .ok (.goto 4, 3) := by decide +kernel
theorem dX1_put_32 : decode cX1_put 32 = .ok (.iconst 0, 1) := by decide +kernel
theorem dX1_put_33 : decode cX1_put 33 = .ok (.invokevirtual 66, 3) := by decide +kernel
theorem dX1_put_36 : decode cX1_put 36 = .ok (.ifCond .ne 5, 3) := by decide +kernel
theorem dX1_put_39 : decode cX1_put 39 = .ok (.iconst 0, 1) := by decide +kernel
theorem dX1_put_40 : decode cX1_put 40 = .ok (.ireturn, 1) := by decide +kernel
theorem dX1_put_41 : decode cX1_put 41 = .ok (.aload_n 0, 1) := by decide +kernel
theorem dX1_put_42 : decode cX1_put 42 = .ok (.getfield 16, 3) := by decide +kernel
theorem dX1_put_45 : decode cX1_put 45 = .ok (.iload_n 1, 1) := by decide +kernel
theorem dX1_put_46 : decode cX1_put 46 = .ok (.iaload, 1) := by decide +kernel
theorem dX1_put_47 : decode cX1_put 47 = .ok (.istore_n 3, 1) := by decide +kernel
theorem dX1_put_48 : decode cX1_put 48 = .ok (.aload_n 0, 1) := by decide +kernel
theorem dX1_put_49 : decode cX1_put 49 = .ok (.getfield 16, 3) := by decide +kernel
theorem dX1_put_52 : decode cX1_put 52 = .ok (.iload_n 1, 1) := by decide +kernel
theorem dX1_put_53 : decode cX1_put 53 = .ok (.iload_n 2, 1) := by decide +kernel
theorem dX1_put_54 : decode cX1_put 54 = .ok (.iastore, 1) := by decide +kernel
theorem dX1_put_55 : decode cX1_put 55 = .ok (.iload_n 3, 1) := by decide +kernel
theorem dX1_put_56 : decode cX1_put 56 = .ok (.ireturn, 1) := by decide +kernel
theorem dX1_aim_0 : decode cX1_aim 0 = .ok (.aload_n 0, 1) := by decide +kernel
theorem dX1_aim_1 : decode cX1_aim 1 = .ok (.aload_n 0, 1) := by decide +kernel
theorem dX1_aim_2 : decode cX1_aim 2 = .ok (.iload_n 1, 1) := by decide +kernel
theorem dX1_aim_3 : decode cX1_aim 3 = .ok (.invokevirtual 74, 3) := by decide +kernel
theorem dX1_aim_6 : decode cX1_aim 6 = .ok (.ifCond .eq 15, 3) := by decide +kernel
theorem dX1_aim_9 : decode cX1_aim 9 = .ok (.aload_n 0, 1) := by decide +kernel
theorem dX1_aim_10 : decode cX1_aim 10 = .ok (.iload_n 2, 1) := by decide +kernel
theorem dX1_aim_11 : decode cX1_aim 11 = .ok (.invokevirtual 77, 3) := by decide +kernel
theorem dX1_aim_14 : decode cX1_aim 14 = .ok (.ifCond .eq 7, 3) := by decide +kernel
theorem dX1_aim_17 : decode cX1_aim 17 = .ok (.iconst 0, 1) := by decide +kernel
theorem dX1_aim_18 : decode cX1_aim 18 = .ok (.goto 4, 3) := by decide +kernel
theorem dX1_aim_21 : decode cX1_aim 21 = .ok (.iconst 1, 1) := by decide +kernel
theorem dX1_aim_22 : decode cX1_aim 22 = .ok (.invokevirtual 66, 3) := by decide +kernel
theorem dX1_aim_25 : decode cX1_aim 25 = .ok (.ifCond .ne 5, 3) := by decide +kernel
theorem dX1_aim_28 : decode cX1_aim 28 = .ok (.iconst 0, 1) := by decide +kernel
theorem dX1_aim_29 : decode cX1_aim 29 = .ok (.ireturn, 1) := by decide +kernel
theorem dX1_aim_30 : decode cX1_aim 30 = .ok (.aload_n 0, 1) := by decide +kernel
theorem dX1_aim_31 : decode cX1_aim 31 = .ok (.getfield 20, 3) := by decide +kernel
theorem dX1_aim_34 : decode cX1_aim 34 = .ok (.iload_n 1, 1) := by decide +kernel
theorem dX1_aim_35 : decode cX1_aim 35 = .ok (.iaload, 1) := by decide +kernel
theorem dX1_aim_36 : decode cX1_aim 36 = .ok (.istore_n 3, 1) := by decide +kernel
theorem dX1_aim_37 : decode cX1_aim 37 = .ok (.aload_n 0, 1) := by decide +kernel
theorem dX1_aim_38 : decode cX1_aim 38 = .ok (.getfield 20, 3) := by decide +kernel
theorem dX1_aim_41 : decode cX1_aim 41 = .ok (.iload_n 1, 1) := by decide +kernel
theorem dX1_aim_42 : decode cX1_aim 42 = .ok (.iload_n 2, 1) := by decide +kernel
theorem dX1_aim_43 : decode cX1_aim 43 = .ok (.iastore, 1) := by decide +kernel
theorem dX1_aim_44 : decode cX1_aim 44 = .ok (.iload_n 3, 1) := by decide +kernel
theorem dX1_aim_45 : decode cX1_aim 45 = .ok (.ireturn, 1) := by decide +kernel
theorem dX1_allow_0 : decode cX1_allow 0 = .ok (.aload_n 0, 1) := by decide +kernel
theorem dX1_allow_1 : decode cX1_allow 1 = .ok (.aload_n 0, 1) := by decide +kernel
theorem dX1_allow_2 : decode cX1_allow 2 = .ok (.iload_n 1, 1) := by decide +kernel
theorem dX1_allow_3 : decode cX1_allow 3 = .ok (.invokevirtual 77, 3) := by decide +kernel
theorem dX1_allow_6 : decode cX1_allow 6 = .ok (.ifCond .eq 11, 3) := by decide +kernel
theorem dX1_allow_9 : decode cX1_allow 9 = .ok (.aload_n 0, 1) := by decide +kernel
theorem dX1_allow_10 : decode cX1_allow 10 = .ok (.iload_n 2, 1) := by decide +kernel
theorem dX1_allow_11 : decode cX1_allow 11 = .ok (.invokevirtual 77, 3) := by decide +kernel
theorem dX1_allow_14 : decode cX1_allow 14 = .ok (.ifCond .ne 7, 3) := by decide +kernel
theorem dX1_allow_17 : decode cX1_allow 17 = .ok (.iconst 1, 1) := by decide +kernel
theorem dX1_allow_18 : decode cX1_allow 18 = .ok (.goto 13, 3) := by decide +kernel
theorem dX1_allow_21 : decode cX1_allow 21 = .ok (.iload_n 1, 1) := by decide +kernel
theorem dX1_allow_22 : decode cX1_allow 22 = .ok (.iload_n 2, 1) := by decide +kernel
theorem dX1_allow_23 : decode cX1_allow 23 = .ok (.if_icmp .ne 7, 3) := by decide +kernel
theorem dX1_allow_26 : decode cX1_allow 26 = .ok (.iconst 2, 1) := by decide +kernel
theorem dX1_allow_27 : decode cX1_allow 27 = .ok (.goto 4, 3) := by decide +kernel
theorem dX1_allow_30 : decode cX1_allow 30 = .ok (.iconst 0, 1) := by decide +kernel
theorem dX1_allow_31 : decode cX1_allow 31 = .ok (.invokevirtual 66, 3) := by decide +kernel
theorem dX1_allow_34 : decode cX1_allow 34 = .ok (.ifCond .ne 5, 3) := by decide +kernel
theorem dX1_allow_37 : decode cX1_allow 37 = .ok (.iconst 0, 1) := by decide +kernel
theorem dX1_allow_38 : decode cX1_allow 38 = .ok (.ireturn, 1) := by decide +kernel
theorem dX1_allow_39 : decode cX1_allow 39 = .ok (.aload_n 0, 1) := by decide +kernel
theorem dX1_allow_40 : decode cX1_allow 40 = .ok (.getfield 26, 3) := by decide +kernel
theorem dX1_allow_43 : decode cX1_allow 43 = .ok (.iconst 5, 1) := by decide +kernel
theorem dX1_allow_44 : decode cX1_allow 44 = .ok (.iload_n 1, 1) := by decide +kernel
theorem dX1_allow_45 : decode cX1_allow 45 = .ok (.imul, 1) := by decide +kernel
theorem dX1_allow_46 : decode cX1_allow 46 = .ok (.iload_n 2, 1) := by decide +kernel
theorem dX1_allow_47 : decode cX1_allow 47 = .ok (.iadd, 1) := by decide +kernel
theorem dX1_allow_48 : decode cX1_allow 48 = .ok (.baload, 1) := by decide +kernel
theorem dX1_allow_49 : decode cX1_allow 49 = .ok (.ifCond .ne 7, 3) := by decide +kernel
theorem dX1_allow_52 : decode cX1_allow 52 = .ok (.iconst 1, 1) := by decide +kernel
theorem dX1_allow_53 : decode cX1_allow 53 = .ok (.goto 4, 3) := by decide +kernel
theorem dX1_allow_56 : decode cX1_allow 56 = .ok (.iconst 0, 1) := by decide +kernel
theorem dX1_allow_57 : decode cX1_allow 57 = .ok (.istore 4, 2) := by decide +kernel
theorem dX1_allow_59 : decode cX1_allow 59 = .ok (.aload_n 0, 1) := by decide +kernel
theorem dX1_allow_60 : decode cX1_allow 60 = .ok (.getfield 26, 3) := by decide +kernel
theorem dX1_allow_63 : decode cX1_allow 63 = .ok (.iconst 5, 1) := by decide +kernel
theorem dX1_allow_64 : decode cX1_allow 64 = .ok (.iload_n 1, 1) := by decide +kernel
theorem dX1_allow_65 : decode cX1_allow 65 = .ok (.imul, 1) := by decide +kernel
theorem dX1_allow_66 : decode cX1_allow 66 = .ok (.iload_n 2, 1) := by decide +kernel
theorem dX1_allow_67 : decode cX1_allow 67 = .ok (.iadd, 1) := by decide +kernel
theorem dX1_allow_68 : decode cX1_allow 68 = .ok (.iload_n 3, 1) := by decide +kernel
theorem dX1_allow_69 : decode cX1_allow 69 = .ok (.ifCond .ne 7, 3) := by decide +kernel
theorem dX1_allow_72 : decode cX1_allow 72 = .ok (.iconst 1, 1) := by decide +kernel
theorem dX1_allow_73 : decode cX1_allow 73 = .ok (.goto 4, 3) := by decide +kernel
theorem dX1_allow_76 : decode cX1_allow 76 = .ok (.iconst 0, 1) := by decide +kernel
theorem dX1_allow_77 : decode cX1_allow 77 = .ok (.bastore, 1) := by decide +kernel
theorem dX1_allow_78 : decode cX1_allow 78 = .ok (.iload 4, 2) := by decide +kernel
theorem dX1_allow_80 : decode cX1_allow 80 = .ok (.ireturn, 1) := by decide +kernel
theorem dX1_setColour_0 : decode cX1_setColour 0 = .ok (.aload_n 0, 1) := by decide +kernel
theorem dX1_setColour_1 : decode cX1_setColour 1 = .ok (.aload_n 0, 1) := by decide +kernel
theorem dX1_setColour_2 : decode cX1_setColour 2 = .ok (.iload_n 1, 1) := by decide +kernel
theorem dX1_setColour_3 : decode cX1_setColour 3 = .ok (.invokevirtual 74, 3) := by decide +kernel
theorem dX1_setColour_6 : decode cX1_setColour 6 = .ok (.ifCond .ne 7, 3) := by decide +kernel
theorem dX1_setColour_9 : decode cX1_setColour 9 = .ok (.iconst 1, 1) := by decide +kernel
theorem dX1_setColour_10 : decode cX1_setColour 10 = .ok (.goto 17, 3) := by decide +kernel
theorem dX1_setColour_13 : decode cX1_setColour 13 = .ok (.iload_n 2, 1) := by decide +kernel
theorem dX1_setColour_14 : decode cX1_setColour 14 = .ok (.iconst 0, 1) := by decide +kernel
theorem dX1_setColour_15 : decode cX1_setColour 15 = .ok (.iconst 1, 1) := by decide +kernel
theorem dX1_setColour_16 : decode cX1_setColour 16 = .ok (.invokestatic 55, 3) := by decide +kernel
theorem dX1_setColour_19 : decode cX1_setColour 19 = .ok (.ifCond .eq 7, 3) := by decide +kernel
theorem dX1_setColour_22 : decode cX1_setColour 22 = .ok (.iconst 0, 1) := by decide +kernel
theorem dX1_setColour_23 : decode cX1_setColour 23 = .ok (.goto 4, 3) := by decide +kernel
theorem dX1_setColour_26 : decode cX1_setColour 26 = .ok (.iconst 2, 1) := by decide +kernel
theorem dX1_setColour_27 : decode cX1_setColour 27 = .ok (.invokevirtual 66, 3) := by decide +kernel
theorem dX1_setColour_30 : decode cX1_setColour 30 = .ok (.ifCond .ne 5, 3) := by decide +kernel
theorem dX1_setColour_33 : decode cX1_setColour 33 = .ok (.iconst 0, 1) := by decide +kernel
theorem dX1_setColour_34 : decode cX1_setColour 34 = .ok (.ireturn, 1) := by decide +kernel
theorem dX1_setColour_35 : decode cX1_setColour 35 = .ok (.aload_n 0, 1) := by decide +kernel
theorem dX1_setColour_36 : decode cX1_setColour 36 = .ok (.getfield 23, 3) := by decide +kernel
theorem dX1_setColour_39 : decode cX1_setColour 39 = .ok (.iload_n 1, 1) := by decide +kernel
theorem dX1_setColour_40 : decode cX1_setColour 40 = .ok (.iaload, 1) := by decide +kernel
theorem dX1_setColour_41 : decode cX1_setColour 41 = .ok (.istore_n 3, 1) := by decide +kernel
theorem dX1_setColour_42 : decode cX1_setColour 42 = .ok (.aload_n 0, 1) := by decide +kernel
theorem dX1_setColour_43 : decode cX1_setColour 43 = .ok (.getfield 23, 3) := by decide +kernel
theorem dX1_setColour_46 : decode cX1_setColour 46 = .ok (.iload_n 1, 1) := by decide +kernel
theorem dX1_setColour_47 : decode cX1_setColour 47 = .ok (.iload_n 2, 1) := by decide +kernel
theorem dX1_setColour_48 : decode cX1_setColour 48 = .ok (.iastore, 1) := by decide +kernel
theorem dX1_setColour_49 : decode cX1_setColour 49 = .ok (.iload_n 3, 1) := by decide +kernel
theorem dX1_setColour_50 : decode cX1_setColour 50 = .ok (.ireturn, 1) := by decide +kernel
theorem dX1_setRule_0 : decode cX1_setRule 0 = .ok (.aload_n 0, 1) := by decide +kernel
theorem dX1_setRule_1 : decode cX1_setRule 1 = .ok (.iconst 0, 1) := by decide +kernel
theorem dX1_setRule_2 : decode cX1_setRule 2 = .ok (.putfield 52, 3) := by decide +kernel
theorem dX1_setRule_5 : decode cX1_setRule 5 = .ok (.aload_n 0, 1) := by decide +kernel
theorem dX1_setRule_6 : decode cX1_setRule 6 = .ok (.getfield 59, 3) := by decide +kernel
theorem dX1_setRule_9 : decode cX1_setRule 9 = .ok (.istore_n 2, 1) := by decide +kernel
theorem dX1_setRule_10 : decode cX1_setRule 10 = .ok (.aload_n 0, 1) := by decide +kernel
theorem dX1_setRule_11 : decode cX1_setRule 11 = .ok (.iload_n 1, 1) := by decide +kernel
theorem dX1_setRule_12 : decode cX1_setRule 12 = .ok (.putfield 59, 3) := by decide +kernel
theorem dX1_setRule_15 : decode cX1_setRule 15 = .ok (.iload_n 2, 1) := by decide +kernel
theorem dX1_setRule_16 : decode cX1_setRule 16 = .ok (.ireturn, 1) := by decide +kernel
theorem dX1_numberOfNow_0 : decode cX1_numberOfNow 0 = .ok (.iconst 0, 1) := by decide +kernel
theorem dX1_numberOfNow_1 : decode cX1_numberOfNow 1 = .ok (.istore_n 1, 1) := by decide +kernel
theorem dX1_numberOfNow_2 : decode cX1_numberOfNow 2 = .ok (.aload_n 0, 1) := by decide +kernel
theorem dX1_numberOfNow_3 : decode cX1_numberOfNow 3 = .ok (.getfield 13, 3) := by decide +kernel
theorem dX1_numberOfNow_6 : decode cX1_numberOfNow 6 = .ok (.iconst 1, 1) := by decide +kernel
theorem dX1_numberOfNow_7 : decode cX1_numberOfNow 7 = .ok (.isub, 1) := by decide +kernel
theorem dX1_numberOfNow_8 : decode cX1_numberOfNow 8 = .ok (.istore_n 2, 1) := by decide +kernel
theorem dX1_numberOfNow_9 : decode cX1_numberOfNow 9 = .ok (.iload_n 2, 1) := by decide +kernel
theorem dX1_numberOfNow_10 : decode cX1_numberOfNow 10 = .ok (.ifCond .lt 23, 3) := by decide +kernel
theorem dX1_numberOfNow_13 : decode cX1_numberOfNow 13 = .ok (.aload_n 0, 1) := by decide +kernel
theorem dX1_numberOfNow_14 : decode cX1_numberOfNow 14 = .ok (.getfield 7, 3) := by decide +kernel
theorem dX1_numberOfNow_17 : decode cX1_numberOfNow 17 = .ok (.iload_n 1, 1) := by decide +kernel
theorem dX1_numberOfNow_18 : decode cX1_numberOfNow 18 = .ok (.imul, 1) := by decide +kernel
theorem dX1_numberOfNow_19 : decode cX1_numberOfNow 19 = .ok (.aload_n 0, 1) := by decide +kernel
theorem dX1_numberOfNow_20 : decode cX1_numberOfNow 20 = .ok (.getfield 16, 3) := by decide +kernel
theorem dX1_numberOfNow_23 : decode cX1_numberOfNow 23 = .ok (.iload_n 2, 1) := by decide +kernel
theorem dX1_numberOfNow_24 : decode cX1_numberOfNow 24 = .ok (.iaload, 1) := by decide +kernel
theorem dX1_numberOfNow_25 : decode cX1_numberOfNow 25 = .ok (.iadd, 1) := by decide +kernel
theorem dX1_numberOfNow_26 : decode cX1_numberOfNow 26 = .ok (.istore_n 1, 1) := by decide +kernel
theorem dX1_numberOfNow_27 : decode cX1_numberOfNow 27 = .ok (.iinc 2 (-1), 3) := by decide +kernel
theorem dX1_numberOfNow_30 : decode cX1_numberOfNow 30 = .ok (.goto (-21), 3) := by decide +kernel
theorem dX1_numberOfNow_33 : decode cX1_numberOfNow 33 = .ok (.iload_n 1, 1) := by decide +kernel
theorem dX1_numberOfNow_34 : decode cX1_numberOfNow 34 = .ok (.ireturn, 1) := by decide +kernel
theorem dX1_numberOfGoal_0 : decode cX1_numberOfGoal 0 = .ok (.iconst 0, 1) := by decide +kernel
theorem dX1_numberOfGoal_1 : decode cX1_numberOfGoal 1 = .ok (.istore_n 1, 1) := by decide +kernel
theorem dX1_numberOfGoal_2 : decode cX1_numberOfGoal 2 = .ok (.aload_n 0, 1) := by decide +kernel
theorem dX1_numberOfGoal_3 : decode cX1_numberOfGoal 3 = .ok (.getfield 13, 3) := by decide +kernel
theorem dX1_numberOfGoal_6 : decode cX1_numberOfGoal 6 = .ok (.iconst 1, 1) := by decide +kernel
theorem dX1_numberOfGoal_7 : decode cX1_numberOfGoal 7 = .ok (.isub, 1) := by decide +kernel
theorem dX1_numberOfGoal_8 : decode cX1_numberOfGoal 8 = .ok (.istore_n 2, 1) := by decide +kernel
theorem dX1_numberOfGoal_9 : decode cX1_numberOfGoal 9 = .ok (.iload_n 2, 1) := by decide +kernel
theorem dX1_numberOfGoal_10 : decode cX1_numberOfGoal 10 = .ok (.ifCond .lt 23, 3) := by decide +kernel
theorem dX1_numberOfGoal_13 : decode cX1_numberOfGoal 13 = .ok (.aload_n 0, 1) := by decide +kernel
theorem dX1_numberOfGoal_14 : decode cX1_numberOfGoal 14 = .ok (.getfield 7, 3) := by decide +kernel
theorem dX1_numberOfGoal_17 : decode cX1_numberOfGoal 17 = .ok (.iload_n 1, 1) := by decide +kernel
theorem dX1_numberOfGoal_18 : decode cX1_numberOfGoal 18 = .ok (.imul, 1) := by decide +kernel
theorem dX1_numberOfGoal_19 : decode cX1_numberOfGoal 19 = .ok (.aload_n 0, 1) := by decide +kernel
theorem dX1_numberOfGoal_20 : decode cX1_numberOfGoal 20 = .ok (.getfield 20, 3) := by decide +kernel
theorem dX1_numberOfGoal_23 : decode cX1_numberOfGoal 23 = .ok (.iload_n 2, 1) := by decide +kernel
theorem dX1_numberOfGoal_24 : decode cX1_numberOfGoal 24 = .ok (.iaload, 1) := by decide +kernel
theorem dX1_numberOfGoal_25 : decode cX1_numberOfGoal 25 = .ok (.iadd, 1) := by decide +kernel
theorem dX1_numberOfGoal_26 : decode cX1_numberOfGoal 26 = .ok (.istore_n 1, 1) := by decide +kernel
theorem dX1_numberOfGoal_27 : decode cX1_numberOfGoal 27 = .ok (.iinc 2 (-1), 3) := by decide +kernel
theorem dX1_numberOfGoal_30 : decode cX1_numberOfGoal 30 = .ok (.goto (-21), 3) := by decide +kernel
theorem dX1_numberOfGoal_33 : decode cX1_numberOfGoal 33 = .ok (.iload_n 1, 1) := by decide +kernel
theorem dX1_numberOfGoal_34 : decode cX1_numberOfGoal 34 = .ok (.ireturn, 1) := by decide +kernel
theorem dX1_open_0 : decode cX1_open 0 = .ok (.iload_n 1, 1) := by decide +kernel
theorem dX1_open_1 : decode cX1_open 1 = .ok (.istore_n 2, 1) := by decide +kernel
theorem dX1_open_2 : decode cX1_open 2 = .ok (.iconst 0, 1) := by decide +kernel
theorem dX1_open_3 : decode cX1_open 3 = .ok (.istore_n 3, 1) := by decide +kernel
theorem dX1_open_4 : decode cX1_open 4 = .ok (.iload_n 3, 1) := by decide +kernel
theorem dX1_open_5 : decode cX1_open 5 = .ok (.aload_n 0, 1) := by decide +kernel
theorem dX1_open_6 : decode cX1_open 6 = .ok (.getfield 13, 3) := by decide +kernel
theorem dX1_open_9 : decode cX1_open 9 = .ok (.if_icmp .ge 28, 3) := by decide +kernel
theorem dX1_open_12 : decode cX1_open 12 = .ok (.aload_n 0, 1) := by decide +kernel
theorem dX1_open_13 : decode cX1_open 13 = .ok (.getfield 36, 3) := by decide +kernel
theorem dX1_open_16 : decode cX1_open 16 = .ok (.iload_n 3, 1) := by decide +kernel
theorem dX1_open_17 : decode cX1_open 17 = .ok (.iload_n 2, 1) := by decide +kernel
theorem dX1_open_18 : decode cX1_open 18 = .ok (.aload_n 0, 1) := by decide +kernel
theorem dX1_open_19 : decode cX1_open 19 = .ok (.getfield 7, 3) := by decide +kernel
theorem dX1_open_22 : decode cX1_open 22 = .ok (.irem, 1) := by decide +kernel
theorem dX1_open_23 : decode cX1_open 23 = .ok (.iastore, 1) := by decide +kernel
theorem dX1_open_24 : decode cX1_open 24 = .ok (.iload_n 2, 1) := by decide +kernel
theorem dX1_open_25 : decode cX1_open 25 = .ok (.aload_n 0, 1) := by decide +kernel
theorem dX1_open_26 : decode cX1_open 26 = .ok (.getfield 7, 3) := by decide +kernel
theorem dX1_open_29 : decode cX1_open 29 = .ok (.idiv, 1) := by decide +kernel
theorem dX1_open_30 : decode cX1_open 30 = .ok (.istore_n 2, 1) := by decide +kernel
theorem dX1_open_31 : decode cX1_open 31 = .ok (.iinc 3 1, 3) := by decide +kernel
theorem dX1_open_34 : decode cX1_open 34 = .ok (.goto (-30), 3) := by decide +kernel
theorem dX1_open_37 : decode cX1_open 37 = .ok (.return_, 1) := by decide +kernel
theorem dX1_topOf_0 : decode cX1_topOf 0 = .ok (.iconst 0, 1) := by decide +kernel
theorem dX1_topOf_1 : decode cX1_topOf 1 = .ok (.istore_n 2, 1) := by decide +kernel
theorem dX1_topOf_2 : decode cX1_topOf 2 = .ok (.iload_n 2, 1) := by decide +kernel
theorem dX1_topOf_3 : decode cX1_topOf 3 = .ok (.aload_n 0, 1) := by decide +kernel
theorem dX1_topOf_4 : decode cX1_topOf 4 = .ok (.getfield 13, 3) := by decide +kernel
theorem dX1_topOf_7 : decode cX1_topOf 7 = .ok (.if_icmp .ge 21, 3) := by decide +kernel
theorem dX1_topOf_10 : decode cX1_topOf 10 = .ok (.aload_n 0, 1) := by decide +kernel
theorem dX1_topOf_11 : decode cX1_topOf 11 = .ok (.getfield 36, 3) := by decide +kernel
theorem dX1_topOf_14 : decode cX1_topOf 14 = .ok (.iload_n 2, 1) := by decide +kernel
theorem dX1_topOf_15 : decode cX1_topOf 15 = .ok (.iaload, 1) := by decide +kernel
theorem dX1_topOf_16 : decode cX1_topOf 16 = .ok (.iload_n 1, 1) := by decide +kernel
theorem dX1_topOf_17 : decode cX1_topOf 17 = .ok (.if_icmp .ne 5, 3) := by decide +kernel
theorem dX1_topOf_20 : decode cX1_topOf 20 = .ok (.iload_n 2, 1) := by decide +kernel
theorem dX1_topOf_21 : decode cX1_topOf 21 = .ok (.ireturn, 1) := by decide +kernel
theorem dX1_topOf_22 : decode cX1_topOf 22 = .ok (.iinc 2 1, 3) := by decide +kernel
theorem dX1_topOf_25 : decode cX1_topOf 25 = .ok (.goto (-23), 3) := by decide +kernel
theorem dX1_topOf_28 : decode cX1_topOf 28 = .ok (.iconst (-1), 1) := by decide +kernel
theorem dX1_topOf_29 : decode cX1_topOf 29 = .ok (.ireturn, 1) := by decide +kernel
theorem dX1_isFine_0 : decode cX1_isFine 0 = .ok (.iconst 1, 1) := by decide +kernel
theorem dX1_isFine_1 : decode cX1_isFine 1 = .ok (.istore_n 1, 1) := by decide +kernel
theorem dX1_isFine_2 : decode cX1_isFine 2 = .ok (.iconst 0, 1) := by decide +kernel
theorem dX1_isFine_3 : decode cX1_isFine 3 = .ok (.istore_n 2, 1) := by decide +kernel
theorem dX1_isFine_4 : decode cX1_isFine 4 = .ok (.iload_n 2, 1) := by decide +kernel
theorem dX1_isFine_5 : decode cX1_isFine 5 = .ok (.aload_n 0, 1) := by decide +kernel
theorem dX1_isFine_6 : decode cX1_isFine 6 = .ok (.getfield 7, 3) := by decide +kernel
theorem dX1_isFine_9 : decode cX1_isFine 9 = .ok (.if_icmp .ge 81, 3) := by decide +kernel
theorem dX1_isFine_12 : decode cX1_isFine 12 = .ok (.aload_n 0, 1) := by decide +kernel
theorem dX1_isFine_13 : decode cX1_isFine 13 = .ok (.getfield 59, 3) := by decide +kernel
theorem dX1_isFine_16 : decode cX1_isFine 16 = .ok (.ifCond .eq 74, 3) := by decide +kernel
theorem dX1_isFine_19 : decode cX1_isFine 19 = .ok (.iconst (-1), 1) := by decide +kernel
theorem dX1_isFine_20 : decode cX1_isFine 20 = .ok (.istore_n 3, 1) := by decide +kernel
theorem dX1_isFine_21 : decode cX1_isFine 21 = .ok (.iconst 0, 1) := by decide +kernel
theorem dX1_isFine_22 : decode cX1_isFine 22 = .ok (.istore 4, 2) := by decide +kernel
theorem dX1_isFine_24 : decode cX1_isFine 24 = .ok (.iload 4, 2) := by decide +kernel
theorem dX1_isFine_26 : decode cX1_isFine 26 = .ok (.aload_n 0, 1) := by decide +kernel
theorem dX1_isFine_27 : decode cX1_isFine 27 = .ok (.getfield 13, 3) := by decide +kernel
theorem dX1_isFine_30 : decode cX1_isFine 30 = .ok (.if_icmp .ge 54, 3) := by decide +kernel
theorem dX1_isFine_33 : decode cX1_isFine 33 = .ok (.aload_n 0, 1) := by decide +kernel
theorem dX1_isFine_34 : decode cX1_isFine 34 = .ok (.getfield 36, 3) := by decide +kernel
theorem dX1_isFine_37 : decode cX1_isFine 37 = .ok (.iload 4, 2) := by decide +kernel
theorem dX1_isFine_39 : decode cX1_isFine 39 = .ok (.iaload, 1) := by decide +kernel
theorem dX1_isFine_40 : decode cX1_isFine 40 = .ok (.iload_n 2, 1) := by decide +kernel
theorem dX1_isFine_41 : decode cX1_isFine 41 = .ok (.if_icmp .ne 37, 3) := by decide +kernel
theorem dX1_isFine_44 : decode cX1_isFine 44 = .ok (.iload_n 1, 1) := by decide +kernel
theorem dX1_isFine_45 : decode cX1_isFine 45 = .ok (.ifCond .eq 28, 3) := by decide +kernel
theorem dX1_isFine_48 : decode cX1_isFine 48 = .ok (.iload_n 3, 1) := by decide +kernel
theorem dX1_isFine_49 : decode cX1_isFine 49 = .ok (.iconst (-1), 1) := by decide +kernel
theorem dX1_isFine_50 : decode cX1_isFine 50 = .ok (.if_icmp .eq 19, 3) := by decide +kernel
theorem dX1_isFine_53 : decode cX1_isFine 53 = .ok (.aload_n 0, 1) := by decide +kernel
theorem dX1_isFine_54 : decode cX1_isFine 54 = .ok (.getfield 23, 3) := by decide +kernel
theorem dX1_isFine_57 : decode cX1_isFine 57 = .ok (.iload_n 3, 1) := by decide +kernel
theorem dX1_isFine_58 : decode cX1_isFine 58 = .ok (.iaload, 1) := by decide +kernel
theorem dX1_isFine_59 : decode cX1_isFine 59 = .ok (.aload_n 0, 1) := by decide +kernel
theorem dX1_isFine_60 : decode cX1_isFine 60 = .ok (.getfield 23, 3) := by decide +kernel
theorem dX1_isFine_63 : decode cX1_isFine 63 = .ok (.iload 4, 2) := by decide +kernel
theorem dX1_isFine_65 : decode cX1_isFine 65 = .ok (.iaload, 1) := by decide +kernel
theorem dX1_isFine_66 : decode cX1_isFine 66 = .ok (.if_icmp .eq 7, 3) := by decide +kernel
theorem dX1_isFine_69 : decode cX1_isFine 69 = .ok (.iconst 1, 1) := by decide +kernel
theorem dX1_isFine_70 : decode cX1_isFine 70 = .ok (.goto 4, 3) := by decide +kernel
theorem dX1_isFine_73 : decode cX1_isFine 73 = .ok (.iconst 0, 1) := by decide +kernel
theorem dX1_isFine_74 : decode cX1_isFine 74 = .ok (.istore_n 1, 1) := by decide +kernel
theorem dX1_isFine_75 : decode cX1_isFine 75 = .ok (.iload 4, 2) := by decide +kernel
theorem dX1_isFine_77 : decode cX1_isFine 77 = .ok (.istore_n 3, 1) := by decide +kernel
theorem dX1_isFine_78 : decode cX1_isFine 78 = .ok (.iinc 4 1, 3) := by decide +kernel
theorem dX1_isFine_81 : decode cX1_isFine 81 = .ok (.goto (-57), 3) := by decide +kernel
theorem dX1_isFine_84 : decode cX1_isFine 84 = .ok (.iinc 2 1, 3) := by decide +kernel
theorem dX1_isFine_87 : decode cX1_isFine 87 = .ok (.goto (-83), 3) := by decide +kernel
theorem dX1_isFine_90 : decode cX1_isFine 90 = .ok (.iload_n 1, 1) := by decide +kernel
theorem dX1_isFine_91 : decode cX1_isFine 91 = .ok (.ireturn, 1) := by decide +kernel
theorem dX1_isLawfulNumber_0 : decode cX1_isLawfulNumber 0 = .ok (.aload_n 0, 1) := by decide +kernel
theorem dX1_isLawfulNumber_1 : decode cX1_isLawfulNumber 1 = .ok (.iload_n 1, 1) := by decide +kernel
theorem dX1_isLawfulNumber_2 : decode cX1_isLawfulNumber 2 = .ok (.invokevirtual 80, 3) := by decide +kernel
theorem dX1_isLawfulNumber_5 : decode cX1_isLawfulNumber 5 = .ok (.aload_n 0, 1) := by decide +kernel
theorem dX1_isLawfulNumber_6 : decode cX1_isLawfulNumber 6 = .ok (.invokevirtual 84, 3) := by decide +kernel
theorem dX1_isLawfulNumber_9 : decode cX1_isLawfulNumber 9 = .ok (.ireturn, 1) := by decide +kernel
theorem dX1_behind_0 : decode cX1_behind 0 = .ok (.aload_n 0, 1) := by decide +kernel
theorem dX1_behind_1 : decode cX1_behind 1 = .ok (.iload_n 1, 1) := by decide +kernel
theorem dX1_behind_2 : decode cX1_behind 2 = .ok (.invokevirtual 80, 3) := by decide +kernel
theorem dX1_behind_5 : decode cX1_behind 5 = .ok (.aload_n 0, 1) := by decide +kernel
theorem dX1_behind_6 : decode cX1_behind 6 = .ok (.iload_n 2, 1) := by decide +kernel
theorem dX1_behind_7 : decode cX1_behind 7 = .ok (.invokevirtual 88, 3) := by decide +kernel
theorem dX1_behind_10 : decode cX1_behind 10 = .ok (.istore 4, 2) := by decide +kernel
theorem dX1_behind_12 : decode cX1_behind 12 = .ok (.aload_n 0, 1) := by decide +kernel
theorem dX1_behind_13 : decode cX1_behind 13 = .ok (.iload_n 3, 1) := by decide +kernel
theorem dX1_behind_14 : decode cX1_behind 14 = .ok (.invokevirtual 88, 3) := by decide +kernel
theorem dX1_behind_17 : decode cX1_behind 17 = .ok (.istore 5, 2) := by decide +kernel
theorem dX1_behind_19 : decode cX1_behind 19 = .ok (.iload_n 2, 1) := by decide +kernel
theorem dX1_behind_20 : decode cX1_behind 20 = .ok (.iload_n 3, 1) := by decide +kernel
theorem dX1_behind_21 : decode cX1_behind 21 = .ok (.if_icmp .eq 35, 3) := by decide +kernel
theorem dX1_behind_24 : decode cX1_behind 24 = .ok (.iload 4, 2) := by decide +kernel
theorem dX1_behind_26 : decode cX1_behind 26 = .ok (.iconst (-1), 1) := by decide +kernel
theorem dX1_behind_27 : decode cX1_behind 27 = .ok (.if_icmp .eq 29, 3) := by decide +kernel
theorem dX1_behind_30 : decode cX1_behind 30 = .ok (.iload 5, 2) := by decide +kernel
theorem dX1_behind_32 : decode cX1_behind 32 = .ok (.iconst (-1), 1) := by decide +kernel
theorem dX1_behind_33 : decode cX1_behind 33 = .ok (.if_icmp .eq 10, 3) := by decide +kernel
theorem dX1_behind_36 : decode cX1_behind 36 = .ok (.iload 5, 2) := by decide +kernel
theorem dX1_behind_38 : decode cX1_behind 38 = .ok (.iload 4, 2) := by decide +kernel
theorem dX1_behind_40 : decode cX1_behind 40 = .ok (.if_icmp .lt 16, 3) := by decide +kernel
theorem dX1_behind_43 : decode cX1_behind 43 = .ok (.aload_n 0, 1) := by decide +kernel
theorem dX1_behind_44 : decode cX1_behind 44 = .ok (.getfield 26, 3) := by decide +kernel
theorem dX1_behind_47 : decode cX1_behind 47 = .ok (.iconst 5, 1) := by decide +kernel
theorem dX1_behind_48 : decode cX1_behind 48 = .ok (.iload_n 2, 1) := by decide +kernel
theorem dX1_behind_49 : decode cX1_behind 49 = .ok (.imul, 1) := by decide +kernel
theorem dX1_behind_50 : decode cX1_behind 50 = .ok (.iload_n 3, 1) := by decide +kernel
theorem dX1_behind_51 : decode cX1_behind 51 = .ok (.iadd, 1) := by decide +kernel
theorem dX1_behind_52 : decode cX1_behind 52 = .ok (.baload, 1) := by decide +kernel
theorem dX1_behind_53 : decode cX1_behind 53 = .ok (.ifCond .eq 5, 3) := by decide +kernel
theorem dX1_behind_56 : decode cX1_behind 56 = .ok (.iconst (-1), 1) := by decide +kernel
theorem dX1_behind_57 : decode cX1_behind 57 = .ok (.ireturn, 1) := by decide +kernel
theorem dX1_behind_58 : decode cX1_behind 58 = .ok (.aload_n 0, 1) := by decide +kernel
theorem dX1_behind_59 : decode cX1_behind 59 = .ok (.getfield 36, 3) := by decide +kernel
theorem dX1_behind_62 : decode cX1_behind 62 = .ok (.iload 4, 2) := by decide +kernel
theorem dX1_behind_64 : decode cX1_behind 64 = .ok (.iload_n 3, 1) := by decide +kernel
theorem dX1_behind_65 : decode cX1_behind 65 = .ok (.iastore, 1) := by decide +kernel
theorem dX1_behind_66 : decode cX1_behind 66 = .ok (.iconst 1, 1) := by decide +kernel
theorem dX1_behind_67 : decode cX1_behind 67 = .ok (.istore 6, 2) := by decide +kernel
theorem dX1_behind_69 : decode cX1_behind 69 = .ok (.iconst 0, 1) := by decide +kernel
theorem dX1_behind_70 : decode cX1_behind 70 = .ok (.istore 7, 2) := by decide +kernel
theorem dX1_behind_72 : decode cX1_behind 72 = .ok (.iload 7, 2) := by decide +kernel
theorem dX1_behind_74 : decode cX1_behind 74 = .ok (.iload 4, 2) := by decide +kernel
theorem dX1_behind_76 : decode cX1_behind 76 = .ok (.if_icmp .ge 18, 3) := by decide +kernel
theorem dX1_behind_79 : decode cX1_behind 79 = .ok (.iload 6, 2) := by decide +kernel
theorem dX1_behind_81 : decode cX1_behind 81 = .ok (.aload_n 0, 1) := by decide +kernel
theorem dX1_behind_82 : decode cX1_behind 82 = .ok (.getfield 7, 3) := by decide +kernel
theorem dX1_behind_85 : decode cX1_behind 85 = .ok (.imul, 1) := by decide +kernel
theorem dX1_behind_86 : decode cX1_behind 86 = .ok (.istore 6, 2) := by decide +kernel
theorem dX1_behind_88 : decode cX1_behind 88 = .ok (.iinc 7 1, 3) := by decide +kernel
theorem dX1_behind_91 : decode cX1_behind 91 = .ok (.goto (-19), 3) := by decide +kernel
theorem dX1_behind_94 : decode cX1_behind 94 = .ok (.aload_n 0, 1) := by decide +kernel
theorem dX1_behind_95 : decode cX1_behind 95 = .ok (.invokevirtual 84, 3) := by decide +kernel
theorem dX1_behind_98 : decode cX1_behind 98 = .ok (.ifCond .eq 14, 3) := by decide +kernel
theorem dX1_behind_101 : decode cX1_behind 101 = .ok (.iload_n 1, 1) := by decide +kernel
theorem dX1_behind_102 : decode cX1_behind 102 = .ok (.iload_n 3, 1) := by decide +kernel
theorem dX1_behind_103 : decode cX1_behind 103 = .ok (.iload_n 2, 1) := by decide +kernel
theorem dX1_behind_104 : decode cX1_behind 104 = .ok (.isub, 1) := by decide +kernel
theorem dX1_behind_105 : decode cX1_behind 105 = .ok (.iload 6, 2) := by decide +kernel
theorem dX1_behind_107 : decode cX1_behind 107 = .ok (.imul, 1) := by decide +kernel
theorem dX1_behind_108 : decode cX1_behind 108 = .ok (.iadd, 1) := by decide +kernel
theorem dX1_behind_109 : decode cX1_behind 109 = .ok (.goto 4, 3) := by decide +kernel
theorem dX1_behind_112 : decode cX1_behind 112 = .ok (.iconst (-1), 1) := by decide +kernel
theorem dX1_behind_113 : decode cX1_behind 113 = .ok (.ireturn, 1) := by decide +kernel
theorem dX1_move_0 : decode cX1_move 0 = .ok (.aload_n 0, 1) := by decide +kernel
theorem dX1_move_1 : decode cX1_move 1 = .ok (.iload_n 1, 1) := by decide +kernel
theorem dX1_move_2 : decode cX1_move 2 = .ok (.invokevirtual 77, 3) := by decide +kernel
theorem dX1_move_5 : decode cX1_move 5 = .ok (.ifCond .eq 15, 3) := by decide +kernel
theorem dX1_move_8 : decode cX1_move 8 = .ok (.aload_n 0, 1) := by decide +kernel
theorem dX1_move_9 : decode cX1_move 9 = .ok (.iload_n 2, 1) := by decide +kernel
theorem dX1_move_10 : decode cX1_move 10 = .ok (.invokevirtual 77, 3) := by decide +kernel
theorem dX1_move_13 : decode cX1_move 13 = .ok (.ifCond .eq 7, 3) := by decide +kernel
theorem dX1_move_16 : decode cX1_move 16 = .ok (.iconst 1, 1) := by decide +kernel
theorem dX1_move_17 : decode cX1_move 17 = .ok (.goto 4, 3) := by decide +kernel
theorem dX1_move_20 : decode cX1_move 20 = .ok (.iconst 0, 1) := by decide +kernel
theorem dX1_move_21 : decode cX1_move 21 = .ok (.istore_n 3, 1) := by decide +kernel
theorem dX1_move_22 : decode cX1_move 22 = .ok (.iload_n 3, 1) := by decide +kernel
theorem dX1_move_23 : decode cX1_move 23 = .ok (.ifCond .eq 16, 3) := by decide +kernel
theorem dX1_move_26 : decode cX1_move 26 = .ok (.aload_n 0, 1) := by decide +kernel
theorem dX1_move_27 : decode cX1_move 27 = .ok (.aload_n 0, 1) := by decide +kernel
theorem dX1_move_28 : decode cX1_move 28 = .ok (.invokevirtual 92, 3) := by decide +kernel
theorem dX1_move_31 : decode cX1_move 31 = .ok (.iload_n 1, 1) := by decide +kernel
theorem dX1_move_32 : decode cX1_move 32 = .ok (.iload_n 2, 1) := by decide +kernel
theorem dX1_move_33 : decode cX1_move 33 = .ok (.invokevirtual 95, 3) := by decide +kernel
theorem dX1_move_36 : decode cX1_move 36 = .ok (.goto 4, 3) := by decide +kernel
theorem dX1_move_39 : decode cX1_move 39 = .ok (.iconst (-1), 1) := by decide +kernel
theorem dX1_move_40 : decode cX1_move 40 = .ok (.istore 4, 2) := by decide +kernel
theorem dX1_move_42 : decode cX1_move 42 = .ok (.aload_n 0, 1) := by decide +kernel
theorem dX1_move_43 : decode cX1_move 43 = .ok (.iload_n 3, 1) := by decide +kernel
theorem dX1_move_44 : decode cX1_move 44 = .ok (.ifCond .ne 7, 3) := by decide +kernel
theorem dX1_move_47 : decode cX1_move 47 = .ok (.iconst 1, 1) := by decide +kernel
theorem dX1_move_48 : decode cX1_move 48 = .ok (.goto 24, 3) := by decide +kernel
theorem dX1_move_51 : decode cX1_move 51 = .ok (.iload 4, 2) := by decide +kernel
theorem dX1_move_53 : decode cX1_move 53 = .ok (.iconst (-1), 1) := by decide +kernel
theorem dX1_move_54 : decode cX1_move 54 = .ok (.if_icmp .eq 13, 3) := by decide +kernel
theorem dX1_move_57 : decode cX1_move 57 = .ok (.aload_n 0, 1) := by decide +kernel
theorem dX1_move_58 : decode cX1_move 58 = .ok (.getfield 63, 3) := by decide +kernel
theorem dX1_move_61 : decode cX1_move 61 = .ok (.sipush 500, 3) := by decide +kernel
theorem dX1_move_64 : decode cX1_move 64 = .ok (.if_icmp .ne 7, 3) := by decide +kernel
theorem dX1_move_67 : decode cX1_move 67 = .ok (.iconst 2, 1) := by decide +kernel
theorem dX1_move_68 : decode cX1_move 68 = .ok (.goto 4, 3) := by decide +kernel
theorem dX1_move_71 : decode cX1_move 71 = .ok (.iconst 0, 1) := by decide +kernel
theorem dX1_move_72 : decode cX1_move 72 = .ok (.invokevirtual 66, 3) := by decide +kernel
theorem dX1_move_75 : decode cX1_move 75 = .ok (.ifCond .ne 5, 3) := by decide +kernel
theorem dX1_move_78 : decode cX1_move 78 = .ok (.iconst 0, 1) := by decide +kernel
theorem dX1_move_79 : decode cX1_move 79 = .ok (.ireturn, 1) := by decide +kernel
theorem dX1_move_80 : decode cX1_move 80 = .ok (.aload_n 0, 1) := by decide +kernel
theorem dX1_move_81 : decode cX1_move 81 = .ok (.getfield 63, 3) := by decide +kernel
theorem dX1_move_84 : decode cX1_move 84 = .ok (.ifCond .ne 11, 3) := by decide +kernel
theorem dX1_move_87 : decode cX1_move 87 = .ok (.aload_n 0, 1) := by decide +kernel
theorem dX1_move_88 : decode cX1_move 88 = .ok (.aload_n 0, 1) := by decide +kernel
theorem dX1_move_89 : decode cX1_move 89 = .ok (.invokevirtual 92, 3) := by decide +kernel
theorem dX1_move_92 : decode cX1_move 92 = .ok (.putfield 99, 3) := by decide +kernel
theorem dX1_move_95 : decode cX1_move 95 = .ok (.aload_n 0, 1) := by decide +kernel
theorem dX1_move_96 : decode cX1_move 96 = .ok (.aload_n 0, 1) := by decide +kernel
theorem dX1_move_97 : decode cX1_move 97 = .ok (.invokevirtual 92, 3) := by decide +kernel
theorem dX1_move_100 : decode cX1_move 100 = .ok (.invokevirtual 80, 3) := by decide +kernel
theorem dX1_move_103 : decode cX1_move 103 = .ok (.aload_n 0, 1) := by decide +kernel
theorem dX1_move_104 : decode cX1_move 104 = .ok (.iload_n 1, 1) := by decide +kernel
theorem dX1_move_105 : decode cX1_move 105 = .ok (.invokevirtual 88, 3) := by decide +kernel
theorem dX1_move_108 : decode cX1_move 108 = .ok (.istore 5, 2) := by decide +kernel
theorem dX1_move_110 : decode cX1_move 110 = .ok (.aload_n 0, 1) := by decide +kernel
theorem dX1_move_111 : decode cX1_move 111 = .ok (.getfield 16, 3) := by decide +kernel
theorem dX1_move_114 : decode cX1_move 114 = .ok (.iload 5, 2) := by decide +kernel
theorem dX1_move_116 : decode cX1_move 116 = .ok (.iload_n 2, 1) := by decide +kernel
theorem dX1_move_117 : decode cX1_move 117 = .ok (.iastore, 1) := by decide +kernel
theorem dX1_move_118 : decode cX1_move 118 = .ok (.aload_n 0, 1) := by decide +kernel
theorem dX1_move_119 : decode cX1_move 119 = .ok (.getfield 30, 3) := by decide +kernel
theorem dX1_move_122 : decode cX1_move 122 = .ok (.aload_n 0, 1) := by decide +kernel
theorem dX1_move_123 : decode cX1_move 123 = .ok (.getfield 63, 3) := by decide +kernel
theorem dX1_move_126 : decode cX1_move 126 = .ok (.iload_n 1, 1) := by decide +kernel
theorem dX1_move_127 : decode cX1_move 127 = .ok (.iastore, 1) := by decide +kernel
theorem dX1_move_128 : decode cX1_move 128 = .ok (.aload_n 0, 1) := by decide +kernel
theorem dX1_move_129 : decode cX1_move 129 = .ok (.getfield 33, 3) := by decide +kernel
theorem dX1_move_132 : decode cX1_move 132 = .ok (.aload_n 0, 1) := by decide +kernel
theorem dX1_move_133 : decode cX1_move 133 = .ok (.getfield 63, 3) := by decide +kernel
theorem dX1_move_136 : decode cX1_move 136 = .ok (.iload_n 2, 1) := by decide +kernel
theorem dX1_move_137 : decode cX1_move 137 = .ok (.iastore, 1) := by decide +kernel
theorem dX1_move_138 : decode cX1_move 138 = .ok (.aload_n 0, 1) := by decide +kernel
theorem dX1_move_139 : decode cX1_move 139 = .ok (.dup, 1) := by decide +kernel
theorem dX1_move_140 : decode cX1_move 140 = .ok (.getfield 63, 3) := by decide +kernel
theorem dX1_move_143 : decode cX1_move 143 = .ok (.iconst 1, 1) := by decide +kernel
theorem dX1_move_144 : decode cX1_move 144 = .ok (.iadd, 1) := by decide +kernel
theorem dX1_move_145 : decode cX1_move 145 = .ok (.putfield 63, 3) := by decide +kernel
theorem dX1_move_148 : decode cX1_move 148 = .ok (.iload 5, 2) := by decide +kernel
theorem dX1_move_150 : decode cX1_move 150 = .ok (.ireturn, 1) := by decide +kernel
theorem dX1_takeBack_0 : decode cX1_takeBack 0 = .ok (.aload_n 0, 1) := by decide +kernel
theorem dX1_takeBack_1 : decode cX1_takeBack 1 = .ok (.aload_n 0, 1) := by decide +kernel
theorem dX1_takeBack_2 : decode cX1_takeBack 2 = .ok (.getfield 63, 3) := by decide +kernel
theorem dX1_takeBack_5 : decode cX1_takeBack 5 = .ok (.ifCond .ne 7, 3) := by decide +kernel
theorem dX1_takeBack_8 : decode cX1_takeBack 8 = .ok (.iconst 1, 1) := by decide +kernel
theorem dX1_takeBack_9 : decode cX1_takeBack 9 = .ok (.goto 4, 3) := by decide +kernel
theorem dX1_takeBack_12 : decode cX1_takeBack 12 = .ok (.iconst 0, 1) := by decide +kernel
theorem dX1_takeBack_13 : decode cX1_takeBack 13 = .ok (.invokevirtual 66, 3) := by decide +kernel
theorem dX1_takeBack_16 : decode cX1_takeBack 16 = .ok (.ifCond .ne 5, 3) := by decide +kernel
theorem dX1_takeBack_19 : decode cX1_takeBack 19 = .ok (.iconst 0, 1) := by decide +kernel
theorem dX1_takeBack_20 : decode cX1_takeBack 20 = .ok (.ireturn, 1) := by decide +kernel
theorem dX1_takeBack_21 : decode cX1_takeBack 21 = .ok (.aload_n 0, 1) := by decide +kernel
theorem dX1_takeBack_22 : decode cX1_takeBack 22 = .ok (.dup, 1) := by decide +kernel
theorem dX1_takeBack_23 : decode cX1_takeBack 23 = .ok (.getfield 63, 3) := by decide +kernel
theorem dX1_takeBack_26 : decode cX1_takeBack 26 = .ok (.iconst 1, 1) := by decide +kernel
theorem dX1_takeBack_27 : decode cX1_takeBack 27 = .ok (.isub, 1) := by decide +kernel
theorem dX1_takeBack_28 : decode cX1_takeBack 28 = .ok (.putfield 63, 3) := by decide +kernel
theorem dX1_takeBack_31 : decode cX1_takeBack 31 = .ok (.aload_n 0, 1) := by decide +kernel
theorem dX1_takeBack_32 : decode cX1_takeBack 32 = .ok (.aload_n 0, 1) := by decide +kernel
theorem dX1_takeBack_33 : decode cX1_takeBack 33 = .ok (.invokevirtual 92, 3) := by decide +kernel
theorem dX1_takeBack_36 : decode cX1_takeBack 36 = .ok (.invokevirtual 80, 3) := by decide +kernel
theorem dX1_takeBack_39 : decode cX1_takeBack 39 = .ok (.aload_n 0, 1) := by decide +kernel
theorem dX1_takeBack_40 : decode cX1_takeBack 40 = .ok (.getfield 16, 3) := by decide +kernel
theorem dX1_takeBack_43 : decode cX1_takeBack 43 = .ok (.aload_n 0, 1) := by decide +kernel
theorem dX1_takeBack_44 : decode cX1_takeBack 44 = .ok (.aload_n 0, 1) := by decide +kernel
theorem dX1_takeBack_45 : decode cX1_takeBack 45 = .ok (.getfield 33, 3) := by decide +kernel
theorem dX1_takeBack_48 : decode cX1_takeBack 48 = .ok (.aload_n 0, 1) := by decide +kernel
theorem dX1_takeBack_49 : decode cX1_takeBack 49 = .ok (.getfield 63, 3) := by decide +kernel
theorem dX1_takeBack_52 : decode cX1_takeBack 52 = .ok (.iaload, 1) := by decide +kernel
theorem dX1_takeBack_53 : decode cX1_takeBack 53 = .ok (.invokevirtual 88, 3) := by decide +kernel
theorem dX1_takeBack_56 : decode cX1_takeBack 56 = .ok (.aload_n 0, 1) := by decide +kernel
theorem dX1_takeBack_57 : decode cX1_takeBack 57 = .ok (.getfield 30, 3) := by decide +kernel
theorem dX1_takeBack_60 : decode cX1_takeBack 60 = .ok (.aload_n 0, 1) := by decide +kernel
theorem dX1_takeBack_61 : decode cX1_takeBack 61 = .ok (.getfield 63, 3) := by decide +kernel
theorem dX1_takeBack_64 : decode cX1_takeBack 64 = .ok (.iaload, 1) := by decide +kernel
theorem dX1_takeBack_65 : decode cX1_takeBack 65 = .ok (.iastore, 1) := by decide +kernel
theorem dX1_takeBack_66 : decode cX1_takeBack 66 = .ok (.aload_n 0, 1) := by decide +kernel
theorem dX1_takeBack_67 : decode cX1_takeBack 67 = .ok (.getfield 63, 3) := by decide +kernel
theorem dX1_takeBack_70 : decode cX1_takeBack 70 = .ok (.ireturn, 1) := by decide +kernel
theorem dX1_layStart_0 : decode cX1_layStart 0 = .ok (.aload_n 0, 1) := by decide +kernel
theorem dX1_layStart_1 : decode cX1_layStart 1 = .ok (.iconst 0, 1) := by decide +kernel
theorem dX1_layStart_2 : decode cX1_layStart 2 = .ok (.putfield 52, 3) := by decide +kernel
theorem dX1_layStart_5 : decode cX1_layStart 5 = .ok (.aload_n 0, 1) := by decide +kernel
theorem dX1_layStart_6 : decode cX1_layStart 6 = .ok (.getfield 63, 3) := by decide +kernel
theorem dX1_layStart_9 : decode cX1_layStart 9 = .ok (.istore_n 1, 1) := by decide +kernel
theorem dX1_layStart_10 : decode cX1_layStart 10 = .ok (.aload_n 0, 1) := by decide +kernel
theorem dX1_layStart_11 : decode cX1_layStart 11 = .ok (.iconst 0, 1) := by decide +kernel
theorem dX1_layStart_12 : decode cX1_layStart 12 = .ok (.putfield 63, 3) := by decide +kernel
theorem dX1_layStart_15 : decode cX1_layStart 15 = .ok (.iload_n 1, 1) := by decide +kernel
theorem dX1_layStart_16 : decode cX1_layStart 16 = .ok (.ireturn, 1) := by decide +kernel
theorem dX1_pegs_0 : decode cX1_pegs 0 = .ok (.aload_n 0, 1) := by decide +kernel
theorem dX1_pegs_1 : decode cX1_pegs 1 = .ok (.iconst 0, 1) := by decide +kernel
theorem dX1_pegs_2 : decode cX1_pegs 2 = .ok (.putfield 52, 3) := by decide +kernel
theorem dX1_pegs_5 : decode cX1_pegs 5 = .ok (.aload_n 0, 1) := by decide +kernel
theorem dX1_pegs_6 : decode cX1_pegs 6 = .ok (.getfield 7, 3) := by decide +kernel
theorem dX1_pegs_9 : decode cX1_pegs 9 = .ok (.ireturn, 1) := by decide +kernel
theorem dX1_disks_0 : decode cX1_disks 0 = .ok (.aload_n 0, 1) := by decide +kernel
theorem dX1_disks_1 : decode cX1_disks 1 = .ok (.iconst 0, 1) := by decide +kernel
theorem dX1_disks_2 : decode cX1_disks 2 = .ok (.putfield 52, 3) := by decide +kernel
theorem dX1_disks_5 : decode cX1_disks 5 = .ok (.aload_n 0, 1) := by decide +kernel
theorem dX1_disks_6 : decode cX1_disks 6 = .ok (.getfield 13, 3) := by decide +kernel
theorem dX1_disks_9 : decode cX1_disks 9 = .ok (.ireturn, 1) := by decide +kernel
theorem dX1_moves_0 : decode cX1_moves 0 = .ok (.aload_n 0, 1) := by decide +kernel
theorem dX1_moves_1 : decode cX1_moves 1 = .ok (.iconst 0, 1) := by decide +kernel
theorem dX1_moves_2 : decode cX1_moves 2 = .ok (.putfield 52, 3) := by decide +kernel
theorem dX1_moves_5 : decode cX1_moves 5 = .ok (.aload_n 0, 1) := by decide +kernel
theorem dX1_moves_6 : decode cX1_moves 6 = .ok (.getfield 63, 3) := by decide +kernel
theorem dX1_moves_9 : decode cX1_moves 9 = .ok (.ireturn, 1) := by decide +kernel
theorem dX1_pegOf_0 : decode cX1_pegOf 0 = .ok (.aload_n 0, 1) := by decide +kernel
theorem dX1_pegOf_1 : decode cX1_pegOf 1 = .ok (.aload_n 0, 1) := by decide +kernel
theorem dX1_pegOf_2 : decode cX1_pegOf 2 = .ok (.iload_n 1, 1) := by decide +kernel
theorem dX1_pegOf_3 : decode cX1_pegOf 3 = .ok (.invokevirtual 74, 3) := by decide +kernel
theorem dX1_pegOf_6 : decode cX1_pegOf 6 = .ok (.ifCond .eq 7, 3) := by decide +kernel
theorem dX1_pegOf_9 : decode cX1_pegOf 9 = .ok (.iconst 0, 1) := by decide +kernel
theorem dX1_pegOf_10 : decode cX1_pegOf 10 = .ok (.goto 4, 3) := by decide +kernel
theorem dX1_pegOf_13 : decode cX1_pegOf 13 = .ok (.iconst 1, 1) := by decide +kernel
theorem dX1_pegOf_14 : decode cX1_pegOf 14 = .ok (.invokevirtual 66, 3) := by decide +kernel
theorem dX1_pegOf_17 : decode cX1_pegOf 17 = .ok (.ifCond .eq 12, 3) := by decide +kernel
theorem dX1_pegOf_20 : decode cX1_pegOf 20 = .ok (.aload_n 0, 1) := by decide +kernel
theorem dX1_pegOf_21 : decode cX1_pegOf 21 = .ok (.getfield 16, 3) := by decide +kernel
theorem dX1_pegOf_24 : decode cX1_pegOf 24 = .ok (.iload_n 1, 1) := by decide +kernel
theorem dX1_pegOf_25 : decode cX1_pegOf 25 = .ok (.iaload, 1) := by decide +kernel
theorem dX1_pegOf_26 : decode cX1_pegOf 26 = .ok (.goto 4, 3) := by decide +kernel
theorem dX1_pegOf_29 : decode cX1_pegOf 29 = .ok (.iconst 0, 1) := by decide +kernel
theorem dX1_pegOf_30 : decode cX1_pegOf 30 = .ok (.ireturn, 1) := by decide +kernel
theorem dX1_top_0 : decode cX1_top 0 = .ok (.aload_n 0, 1) := by decide +kernel
theorem dX1_top_1 : decode cX1_top 1 = .ok (.aload_n 0, 1) := by decide +kernel
theorem dX1_top_2 : decode cX1_top 2 = .ok (.iload_n 1, 1) := by decide +kernel
theorem dX1_top_3 : decode cX1_top 3 = .ok (.invokevirtual 77, 3) := by decide +kernel
theorem dX1_top_6 : decode cX1_top 6 = .ok (.ifCond .eq 7, 3) := by decide +kernel
theorem dX1_top_9 : decode cX1_top 9 = .ok (.iconst 0, 1) := by decide +kernel
theorem dX1_top_10 : decode cX1_top 10 = .ok (.goto 4, 3) := by decide +kernel
theorem dX1_top_13 : decode cX1_top 13 = .ok (.iconst 1, 1) := by decide +kernel
theorem dX1_top_14 : decode cX1_top 14 = .ok (.invokevirtual 66, 3) := by decide +kernel
theorem dX1_top_17 : decode cX1_top 17 = .ok (.ifCond .ne 5, 3) := by decide +kernel
theorem dX1_top_20 : decode cX1_top 20 = .ok (.iconst 0, 1) := by decide +kernel
theorem dX1_top_21 : decode cX1_top 21 = .ok (.ireturn, 1) := by decide +kernel
theorem dX1_top_22 : decode cX1_top 22 = .ok (.aload_n 0, 1) := by decide +kernel
theorem dX1_top_23 : decode cX1_top 23 = .ok (.aload_n 0, 1) := by decide +kernel
theorem dX1_top_24 : decode cX1_top 24 = .ok (.invokevirtual 92, 3) := by decide +kernel
theorem dX1_top_27 : decode cX1_top 27 = .ok (.invokevirtual 80, 3) := by decide +kernel
theorem dX1_top_30 : decode cX1_top 30 = .ok (.aload_n 0, 1) := by decide +kernel
theorem dX1_top_31 : decode cX1_top 31 = .ok (.iload_n 1, 1) := by decide +kernel
theorem dX1_top_32 : decode cX1_top 32 = .ok (.invokevirtual 88, 3) := by decide +kernel
theorem dX1_top_35 : decode cX1_top 35 = .ok (.ireturn, 1) := by decide +kernel
theorem dX1_arrangement_0 : decode cX1_arrangement 0 = .ok (.aload_n 0, 1) := by decide +kernel
theorem dX1_arrangement_1 : decode cX1_arrangement 1 = .ok (.iconst 0, 1) := by decide +kernel
theorem dX1_arrangement_2 : decode cX1_arrangement 2 = .ok (.putfield 52, 3) := by decide +kernel
theorem dX1_arrangement_5 : decode cX1_arrangement 5 = .ok (.aload_n 0, 1) := by decide +kernel
theorem dX1_arrangement_6 : decode cX1_arrangement 6 = .ok (.invokevirtual 92, 3) := by decide +kernel
theorem dX1_arrangement_9 : decode cX1_arrangement 9 = .ok (.ireturn, 1) := by decide +kernel
theorem dX1_goal_0 : decode cX1_goal 0 = .ok (.aload_n 0, 1) := by decide +kernel
theorem dX1_goal_1 : decode cX1_goal 1 = .ok (.iconst 0, 1) := by decide +kernel
theorem dX1_goal_2 : decode cX1_goal 2 = .ok (.putfield 52, 3) := by decide +kernel
theorem dX1_goal_5 : decode cX1_goal 5 = .ok (.aload_n 0, 1) := by decide +kernel
theorem dX1_goal_6 : decode cX1_goal 6 = .ok (.invokevirtual 102, 3) := by decide +kernel
theorem dX1_goal_9 : decode cX1_goal 9 = .ok (.ireturn, 1) := by decide +kernel
theorem dX1_isLawful_0 : decode cX1_isLawful 0 = .ok (.aload_n 0, 1) := by decide +kernel
theorem dX1_isLawful_1 : decode cX1_isLawful 1 = .ok (.iconst 0, 1) := by decide +kernel
theorem dX1_isLawful_2 : decode cX1_isLawful 2 = .ok (.putfield 52, 3) := by decide +kernel
theorem dX1_isLawful_5 : decode cX1_isLawful 5 = .ok (.aload_n 0, 1) := by decide +kernel
theorem dX1_isLawful_6 : decode cX1_isLawful 6 = .ok (.aload_n 0, 1) := by decide +kernel
theorem dX1_isLawful_7 : decode cX1_isLawful 7 = .ok (.invokevirtual 92, 3) := by decide +kernel
theorem dX1_isLawful_10 : decode cX1_isLawful 10 = .ok (.invokevirtual 105, 3) := by decide +kernel
theorem dX1_isLawful_13 : decode cX1_isLawful 13 = .ok (.ireturn, 1) := by decide +kernel
theorem dX1_canMove_0 : decode cX1_canMove 0 = .ok (.aload_n 0, 1) := by decide +kernel
theorem dX1_canMove_1 : decode cX1_canMove 1 = .ok (.aload_n 0, 1) := by decide +kernel
theorem dX1_canMove_2 : decode cX1_canMove 2 = .ok (.iload_n 1, 1) := by decide +kernel
theorem dX1_canMove_3 : decode cX1_canMove 3 = .ok (.invokevirtual 77, 3) := by decide +kernel
theorem dX1_canMove_6 : decode cX1_canMove 6 = .ok (.ifCond .eq 15, 3) := by decide +kernel
theorem dX1_canMove_9 : decode cX1_canMove 9 = .ok (.aload_n 0, 1) := by decide +kernel
theorem dX1_canMove_10 : decode cX1_canMove 10 = .ok (.iload_n 2, 1) := by decide +kernel
theorem dX1_canMove_11 : decode cX1_canMove 11 = .ok (.invokevirtual 77, 3) := by decide +kernel
theorem dX1_canMove_14 : decode cX1_canMove 14 = .ok (.ifCond .eq 7, 3) := by decide +kernel
theorem dX1_canMove_17 : decode cX1_canMove 17 = .ok (.iconst 0, 1) := by decide +kernel
theorem dX1_canMove_18 : decode cX1_canMove 18 = .ok (.goto 4, 3) := by decide +kernel
theorem dX1_canMove_21 : decode cX1_canMove 21 = .ok (.iconst 1, 1) := by decide +kernel
theorem dX1_canMove_22 : decode cX1_canMove 22 = .ok (.invokevirtual 66, 3) := by decide +kernel
theorem dX1_canMove_25 : decode cX1_canMove 25 = .ok (.ifCond .eq 21, 3) := by decide +kernel
theorem dX1_canMove_28 : decode cX1_canMove 28 = .ok (.aload_n 0, 1) := by decide +kernel
theorem dX1_canMove_29 : decode cX1_canMove 29 = .ok (.aload_n 0, 1) := by decide +kernel
theorem dX1_canMove_30 : decode cX1_canMove 30 = .ok (.invokevirtual 92, 3) := by decide +kernel
theorem dX1_canMove_33 : decode cX1_canMove 33 = .ok (.iload_n 1, 1) := by decide +kernel
theorem dX1_canMove_34 : decode cX1_canMove 34 = .ok (.iload_n 2, 1) := by decide +kernel
theorem dX1_canMove_35 : decode cX1_canMove 35 = .ok (.invokevirtual 95, 3) := by decide +kernel
theorem dX1_canMove_38 : decode cX1_canMove 38 = .ok (.iconst (-1), 1) := by decide +kernel
theorem dX1_canMove_39 : decode cX1_canMove 39 = .ok (.if_icmp .eq 7, 3) := by decide +kernel
theorem dX1_canMove_42 : decode cX1_canMove 42 = .ok (.iconst 1, 1) := by decide +kernel
theorem dX1_canMove_43 : decode cX1_canMove 43 = .ok (.goto 4, 3) := by decide +kernel
theorem dX1_canMove_46 : decode cX1_canMove 46 = .ok (.iconst 0, 1) := by decide +kernel
theorem dX1_canMove_47 : decode cX1_canMove 47 = .ok (.ireturn, 1) := by decide +kernel
theorem dX1_search_0 : decode cX1_search 0 = .ok (.iconst 0, 1) := by decide +kernel
theorem dX1_search_1 : decode cX1_search 1 = .ok (.istore_n 2, 1) := by decide +kernel
theorem dX1_search_2 : decode cX1_search 2 = .ok (.iload_n 2, 1) := by decide +kernel
theorem dX1_search_3 : decode cX1_search 3 = .ok (.sipush 15625, 3) := by decide +kernel
theorem dX1_search_6 : decode cX1_search 6 = .ok (.if_icmp .ge 16, 3) := by decide +kernel
theorem dX1_search_9 : decode cX1_search 9 = .ok (.aload_n 0, 1) := by decide +kernel
theorem dX1_search_10 : decode cX1_search 10 = .ok (.getfield 39, 3) := by decide +kernel
theorem dX1_search_13 : decode cX1_search 13 = .ok (.iload_n 2, 1) := by decide +kernel
theorem dX1_search_14 : decode cX1_search 14 = .ok (.iconst (-1), 1) := by decide +kernel
theorem dX1_search_15 : decode cX1_search 15 = .ok (.iastore, 1) := by decide +kernel
theorem dX1_search_16 : decode cX1_search 16 = .ok (.iinc 2 1, 3) := by decide +kernel
theorem dX1_search_19 : decode cX1_search 19 = .ok (.goto (-17), 3) := by decide +kernel
theorem dX1_search_22 : decode cX1_search 22 = .ok (.aload_n 0, 1) := by decide +kernel
theorem dX1_search_23 : decode cX1_search 23 = .ok (.iconst 0, 1) := by decide +kernel
theorem dX1_search_24 : decode cX1_search 24 = .ok (.putfield 108, 3) := by decide +kernel
theorem dX1_search_27 : decode cX1_search 27 = .ok (.aload_n 0, 1) := by decide +kernel
theorem dX1_search_28 : decode cX1_search 28 = .ok (.iload_n 1, 1) := by decide +kernel
theorem dX1_search_29 : decode cX1_search 29 = .ok (.invokevirtual 105, 3) := by decide +kernel
theorem dX1_search_32 : decode cX1_search 32 = .ok (.ifCond .eq 22, 3) := by decide +kernel
theorem dX1_search_35 : decode cX1_search 35 = .ok (.aload_n 0, 1) := by decide +kernel
theorem dX1_search_36 : decode cX1_search 36 = .ok (.getfield 39, 3) := by decide +kernel
theorem dX1_search_39 : decode cX1_search 39 = .ok (.iload_n 1, 1) := by decide +kernel
theorem dX1_search_40 : decode cX1_search 40 = .ok (.iconst 0, 1) := by decide +kernel
theorem dX1_search_41 : decode cX1_search 41 = .ok (.iastore, 1) := by decide +kernel
theorem dX1_search_42 : decode cX1_search 42 = .ok (.aload_n 0, 1) := by decide +kernel
theorem dX1_search_43 : decode cX1_search 43 = .ok (.getfield 42, 3) := by decide +kernel
theorem dX1_search_46 : decode cX1_search 46 = .ok (.iconst 0, 1) := by decide +kernel
theorem dX1_search_47 : decode cX1_search 47 = .ok (.iload_n 1, 1) := by decide +kernel
theorem dX1_search_48 : decode cX1_search 48 = .ok (.iastore, 1) := by decide +kernel
theorem dX1_search_49 : decode cX1_search 49 = .ok (.aload_n 0, 1) := by decide +kernel
theorem dX1_search_50 : decode cX1_search 50 = .ok (.iconst 1, 1) := by decide +kernel
theorem dX1_search_51 : decode cX1_search 51 = .ok (.putfield 108, 3) := by decide +kernel
theorem dX1_search_54 : decode cX1_search 54 = .ok (.iconst 0, 1) := by decide +kernel
theorem dX1_search_55 : decode cX1_search 55 = .ok (.istore_n 2, 1) := by decide +kernel
theorem dX1_search_56 : decode cX1_search 56 = .ok (.iload_n 2, 1) := by decide +kernel
theorem dX1_search_57 : decode cX1_search 57 = .ok (.aload_n 0, 1) := by decide +kernel
theorem dX1_search_58 : decode cX1_search 58 = .ok (.getfield 108, 3) := by decide +kernel
theorem dX1_search_61 : decode cX1_search 61 = .ok (.if_icmp .ge 112, 3) := by decide +kernel
theorem dX1_search_64 : decode cX1_search 64 = .ok (.iconst 0, 1) := by decide +kernel
theorem dX1_search_65 : decode cX1_search 65 = .ok (.istore_n 3, 1) := by decide +kernel
theorem dX1_search_66 : decode cX1_search 66 = .ok (.iload_n 3, 1) := by decide +kernel
theorem dX1_search_67 : decode cX1_search 67 = .ok (.aload_n 0, 1) := by decide +kernel
theorem dX1_search_68 : decode cX1_search 68 = .ok (.getfield 7, 3) := by decide +kernel
theorem dX1_search_71 : decode cX1_search 71 = .ok (.aload_n 0, 1) := by decide +kernel
theorem dX1_search_72 : decode cX1_search 72 = .ok (.getfield 7, 3) := by decide +kernel
theorem dX1_search_75 : decode cX1_search 75 = .ok (.imul, 1) := by decide +kernel
theorem dX1_search_76 : decode cX1_search 76 = .ok (.if_icmp .ge 91, 3) := by decide +kernel
theorem dX1_search_79 : decode cX1_search 79 = .ok (.aload_n 0, 1) := by decide +kernel
theorem dX1_search_80 : decode cX1_search 80 = .ok (.aload_n 0, 1) := by decide +kernel
theorem dX1_search_81 : decode cX1_search 81 = .ok (.getfield 42, 3) := by decide +kernel
theorem dX1_search_84 : decode cX1_search 84 = .ok (.iload_n 2, 1) := by decide +kernel
theorem dX1_search_85 : decode cX1_search 85 = .ok (.iaload, 1) := by decide +kernel
theorem dX1_search_86 : decode cX1_search 86 = .ok (.iload_n 3, 1) := by decide +kernel
theorem dX1_search_87 : decode cX1_search 87 = .ok (.aload_n 0, 1) := by decide +kernel
theorem dX1_search_88 : decode cX1_search 88 = .ok (.getfield 7, 3) := by decide +kernel
theorem dX1_search_91 : decode cX1_search 91 = .ok (.idiv, 1) := by decide +kernel
theorem dX1_search_92 : decode cX1_search 92 = .ok (.iload_n 3, 1) := by decide +kernel
theorem dX1_search_93 : decode cX1_search 93 = .ok (.aload_n 0, 1) := by decide +kernel
theorem dX1_search_94 : decode cX1_search 94 = .ok (.getfield 7, 3) := by decide +kernel
theorem dX1_search_97 : decode cX1_search 97 = .ok (.irem, 1) := by decide +kernel
theorem dX1_search_98 : decode cX1_search 98 = .ok (.invokevirtual 95, 3) := by decide +kernel
theorem dX1_search_101 : decode cX1_search 101 = .ok (.istore 4, 2) := by decide +kernel
theorem dX1_search_103 : decode cX1_search 103 = .ok (.iload 4, 2) := by decide +kernel
theorem dX1_search_105 : decode cX1_search 105 = .ok (.iconst (-1), 1) := by decide +kernel
theorem dX1_search_106 : decode cX1_search 106 = .ok (.if_icmp .eq 55, 3) := by decide +kernel
theorem dX1_search_109 : decode cX1_search 109 = .ok (.aload_n 0, 1) := by decide +kernel
theorem dX1_search_110 : decode cX1_search 110 = .ok (.getfield 39, 3) := by decide +kernel
theorem dX1_search_113 : decode cX1_search 113 = .ok (.iload 4, 2) := by decide +kernel
theorem dX1_search_115 : decode cX1_search 115 = .ok (.iaload, 1) := by decide +kernel
theorem dX1_search_116 : decode cX1_search 116 = .ok (.iconst (-1), 1) := by decide +kernel
theorem dX1_search_117 : decode cX1_search 117 = .ok (.if_icmp .ne 44, 3) := by decide +kernel
theorem dX1_search_120 : decode cX1_search 120 = .ok (.aload_n 0, 1) := by decide +kernel
theorem dX1_search_121 : decode cX1_search 121 = .ok (.getfield 39, 3) := by decide +kernel
theorem dX1_search_124 : decode cX1_search 124 = .ok (.iload 4, 2) := by decide +kernel
theorem dX1_search_126 : decode cX1_search 126 = .ok (.aload_n 0, 1) := by decide +kernel
theorem dX1_search_127 : decode cX1_search 127 = .ok (.getfield 39, 3) := by decide +kernel
theorem dX1_search_130 : decode cX1_search 130 = .ok (.aload_n 0, 1) := by decide +kernel
theorem dX1_search_131 : decode cX1_search 131 = .ok (.getfield 42, 3) := by decide +kernel
theorem dX1_search_134 : decode cX1_search 134 = .ok (.iload_n 2, 1) := by decide +kernel
theorem dX1_search_135 : decode cX1_search 135 = .ok (.iaload, 1) := by decide +kernel
theorem dX1_search_136 : decode cX1_search 136 = .ok (.iaload, 1) := by decide +kernel
theorem dX1_search_137 : decode cX1_search 137 = .ok (.iconst 1, 1) := by decide +kernel
theorem dX1_search_138 : decode cX1_search 138 = .ok (.iadd, 1) := by decide +kernel
theorem dX1_search_139 : decode cX1_search 139 = .ok (.iastore, 1) := by decide +kernel
theorem dX1_search_140 : decode cX1_search 140 = .ok (.aload_n 0, 1) := by decide +kernel
theorem dX1_search_141 : decode cX1_search 141 = .ok (.getfield 42, 3) := by decide +kernel
theorem dX1_search_144 : decode cX1_search 144 = .ok (.aload_n 0, 1) := by decide +kernel
theorem dX1_search_145 : decode cX1_search 145 = .ok (.getfield 108, 3) := by decide +kernel
theorem dX1_search_148 : decode cX1_search 148 = .ok (.iload 4, 2) := by decide +kernel
theorem dX1_search_150 : decode cX1_search 150 = .ok (.iastore, 1) := by decide +kernel
theorem dX1_search_151 : decode cX1_search 151 = .ok (.aload_n 0, 1) := by decide +kernel
theorem dX1_search_152 : decode cX1_search 152 = .ok (.dup, 1) := by decide +kernel
theorem dX1_search_153 : decode cX1_search 153 = .ok (.getfield 108, 3) := by decide +kernel
theorem dX1_search_156 : decode cX1_search 156 = .ok (.iconst 1, 1) := by decide +kernel
theorem dX1_search_157 : decode cX1_search 157 = .ok (.iadd, 1) := by decide +kernel
theorem dX1_search_158 : decode cX1_search 158 = .ok (.putfield 108, 3) := by decide +kernel
theorem dX1_search_161 : decode cX1_search 161 = .ok (.iinc 3 1, 3) := by decide +kernel
theorem dX1_search_164 : decode cX1_search 164 = .ok (.goto (-98), 3) := by decide +kernel
theorem dX1_search_167 : decode cX1_search 167 = .ok (.iinc 2 1, 3) := by decide +kernel
theorem dX1_search_170 : decode cX1_search 170 = .ok (.goto (-114), 3) := by decide +kernel
theorem dX1_search_173 : decode cX1_search 173 = .ok (.return_, 1) := by decide +kernel
theorem dX1_wayFrom_0 : decode cX1_wayFrom 0 = .ok (.aload_n 0, 1) := by decide +kernel
theorem dX1_wayFrom_1 : decode cX1_wayFrom 1 = .ok (.iload_n 1, 1) := by decide +kernel
theorem dX1_wayFrom_2 : decode cX1_wayFrom 2 = .ok (.invokevirtual 111, 3) := by decide +kernel
theorem dX1_wayFrom_5 : decode cX1_wayFrom 5 = .ok (.aload_n 0, 1) := by decide +kernel
theorem dX1_wayFrom_6 : decode cX1_wayFrom 6 = .ok (.getfield 39, 3) := by decide +kernel
theorem dX1_wayFrom_9 : decode cX1_wayFrom 9 = .ok (.aload_n 0, 1) := by decide +kernel
theorem dX1_wayFrom_10 : decode cX1_wayFrom 10 = .ok (.invokevirtual 102, 3) := by decide +kernel
theorem dX1_wayFrom_13 : decode cX1_wayFrom 13 = .ok (.iaload, 1) := by decide +kernel
theorem dX1_wayFrom_14 : decode cX1_wayFrom 14 = .ok (.ireturn, 1) := by decide +kernel
theorem dX1_way_0 : decode cX1_way 0 = .ok (.aload_n 0, 1) := by decide +kernel
theorem dX1_way_1 : decode cX1_way 1 = .ok (.iconst 0, 1) := by decide +kernel
theorem dX1_way_2 : decode cX1_way 2 = .ok (.putfield 52, 3) := by decide +kernel
theorem dX1_way_5 : decode cX1_way 5 = .ok (.aload_n 0, 1) := by decide +kernel
theorem dX1_way_6 : decode cX1_way 6 = .ok (.aload_n 0, 1) := by decide +kernel
theorem dX1_way_7 : decode cX1_way 7 = .ok (.invokevirtual 92, 3) := by decide +kernel
theorem dX1_way_10 : decode cX1_way 10 = .ok (.invokevirtual 114, 3) := by decide +kernel
theorem dX1_way_13 : decode cX1_way 13 = .ok (.ireturn, 1) := by decide +kernel
theorem dX1_gather_0 : decode cX1_gather 0 = .ok (.iconst 0, 1) := by decide +kernel
theorem dX1_gather_1 : decode cX1_gather 1 = .ok (.istore 4, 2) := by decide +kernel
theorem dX1_gather_3 : decode cX1_gather 3 = .ok (.iload_n 3, 1) := by decide +kernel
theorem dX1_gather_4 : decode cX1_gather 4 = .ok (.istore 5, 2) := by decide +kernel
theorem dX1_gather_6 : decode cX1_gather 6 = .ok (.iload_n 2, 1) := by decide +kernel
theorem dX1_gather_7 : decode cX1_gather 7 = .ok (.iconst 1, 1) := by decide +kernel
theorem dX1_gather_8 : decode cX1_gather 8 = .ok (.isub, 1) := by decide +kernel
theorem dX1_gather_9 : decode cX1_gather 9 = .ok (.istore 6, 2) := by decide +kernel
theorem dX1_gather_11 : decode cX1_gather 11 = .ok (.iload 6, 2) := by decide +kernel
theorem dX1_gather_13 : decode cX1_gather 13 = .ok (.ifCond .lt 57, 3) := by decide +kernel
theorem dX1_gather_16 : decode cX1_gather 16 = .ok (.iload_n 1, 1) := by decide +kernel
theorem dX1_gather_17 : decode cX1_gather 17 = .ok (.ifCond .eq 13, 3) := by decide +kernel
theorem dX1_gather_20 : decode cX1_gather 20 = .ok (.aload_n 0, 1) := by decide +kernel
theorem dX1_gather_21 : decode cX1_gather 21 = .ok (.getfield 20, 3) := by decide +kernel
theorem dX1_gather_24 : decode cX1_gather 24 = .ok (.iload 6, 2) := by decide +kernel
theorem dX1_gather_26 : decode cX1_gather 26 = .ok (.iaload, 1) := by decide +kernel
theorem dX1_gather_27 : decode cX1_gather 27 = .ok (.goto 10, 3) := by decide +kernel
theorem dX1_gather_30 : decode cX1_gather 30 = .ok (.aload_n 0, 1) := by decide +kernel
theorem dX1_gather_31 : decode cX1_gather 31 = .ok (.getfield 16, 3) := by decide +kernel
theorem dX1_gather_34 : decode cX1_gather 34 = .ok (.iload 6, 2) := by decide +kernel
theorem dX1_gather_36 : decode cX1_gather 36 = .ok (.iaload, 1) := by decide +kernel
theorem dX1_gather_37 : decode cX1_gather 37 = .ok (.istore 7, 2) := by decide +kernel
theorem dX1_gather_39 : decode cX1_gather 39 = .ok (.iload 7, 2) := by decide +kernel
theorem dX1_gather_41 : decode cX1_gather 41 = .ok (.iload 5, 2) := by decide +kernel
theorem dX1_gather_43 : decode cX1_gather 43 = .ok (.if_icmp .eq 21, 3) := by decide +kernel
theorem dX1_gather_46 : decode cX1_gather 46 = .ok (.iload 4, 2) := by decide +kernel
theorem dX1_gather_48 : decode cX1_gather 48 = .ok (.iconst 1, 1) := by decide +kernel
theorem dX1_gather_49 : decode cX1_gather 49 = .ok (.iload 6, 2) := by decide +kernel
theorem dX1_gather_51 : decode cX1_gather 51 = .ok (.ishl, 1) := by decide +kernel
theorem dX1_gather_52 : decode cX1_gather 52 = .ok (.iadd, 1) := by decide +kernel
theorem dX1_gather_53 : decode cX1_gather 53 = .ok (.istore 4, 2) := by decide +kernel
theorem dX1_gather_55 : decode cX1_gather 55 = .ok (.iconst 3, 1) := by decide +kernel
theorem dX1_gather_56 : decode cX1_gather 56 = .ok (.iload 7, 2) := by decide +kernel
theorem dX1_gather_58 : decode cX1_gather 58 = .ok (.isub, 1) := by decide +kernel
theorem dX1_gather_59 : decode cX1_gather 59 = .ok (.iload 5, 2) := by decide +kernel
theorem dX1_gather_61 : decode cX1_gather 61 = .ok (.isub, 1) := by decide +kernel
theorem dX1_gather_62 : decode cX1_gather 62 = .ok (.istore 5, 2) := by decide +kernel
theorem dX1_gather_64 : decode cX1_gather 64 = .ok (.iinc 6 (-1), 3) := by decide +kernel
theorem dX1_gather_67 : decode cX1_gather 67 = .ok (.goto (-56), 3) := by decide +kernel
theorem dX1_gather_70 : decode cX1_gather 70 = .ok (.iload 4, 2) := by decide +kernel
theorem dX1_gather_72 : decode cX1_gather 72 = .ok (.ireturn, 1) := by decide +kernel
theorem dX1_wayByDisks_0 : decode cX1_wayByDisks 0 = .ok (.aload_n 0, 1) := by decide +kernel
theorem dX1_wayByDisks_1 : decode cX1_wayByDisks 1 = .ok (.getfield 7, 3) := by decide +kernel
theorem dX1_wayByDisks_4 : decode cX1_wayByDisks 4 = .ok (.iconst 3, 1) := by decide +kernel
theorem dX1_wayByDisks_5 : decode cX1_wayByDisks 5 = .ok (.if_icmp .ne 14, 3) := by decide +kernel
theorem dX1_wayByDisks_8 : decode cX1_wayByDisks 8 = .ok (.aload_n 0, 1) := by decide +kernel
theorem dX1_wayByDisks_9 : decode cX1_wayByDisks 9 = .ok (.getfield 59, 3) := by decide +kernel
theorem dX1_wayByDisks_12 : decode cX1_wayByDisks 12 = .ok (.ifCond .ne 7, 3) := by decide +kernel
theorem dX1_wayByDisks_15 : decode cX1_wayByDisks 15 = .ok (.iconst 1, 1) := by decide +kernel
theorem dX1_wayByDisks_16 : decode cX1_wayByDisks 16 = .ok (.goto 4, 3) := by decide +kernel
theorem dX1_wayByDisks_19 : decode cX1_wayByDisks 19 = .ok (.iconst 0, 1) := by decide +kernel
theorem dX1_wayByDisks_20 : decode cX1_wayByDisks 20 = .ok (.istore_n 1, 1) := by decide +kernel
theorem dX1_wayByDisks_21 : decode cX1_wayByDisks 21 = .ok (.iconst 0, 1) := by decide +kernel
theorem dX1_wayByDisks_22 : decode cX1_wayByDisks 22 = .ok (.istore_n 2, 1) := by decide +kernel
theorem dX1_wayByDisks_23 : decode cX1_wayByDisks 23 = .ok (.iload_n 2, 1) := by decide +kernel
theorem dX1_wayByDisks_24 : decode cX1_wayByDisks 24 = .ok (.bipush 25, 2) := by decide +kernel
theorem dX1_wayByDisks_26 : decode cX1_wayByDisks 26 = .ok (.if_icmp .ge 28, 3) := by decide +kernel
theorem dX1_wayByDisks_29 : decode cX1_wayByDisks 29 = .ok (.iload_n 1, 1) := by decide +kernel
theorem dX1_wayByDisks_30 : decode cX1_wayByDisks 30 = .ok (.ifCond .eq 16, 3) := by decide +kernel
theorem dX1_wayByDisks_33 : decode cX1_wayByDisks 33 = .ok (.aload_n 0, 1) := by decide +kernel
theorem dX1_wayByDisks_34 : decode cX1_wayByDisks 34 = .ok (.getfield 26, 3) := by decide +kernel
theorem dX1_wayByDisks_37 : decode cX1_wayByDisks 37 = .ok (.iload_n 2, 1) := by decide +kernel
theorem dX1_wayByDisks_38 : decode cX1_wayByDisks 38 = .ok (.baload, 1) := by decide +kernel
theorem dX1_wayByDisks_39 : decode cX1_wayByDisks 39 = .ok (.ifCond .ne 7, 3) := by decide +kernel
theorem dX1_wayByDisks_42 : decode cX1_wayByDisks 42 = .ok (.iconst 1, 1) := by decide +kernel
theorem dX1_wayByDisks_43 : decode cX1_wayByDisks 43 = .ok (.goto 4, 3) := by decide +kernel
theorem dX1_wayByDisks_46 : decode cX1_wayByDisks 46 = .ok (.iconst 0, 1) := by decide +kernel
theorem dX1_wayByDisks_47 : decode cX1_wayByDisks 47 = .ok (.istore_n 1, 1) := by decide +kernel
theorem dX1_wayByDisks_48 : decode cX1_wayByDisks 48 = .ok (.iinc 2 1, 3) := by decide +kernel
theorem dX1_wayByDisks_51 : decode cX1_wayByDisks 51 = .ok (.goto (-28), 3) := by decide +kernel
theorem dX1_wayByDisks_54 : decode cX1_wayByDisks 54 = .ok (.aload_n 0, 1) := by decide +kernel
theorem dX1_wayByDisks_55 : decode cX1_wayByDisks 55 = .ok (.iload_n 1, 1) := by decide +kernel
theorem dX1_wayByDisks_56 : decode cX1_wayByDisks 56 = .ok (.ifCond .eq 7, 3) := by decide +kernel
theorem dX1_wayByDisks_59 : decode cX1_wayByDisks 59 = .ok (.iconst 0, 1) := by decide +kernel
theorem dX1_wayByDisks_60 : decode cX1_wayByDisks 60 = .ok (.goto 4, 3) := by decide +kernel
theorem dX1_wayByDisks_63 : decode cX1_wayByDisks 63 = .ok (.iconst 1, 1) := by decide +kernel
theorem dX1_wayByDisks_64 : decode cX1_wayByDisks 64 = .ok (.invokevirtual 66, 3) := by decide +kernel
theorem dX1_wayByDisks_67 : decode cX1_wayByDisks 67 = .ok (.ifCond .ne 5, 3) := by decide +kernel
theorem dX1_wayByDisks_70 : decode cX1_wayByDisks 70 = .ok (.iconst 0, 1) := by decide +kernel
theorem dX1_wayByDisks_71 : decode cX1_wayByDisks 71 = .ok (.ireturn, 1) := by decide +kernel
theorem dX1_wayByDisks_72 : decode cX1_wayByDisks 72 = .ok (.aload_n 0, 1) := by decide +kernel
theorem dX1_wayByDisks_73 : decode cX1_wayByDisks 73 = .ok (.getfield 13, 3) := by decide +kernel
theorem dX1_wayByDisks_76 : decode cX1_wayByDisks 76 = .ok (.iconst 1, 1) := by decide +kernel
theorem dX1_wayByDisks_77 : decode cX1_wayByDisks 77 = .ok (.isub, 1) := by decide +kernel
theorem dX1_wayByDisks_78 : decode cX1_wayByDisks 78 = .ok (.istore_n 2, 1) := by decide +kernel
theorem dX1_wayByDisks_79 : decode cX1_wayByDisks 79 = .ok (.iload_n 2, 1) := by decide +kernel
theorem dX1_wayByDisks_80 : decode cX1_wayByDisks 80 = .ok (.ifCond .lt 24, 3) := by decide +kernel
theorem dX1_wayByDisks_83 : decode cX1_wayByDisks 83 = .ok (.aload_n 0, 1) := by decide +kernel
theorem dX1_wayByDisks_84 : decode cX1_wayByDisks 84 = .ok (.getfield 16, 3) := by decide +kernel
theorem dX1_wayByDisks_87 : decode cX1_wayByDisks 87 = .ok (.iload_n 2, 1) := by decide +kernel
theorem dX1_wayByDisks_88 : decode cX1_wayByDisks 88 = .ok (.iaload, 1) := by decide +kernel
theorem dX1_wayByDisks_89 : decode cX1_wayByDisks 89 = .ok (.aload_n 0, 1) := by decide +kernel
theorem dX1_wayByDisks_90 : decode cX1_wayByDisks 90 = .ok (.getfield 20, 3) := by decide +kernel
theorem dX1_wayByDisks_93 : decode cX1_wayByDisks 93 = .ok (.iload_n 2, 1) := by decide +kernel
theorem dX1_wayByDisks_94 : decode cX1_wayByDisks 94 = .ok (.iaload, 1) := by decide +kernel
theorem dX1_wayByDisks_95 : decode cX1_wayByDisks 95 = .ok (.if_icmp .ne 9, 3) := by decide +kernel
theorem dX1_wayByDisks_98 : decode cX1_wayByDisks 98 = .ok (.iinc 2 (-1), 3) := by decide +kernel
theorem dX1_wayByDisks_101 : decode cX1_wayByDisks 101 = .ok (.goto (-22), 3) := by decide +kernel
theorem dX1_wayByDisks_104 : decode cX1_wayByDisks 104 = .ok (.iload_n 2, 1) := by decide +kernel
theorem dX1_wayByDisks_105 : decode cX1_wayByDisks 105 = .ok (.ifCond .ge 5, 3) := by decide +kernel
theorem dX1_wayByDisks_108 : decode cX1_wayByDisks 108 = .ok (.iconst 0, 1) := by decide +kernel
theorem dX1_wayByDisks_109 : decode cX1_wayByDisks 109 = .ok (.ireturn, 1) := by decide +kernel
theorem dX1_wayByDisks_110 : decode cX1_wayByDisks 110 = .ok (.aload_n 0, 1) := by decide +kernel
theorem dX1_wayByDisks_111 : decode cX1_wayByDisks 111 = .ok (.getfield 16, 3) := by decide +kernel
theorem dX1_wayByDisks_114 : decode cX1_wayByDisks 114 = .ok (.iload_n 2, 1) := by decide +kernel
theorem dX1_wayByDisks_115 : decode cX1_wayByDisks 115 = .ok (.iaload, 1) := by decide +kernel
theorem dX1_wayByDisks_116 : decode cX1_wayByDisks 116 = .ok (.istore_n 3, 1) := by decide +kernel
theorem dX1_wayByDisks_117 : decode cX1_wayByDisks 117 = .ok (.aload_n 0, 1) := by decide +kernel
theorem dX1_wayByDisks_118 : decode cX1_wayByDisks 118 = .ok (.getfield 20, 3) := by decide +kernel
theorem dX1_wayByDisks_121 : decode cX1_wayByDisks 121 = .ok (.iload_n 2, 1) := by decide +kernel
theorem dX1_wayByDisks_122 : decode cX1_wayByDisks 122 = .ok (.iaload, 1) := by decide +kernel
theorem dX1_wayByDisks_123 : decode cX1_wayByDisks 123 = .ok (.istore 4, 2) := by decide +kernel
theorem dX1_wayByDisks_125 : decode cX1_wayByDisks 125 = .ok (.iconst 3, 1) := by decide +kernel
theorem dX1_wayByDisks_126 : decode cX1_wayByDisks 126 = .ok (.iload_n 3, 1) := by decide +kernel
theorem dX1_wayByDisks_127 : decode cX1_wayByDisks 127 = .ok (.isub, 1) := by decide +kernel
theorem dX1_wayByDisks_128 : decode cX1_wayByDisks 128 = .ok (.iload 4, 2) := by decide +kernel
theorem dX1_wayByDisks_130 : decode cX1_wayByDisks 130 = .ok (.isub, 1) := by decide +kernel
theorem dX1_wayByDisks_131 : decode cX1_wayByDisks 131 = .ok (.istore 5, 2) := by decide +kernel
theorem dX1_wayByDisks_133 : decode cX1_wayByDisks 133 = .ok (.aload_n 0, 1) := by decide +kernel
theorem dX1_wayByDisks_134 : decode cX1_wayByDisks 134 = .ok (.iconst 0, 1) := by decide +kernel
theorem dX1_wayByDisks_135 : decode cX1_wayByDisks 135 = .ok (.iload_n 2, 1) := by decide +kernel
theorem dX1_wayByDisks_136 : decode cX1_wayByDisks 136 = .ok (.iload 5, 2) := by decide +kernel
theorem dX1_wayByDisks_138 : decode cX1_wayByDisks 138 = .ok (.invokevirtual 117, 3) := by decide +kernel
theorem dX1_wayByDisks_141 : decode cX1_wayByDisks 141 = .ok (.aload_n 0, 1) := by decide +kernel
theorem dX1_wayByDisks_142 : decode cX1_wayByDisks 142 = .ok (.iconst 1, 1) := by decide +kernel
theorem dX1_wayByDisks_143 : decode cX1_wayByDisks 143 = .ok (.iload_n 2, 1) := by decide +kernel
theorem dX1_wayByDisks_144 : decode cX1_wayByDisks 144 = .ok (.iload 5, 2) := by decide +kernel
theorem dX1_wayByDisks_146 : decode cX1_wayByDisks 146 = .ok (.invokevirtual 117, 3) := by decide +kernel
theorem dX1_wayByDisks_149 : decode cX1_wayByDisks 149 = .ok (.iadd, 1) := by decide +kernel
theorem dX1_wayByDisks_150 : decode cX1_wayByDisks 150 = .ok (.iconst 1, 1) := by decide +kernel
theorem dX1_wayByDisks_151 : decode cX1_wayByDisks 151 = .ok (.iadd, 1) := by decide +kernel
theorem dX1_wayByDisks_152 : decode cX1_wayByDisks 152 = .ok (.istore 6, 2) := by decide +kernel
theorem dX1_wayByDisks_154 : decode cX1_wayByDisks 154 = .ok (.aload_n 0, 1) := by decide +kernel
theorem dX1_wayByDisks_155 : decode cX1_wayByDisks 155 = .ok (.iconst 0, 1) := by decide +kernel
theorem dX1_wayByDisks_156 : decode cX1_wayByDisks 156 = .ok (.iload_n 2, 1) := by decide +kernel
theorem dX1_wayByDisks_157 : decode cX1_wayByDisks 157 = .ok (.iload 4, 2) := by decide +kernel
theorem dX1_wayByDisks_159 : decode cX1_wayByDisks 159 = .ok (.invokevirtual 117, 3) := by decide +kernel
theorem dX1_wayByDisks_162 : decode cX1_wayByDisks 162 = .ok (.aload_n 0, 1) := by decide +kernel
theorem dX1_wayByDisks_163 : decode cX1_wayByDisks 163 = .ok (.iconst 1, 1) := by decide +kernel
theorem dX1_wayByDisks_164 : decode cX1_wayByDisks 164 = .ok (.iload_n 2, 1) := by decide +kernel
theorem dX1_wayByDisks_165 : decode cX1_wayByDisks 165 = .ok (.iload_n 3, 1) := by decide +kernel
theorem dX1_wayByDisks_166 : decode cX1_wayByDisks 166 = .ok (.invokevirtual 117, 3) := by decide +kernel
theorem dX1_wayByDisks_169 : decode cX1_wayByDisks 169 = .ok (.iadd, 1) := by decide +kernel
theorem dX1_wayByDisks_170 : decode cX1_wayByDisks 170 = .ok (.iconst 1, 1) := by decide +kernel
theorem dX1_wayByDisks_171 : decode cX1_wayByDisks 171 = .ok (.iload_n 2, 1) := by decide +kernel
theorem dX1_wayByDisks_172 : decode cX1_wayByDisks 172 = .ok (.ishl, 1) := by decide +kernel
theorem dX1_wayByDisks_173 : decode cX1_wayByDisks 173 = .ok (.iadd, 1) := by decide +kernel
theorem dX1_wayByDisks_174 : decode cX1_wayByDisks 174 = .ok (.iconst 1, 1) := by decide +kernel
theorem dX1_wayByDisks_175 : decode cX1_wayByDisks 175 = .ok (.iadd, 1) := by decide +kernel
theorem dX1_wayByDisks_176 : decode cX1_wayByDisks 176 = .ok (.istore 7, 2) := by decide +kernel
theorem dX1_wayByDisks_178 : decode cX1_wayByDisks 178 = .ok (.iload 6, 2) := by decide +kernel
theorem dX1_wayByDisks_180 : decode cX1_wayByDisks 180 = .ok (.iload 7, 2) := by decide +kernel
theorem dX1_wayByDisks_182 : decode cX1_wayByDisks 182 = .ok (.if_icmp .ge 8, 3) := by decide +kernel
theorem dX1_wayByDisks_185 : decode cX1_wayByDisks 185 = .ok (.iload 6, 2) := by decide +kernel
theorem dX1_wayByDisks_187 : decode cX1_wayByDisks 187 = .ok (.goto 5, 3) := by decide +kernel
theorem dX1_wayByDisks_190 : decode cX1_wayByDisks 190 = .ok (.iload 7, 2) := by decide +kernel
theorem dX1_wayByDisks_192 : decode cX1_wayByDisks 192 = .ok (.ireturn, 1) := by decide +kernel
theorem dX1_lost_0 : decode cX1_lost 0 = .ok (.aload_n 0, 1) := by decide +kernel
theorem dX1_lost_1 : decode cX1_lost 1 = .ok (.aload_n 0, 1) := by decide +kernel
theorem dX1_lost_2 : decode cX1_lost 2 = .ok (.invokevirtual 92, 3) := by decide +kernel
theorem dX1_lost_5 : decode cX1_lost 5 = .ok (.invokevirtual 114, 3) := by decide +kernel
theorem dX1_lost_8 : decode cX1_lost 8 = .ok (.istore_n 1, 1) := by decide +kernel
theorem dX1_lost_9 : decode cX1_lost 9 = .ok (.aload_n 0, 1) := by decide +kernel
theorem dX1_lost_10 : decode cX1_lost 10 = .ok (.getfield 63, 3) := by decide +kernel
theorem dX1_lost_13 : decode cX1_lost 13 = .ok (.ifCond .ne 7, 3) := by decide +kernel
theorem dX1_lost_16 : decode cX1_lost 16 = .ok (.iload_n 1, 1) := by decide +kernel
theorem dX1_lost_17 : decode cX1_lost 17 = .ok (.goto 11, 3) := by decide +kernel
theorem dX1_lost_20 : decode cX1_lost 20 = .ok (.aload_n 0, 1) := by decide +kernel
theorem dX1_lost_21 : decode cX1_lost 21 = .ok (.aload_n 0, 1) := by decide +kernel
theorem dX1_lost_22 : decode cX1_lost 22 = .ok (.getfield 99, 3) := by decide +kernel
theorem dX1_lost_25 : decode cX1_lost 25 = .ok (.invokevirtual 114, 3) := by decide +kernel
theorem dX1_lost_28 : decode cX1_lost 28 = .ok (.istore_n 2, 1) := by decide +kernel
theorem dX1_lost_29 : decode cX1_lost 29 = .ok (.aload_n 0, 1) := by decide +kernel
theorem dX1_lost_30 : decode cX1_lost 30 = .ok (.iload_n 1, 1) := by decide +kernel
theorem dX1_lost_31 : decode cX1_lost 31 = .ok (.iconst (-1), 1) := by decide +kernel
theorem dX1_lost_32 : decode cX1_lost 32 = .ok (.if_icmp .eq 8, 3) := by decide +kernel
theorem dX1_lost_35 : decode cX1_lost 35 = .ok (.iload_n 2, 1) := by decide +kernel
theorem dX1_lost_36 : decode cX1_lost 36 = .ok (.iconst (-1), 1) := by decide +kernel
theorem dX1_lost_37 : decode cX1_lost 37 = .ok (.if_icmp .ne 7, 3) := by decide +kernel
theorem dX1_lost_40 : decode cX1_lost 40 = .ok (.iconst 1, 1) := by decide +kernel
theorem dX1_lost_41 : decode cX1_lost 41 = .ok (.goto 4, 3) := by decide +kernel
theorem dX1_lost_44 : decode cX1_lost 44 = .ok (.iconst 0, 1) := by decide +kernel
theorem dX1_lost_45 : decode cX1_lost 45 = .ok (.invokevirtual 66, 3) := by decide +kernel
theorem dX1_lost_48 : decode cX1_lost 48 = .ok (.ifCond .eq 14, 3) := by decide +kernel
theorem dX1_lost_51 : decode cX1_lost 51 = .ok (.aload_n 0, 1) := by decide +kernel
theorem dX1_lost_52 : decode cX1_lost 52 = .ok (.getfield 63, 3) := by decide +kernel
theorem dX1_lost_55 : decode cX1_lost 55 = .ok (.iload_n 1, 1) := by decide +kernel
theorem dX1_lost_56 : decode cX1_lost 56 = .ok (.iadd, 1) := by decide +kernel
theorem dX1_lost_57 : decode cX1_lost 57 = .ok (.iload_n 2, 1) := by decide +kernel
theorem dX1_lost_58 : decode cX1_lost 58 = .ok (.isub, 1) := by decide +kernel
theorem dX1_lost_59 : decode cX1_lost 59 = .ok (.goto 4, 3) := by decide +kernel
theorem dX1_lost_62 : decode cX1_lost 62 = .ok (.iconst 0, 1) := by decide +kernel
theorem dX1_lost_63 : decode cX1_lost 63 = .ok (.ireturn, 1) := by decide +kernel
theorem dX1_next_0 : decode cX1_next 0 = .ok (.aload_n 0, 1) := by decide +kernel
theorem dX1_next_1 : decode cX1_next 1 = .ok (.iconst 0, 1) := by decide +kernel
theorem dX1_next_2 : decode cX1_next 2 = .ok (.putfield 52, 3) := by decide +kernel
theorem dX1_next_5 : decode cX1_next 5 = .ok (.aload_n 0, 1) := by decide +kernel
theorem dX1_next_6 : decode cX1_next 6 = .ok (.invokevirtual 92, 3) := by decide +kernel
theorem dX1_next_9 : decode cX1_next 9 = .ok (.istore_n 1, 1) := by decide +kernel
theorem dX1_next_10 : decode cX1_next 10 = .ok (.aload_n 0, 1) := by decide +kernel
theorem dX1_next_11 : decode cX1_next 11 = .ok (.iload_n 1, 1) := by decide +kernel
theorem dX1_next_12 : decode cX1_next 12 = .ok (.invokevirtual 114, 3) := by decide +kernel
theorem dX1_next_15 : decode cX1_next 15 = .ok (.istore_n 2, 1) := by decide +kernel
theorem dX1_next_16 : decode cX1_next 16 = .ok (.iconst 0, 1) := by decide +kernel
theorem dX1_next_17 : decode cX1_next 17 = .ok (.istore_n 3, 1) := by decide +kernel
theorem dX1_next_18 : decode cX1_next 18 = .ok (.iload_n 3, 1) := by decide +kernel
theorem dX1_next_19 : decode cX1_next 19 = .ok (.aload_n 0, 1) := by decide +kernel
theorem dX1_next_20 : decode cX1_next 20 = .ok (.getfield 7, 3) := by decide +kernel
theorem dX1_next_23 : decode cX1_next 23 = .ok (.aload_n 0, 1) := by decide +kernel
theorem dX1_next_24 : decode cX1_next 24 = .ok (.getfield 7, 3) := by decide +kernel
theorem dX1_next_27 : decode cX1_next 27 = .ok (.imul, 1) := by decide +kernel
theorem dX1_next_28 : decode cX1_next 28 = .ok (.if_icmp .ge 67, 3) := by decide +kernel
theorem dX1_next_31 : decode cX1_next 31 = .ok (.iload_n 2, 1) := by decide +kernel
theorem dX1_next_32 : decode cX1_next 32 = .ok (.ifCond .le 63, 3) := by decide +kernel
theorem dX1_next_35 : decode cX1_next 35 = .ok (.aload_n 0, 1) := by decide +kernel
theorem dX1_next_36 : decode cX1_next 36 = .ok (.iload_n 1, 1) := by decide +kernel
theorem dX1_next_37 : decode cX1_next 37 = .ok (.iload_n 3, 1) := by decide +kernel
theorem dX1_next_38 : decode cX1_next 38 = .ok (.aload_n 0, 1) := by decide +kernel
theorem dX1_next_39 : decode cX1_next 39 = .ok (.getfield 7, 3) := by decide +kernel
theorem dX1_next_42 : decode cX1_next 42 = .ok (.idiv, 1) := by decide +kernel
theorem dX1_next_43 : decode cX1_next 43 = .ok (.iload_n 3, 1) := by decide +kernel
theorem dX1_next_44 : decode cX1_next 44 = .ok (.aload_n 0, 1) := by decide +kernel
theorem dX1_next_45 : decode cX1_next 45 = .ok (.getfield 7, 3) := by decide +kernel
theorem dX1_next_48 : decode cX1_next 48 = .ok (.irem, 1) := by decide +kernel
theorem dX1_next_49 : decode cX1_next 49 = .ok (.invokevirtual 95, 3) := by decide +kernel
theorem dX1_next_52 : decode cX1_next 52 = .ok (.istore 4, 2) := by decide +kernel
theorem dX1_next_54 : decode cX1_next 54 = .ok (.iload 4, 2) := by decide +kernel
theorem dX1_next_56 : decode cX1_next 56 = .ok (.iconst (-1), 1) := by decide +kernel
theorem dX1_next_57 : decode cX1_next 57 = .ok (.if_icmp .eq 32, 3) := by decide +kernel
theorem dX1_next_60 : decode cX1_next 60 = .ok (.aload_n 0, 1) := by decide +kernel
theorem dX1_next_61 : decode cX1_next 61 = .ok (.iload 4, 2) := by decide +kernel
theorem dX1_next_63 : decode cX1_next 63 = .ok (.invokevirtual 114, 3) := by decide +kernel
theorem dX1_next_66 : decode cX1_next 66 = .ok (.iload_n 2, 1) := by decide +kernel
theorem dX1_next_67 : decode cX1_next 67 = .ok (.iconst 1, 1) := by decide +kernel
theorem dX1_next_68 : decode cX1_next 68 = .ok (.isub, 1) := by decide +kernel
theorem dX1_next_69 : decode cX1_next 69 = .ok (.if_icmp .ne 20, 3) := by decide +kernel
theorem dX1_next_72 : decode cX1_next 72 = .ok (.bipush 10, 2) := by decide +kernel
theorem dX1_next_74 : decode cX1_next 74 = .ok (.iload_n 3, 1) := by decide +kernel
theorem dX1_next_75 : decode cX1_next 75 = .ok (.aload_n 0, 1) := by decide +kernel
theorem dX1_next_76 : decode cX1_next 76 = .ok (.getfield 7, 3) := by decide +kernel
theorem dX1_next_79 : decode cX1_next 79 = .ok (.idiv, 1) := by decide +kernel
theorem dX1_next_80 : decode cX1_next 80 = .ok (.imul, 1) := by decide +kernel
theorem dX1_next_81 : decode cX1_next 81 = .ok (.iload_n 3, 1) := by decide +kernel
theorem dX1_next_82 : decode cX1_next 82 = .ok (.aload_n 0, 1) := by decide +kernel
theorem dX1_next_83 : decode cX1_next 83 = .ok (.getfield 7, 3) := by decide +kernel
theorem dX1_next_86 : decode cX1_next 86 = .ok (.irem, 1) := by decide +kernel
theorem dX1_next_87 : decode cX1_next 87 = .ok (.iadd, 1) := by decide +kernel
theorem dX1_next_88 : decode cX1_next 88 = .ok (.ireturn, 1) := by decide +kernel
theorem dX1_next_89 : decode cX1_next 89 = .ok (.iinc 3 1, 3) := by decide +kernel
theorem dX1_next_92 : decode cX1_next 92 = .ok (.goto (-74), 3) := by decide +kernel
theorem dX1_next_95 : decode cX1_next 95 = .ok (.iconst (-1), 1) := by decide +kernel
theorem dX1_next_96 : decode cX1_next 96 = .ok (.ireturn, 1) := by decide +kernel
theorem dX1_reachable_0 : decode cX1_reachable 0 = .ok (.aload_n 0, 1) := by decide +kernel
theorem dX1_reachable_1 : decode cX1_reachable 1 = .ok (.iconst 0, 1) := by decide +kernel
theorem dX1_reachable_2 : decode cX1_reachable 2 = .ok (.putfield 52, 3) := by decide +kernel
theorem dX1_reachable_5 : decode cX1_reachable 5 = .ok (.aload_n 0, 1) := by decide +kernel
theorem dX1_reachable_6 : decode cX1_reachable 6 = .ok (.aload_n 0, 1) := by decide +kernel
theorem dX1_reachable_7 : decode cX1_reachable 7 = .ok (.invokevirtual 92, 3) := by decide +kernel
theorem dX1_reachable_10 : decode cX1_reachable 10 = .ok (.invokevirtual 111, 3) := by decide +kernel
theorem dX1_reachable_13 : decode cX1_reachable 13 = .ok (.aload_n 0, 1) := by decide +kernel
theorem dX1_reachable_14 : decode cX1_reachable 14 = .ok (.getfield 108, 3) := by decide +kernel
theorem dX1_reachable_17 : decode cX1_reachable 17 = .ok (.ireturn, 1) := by decide +kernel
theorem dX1_splits_0 : decode cX1_splits 0 = .ok (.aload_n 0, 1) := by decide +kernel
theorem dX1_splits_1 : decode cX1_splits 1 = .ok (.iload_n 1, 1) := by decide +kernel
theorem dX1_splits_2 : decode cX1_splits 2 = .ok (.iconst 0, 1) := by decide +kernel
theorem dX1_splits_3 : decode cX1_splits 3 = .ok (.bipush 20, 2) := by decide +kernel
theorem dX1_splits_5 : decode cX1_splits 5 = .ok (.invokestatic 55, 3) := by decide +kernel
theorem dX1_splits_8 : decode cX1_splits 8 = .ok (.ifCond .eq 16, 3) := by decide +kernel
theorem dX1_splits_11 : decode cX1_splits 11 = .ok (.iload_n 2, 1) := by decide +kernel
theorem dX1_splits_12 : decode cX1_splits 12 = .ok (.iconst 3, 1) := by decide +kernel
theorem dX1_splits_13 : decode cX1_splits 13 = .ok (.iconst 5, 1) := by decide +kernel
theorem dX1_splits_14 : decode cX1_splits 14 = .ok (.invokestatic 55, 3) := by decide +kernel
theorem dX1_splits_17 : decode cX1_splits 17 = .ok (.ifCond .eq 7, 3) := by decide +kernel
theorem dX1_splits_20 : decode cX1_splits 20 = .ok (.iconst 0, 1) := by decide +kernel
theorem dX1_splits_21 : decode cX1_splits 21 = .ok (.goto 4, 3) := by decide +kernel
theorem dX1_splits_24 : decode cX1_splits 24 = .ok (.iconst 1, 1) := by decide +kernel
theorem dX1_splits_25 : decode cX1_splits 25 = .ok (.invokevirtual 66, 3) := by decide +kernel
theorem dX1_splits_28 : decode cX1_splits 28 = .ok (.ifCond .ne 5, 3) := by decide +kernel
theorem dX1_splits_31 : decode cX1_splits 31 = .ok (.iconst 0, 1) := by decide +kernel
theorem dX1_splits_32 : decode cX1_splits 32 = .ok (.ireturn, 1) := by decide +kernel
theorem dX1_splits_33 : decode cX1_splits 33 = .ok (.iconst 0, 1) := by decide +kernel
theorem dX1_splits_34 : decode cX1_splits 34 = .ok (.istore_n 3, 1) := by decide +kernel
theorem dX1_splits_35 : decode cX1_splits 35 = .ok (.iload_n 3, 1) := by decide +kernel
theorem dX1_splits_36 : decode cX1_splits 36 = .ok (.bipush 20, 2) := by decide +kernel
theorem dX1_splits_38 : decode cX1_splits 38 = .ok (.if_icmp .gt 20, 3) := by decide +kernel
theorem dX1_splits_41 : decode cX1_splits 41 = .ok (.aload_n 0, 1) := by decide +kernel
theorem dX1_splits_42 : decode cX1_splits 42 = .ok (.getfield 45, 3) := by decide +kernel
theorem dX1_splits_45 : decode cX1_splits 45 = .ok (.iload_n 3, 1) := by decide +kernel
theorem dX1_splits_46 : decode cX1_splits 46 = .ok (.iconst 1, 1) := by decide +kernel
theorem dX1_splits_47 : decode cX1_splits 47 = .ok (.iload_n 3, 1) := by decide +kernel
theorem dX1_splits_48 : decode cX1_splits 48 = .ok (.ishl, 1) := by decide +kernel
theorem dX1_splits_49 : decode cX1_splits 49 = .ok (.iconst 1, 1) := by decide +kernel
theorem dX1_splits_50 : decode cX1_splits 50 = .ok (.isub, 1) := by decide +kernel
theorem dX1_splits_51 : decode cX1_splits 51 = .ok (.iastore, 1) := by decide +kernel
theorem dX1_splits_52 : decode cX1_splits 52 = .ok (.iinc 3 1, 3) := by decide +kernel
theorem dX1_splits_55 : decode cX1_splits 55 = .ok (.goto (-20), 3) := by decide +kernel
theorem dX1_splits_58 : decode cX1_splits 58 = .ok (.iconst 4, 1) := by decide +kernel
theorem dX1_splits_59 : decode cX1_splits 59 = .ok (.istore_n 3, 1) := by decide +kernel
theorem dX1_splits_60 : decode cX1_splits 60 = .ok (.iload_n 3, 1) := by decide +kernel
theorem dX1_splits_61 : decode cX1_splits 61 = .ok (.iconst 5, 1) := by decide +kernel
theorem dX1_splits_62 : decode cX1_splits 62 = .ok (.if_icmp .gt 175, 3) := by decide +kernel
theorem dX1_splits_65 : decode cX1_splits 65 = .ok (.bipush 21, 2) := by decide +kernel
theorem dX1_splits_67 : decode cX1_splits 67 = .ok (.iload_n 3, 1) := by decide +kernel
theorem dX1_splits_68 : decode cX1_splits 68 = .ok (.iconst 3, 1) := by decide +kernel
theorem dX1_splits_69 : decode cX1_splits 69 = .ok (.isub, 1) := by decide +kernel
theorem dX1_splits_70 : decode cX1_splits 70 = .ok (.imul, 1) := by decide +kernel
theorem dX1_splits_71 : decode cX1_splits 71 = .ok (.istore 4, 2) := by decide +kernel
theorem dX1_splits_73 : decode cX1_splits 73 = .ok (.aload_n 0, 1) := by decide +kernel
theorem dX1_splits_74 : decode cX1_splits 74 = .ok (.getfield 45, 3) := by decide +kernel
theorem dX1_splits_77 : decode cX1_splits 77 = .ok (.iload 4, 2) := by decide +kernel
theorem dX1_splits_79 : decode cX1_splits 79 = .ok (.iconst 0, 1) := by decide +kernel
theorem dX1_splits_80 : decode cX1_splits 80 = .ok (.iastore, 1) := by decide +kernel
theorem dX1_splits_81 : decode cX1_splits 81 = .ok (.aload_n 0, 1) := by decide +kernel
theorem dX1_splits_82 : decode cX1_splits 82 = .ok (.getfield 45, 3) := by decide +kernel
theorem dX1_splits_85 : decode cX1_splits 85 = .ok (.iload 4, 2) := by decide +kernel
theorem dX1_splits_87 : decode cX1_splits 87 = .ok (.iconst 1, 1) := by decide +kernel
theorem dX1_splits_88 : decode cX1_splits 88 = .ok (.iadd, 1) := by decide +kernel
theorem dX1_splits_89 : decode cX1_splits 89 = .ok (.iconst 1, 1) := by decide +kernel
theorem dX1_splits_90 : decode cX1_splits 90 = .ok (.iastore, 1) := by decide +kernel
theorem dX1_splits_91 : decode cX1_splits 91 = .ok (.iconst 2, 1) := by decide +kernel
theorem dX1_splits_92 : decode cX1_splits 92 = .ok (.istore 5, 2) := by decide +kernel
theorem dX1_splits_94 : decode cX1_splits 94 = .ok (.iload 5, 2) := by decide +kernel
theorem dX1_splits_96 : decode cX1_splits 96 = .ok (.bipush 20, 2) := by decide +kernel
theorem dX1_splits_98 : decode cX1_splits 98 = .ok (.if_icmp .gt 133, 3) := by decide +kernel
theorem dX1_splits_101 : decode cX1_splits 101 = .ok (.aload_n 0, 1) := by decide +kernel
theorem dX1_splits_102 : decode cX1_splits 102 = .ok (.getfield 45, 3) := by decide +kernel
theorem dX1_splits_105 : decode cX1_splits 105 = .ok (.iload 4, 2) := by decide +kernel
theorem dX1_splits_107 : decode cX1_splits 107 = .ok (.iload 5, 2) := by decide +kernel
theorem dX1_splits_109 : decode cX1_splits 109 = .ok (.iadd, 1) := by decide +kernel
theorem dX1_splits_110 : decode cX1_splits 110 = .ok (.iconst 2, 1) := by decide +kernel
theorem dX1_splits_111 : decode cX1_splits 111 = .ok (.aload_n 0, 1) := by decide +kernel
theorem dX1_splits_112 : decode cX1_splits 112 = .ok (.getfield 45, 3) := by decide +kernel
theorem dX1_splits_115 : decode cX1_splits 115 = .ok (.iload 4, 2) := by decide +kernel
theorem dX1_splits_117 : decode cX1_splits 117 = .ok (.iconst 1, 1) := by decide +kernel
theorem dX1_splits_118 : decode cX1_splits 118 = .ok (.iadd, 1) := by decide +kernel
theorem dX1_splits_119 : decode cX1_splits 119 = .ok (.iaload, 1) := by decide +kernel
theorem dX1_splits_120 : decode cX1_splits 120 = .ok (.imul, 1) := by decide +kernel
theorem dX1_splits_121 : decode cX1_splits 121 = .ok (.aload_n 0, 1) := by decide +kernel
theorem dX1_splits_122 : decode cX1_splits 122 = .ok (.getfield 45, 3) := by decide +kernel
theorem dX1_splits_125 : decode cX1_splits 125 = .ok (.iload 4, 2) := by decide +kernel
theorem dX1_splits_127 : decode cX1_splits 127 = .ok (.bipush 21, 2) := by decide +kernel
theorem dX1_splits_129 : decode cX1_splits 129 = .ok (.isub, 1) := by decide +kernel
theorem dX1_splits_130 : decode cX1_splits 130 = .ok (.iload 5, 2) := by decide +kernel
theorem dX1_splits_132 : decode cX1_splits 132 = .ok (.iadd, 1) := by decide +kernel
theorem dX1_splits_133 : decode cX1_splits 133 = .ok (.iconst 1, 1) := by decide +kernel
theorem dX1_splits_134 : decode cX1_splits 134 = .ok (.isub, 1) := by decide +kernel
theorem dX1_splits_135 : decode cX1_splits 135 = .ok (.iaload, 1) := by decide +kernel
theorem dX1_splits_136 : decode cX1_splits 136 = .ok (.iadd, 1) := by decide +kernel
theorem dX1_splits_137 : decode cX1_splits 137 = .ok (.iastore, 1) := by decide +kernel
theorem dX1_splits_138 : decode cX1_splits 138 = .ok (.iconst 2, 1) := by decide +kernel
theorem dX1_splits_139 : decode cX1_splits 139 = .ok (.istore 6, 2) := by decide +kernel
theorem dX1_splits_141 : decode cX1_splits 141 = .ok (.iload 6, 2) := by decide +kernel
theorem dX1_splits_143 : decode cX1_splits 143 = .ok (.iload 5, 2) := by decide +kernel
theorem dX1_splits_145 : decode cX1_splits 145 = .ok (.if_icmp .ge 80, 3) := by decide +kernel
theorem dX1_splits_148 : decode cX1_splits 148 = .ok (.iconst 2, 1) := by decide +kernel
theorem dX1_splits_149 : decode cX1_splits 149 = .ok (.aload_n 0, 1) := by decide +kernel
theorem dX1_splits_150 : decode cX1_splits 150 = .ok (.getfield 45, 3) := by decide +kernel
theorem dX1_splits_153 : decode cX1_splits 153 = .ok (.iload 4, 2) := by decide +kernel
theorem dX1_splits_155 : decode cX1_splits 155 = .ok (.iload 6, 2) := by decide +kernel
theorem dX1_splits_157 : decode cX1_splits 157 = .ok (.iadd, 1) := by decide +kernel
theorem dX1_splits_158 : decode cX1_splits 158 = .ok (.iaload, 1) := by decide +kernel
theorem dX1_splits_159 : decode cX1_splits 159 = .ok (.imul, 1) := by decide +kernel
theorem dX1_splits_160 : decode cX1_splits 160 = .ok (.aload_n 0, 1) := by decide +kernel
theorem dX1_splits_161 : decode cX1_splits 161 = .ok (.getfield 45, 3) := by decide +kernel
theorem dX1_splits_164 : decode cX1_splits 164 = .ok (.iload 4, 2) := by decide +kernel
theorem dX1_splits_166 : decode cX1_splits 166 = .ok (.bipush 21, 2) := by decide +kernel
theorem dX1_splits_168 : decode cX1_splits 168 = .ok (.isub, 1) := by decide +kernel
theorem dX1_splits_169 : decode cX1_splits 169 = .ok (.iload 5, 2) := by decide +kernel
theorem dX1_splits_171 : decode cX1_splits 171 = .ok (.iadd, 1) := by decide +kernel
theorem dX1_splits_172 : decode cX1_splits 172 = .ok (.iload 6, 2) := by decide +kernel
theorem dX1_splits_174 : decode cX1_splits 174 = .ok (.isub, 1) := by decide +kernel
theorem dX1_splits_175 : decode cX1_splits 175 = .ok (.iaload, 1) := by decide +kernel
theorem dX1_splits_176 : decode cX1_splits 176 = .ok (.iadd, 1) := by decide +kernel
theorem dX1_splits_177 : decode cX1_splits 177 = .ok (.istore 7, 2) := by decide +kernel
theorem dX1_splits_179 : decode cX1_splits 179 = .ok (.aload_n 0, 1) := by decide +kernel
theorem dX1_splits_180 : decode cX1_splits 180 = .ok (.getfield 45, 3) := by decide +kernel
theorem dX1_splits_183 : decode cX1_splits 183 = .ok (.iload 4, 2) := by decide +kernel
theorem dX1_splits_185 : decode cX1_splits 185 = .ok (.iload 5, 2) := by decide +kernel
theorem dX1_splits_187 : decode cX1_splits 187 = .ok (.iadd, 1) := by decide +kernel
theorem dX1_splits_188 : decode cX1_splits 188 = .ok (.iload 7, 2) := by decide +kernel
theorem dX1_splits_190 : decode cX1_splits 190 = .ok (.aload_n 0, 1) := by decide +kernel
theorem dX1_splits_191 : decode cX1_splits 191 = .ok (.getfield 45, 3) := by decide +kernel
theorem dX1_splits_194 : decode cX1_splits 194 = .ok (.iload 4, 2) := by decide +kernel
theorem dX1_splits_196 : decode cX1_splits 196 = .ok (.iload 5, 2) := by decide +kernel
theorem dX1_splits_198 : decode cX1_splits 198 = .ok (.iadd, 1) := by decide +kernel
theorem dX1_splits_199 : decode cX1_splits 199 = .ok (.iaload, 1) := by decide +kernel
theorem dX1_splits_200 : decode cX1_splits 200 = .ok (.if_icmp .ge 8, 3) := by decide +kernel
theorem dX1_splits_203 : decode cX1_splits 203 = .ok (.iload 7, 2) := by decide +kernel
theorem dX1_splits_205 : decode cX1_splits 205 = .ok (.goto 13, 3) := by decide +kernel
theorem dX1_splits_208 : decode cX1_splits 208 = .ok (.aload_n 0, 1) := by decide +kernel
theorem dX1_splits_209 : decode cX1_splits 209 = .ok (.getfield 45, 3) := by decide +kernel
theorem dX1_splits_212 : decode cX1_splits 212 = .ok (.iload 4, 2) := by decide +kernel
theorem dX1_splits_214 : decode cX1_splits 214 = .ok (.iload 5, 2) := by decide +kernel
theorem dX1_splits_216 : decode cX1_splits 216 = .ok (.iadd, 1) := by decide +kernel
theorem dX1_splits_217 : decode cX1_splits 217 = .ok (.iaload, 1) := by decide +kernel
theorem dX1_splits_218 : decode cX1_splits 218 = .ok (.iastore, 1) := by decide +kernel
theorem dX1_splits_219 : decode cX1_splits 219 = .ok (.iinc 6 1, 3) := by decide +kernel
theorem dX1_splits_222 : decode cX1_splits 222 = .ok (.goto (-81), 3) := by decide +kernel
theorem dX1_splits_225 : decode cX1_splits 225 = .ok (.iinc 5 1, 3) := by decide +kernel
theorem dX1_splits_228 : decode cX1_splits 228 = .ok (.goto (-134), 3) := by decide +kernel
theorem dX1_splits_231 : decode cX1_splits 231 = .ok (.iinc 3 1, 3) := by decide +kernel
theorem dX1_splits_234 : decode cX1_splits 234 = .ok (.goto (-174), 3) := by decide +kernel
theorem dX1_splits_237 : decode cX1_splits 237 = .ok (.aload_n 0, 1) := by decide +kernel
theorem dX1_splits_238 : decode cX1_splits 238 = .ok (.getfield 45, 3) := by decide +kernel
theorem dX1_splits_241 : decode cX1_splits 241 = .ok (.bipush 21, 2) := by decide +kernel
theorem dX1_splits_243 : decode cX1_splits 243 = .ok (.iload_n 2, 1) := by decide +kernel
theorem dX1_splits_244 : decode cX1_splits 244 = .ok (.iconst 3, 1) := by decide +kernel
theorem dX1_splits_245 : decode cX1_splits 245 = .ok (.isub, 1) := by decide +kernel
theorem dX1_splits_246 : decode cX1_splits 246 = .ok (.imul, 1) := by decide +kernel
theorem dX1_splits_247 : decode cX1_splits 247 = .ok (.iload_n 1, 1) := by decide +kernel
theorem dX1_splits_248 : decode cX1_splits 248 = .ok (.iadd, 1) := by decide +kernel
theorem dX1_splits_249 : decode cX1_splits 249 = .ok (.iaload, 1) := by decide +kernel
theorem dX1_splits_250 : decode cX1_splits 250 = .ok (.ireturn, 1) := by decide +kernel
