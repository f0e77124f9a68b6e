theorem dX0_init_0 : decode cX0_init 0 = .ok (.aload_n 0, 1) := by decide +kernel
theorem dX0_init_1 : decode cX0_init 1 = .ok (.invokespecial 1, 3) := by decide +kernel
theorem dX0_init_4 : decode cX0_init 4 = .ok (.aload_n 0, 1) := by decide +kernel
theorem dX0_init_5 : decode cX0_init 5 = .ok (.bipush 7, 2) := by decide +kernel
theorem dX0_init_7 : decode cX0_init 7 = .ok (.newarray .int, 2) := by decide +kernel
theorem dX0_init_9 : decode cX0_init 9 = .ok (.putfield 9, 3) := by decide +kernel
theorem dX0_init_12 : decode cX0_init 12 = .ok (.aload_n 0, 1) := by decide +kernel
theorem dX0_init_13 : decode cX0_init 13 = .ok (.bipush 6, 2) := by decide +kernel
theorem dX0_init_15 : decode cX0_init 15 = .ok (.newarray .int, 2) := by decide +kernel
theorem dX0_init_17 : decode cX0_init 17 = .ok (.putfield 13, 3) := by decide +kernel
theorem dX0_init_20 : decode cX0_init 20 = .ok (.aload_n 0, 1) := by decide +kernel
theorem dX0_init_21 : decode cX0_init 21 = .ok (.bipush 25, 2) := by decide +kernel
theorem dX0_init_23 : decode cX0_init 23 = .ok (.newarray .boolean, 2) := by decide +kernel
theorem dX0_init_25 : decode cX0_init 25 = .ok (.putfield 16, 3) := by decide +kernel
theorem dX0_init_28 : decode cX0_init 28 = .ok (.aload_n 0, 1) := by decide +kernel
theorem dX0_init_29 : decode cX0_init 29 = .ok (.sipush 500, 3) := by decide +kernel
theorem dX0_init_32 : decode cX0_init 32 = .ok (.newarray .int, 2) := by decide +kernel
theorem dX0_init_34 : decode cX0_init 34 = .ok (.putfield 20, 3) := by decide +kernel
theorem dX0_init_37 : decode cX0_init 37 = .ok (.aload_n 0, 1) := by decide +kernel
theorem dX0_init_38 : decode cX0_init 38 = .ok (.iconst 5, 1) := by decide +kernel
theorem dX0_init_39 : decode cX0_init 39 = .ok (.newarray .int, 2) := by decide +kernel
theorem dX0_init_41 : decode cX0_init 41 = .ok (.putfield 23, 3) := by decide +kernel
theorem dX0_init_44 : decode cX0_init 44 = .ok (.aload_n 0, 1) := by decide +kernel
theorem dX0_init_45 : decode cX0_init 45 = .ok (.sipush 15625, 3) := by decide +kernel
theorem dX0_init_48 : decode cX0_init 48 = .ok (.newarray .int, 2) := by decide +kernel
theorem dX0_init_50 : decode cX0_init 50 = .ok (.putfield 26, 3) := by decide +kernel
theorem dX0_init_53 : decode cX0_init 53 = .ok (.aload_n 0, 1) := by decide +kernel
theorem dX0_init_54 : decode cX0_init 54 = .ok (.sipush 15625, 3) := by decide +kernel
theorem dX0_init_57 : decode cX0_init 57 = .ok (.newarray .int, 2) := by decide +kernel
theorem dX0_init_59 : decode cX0_init 59 = .ok (.putfield 29, 3) := by decide +kernel
theorem dX0_init_62 : decode cX0_init 62 = .ok (.aload_n 0, 1) := by decide +kernel
theorem dX0_init_63 : decode cX0_init 63 = .ok (.sipush 15625, 3) := by decide +kernel
theorem dX0_init_66 : decode cX0_init 66 = .ok (.newarray .int, 2) := by decide +kernel
theorem dX0_init_68 : decode cX0_init 68 = .ok (.putfield 32, 3) := by decide +kernel
theorem dX0_init_71 : decode cX0_init 71 = .ok (.aload_n 0, 1) := by decide +kernel
theorem dX0_init_72 : decode cX0_init 72 = .ok (.invokestatic 35, 3) := by decide +kernel
theorem dX0_init_75 : decode cX0_init 75 = .ok (.putfield 39, 3) := by decide +kernel
theorem dX0_init_78 : decode cX0_init 78 = .ok (.aload_n 0, 1) := by decide +kernel
theorem dX0_init_79 : decode cX0_init 79 = .ok (.iconst 3, 1) := by decide +kernel
theorem dX0_init_80 : decode cX0_init 80 = .ok (.iconst 3, 1) := by decide +kernel
theorem dX0_init_81 : decode cX0_init 81 = .ok (.invokevirtual 42, 3) := by decide +kernel
theorem dX0_init_84 : decode cX0_init 84 = .ok (.return_, 1) := by decide +kernel
theorem dX0_begin_0 : decode cX0_begin 0 = .ok (.iload_n 1, 1) := by decide +kernel
theorem dX0_begin_1 : decode cX0_begin 1 = .ok (.iconst 3, 1) := by decide +kernel
theorem dX0_begin_2 : decode cX0_begin 2 = .ok (.if_icmp .lt 19, 3) := by decide +kernel
theorem dX0_begin_5 : decode cX0_begin 5 = .ok (.iload_n 1, 1) := by decide +kernel
theorem dX0_begin_6 : decode cX0_begin 6 = .ok (.iconst 5, 1) := by decide +kernel
theorem dX0_begin_7 : decode cX0_begin 7 = .ok (.if_icmp .gt 14, 3) := by decide +kernel
theorem dX0_begin_10 : decode cX0_begin 10 = .ok (.iload_n 2, 1) := by decide +kernel
theorem dX0_begin_11 : decode cX0_begin 11 = .ok (.iconst 1, 1) := by decide +kernel
theorem dX0_begin_12 : decode cX0_begin 12 = .ok (.if_icmp .lt 9, 3) := by decide +kernel
theorem dX0_begin_15 : decode cX0_begin 15 = .ok (.iload_n 2, 1) := by decide +kernel
theorem dX0_begin_16 : decode cX0_begin 16 = .ok (.bipush 6, 2) := by decide +kernel
theorem dX0_begin_18 : decode cX0_begin 18 = .ok (.if_icmp .le 13, 3) := by decide +kernel
theorem dX0_begin_21 : decode cX0_begin 21 = .ok (.new 46, 3) := by decide +kernel
theorem dX0_begin_24 : decode cX0_begin 24 = .ok (.dup, 1) := by decide +kernel
theorem dX0_begin_25 : decode cX0_begin 25 = .ok (.ldc 48, 2) := by decide +kernel
theorem dX0_begin_27 : decode cX0_begin 27 = .ok (.invokespecial 50, 3) := by decide +kernel
theorem dX0_begin_30 : decode cX0_begin 30 = .ok (.athrow, 1) := by decide +kernel
theorem dX0_begin_31 : decode cX0_begin 31 = .ok (.aload_n 0, 1) := by decide +kernel
theorem dX0_begin_32 : decode cX0_begin 32 = .ok (.iload_n 1, 1) := by decide +kernel
theorem dX0_begin_33 : decode cX0_begin 33 = .ok (.iload_n 2, 1) := by decide +kernel
theorem dX0_begin_34 : decode cX0_begin 34 = .ok (.invokevirtual 42, 3) := by decide +kernel
theorem dX0_begin_37 : decode cX0_begin 37 = .ok (.aload_n 0, 1) := by decide +kernel
theorem dX0_begin_38 : decode cX0_begin 38 = .ok (.getfield 9, 3) := by decide +kernel
theorem dX0_begin_41 : decode cX0_begin 41 = .ok (.aload_n 0, 1) := by decide +kernel
theorem dX0_begin_42 : decode cX0_begin 42 = .ok (.getfield 53, 3) := by decide +kernel
theorem dX0_begin_45 : decode cX0_begin 45 = .ok (.iaload, 1) := by decide +kernel
theorem dX0_begin_46 : decode cX0_begin 46 = .ok (.ireturn, 1) := by decide +kernel
theorem dX0_put_0 : decode cX0_put 0 = .ok (.aload_n 0, 1) := by decide +kernel
theorem dX0_put_1 : decode cX0_put 1 = .ok (.iload_n 1, 1) := by decide +kernel
theorem dX0_put_2 : decode cX0_put 2 = .ok (.invokevirtual 57, 3) := by decide +kernel
theorem dX0_put_5 : decode cX0_put 5 = .ok (.ifCond .eq 11, 3) := by decide +kernel
theorem dX0_put_8 : decode cX0_put 8 = .ok (.aload_n 0, 1) := by decide +kernel
theorem dX0_put_9 : decode cX0_put 9 = .ok (.iload_n 2, 1) := by decide +kernel
theorem dX0_put_10 : decode cX0_put 10 = .ok (.invokevirtual 61, 3) := by decide +kernel
theorem dX0_put_13 : decode cX0_put 13 = .ok (.ifCond .ne 13, 3) := by decide +kernel
theorem dX0_put_16 : decode cX0_put 16 = .ok (.new 64, 3) := by decide +kernel
theorem dX0_put_19 : decode cX0_put 19 = .ok (.dup, 1) := by decide +kernel
theorem dX0_put_20 : decode cX0_put 20 = .ok (.ldc 66, 2) := by decide +kernel
theorem dX0_put_22 : decode cX0_put 22 = .ok (.invokespecial 68, 3) := by decide +kernel
theorem dX0_put_25 : decode cX0_put 25 = .ok (.athrow, 1) := by decide +kernel
theorem dX0_put_26 : decode cX0_put 26 = .ok (.aload_n 0, 1) := by decide +kernel
theorem dX0_put_27 : decode cX0_put 27 = .ok (.getfield 69, 3) := by decide +kernel
theorem dX0_put_30 : decode cX0_put 30 = .ok (.ifCond .le 13, 3) := by decide +kernel
theorem dX0_put_33 : decode cX0_put 33 = .ok (.new 72, 3) := by decide +kernel
theorem dX0_put_36 : decode cX0_put 36 = .ok (.dup, 1) := by decide +kernel
theorem dX0_put_37 : decode cX0_put 37 = .ok (.ldc 74, 2) := by decide +kernel
theorem dX0_put_39 : decode cX0_put 39 = .ok (.invokespecial 76, 3) := by decide +kernel
theorem dX0_put_42 : decode cX0_put 42 = .ok (.athrow, 1) := by decide +kernel
theorem dX0_put_43 : decode cX0_put 43 = .ok (.aload_n 0, 1) := by decide +kernel
theorem dX0_put_44 : decode cX0_put 44 = .ok (.aload_n 0, 1) := by decide +kernel
theorem dX0_put_45 : decode cX0_put 45 = .ok (.getfield 77, 3) := by decide +kernel
theorem dX0_put_48 : decode cX0_put 48 = .ok (.iload_n 1, 1) := by decide +kernel
theorem dX0_put_49 : decode cX0_put 49 = .ok (.invokevirtual 80, 3) := by decide +kernel
theorem dX0_put_52 : decode cX0_put 52 = .ok (.istore_n 3, 1) := by decide +kernel
theorem dX0_put_53 : decode cX0_put 53 = .ok (.aload_n 0, 1) := by decide +kernel
theorem dX0_put_54 : decode cX0_put 54 = .ok (.dup, 1) := by decide +kernel
theorem dX0_put_55 : decode cX0_put 55 = .ok (.getfield 77, 3) := by decide +kernel
theorem dX0_put_58 : decode cX0_put 58 = .ok (.iload_n 2, 1) := by decide +kernel
theorem dX0_put_59 : decode cX0_put 59 = .ok (.iload_n 3, 1) := by decide +kernel
theorem dX0_put_60 : decode cX0_put 60 = .ok (.isub, 1) := by decide +kernel
theorem dX0_put_61 : decode cX0_put 61 = .ok (.aload_n 0, 1) := by decide +kernel
theorem dX0_put_62 : decode cX0_put 62 = .ok (.getfield 9, 3) := by decide +kernel
theorem dX0_put_65 : decode cX0_put 65 = .ok (.iload_n 1, 1) := by decide +kernel
theorem dX0_put_66 : decode cX0_put 66 = .ok (.iaload, 1) := by decide +kernel
theorem dX0_put_67 : decode cX0_put 67 = .ok (.imul, 1) := by decide +kernel
theorem dX0_put_68 : decode cX0_put 68 = .ok (.iadd, 1) := by decide +kernel
theorem dX0_put_69 : decode cX0_put 69 = .ok (.putfield 77, 3) := by decide +kernel
theorem dX0_put_72 : decode cX0_put 72 = .ok (.iload_n 3, 1) := by decide +kernel
theorem dX0_put_73 : decode cX0_put 73 = .ok (.ireturn, 1) := by decide +kernel
theorem dX0_aim_0 : decode cX0_aim 0 = .ok (.aload_n 0, 1) := by decide +kernel
theorem dX0_aim_1 : decode cX0_aim 1 = .ok (.iload_n 1, 1) := by decide +kernel
theorem dX0_aim_2 : decode cX0_aim 2 = .ok (.invokevirtual 57, 3) := by decide +kernel
theorem dX0_aim_5 : decode cX0_aim 5 = .ok (.ifCond .eq 11, 3) := by decide +kernel
theorem dX0_aim_8 : decode cX0_aim 8 = .ok (.aload_n 0, 1) := by decide +kernel
theorem dX0_aim_9 : decode cX0_aim 9 = .ok (.iload_n 2, 1) := by decide +kernel
theorem dX0_aim_10 : decode cX0_aim 10 = .ok (.invokevirtual 61, 3) := by decide +kernel
theorem dX0_aim_13 : decode cX0_aim 13 = .ok (.ifCond .ne 13, 3) := by decide +kernel
theorem dX0_aim_16 : decode cX0_aim 16 = .ok (.new 64, 3) := by decide +kernel
theorem dX0_aim_19 : decode cX0_aim 19 = .ok (.dup, 1) := by decide +kernel
theorem dX0_aim_20 : decode cX0_aim 20 = .ok (.ldc 66, 2) := by decide +kernel
theorem dX0_aim_22 : decode cX0_aim 22 = .ok (.invokespecial 68, 3) := by decide +kernel
theorem dX0_aim_25 : decode cX0_aim 25 = .ok (.athrow, 1) := by decide +kernel
theorem dX0_aim_26 : decode cX0_aim 26 = .ok (.aload_n 0, 1) := by decide +kernel
theorem dX0_aim_27 : decode cX0_aim 27 = .ok (.aload_n 0, 1) := by decide +kernel
theorem dX0_aim_28 : decode cX0_aim 28 = .ok (.getfield 84, 3) := by decide +kernel
theorem dX0_aim_31 : decode cX0_aim 31 = .ok (.iload_n 1, 1) := by decide +kernel
theorem dX0_aim_32 : decode cX0_aim 32 = .ok (.invokevirtual 80, 3) := by decide +kernel
theorem dX0_aim_35 : decode cX0_aim 35 = .ok (.istore_n 3, 1) := by decide +kernel
theorem dX0_aim_36 : decode cX0_aim 36 = .ok (.aload_n 0, 1) := by decide +kernel
theorem dX0_aim_37 : decode cX0_aim 37 = .ok (.dup, 1) := by decide +kernel
theorem dX0_aim_38 : decode cX0_aim 38 = .ok (.getfield 84, 3) := by decide +kernel
theorem dX0_aim_41 : decode cX0_aim 41 = .ok (.iload_n 2, 1) := by decide +kernel
theorem dX0_aim_42 : decode cX0_aim 42 = .ok (.iload_n 3, 1) := by decide +kernel
theorem dX0_aim_43 : decode cX0_aim 43 = .ok (.isub, 1) := by decide +kernel
theorem dX0_aim_44 : decode cX0_aim 44 = .ok (.aload_n 0, 1) := by decide +kernel
theorem dX0_aim_45 : decode cX0_aim 45 = .ok (.getfield 9, 3) := by decide +kernel
theorem dX0_aim_48 : decode cX0_aim 48 = .ok (.iload_n 1, 1) := by decide +kernel
theorem dX0_aim_49 : decode cX0_aim 49 = .ok (.iaload, 1) := by decide +kernel
theorem dX0_aim_50 : decode cX0_aim 50 = .ok (.imul, 1) := by decide +kernel
theorem dX0_aim_51 : decode cX0_aim 51 = .ok (.iadd, 1) := by decide +kernel
theorem dX0_aim_52 : decode cX0_aim 52 = .ok (.putfield 84, 3) := by decide +kernel
theorem dX0_aim_55 : decode cX0_aim 55 = .ok (.aload_n 0, 1) := by decide +kernel
theorem dX0_aim_56 : decode cX0_aim 56 = .ok (.iconst 0, 1) := by decide +kernel
theorem dX0_aim_57 : decode cX0_aim 57 = .ok (.putfield 87, 3) := by decide +kernel
theorem dX0_aim_60 : decode cX0_aim 60 = .ok (.iload_n 3, 1) := by decide +kernel
theorem dX0_aim_61 : decode cX0_aim 61 = .ok (.ireturn, 1) := by decide +kernel
theorem dX0_allow_0 : decode cX0_allow 0 = .ok (.aload_n 0, 1) := by decide +kernel
theorem dX0_allow_1 : decode cX0_allow 1 = .ok (.iload_n 1, 1) := by decide +kernel
theorem dX0_allow_2 : decode cX0_allow 2 = .ok (.invokevirtual 61, 3) := by decide +kernel
theorem dX0_allow_5 : decode cX0_allow 5 = .ok (.ifCond .eq 11, 3) := by decide +kernel
theorem dX0_allow_8 : decode cX0_allow 8 = .ok (.aload_n 0, 1) := by decide +kernel
theorem dX0_allow_9 : decode cX0_allow 9 = .ok (.iload_n 2, 1) := by decide +kernel
theorem dX0_allow_10 : decode cX0_allow 10 = .ok (.invokevirtual 61, 3) := by decide +kernel
theorem dX0_allow_13 : decode cX0_allow 13 = .ok (.ifCond .ne 13, 3) := by decide +kernel
theorem dX0_allow_16 : decode cX0_allow 16 = .ok (.new 64, 3) := by decide +kernel
theorem dX0_allow_19 : decode cX0_allow 19 = .ok (.dup, 1) := by decide +kernel
theorem dX0_allow_20 : decode cX0_allow 20 = .ok (.ldc 91, 2) := by decide +kernel
theorem dX0_allow_22 : decode cX0_allow 22 = .ok (.invokespecial 68, 3) := by decide +kernel
theorem dX0_allow_25 : decode cX0_allow 25 = .ok (.athrow, 1) := by decide +kernel
theorem dX0_allow_26 : decode cX0_allow 26 = .ok (.iload_n 1, 1) := by decide +kernel
theorem dX0_allow_27 : decode cX0_allow 27 = .ok (.iload_n 2, 1) := by decide +kernel
theorem dX0_allow_28 : decode cX0_allow 28 = .ok (.if_icmp .ne 13, 3) := by decide +kernel
theorem dX0_allow_31 : decode cX0_allow 31 = .ok (.new 46, 3) := by decide +kernel
theorem dX0_allow_34 : decode cX0_allow 34 = .ok (.dup, 1) := by decide +kernel
theorem dX0_allow_35 : decode cX0_allow 35 = .ok (.ldc 93, 2) := by decide +kernel
theorem dX0_allow_37 : decode cX0_allow 37 = .ok (.invokespecial 50, 3) := by decide +kernel
theorem dX0_allow_40 : decode cX0_allow 40 = .ok (.athrow, 1) := by decide +kernel
theorem dX0_allow_41 : decode cX0_allow 41 = .ok (.iload_n 1, 1) := by decide +kernel
theorem dX0_allow_42 : decode cX0_allow 42 = .ok (.iload_n 2, 1) := by decide +kernel
theorem dX0_allow_43 : decode cX0_allow 43 = .ok (.invokestatic 95, 3) := by decide +kernel
theorem dX0_allow_46 : decode cX0_allow 46 = .ok (.istore 4, 2) := by decide +kernel
theorem dX0_allow_48 : decode cX0_allow 48 = .ok (.aload_n 0, 1) := by decide +kernel
theorem dX0_allow_49 : decode cX0_allow 49 = .ok (.getfield 16, 3) := by decide +kernel
theorem dX0_allow_52 : decode cX0_allow 52 = .ok (.iload 4, 2) := by decide +kernel
theorem dX0_allow_54 : decode cX0_allow 54 = .ok (.baload, 1) := by decide +kernel
theorem dX0_allow_55 : decode cX0_allow 55 = .ok (.istore 5, 2) := by decide +kernel
theorem dX0_allow_57 : decode cX0_allow 57 = .ok (.aload_n 0, 1) := by decide +kernel
theorem dX0_allow_58 : decode cX0_allow 58 = .ok (.getfield 16, 3) := by decide +kernel
theorem dX0_allow_61 : decode cX0_allow 61 = .ok (.iload 4, 2) := by decide +kernel
theorem dX0_allow_63 : decode cX0_allow 63 = .ok (.iload_n 3, 1) := by decide +kernel
theorem dX0_allow_64 : decode cX0_allow 64 = .ok (.bastore, 1) := by decide +kernel
theorem dX0_allow_65 : decode cX0_allow 65 = .ok (.aload_n 0, 1) := by decide +kernel
theorem dX0_allow_66 : decode cX0_allow 66 = .ok (.iconst 0, 1) := by decide +kernel
theorem dX0_allow_67 : decode cX0_allow 67 = .ok (.putfield 87, 3) := by decide +kernel
theorem dX0_allow_70 : decode cX0_allow 70 = .ok (.iload 5, 2) := by decide +kernel
theorem dX0_allow_72 : decode cX0_allow 72 = .ok (.ireturn, 1) := by decide +kernel
theorem dX0_setColour_0 : decode cX0_setColour 0 = .ok (.aload_n 0, 1) := by decide +kernel
theorem dX0_setColour_1 : decode cX0_setColour 1 = .ok (.iload_n 1, 1) := by decide +kernel
theorem dX0_setColour_2 : decode cX0_setColour 2 = .ok (.invokevirtual 57, 3) := by decide +kernel
theorem dX0_setColour_5 : decode cX0_setColour 5 = .ok (.ifCond .ne 13, 3) := by decide +kernel
theorem dX0_setColour_8 : decode cX0_setColour 8 = .ok (.new 64, 3) := by decide +kernel
theorem dX0_setColour_11 : decode cX0_setColour 11 = .ok (.dup, 1) := by decide +kernel
theorem dX0_setColour_12 : decode cX0_setColour 12 = .ok (.ldc 98, 2) := by decide +kernel
theorem dX0_setColour_14 : decode cX0_setColour 14 = .ok (.invokespecial 68, 3) := by decide +kernel
theorem dX0_setColour_17 : decode cX0_setColour 17 = .ok (.athrow, 1) := by decide +kernel
theorem dX0_setColour_18 : decode cX0_setColour 18 = .ok (.iload_n 2, 1) := by decide +kernel
theorem dX0_setColour_19 : decode cX0_setColour 19 = .ok (.ifCond .lt 8, 3) := by decide +kernel
theorem dX0_setColour_22 : decode cX0_setColour 22 = .ok (.iload_n 2, 1) := by decide +kernel
theorem dX0_setColour_23 : decode cX0_setColour 23 = .ok (.iconst 1, 1) := by decide +kernel
theorem dX0_setColour_24 : decode cX0_setColour 24 = .ok (.if_icmp .le 13, 3) := by decide +kernel
theorem dX0_setColour_27 : decode cX0_setColour 27 = .ok (.new 46, 3) := by decide +kernel
theorem dX0_setColour_30 : decode cX0_setColour 30 = .ok (.dup, 1) := by decide +kernel
theorem dX0_setColour_31 : decode cX0_setColour 31 = .ok (.ldc 100, 2) := by decide +kernel
theorem dX0_setColour_33 : decode cX0_setColour 33 = .ok (.invokespecial 50, 3) := by decide +kernel
theorem dX0_setColour_36 : decode cX0_setColour 36 = .ok (.athrow, 1) := by decide +kernel
theorem dX0_setColour_37 : decode cX0_setColour 37 = .ok (.aload_n 0, 1) := by decide +kernel
theorem dX0_setColour_38 : decode cX0_setColour 38 = .ok (.getfield 13, 3) := by decide +kernel
theorem dX0_setColour_41 : decode cX0_setColour 41 = .ok (.iload_n 1, 1) := by decide +kernel
theorem dX0_setColour_42 : decode cX0_setColour 42 = .ok (.iaload, 1) := by decide +kernel
theorem dX0_setColour_43 : decode cX0_setColour 43 = .ok (.istore_n 3, 1) := by decide +kernel
theorem dX0_setColour_44 : decode cX0_setColour 44 = .ok (.aload_n 0, 1) := by decide +kernel
theorem dX0_setColour_45 : decode cX0_setColour 45 = .ok (.getfield 13, 3) := by decide +kernel
theorem dX0_setColour_48 : decode cX0_setColour 48 = .ok (.iload_n 1, 1) := by decide +kernel
theorem dX0_setColour_49 : decode cX0_setColour 49 = .ok (.iload_n 2, 1) := by decide +kernel
theorem dX0_setColour_50 : decode cX0_setColour 50 = .ok (.iastore, 1) := by decide +kernel
theorem dX0_setColour_51 : decode cX0_setColour 51 = .ok (.aload_n 0, 1) := by decide +kernel
theorem dX0_setColour_52 : decode cX0_setColour 52 = .ok (.iconst 0, 1) := by decide +kernel
theorem dX0_setColour_53 : decode cX0_setColour 53 = .ok (.putfield 87, 3) := by decide +kernel
theorem dX0_setColour_56 : decode cX0_setColour 56 = .ok (.iload_n 3, 1) := by decide +kernel
theorem dX0_setColour_57 : decode cX0_setColour 57 = .ok (.ireturn, 1) := by decide +kernel
theorem dX0_setRule_0 : decode cX0_setRule 0 = .ok (.aload_n 0, 1) := by decide +kernel
theorem dX0_setRule_1 : decode cX0_setRule 1 = .ok (.getfield 102, 3) := by decide +kernel
theorem dX0_setRule_4 : decode cX0_setRule 4 = .ok (.istore_n 2, 1) := by decide +kernel
theorem dX0_setRule_5 : decode cX0_setRule 5 = .ok (.aload_n 0, 1) := by decide +kernel
theorem dX0_setRule_6 : decode cX0_setRule 6 = .ok (.iload_n 1, 1) := by decide +kernel
theorem dX0_setRule_7 : decode cX0_setRule 7 = .ok (.putfield 102, 3) := by decide +kernel
theorem dX0_setRule_10 : decode cX0_setRule 10 = .ok (.aload_n 0, 1) := by decide +kernel
theorem dX0_setRule_11 : decode cX0_setRule 11 = .ok (.iconst 0, 1) := by decide +kernel
theorem dX0_setRule_12 : decode cX0_setRule 12 = .ok (.putfield 87, 3) := by decide +kernel
theorem dX0_setRule_15 : decode cX0_setRule 15 = .ok (.iload_n 2, 1) := by decide +kernel
theorem dX0_setRule_16 : decode cX0_setRule 16 = .ok (.ireturn, 1) := by decide +kernel
theorem dX0_move_0 : decode cX0_move 0 = .ok (.aload_n 0, 1) := by decide +kernel
theorem dX0_move_1 : decode cX0_move 1 = .ok (.iload_n 1, 1) := by decide +kernel
theorem dX0_move_2 : decode cX0_move 2 = .ok (.invokevirtual 61, 3) := by decide +kernel
theorem dX0_move_5 : decode cX0_move 5 = .ok (.ifCond .eq 11, 3) := by decide +kernel
theorem dX0_move_8 : decode cX0_move 8 = .ok (.aload_n 0, 1) := by decide +kernel
theorem dX0_move_9 : decode cX0_move 9 = .ok (.iload_n 2, 1) := by decide +kernel
theorem dX0_move_10 : decode cX0_move 10 = .ok (.invokevirtual 61, 3) := by decide +kernel
theorem dX0_move_13 : decode cX0_move 13 = .ok (.ifCond .ne 13, 3) := by decide +kernel
theorem dX0_move_16 : decode cX0_move 16 = .ok (.new 64, 3) := by decide +kernel
theorem dX0_move_19 : decode cX0_move 19 = .ok (.dup, 1) := by decide +kernel
theorem dX0_move_20 : decode cX0_move 20 = .ok (.ldc 91, 2) := by decide +kernel
theorem dX0_move_22 : decode cX0_move 22 = .ok (.invokespecial 68, 3) := by decide +kernel
theorem dX0_move_25 : decode cX0_move 25 = .ok (.athrow, 1) := by decide +kernel
theorem dX0_move_26 : decode cX0_move 26 = .ok (.aload_n 0, 1) := by decide +kernel
theorem dX0_move_27 : decode cX0_move 27 = .ok (.getfield 69, 3) := by decide +kernel
theorem dX0_move_30 : decode cX0_move 30 = .ok (.sipush 500, 3) := by decide +kernel
theorem dX0_move_33 : decode cX0_move 33 = .ok (.if_icmp .ge 12, 3) := by decide +kernel
theorem dX0_move_36 : decode cX0_move 36 = .ok (.aload_n 0, 1) := by decide +kernel
theorem dX0_move_37 : decode cX0_move 37 = .ok (.iload_n 1, 1) := by decide +kernel
theorem dX0_move_38 : decode cX0_move 38 = .ok (.iload_n 2, 1) := by decide +kernel
theorem dX0_move_39 : decode cX0_move 39 = .ok (.invokevirtual 105, 3) := by decide +kernel
theorem dX0_move_42 : decode cX0_move 42 = .ok (.ifCond .ne 13, 3) := by decide +kernel
theorem dX0_move_45 : decode cX0_move 45 = .ok (.new 72, 3) := by decide +kernel
theorem dX0_move_48 : decode cX0_move 48 = .ok (.dup, 1) := by decide +kernel
theorem dX0_move_49 : decode cX0_move 49 = .ok (.ldc 109, 2) := by decide +kernel
theorem dX0_move_51 : decode cX0_move 51 = .ok (.invokespecial 76, 3) := by decide +kernel
theorem dX0_move_54 : decode cX0_move 54 = .ok (.athrow, 1) := by decide +kernel
theorem dX0_move_55 : decode cX0_move 55 = .ok (.aload_n 0, 1) := by decide +kernel
theorem dX0_move_56 : decode cX0_move 56 = .ok (.getfield 23, 3) := by decide +kernel
theorem dX0_move_59 : decode cX0_move 59 = .ok (.iload_n 1, 1) := by decide +kernel
theorem dX0_move_60 : decode cX0_move 60 = .ok (.iaload, 1) := by decide +kernel
theorem dX0_move_61 : decode cX0_move 61 = .ok (.istore_n 3, 1) := by decide +kernel
theorem dX0_move_62 : decode cX0_move 62 = .ok (.aload_n 0, 1) := by decide +kernel
theorem dX0_move_63 : decode cX0_move 63 = .ok (.getfield 20, 3) := by decide +kernel
theorem dX0_move_66 : decode cX0_move 66 = .ok (.aload_n 0, 1) := by decide +kernel
theorem dX0_move_67 : decode cX0_move 67 = .ok (.getfield 69, 3) := by decide +kernel
theorem dX0_move_70 : decode cX0_move 70 = .ok (.aload_n 0, 1) := by decide +kernel
theorem dX0_move_71 : decode cX0_move 71 = .ok (.getfield 77, 3) := by decide +kernel
theorem dX0_move_74 : decode cX0_move 74 = .ok (.iastore, 1) := by decide +kernel
theorem dX0_move_75 : decode cX0_move 75 = .ok (.aload_n 0, 1) := by decide +kernel
theorem dX0_move_76 : decode cX0_move 76 = .ok (.dup, 1) := by decide +kernel
theorem dX0_move_77 : decode cX0_move 77 = .ok (.getfield 69, 3) := by decide +kernel
theorem dX0_move_80 : decode cX0_move 80 = .ok (.iconst 1, 1) := by decide +kernel
theorem dX0_move_81 : decode cX0_move 81 = .ok (.iadd, 1) := by decide +kernel
theorem dX0_move_82 : decode cX0_move 82 = .ok (.putfield 69, 3) := by decide +kernel
theorem dX0_move_85 : decode cX0_move 85 = .ok (.aload_n 0, 1) := by decide +kernel
theorem dX0_move_86 : decode cX0_move 86 = .ok (.aload_n 0, 1) := by decide +kernel
theorem dX0_move_87 : decode cX0_move 87 = .ok (.aload_n 0, 1) := by decide +kernel
theorem dX0_move_88 : decode cX0_move 88 = .ok (.getfield 77, 3) := by decide +kernel
theorem dX0_move_91 : decode cX0_move 91 = .ok (.iload_n 1, 1) := by decide +kernel
theorem dX0_move_92 : decode cX0_move 92 = .ok (.iload_n 2, 1) := by decide +kernel
theorem dX0_move_93 : decode cX0_move 93 = .ok (.invokevirtual 111, 3) := by decide +kernel
theorem dX0_move_96 : decode cX0_move 96 = .ok (.putfield 77, 3) := by decide +kernel
theorem dX0_move_99 : decode cX0_move 99 = .ok (.iload_n 3, 1) := by decide +kernel
theorem dX0_move_100 : decode cX0_move 100 = .ok (.ireturn, 1) := by decide +kernel
theorem dX0_takeBack_0 : decode cX0_takeBack 0 = .ok (.aload_n 0, 1) := by decide +kernel
theorem dX0_takeBack_1 : decode cX0_takeBack 1 = .ok (.getfield 69, 3) := by decide +kernel
theorem dX0_takeBack_4 : decode cX0_takeBack 4 = .ok (.iconst 1, 1) := by decide +kernel
theorem dX0_takeBack_5 : decode cX0_takeBack 5 = .ok (.if_icmp .ge 13, 3) := by decide +kernel
theorem dX0_takeBack_8 : decode cX0_takeBack 8 = .ok (.new 72, 3) := by decide +kernel
theorem dX0_takeBack_11 : decode cX0_takeBack 11 = .ok (.dup, 1) := by decide +kernel
theorem dX0_takeBack_12 : decode cX0_takeBack 12 = .ok (.ldc 115, 2) := by decide +kernel
theorem dX0_takeBack_14 : decode cX0_takeBack 14 = .ok (.invokespecial 76, 3) := by decide +kernel
theorem dX0_takeBack_17 : decode cX0_takeBack 17 = .ok (.athrow, 1) := by decide +kernel
theorem dX0_takeBack_18 : decode cX0_takeBack 18 = .ok (.aload_n 0, 1) := by decide +kernel
theorem dX0_takeBack_19 : decode cX0_takeBack 19 = .ok (.dup, 1) := by decide +kernel
theorem dX0_takeBack_20 : decode cX0_takeBack 20 = .ok (.getfield 69, 3) := by decide +kernel
theorem dX0_takeBack_23 : decode cX0_takeBack 23 = .ok (.iconst 1, 1) := by decide +kernel
theorem dX0_takeBack_24 : decode cX0_takeBack 24 = .ok (.isub, 1) := by decide +kernel
theorem dX0_takeBack_25 : decode cX0_takeBack 25 = .ok (.putfield 69, 3) := by decide +kernel
theorem dX0_takeBack_28 : decode cX0_takeBack 28 = .ok (.aload_n 0, 1) := by decide +kernel
theorem dX0_takeBack_29 : decode cX0_takeBack 29 = .ok (.aload_n 0, 1) := by decide +kernel
theorem dX0_takeBack_30 : decode cX0_takeBack 30 = .ok (.getfield 20, 3) := by decide +kernel
theorem dX0_takeBack_33 : decode cX0_takeBack 33 = .ok (.aload_n 0, 1) := by decide +kernel
theorem dX0_takeBack_34 : decode cX0_takeBack 34 = .ok (.getfield 69, 3) := by decide +kernel
theorem dX0_takeBack_37 : decode cX0_takeBack 37 = .ok (.iaload, 1) := by decide +kernel
theorem dX0_takeBack_38 : decode cX0_takeBack 38 = .ok (.putfield 77, 3) := by decide +kernel
theorem dX0_takeBack_41 : decode cX0_takeBack 41 = .ok (.aload_n 0, 1) := by decide +kernel
theorem dX0_takeBack_42 : decode cX0_takeBack 42 = .ok (.getfield 69, 3) := by decide +kernel
theorem dX0_takeBack_45 : decode cX0_takeBack 45 = .ok (.ireturn, 1) := by decide +kernel
theorem dX0_layStart_0 : decode cX0_layStart 0 = .ok (.aload_n 0, 1) := by decide +kernel
theorem dX0_layStart_1 : decode cX0_layStart 1 = .ok (.getfield 69, 3) := by decide +kernel
theorem dX0_layStart_4 : decode cX0_layStart 4 = .ok (.istore_n 1, 1) := by decide +kernel
theorem dX0_layStart_5 : decode cX0_layStart 5 = .ok (.aload_n 0, 1) := by decide +kernel
theorem dX0_layStart_6 : decode cX0_layStart 6 = .ok (.iconst 0, 1) := by decide +kernel
theorem dX0_layStart_7 : decode cX0_layStart 7 = .ok (.putfield 69, 3) := by decide +kernel
theorem dX0_layStart_10 : decode cX0_layStart 10 = .ok (.iload_n 1, 1) := by decide +kernel
theorem dX0_layStart_11 : decode cX0_layStart 11 = .ok (.ireturn, 1) := by decide +kernel
theorem dX0_pegs_0 : decode cX0_pegs 0 = .ok (.aload_n 0, 1) := by decide +kernel
theorem dX0_pegs_1 : decode cX0_pegs 1 = .ok (.getfield 117, 3) := by decide +kernel
theorem dX0_pegs_4 : decode cX0_pegs 4 = .ok (.ireturn, 1) := by decide +kernel
theorem dX0_disks_0 : decode cX0_disks 0 = .ok (.aload_n 0, 1) := by decide +kernel
theorem dX0_disks_1 : decode cX0_disks 1 = .ok (.getfield 53, 3) := by decide +kernel
theorem dX0_disks_4 : decode cX0_disks 4 = .ok (.ireturn, 1) := by decide +kernel
theorem dX0_moves_0 : decode cX0_moves 0 = .ok (.aload_n 0, 1) := by decide +kernel
theorem dX0_moves_1 : decode cX0_moves 1 = .ok (.getfield 69, 3) := by decide +kernel
theorem dX0_moves_4 : decode cX0_moves 4 = .ok (.ireturn, 1) := by decide +kernel
theorem dX0_pegOf_0 : decode cX0_pegOf 0 = .ok (.aload_n 0, 1) := by decide +kernel
theorem dX0_pegOf_1 : decode cX0_pegOf 1 = .ok (.iload_n 1, 1) := by decide +kernel
theorem dX0_pegOf_2 : decode cX0_pegOf 2 = .ok (.invokevirtual 57, 3) := by decide +kernel
theorem dX0_pegOf_5 : decode cX0_pegOf 5 = .ok (.ifCond .ne 13, 3) := by decide +kernel
theorem dX0_pegOf_8 : decode cX0_pegOf 8 = .ok (.new 64, 3) := by decide +kernel
theorem dX0_pegOf_11 : decode cX0_pegOf 11 = .ok (.dup, 1) := by decide +kernel
theorem dX0_pegOf_12 : decode cX0_pegOf 12 = .ok (.ldc 98, 2) := by decide +kernel
theorem dX0_pegOf_14 : decode cX0_pegOf 14 = .ok (.invokespecial 68, 3) := by decide +kernel
theorem dX0_pegOf_17 : decode cX0_pegOf 17 = .ok (.athrow, 1) := by decide +kernel
theorem dX0_pegOf_18 : decode cX0_pegOf 18 = .ok (.aload_n 0, 1) := by decide +kernel
theorem dX0_pegOf_19 : decode cX0_pegOf 19 = .ok (.aload_n 0, 1) := by decide +kernel
theorem dX0_pegOf_20 : decode cX0_pegOf 20 = .ok (.getfield 77, 3) := by decide +kernel
theorem dX0_pegOf_23 : decode cX0_pegOf 23 = .ok (.iload_n 1, 1) := by decide +kernel
theorem dX0_pegOf_24 : decode cX0_pegOf 24 = .ok (.invokevirtual 80, 3) := by decide +kernel
theorem dX0_pegOf_27 : decode cX0_pegOf 27 = .ok (.ireturn, 1) := by decide +kernel
theorem dX0_top_0 : decode cX0_top 0 = .ok (.aload_n 0, 1) := by decide +kernel
theorem dX0_top_1 : decode cX0_top 1 = .ok (.iload_n 1, 1) := by decide +kernel
theorem dX0_top_2 : decode cX0_top 2 = .ok (.invokevirtual 61, 3) := by decide +kernel
theorem dX0_top_5 : decode cX0_top 5 = .ok (.ifCond .ne 13, 3) := by decide +kernel
theorem dX0_top_8 : decode cX0_top 8 = .ok (.new 64, 3) := by decide +kernel
theorem dX0_top_11 : decode cX0_top 11 = .ok (.dup, 1) := by decide +kernel
theorem dX0_top_12 : decode cX0_top 12 = .ok (.ldc 91, 2) := by decide +kernel
theorem dX0_top_14 : decode cX0_top 14 = .ok (.invokespecial 68, 3) := by decide +kernel
theorem dX0_top_17 : decode cX0_top 17 = .ok (.athrow, 1) := by decide +kernel
theorem dX0_top_18 : decode cX0_top 18 = .ok (.aload_n 0, 1) := by decide +kernel
theorem dX0_top_19 : decode cX0_top 19 = .ok (.aload_n 0, 1) := by decide +kernel
theorem dX0_top_20 : decode cX0_top 20 = .ok (.getfield 77, 3) := by decide +kernel
theorem dX0_top_23 : decode cX0_top 23 = .ok (.invokevirtual 120, 3) := by decide +kernel
theorem dX0_top_26 : decode cX0_top 26 = .ok (.aload_n 0, 1) := by decide +kernel
theorem dX0_top_27 : decode cX0_top 27 = .ok (.getfield 23, 3) := by decide +kernel
theorem dX0_top_30 : decode cX0_top 30 = .ok (.iload_n 1, 1) := by decide +kernel
theorem dX0_top_31 : decode cX0_top 31 = .ok (.iaload, 1) := by decide +kernel
theorem dX0_top_32 : decode cX0_top 32 = .ok (.ireturn, 1) := by decide +kernel
theorem dX0_arrangement_0 : decode cX0_arrangement 0 = .ok (.aload_n 0, 1) := by decide +kernel
theorem dX0_arrangement_1 : decode cX0_arrangement 1 = .ok (.getfield 77, 3) := by decide +kernel
theorem dX0_arrangement_4 : decode cX0_arrangement 4 = .ok (.ireturn, 1) := by decide +kernel
theorem dX0_goal_0 : decode cX0_goal 0 = .ok (.aload_n 0, 1) := by decide +kernel
theorem dX0_goal_1 : decode cX0_goal 1 = .ok (.getfield 84, 3) := by decide +kernel
theorem dX0_goal_4 : decode cX0_goal 4 = .ok (.ireturn, 1) := by decide +kernel
theorem dX0_isLawful_0 : decode cX0_isLawful 0 = .ok (.aload_n 0, 1) := by decide +kernel
theorem dX0_isLawful_1 : decode cX0_isLawful 1 = .ok (.aload_n 0, 1) := by decide +kernel
theorem dX0_isLawful_2 : decode cX0_isLawful 2 = .ok (.getfield 77, 3) := by decide +kernel
theorem dX0_isLawful_5 : decode cX0_isLawful 5 = .ok (.invokevirtual 124, 3) := by decide +kernel
theorem dX0_isLawful_8 : decode cX0_isLawful 8 = .ok (.ireturn, 1) := by decide +kernel
theorem dX0_canMove_0 : decode cX0_canMove 0 = .ok (.aload_n 0, 1) := by decide +kernel
theorem dX0_canMove_1 : decode cX0_canMove 1 = .ok (.iload_n 1, 1) := by decide +kernel
theorem dX0_canMove_2 : decode cX0_canMove 2 = .ok (.invokevirtual 61, 3) := by decide +kernel
theorem dX0_canMove_5 : decode cX0_canMove 5 = .ok (.ifCond .eq 11, 3) := by decide +kernel
theorem dX0_canMove_8 : decode cX0_canMove 8 = .ok (.aload_n 0, 1) := by decide +kernel
theorem dX0_canMove_9 : decode cX0_canMove 9 = .ok (.iload_n 2, 1) := by decide +kernel
theorem dX0_canMove_10 : decode cX0_canMove 10 = .ok (.invokevirtual 61, 3) := by decide +kernel
theorem dX0_canMove_13 : decode cX0_canMove 13 = .ok (.ifCond .ne 13, 3) := by decide +kernel
theorem dX0_canMove_16 : decode cX0_canMove 16 = .ok (.new 64, 3) := by decide +kernel
theorem dX0_canMove_19 : decode cX0_canMove 19 = .ok (.dup, 1) := by decide +kernel
theorem dX0_canMove_20 : decode cX0_canMove 20 = .ok (.ldc 91, 2) := by decide +kernel
theorem dX0_canMove_22 : decode cX0_canMove 22 = .ok (.invokespecial 68, 3) := by decide +kernel
theorem dX0_canMove_25 : decode cX0_canMove 25 = .ok (.athrow, 1) := by decide +kernel
theorem dX0_canMove_26 : decode cX0_canMove 26 = .ok (.aload_n 0, 1) := by decide +kernel
theorem dX0_canMove_27 : decode cX0_canMove 27 = .ok (.iload_n 1, 1) := by decide +kernel
theorem dX0_canMove_28 : decode cX0_canMove 28 = .ok (.iload_n 2, 1) := by decide +kernel
theorem dX0_canMove_29 : decode cX0_canMove 29 = .ok (.invokevirtual 105, 3) := by decide +kernel
theorem dX0_canMove_32 : decode cX0_canMove 32 = .ok (.ireturn, 1) := by decide +kernel
theorem dX0_way_0 : decode cX0_way 0 = .ok (.aload_n 0, 1) := by decide +kernel
theorem dX0_way_1 : decode cX0_way 1 = .ok (.aload_n 0, 1) := by decide +kernel
theorem dX0_way_2 : decode cX0_way 2 = .ok (.getfield 77, 3) := by decide +kernel
theorem dX0_way_5 : decode cX0_way 5 = .ok (.invokevirtual 127, 3) := by decide +kernel
theorem dX0_way_8 : decode cX0_way 8 = .ok (.ireturn, 1) := by decide +kernel
theorem dX0_wayByDisks_0 : decode cX0_wayByDisks 0 = .ok (.aload_n 0, 1) := by decide +kernel
theorem dX0_wayByDisks_1 : decode cX0_wayByDisks 1 = .ok (.getfield 117, 3) := by decide +kernel
theorem dX0_wayByDisks_4 : decode cX0_wayByDisks 4 = .ok (.iconst 3, 1) := by decide +kernel
theorem dX0_wayByDisks_5 : decode cX0_wayByDisks 5 = .ok (.if_icmp .gt 17, 3) := by decide +kernel
theorem dX0_wayByDisks_8 : decode cX0_wayByDisks 8 = .ok (.aload_n 0, 1) := by decide +kernel
theorem dX0_wayByDisks_9 : decode cX0_wayByDisks 9 = .ok (.getfield 102, 3) := by decide +kernel
theorem dX0_wayByDisks_12 : decode cX0_wayByDisks 12 = .ok (.ifCond .ne 10, 3) := by decide +kernel
theorem dX0_wayByDisks_15 : decode cX0_wayByDisks 15 = .ok (.aload_n 0, 1) := by decide +kernel
theorem dX0_wayByDisks_16 : decode cX0_wayByDisks 16 = .ok (.invokevirtual 131, 3) := by decide +kernel
theorem dX0_wayByDisks_19 : decode cX0_wayByDisks 19 = .ok (.ifCond .eq 13, 3) := by decide +kernel
theorem dX0_wayByDisks_22 : decode cX0_wayByDisks 22 = .ok (.new 72, 3) := by decide +kernel
theorem dX0_wayByDisks_25 : decode cX0_wayByDisks 25 = .ok (.dup, 1) := by decide +kernel
theorem dX0_wayByDisks_26 : decode cX0_wayByDisks 26 = .ok (.ldc 135, 2) := by decide +kernel
theorem dX0_wayByDisks_28 : decode cX0_wayByDisks 28 = .ok (.invokespecial 76, 3) := by decide +kernel
theorem dX0_wayByDisks_31 : decode cX0_wayByDisks 31 = .ok (.athrow, 1) := by decide +kernel
theorem dX0_wayByDisks_32 : decode cX0_wayByDisks 32 = .ok (.aload_n 0, 1) := by decide +kernel
theorem dX0_wayByDisks_33 : decode cX0_wayByDisks 33 = .ok (.getfield 53, 3) := by decide +kernel
theorem dX0_wayByDisks_36 : decode cX0_wayByDisks 36 = .ok (.iconst 1, 1) := by decide +kernel
theorem dX0_wayByDisks_37 : decode cX0_wayByDisks 37 = .ok (.isub, 1) := by decide +kernel
theorem dX0_wayByDisks_38 : decode cX0_wayByDisks 38 = .ok (.istore_n 1, 1) := by decide +kernel
theorem dX0_wayByDisks_39 : decode cX0_wayByDisks 39 = .ok (.iload_n 1, 1) := by decide +kernel
theorem dX0_wayByDisks_40 : decode cX0_wayByDisks 40 = .ok (.ifCond .lt 30, 3) := by decide +kernel
theorem dX0_wayByDisks_43 : decode cX0_wayByDisks 43 = .ok (.aload_n 0, 1) := by decide +kernel
theorem dX0_wayByDisks_44 : decode cX0_wayByDisks 44 = .ok (.aload_n 0, 1) := by decide +kernel
theorem dX0_wayByDisks_45 : decode cX0_wayByDisks 45 = .ok (.getfield 77, 3) := by decide +kernel
theorem dX0_wayByDisks_48 : decode cX0_wayByDisks 48 = .ok (.iload_n 1, 1) := by decide +kernel
theorem dX0_wayByDisks_49 : decode cX0_wayByDisks 49 = .ok (.invokevirtual 80, 3) := by decide +kernel
theorem dX0_wayByDisks_52 : decode cX0_wayByDisks 52 = .ok (.aload_n 0, 1) := by decide +kernel
theorem dX0_wayByDisks_53 : decode cX0_wayByDisks 53 = .ok (.aload_n 0, 1) := by decide +kernel
theorem dX0_wayByDisks_54 : decode cX0_wayByDisks 54 = .ok (.getfield 84, 3) := by decide +kernel
theorem dX0_wayByDisks_57 : decode cX0_wayByDisks 57 = .ok (.iload_n 1, 1) := by decide +kernel
theorem dX0_wayByDisks_58 : decode cX0_wayByDisks 58 = .ok (.invokevirtual 80, 3) := by decide +kernel
theorem dX0_wayByDisks_61 : decode cX0_wayByDisks 61 = .ok (.if_icmp .ne 9, 3) := by decide +kernel
theorem dX0_wayByDisks_64 : decode cX0_wayByDisks 64 = .ok (.iinc 1 (-1), 3) := by decide +kernel
theorem dX0_wayByDisks_67 : decode cX0_wayByDisks 67 = .ok (.goto (-28), 3) := by decide +kernel
theorem dX0_wayByDisks_70 : decode cX0_wayByDisks 70 = .ok (.iload_n 1, 1) := by decide +kernel
theorem dX0_wayByDisks_71 : decode cX0_wayByDisks 71 = .ok (.ifCond .ge 5, 3) := by decide +kernel
theorem dX0_wayByDisks_74 : decode cX0_wayByDisks 74 = .ok (.iconst 0, 1) := by decide +kernel
theorem dX0_wayByDisks_75 : decode cX0_wayByDisks 75 = .ok (.ireturn, 1) := by decide +kernel
theorem dX0_wayByDisks_76 : decode cX0_wayByDisks 76 = .ok (.aload_n 0, 1) := by decide +kernel
theorem dX0_wayByDisks_77 : decode cX0_wayByDisks 77 = .ok (.aload_n 0, 1) := by decide +kernel
theorem dX0_wayByDisks_78 : decode cX0_wayByDisks 78 = .ok (.getfield 77, 3) := by decide +kernel
theorem dX0_wayByDisks_81 : decode cX0_wayByDisks 81 = .ok (.iload_n 1, 1) := by decide +kernel
theorem dX0_wayByDisks_82 : decode cX0_wayByDisks 82 = .ok (.invokevirtual 80, 3) := by decide +kernel
theorem dX0_wayByDisks_85 : decode cX0_wayByDisks 85 = .ok (.istore_n 2, 1) := by decide +kernel
theorem dX0_wayByDisks_86 : decode cX0_wayByDisks 86 = .ok (.aload_n 0, 1) := by decide +kernel
theorem dX0_wayByDisks_87 : decode cX0_wayByDisks 87 = .ok (.aload_n 0, 1) := by decide +kernel
theorem dX0_wayByDisks_88 : decode cX0_wayByDisks 88 = .ok (.getfield 84, 3) := by decide +kernel
theorem dX0_wayByDisks_91 : decode cX0_wayByDisks 91 = .ok (.iload_n 1, 1) := by decide +kernel
theorem dX0_wayByDisks_92 : decode cX0_wayByDisks 92 = .ok (.invokevirtual 80, 3) := by decide +kernel
theorem dX0_wayByDisks_95 : decode cX0_wayByDisks 95 = .ok (.istore_n 3, 1) := by decide +kernel
theorem dX0_wayByDisks_96 : decode cX0_wayByDisks 96 = .ok (.iload_n 2, 1) := by decide +kernel
theorem dX0_wayByDisks_97 : decode cX0_wayByDisks 97 = .ok (.iload_n 3, 1) := by decide +kernel
theorem dX0_wayByDisks_98 : decode cX0_wayByDisks 98 = .ok (.invokestatic 137, 3) := by decide +kernel
theorem dX0_wayByDisks_101 : decode cX0_wayByDisks 101 = .ok (.istore 4, 2) := by decide +kernel
theorem dX0_wayByDisks_103 : decode cX0_wayByDisks 103 = .ok (.aload_n 0, 1) := by decide +kernel
theorem dX0_wayByDisks_104 : decode cX0_wayByDisks 104 = .ok (.aload_n 0, 1) := by decide +kernel
theorem dX0_wayByDisks_105 : decode cX0_wayByDisks 105 = .ok (.getfield 77, 3) := by decide +kernel
theorem dX0_wayByDisks_108 : decode cX0_wayByDisks 108 = .ok (.iload_n 1, 1) := by decide +kernel
theorem dX0_wayByDisks_109 : decode cX0_wayByDisks 109 = .ok (.iload 4, 2) := by decide +kernel
theorem dX0_wayByDisks_111 : decode cX0_wayByDisks 111 = .ok (.invokevirtual 140, 3) := by decide +kernel
theorem dX0_wayByDisks_114 : decode cX0_wayByDisks 114 = .ok (.aload_n 0, 1) := by decide +kernel
theorem dX0_wayByDisks_115 : decode cX0_wayByDisks 115 = .ok (.aload_n 0, 1) := by decide +kernel
theorem dX0_wayByDisks_116 : decode cX0_wayByDisks 116 = .ok (.getfield 84, 3) := by decide +kernel
theorem dX0_wayByDisks_119 : decode cX0_wayByDisks 119 = .ok (.iload_n 1, 1) := by decide +kernel
theorem dX0_wayByDisks_120 : decode cX0_wayByDisks 120 = .ok (.iload 4, 2) := by decide +kernel
theorem dX0_wayByDisks_122 : decode cX0_wayByDisks 122 = .ok (.invokevirtual 140, 3) := by decide +kernel
theorem dX0_wayByDisks_125 : decode cX0_wayByDisks 125 = .ok (.iadd, 1) := by decide +kernel
theorem dX0_wayByDisks_126 : decode cX0_wayByDisks 126 = .ok (.iconst 1, 1) := by decide +kernel
theorem dX0_wayByDisks_127 : decode cX0_wayByDisks 127 = .ok (.iadd, 1) := by decide +kernel
theorem dX0_wayByDisks_128 : decode cX0_wayByDisks 128 = .ok (.istore 5, 2) := by decide +kernel
theorem dX0_wayByDisks_130 : decode cX0_wayByDisks 130 = .ok (.aload_n 0, 1) := by decide +kernel
theorem dX0_wayByDisks_131 : decode cX0_wayByDisks 131 = .ok (.aload_n 0, 1) := by decide +kernel
theorem dX0_wayByDisks_132 : decode cX0_wayByDisks 132 = .ok (.getfield 77, 3) := by decide +kernel
theorem dX0_wayByDisks_135 : decode cX0_wayByDisks 135 = .ok (.iload_n 1, 1) := by decide +kernel
theorem dX0_wayByDisks_136 : decode cX0_wayByDisks 136 = .ok (.iload_n 3, 1) := by decide +kernel
theorem dX0_wayByDisks_137 : decode cX0_wayByDisks 137 = .ok (.invokevirtual 140, 3) := by decide +kernel
theorem dX0_wayByDisks_140 : decode cX0_wayByDisks 140 = .ok (.aload_n 0, 1) := by decide +kernel
theorem dX0_wayByDisks_141 : decode cX0_wayByDisks 141 = .ok (.aload_n 0, 1) := by decide +kernel
theorem dX0_wayByDisks_142 : decode cX0_wayByDisks 142 = .ok (.getfield 84, 3) := by decide +kernel
theorem dX0_wayByDisks_145 : decode cX0_wayByDisks 145 = .ok (.iload_n 1, 1) := by decide +kernel
theorem dX0_wayByDisks_146 : decode cX0_wayByDisks 146 = .ok (.iload_n 2, 1) := by decide +kernel
theorem dX0_wayByDisks_147 : decode cX0_wayByDisks 147 = .ok (.invokevirtual 140, 3) := by decide +kernel
theorem dX0_wayByDisks_150 : decode cX0_wayByDisks 150 = .ok (.iadd, 1) := by decide +kernel
theorem dX0_wayByDisks_151 : decode cX0_wayByDisks 151 = .ok (.iconst 1, 1) := by decide +kernel
theorem dX0_wayByDisks_152 : decode cX0_wayByDisks 152 = .ok (.iload_n 1, 1) := by decide +kernel
theorem dX0_wayByDisks_153 : decode cX0_wayByDisks 153 = .ok (.ishl, 1) := by decide +kernel
theorem dX0_wayByDisks_154 : decode cX0_wayByDisks 154 = .ok (.iadd, 1) := by decide +kernel
theorem dX0_wayByDisks_155 : decode cX0_wayByDisks 155 = .ok (.iconst 1, 1) := by decide +kernel
theorem dX0_wayByDisks_156 : decode cX0_wayByDisks 156 = .ok (.iadd, 1) := by decide +kernel
theorem dX0_wayByDisks_157 : decode cX0_wayByDisks 157 = .ok (.istore 6, 2) := by decide +kernel
theorem dX0_wayByDisks_159 : decode cX0_wayByDisks 159 = .ok (.iload 5, 2) := by decide +kernel
theorem dX0_wayByDisks_161 : decode cX0_wayByDisks 161 = .ok (.iload 6, 2) := by decide +kernel
theorem dX0_wayByDisks_163 : decode cX0_wayByDisks 163 = .ok (.invokestatic 143, 3) := by decide +kernel
theorem dX0_wayByDisks_166 : decode cX0_wayByDisks 166 = .ok (.ireturn, 1) := by decide +kernel
theorem dX0_lost_0 : decode cX0_lost 0 = .ok (.aload_n 0, 1) := by decide +kernel
theorem dX0_lost_1 : decode cX0_lost 1 = .ok (.aload_n 0, 1) := by decide +kernel
theorem dX0_lost_2 : decode cX0_lost 2 = .ok (.getfield 77, 3) := by decide +kernel
theorem dX0_lost_5 : decode cX0_lost 5 = .ok (.invokevirtual 127, 3) := by decide +kernel
theorem dX0_lost_8 : decode cX0_lost 8 = .ok (.istore_n 1, 1) := by decide +kernel
theorem dX0_lost_9 : decode cX0_lost 9 = .ok (.aload_n 0, 1) := by decide +kernel
theorem dX0_lost_10 : decode cX0_lost 10 = .ok (.aload_n 0, 1) := by decide +kernel
theorem dX0_lost_11 : decode cX0_lost 11 = .ok (.getfield 69, 3) := by decide +kernel
theorem dX0_lost_14 : decode cX0_lost 14 = .ok (.ifCond .le 12, 3) := by decide +kernel
theorem dX0_lost_17 : decode cX0_lost 17 = .ok (.aload_n 0, 1) := by decide +kernel
theorem dX0_lost_18 : decode cX0_lost 18 = .ok (.getfield 20, 3) := by decide +kernel
theorem dX0_lost_21 : decode cX0_lost 21 = .ok (.iconst 0, 1) := by decide +kernel
theorem dX0_lost_22 : decode cX0_lost 22 = .ok (.iaload, 1) := by decide +kernel
theorem dX0_lost_23 : decode cX0_lost 23 = .ok (.goto 7, 3) := by decide +kernel
theorem dX0_lost_26 : decode cX0_lost 26 = .ok (.aload_n 0, 1) := by decide +kernel
theorem dX0_lost_27 : decode cX0_lost 27 = .ok (.getfield 77, 3) := by decide +kernel
theorem dX0_lost_30 : decode cX0_lost 30 = .ok (.invokevirtual 127, 3) := by decide +kernel
theorem dX0_lost_33 : decode cX0_lost 33 = .ok (.istore_n 2, 1) := by decide +kernel
theorem dX0_lost_34 : decode cX0_lost 34 = .ok (.iload_n 1, 1) := by decide +kernel
theorem dX0_lost_35 : decode cX0_lost 35 = .ok (.iconst (-1), 1) := by decide +kernel
theorem dX0_lost_36 : decode cX0_lost 36 = .ok (.if_icmp .eq 8, 3) := by decide +kernel
theorem dX0_lost_39 : decode cX0_lost 39 = .ok (.iload_n 2, 1) := by decide +kernel
theorem dX0_lost_40 : decode cX0_lost 40 = .ok (.iconst (-1), 1) := by decide +kernel
theorem dX0_lost_41 : decode cX0_lost 41 = .ok (.if_icmp .ne 13, 3) := by decide +kernel
theorem dX0_lost_44 : decode cX0_lost 44 = .ok (.new 72, 3) := by decide +kernel
theorem dX0_lost_47 : decode cX0_lost 47 = .ok (.dup, 1) := by decide +kernel
theorem dX0_lost_48 : decode cX0_lost 48 = .ok (.ldc 148, 2) := by decide +kernel
theorem dX0_lost_50 : decode cX0_lost 50 = .ok (.invokespecial 76, 3) := by decide +kernel
theorem dX0_lost_53 : decode cX0_lost 53 = .ok (.athrow, 1) := by decide +kernel
theorem dX0_lost_54 : decode cX0_lost 54 = .ok (.aload_n 0, 1) := by decide +kernel
theorem dX0_lost_55 : decode cX0_lost 55 = .ok (.getfield 69, 3) := by decide +kernel
theorem dX0_lost_58 : decode cX0_lost 58 = .ok (.iload_n 1, 1) := by decide +kernel
theorem dX0_lost_59 : decode cX0_lost 59 = .ok (.iadd, 1) := by decide +kernel
theorem dX0_lost_60 : decode cX0_lost 60 = .ok (.iload_n 2, 1) := by decide +kernel
theorem dX0_lost_61 : decode cX0_lost 61 = .ok (.isub, 1) := by decide +kernel
theorem dX0_lost_62 : decode cX0_lost 62 = .ok (.ireturn, 1) := by decide +kernel
theorem dX0_next_0 : decode cX0_next 0 = .ok (.aload_n 0, 1) := by decide +kernel
theorem dX0_next_1 : decode cX0_next 1 = .ok (.aload_n 0, 1) := by decide +kernel
theorem dX0_next_2 : decode cX0_next 2 = .ok (.getfield 77, 3) := by decide +kernel
theorem dX0_next_5 : decode cX0_next 5 = .ok (.invokevirtual 127, 3) := by decide +kernel
theorem dX0_next_8 : decode cX0_next 8 = .ok (.istore_n 1, 1) := by decide +kernel
theorem dX0_next_9 : decode cX0_next 9 = .ok (.iload_n 1, 1) := by decide +kernel
theorem dX0_next_10 : decode cX0_next 10 = .ok (.iconst 1, 1) := by decide +kernel
theorem dX0_next_11 : decode cX0_next 11 = .ok (.if_icmp .ge 5, 3) := by decide +kernel
theorem dX0_next_14 : decode cX0_next 14 = .ok (.iconst (-1), 1) := by decide +kernel
theorem dX0_next_15 : decode cX0_next 15 = .ok (.ireturn, 1) := by decide +kernel
theorem dX0_next_16 : decode cX0_next 16 = .ok (.iconst 0, 1) := by decide +kernel
theorem dX0_next_17 : decode cX0_next 17 = .ok (.istore_n 2, 1) := by decide +kernel
theorem dX0_next_18 : decode cX0_next 18 = .ok (.iload_n 2, 1) := by decide +kernel
theorem dX0_next_19 : decode cX0_next 19 = .ok (.aload_n 0, 1) := by decide +kernel
theorem dX0_next_20 : decode cX0_next 20 = .ok (.getfield 117, 3) := by decide +kernel
theorem dX0_next_23 : decode cX0_next 23 = .ok (.if_icmp .ge 61, 3) := by decide +kernel
theorem dX0_next_26 : decode cX0_next 26 = .ok (.iconst 0, 1) := by decide +kernel
theorem dX0_next_27 : decode cX0_next 27 = .ok (.istore_n 3, 1) := by decide +kernel
theorem dX0_next_28 : decode cX0_next 28 = .ok (.iload_n 3, 1) := by decide +kernel
theorem dX0_next_29 : decode cX0_next 29 = .ok (.aload_n 0, 1) := by decide +kernel
theorem dX0_next_30 : decode cX0_next 30 = .ok (.getfield 117, 3) := by decide +kernel
theorem dX0_next_33 : decode cX0_next 33 = .ok (.if_icmp .ge 45, 3) := by decide +kernel
theorem dX0_next_36 : decode cX0_next 36 = .ok (.aload_n 0, 1) := by decide +kernel
theorem dX0_next_37 : decode cX0_next 37 = .ok (.iload_n 2, 1) := by decide +kernel
theorem dX0_next_38 : decode cX0_next 38 = .ok (.iload_n 3, 1) := by decide +kernel
theorem dX0_next_39 : decode cX0_next 39 = .ok (.invokevirtual 105, 3) := by decide +kernel
theorem dX0_next_42 : decode cX0_next 42 = .ok (.ifCond .eq 30, 3) := by decide +kernel
theorem dX0_next_45 : decode cX0_next 45 = .ok (.aload_n 0, 1) := by decide +kernel
theorem dX0_next_46 : decode cX0_next 46 = .ok (.aload_n 0, 1) := by decide +kernel
theorem dX0_next_47 : decode cX0_next 47 = .ok (.aload_n 0, 1) := by decide +kernel
theorem dX0_next_48 : decode cX0_next 48 = .ok (.getfield 77, 3) := by decide +kernel
theorem dX0_next_51 : decode cX0_next 51 = .ok (.iload_n 2, 1) := by decide +kernel
theorem dX0_next_52 : decode cX0_next 52 = .ok (.iload_n 3, 1) := by decide +kernel
theorem dX0_next_53 : decode cX0_next 53 = .ok (.invokevirtual 111, 3) := by decide +kernel
theorem dX0_next_56 : decode cX0_next 56 = .ok (.invokevirtual 127, 3) := by decide +kernel
theorem dX0_next_59 : decode cX0_next 59 = .ok (.iload_n 1, 1) := by decide +kernel
theorem dX0_next_60 : decode cX0_next 60 = .ok (.iconst 1, 1) := by decide +kernel
theorem dX0_next_61 : decode cX0_next 61 = .ok (.isub, 1) := by decide +kernel
theorem dX0_next_62 : decode cX0_next 62 = .ok (.if_icmp .ne 10, 3) := by decide +kernel
theorem dX0_next_65 : decode cX0_next 65 = .ok (.bipush 10, 2) := by decide +kernel
theorem dX0_next_67 : decode cX0_next 67 = .ok (.iload_n 2, 1) := by decide +kernel
theorem dX0_next_68 : decode cX0_next 68 = .ok (.imul, 1) := by decide +kernel
theorem dX0_next_69 : decode cX0_next 69 = .ok (.iload_n 3, 1) := by decide +kernel
theorem dX0_next_70 : decode cX0_next 70 = .ok (.iadd, 1) := by decide +kernel
theorem dX0_next_71 : decode cX0_next 71 = .ok (.ireturn, 1) := by decide +kernel
theorem dX0_next_72 : decode cX0_next 72 = .ok (.iinc 3 1, 3) := by decide +kernel
theorem dX0_next_75 : decode cX0_next 75 = .ok (.goto (-47), 3) := by decide +kernel
theorem dX0_next_78 : decode cX0_next 78 = .ok (.iinc 2 1, 3) := by decide +kernel
theorem dX0_next_81 : decode cX0_next 81 = .ok (.goto (-63), 3) := by decide +kernel
theorem dX0_next_84 : decode cX0_next 84 = .ok (.iconst (-1), 1) := by decide +kernel
theorem dX0_next_85 : decode cX0_next 85 = .ok (.ireturn, 1) := by decide +kernel
theorem dX0_reachable_0 : decode cX0_reachable 0 = .ok (.aload_n 0, 1) := by decide +kernel
theorem dX0_reachable_1 : decode cX0_reachable 1 = .ok (.aload_n 0, 1) := by decide +kernel
theorem dX0_reachable_2 : decode cX0_reachable 2 = .ok (.getfield 77, 3) := by decide +kernel
theorem dX0_reachable_5 : decode cX0_reachable 5 = .ok (.aload_n 0, 1) := by decide +kernel
theorem dX0_reachable_6 : decode cX0_reachable 6 = .ok (.getfield 29, 3) := by decide +kernel
theorem dX0_reachable_9 : decode cX0_reachable 9 = .ok (.iconst 0, 1) := by decide +kernel
theorem dX0_reachable_10 : decode cX0_reachable 10 = .ok (.invokevirtual 150, 3) := by decide +kernel
theorem dX0_reachable_13 : decode cX0_reachable 13 = .ok (.ireturn, 1) := by decide +kernel
theorem dX0_lay_0 : decode cX0_lay 0 = .ok (.aload_n 0, 1) := by decide +kernel
theorem dX0_lay_1 : decode cX0_lay 1 = .ok (.iload_n 1, 1) := by decide +kernel
theorem dX0_lay_2 : decode cX0_lay 2 = .ok (.putfield 117, 3) := by decide +kernel
theorem dX0_lay_5 : decode cX0_lay 5 = .ok (.aload_n 0, 1) := by decide +kernel
theorem dX0_lay_6 : decode cX0_lay 6 = .ok (.iload_n 2, 1) := by decide +kernel
theorem dX0_lay_7 : decode cX0_lay 7 = .ok (.putfield 53, 3) := by decide +kernel
theorem dX0_lay_10 : decode cX0_lay 10 = .ok (.iconst 1, 1) := by decide +kernel
theorem dX0_lay_11 : decode cX0_lay 11 = .ok (.istore_n 3, 1) := by decide +kernel
theorem dX0_lay_12 : decode cX0_lay 12 = .ok (.iconst 0, 1) := by decide +kernel
theorem dX0_lay_13 : decode cX0_lay 13 = .ok (.istore 4, 2) := by decide +kernel
theorem dX0_lay_15 : decode cX0_lay 15 = .ok (.iload 4, 2) := by decide +kernel
theorem dX0_lay_17 : decode cX0_lay 17 = .ok (.aload_n 0, 1) := by decide +kernel
theorem dX0_lay_18 : decode cX0_lay 18 = .ok (.getfield 9, 3) := by decide +kernel
theorem dX0_lay_21 : decode cX0_lay 21 = .ok (.arraylength, 1) := by decide +kernel
theorem dX0_lay_22 : decode cX0_lay 22 = .ok (.if_icmp .ge 21, 3) := by decide +kernel
theorem dX0_lay_25 : decode cX0_lay 25 = .ok (.aload_n 0, 1) := by decide +kernel
theorem dX0_lay_26 : decode cX0_lay 26 = .ok (.getfield 9, 3) := by decide +kernel
theorem dX0_lay_29 : decode cX0_lay 29 = .ok (.iload 4, 2) := by decide +kernel
theorem dX0_lay_31 : decode cX0_lay 31 = .ok (.iload_n 3, 1) := by decide +kernel
theorem dX0_lay_32 : decode cX0_lay 32 = .ok (.iastore, 1) := by decide +kernel
theorem dX0_lay_33 : decode cX0_lay 33 = .ok (.iload_n 3, 1) := by decide +kernel
theorem dX0_lay_34 : decode cX0_lay 34 = .ok (.iload_n 1, 1) := by decide +kernel
theorem dX0_lay_35 : decode cX0_lay 35 = .ok (.imul, 1) := by decide +kernel
theorem dX0_lay_36 : decode cX0_lay 36 = .ok (.istore_n 3, 1) := by decide +kernel
theorem dX0_lay_37 : decode cX0_lay 37 = .ok (.iinc 4 1, 3) := by decide +kernel
theorem dX0_lay_40 : decode cX0_lay 40 = .ok (.goto (-25), 3) := by decide +kernel
theorem dX0_lay_43 : decode cX0_lay 43 = .ok (.iconst 0, 1) := by decide +kernel
theorem dX0_lay_44 : decode cX0_lay 44 = .ok (.istore 4, 2) := by decide +kernel
theorem dX0_lay_46 : decode cX0_lay 46 = .ok (.iload 4, 2) := by decide +kernel
theorem dX0_lay_48 : decode cX0_lay 48 = .ok (.aload_n 0, 1) := by decide +kernel
theorem dX0_lay_49 : decode cX0_lay 49 = .ok (.getfield 13, 3) := by decide +kernel
theorem dX0_lay_52 : decode cX0_lay 52 = .ok (.arraylength, 1) := by decide +kernel
theorem dX0_lay_53 : decode cX0_lay 53 = .ok (.if_icmp .ge 17, 3) := by decide +kernel
theorem dX0_lay_56 : decode cX0_lay 56 = .ok (.aload_n 0, 1) := by decide +kernel
theorem dX0_lay_57 : decode cX0_lay 57 = .ok (.getfield 13, 3) := by decide +kernel
theorem dX0_lay_60 : decode cX0_lay 60 = .ok (.iload 4, 2) := by decide +kernel
theorem dX0_lay_62 : decode cX0_lay 62 = .ok (.iconst 0, 1) := by decide +kernel
theorem dX0_lay_63 : decode cX0_lay 63 = .ok (.iastore, 1) := by decide +kernel
theorem dX0_lay_64 : decode cX0_lay 64 = .ok (.iinc 4 1, 3) := by decide +kernel
theorem dX0_lay_67 : decode cX0_lay 67 = .ok (.goto (-21), 3) := by decide +kernel
theorem dX0_lay_70 : decode cX0_lay 70 = .ok (.iconst 0, 1) := by decide +kernel
theorem dX0_lay_71 : decode cX0_lay 71 = .ok (.istore 4, 2) := by decide +kernel
theorem dX0_lay_73 : decode cX0_lay 73 = .ok (.iload 4, 2) := by decide +kernel
theorem dX0_lay_75 : decode cX0_lay 75 = .ok (.aload_n 0, 1) := by decide +kernel
theorem dX0_lay_76 : decode cX0_lay 76 = .ok (.getfield 16, 3) := by decide +kernel
theorem dX0_lay_79 : decode cX0_lay 79 = .ok (.arraylength, 1) := by decide +kernel
theorem dX0_lay_80 : decode cX0_lay 80 = .ok (.if_icmp .ge 17, 3) := by decide +kernel
theorem dX0_lay_83 : decode cX0_lay 83 = .ok (.aload_n 0, 1) := by decide +kernel
theorem dX0_lay_84 : decode cX0_lay 84 = .ok (.getfield 16, 3) := by decide +kernel
theorem dX0_lay_87 : decode cX0_lay 87 = .ok (.iload 4, 2) := by decide +kernel
theorem dX0_lay_89 : decode cX0_lay 89 = .ok (.iconst 1, 1) := by decide +kernel
theorem dX0_lay_90 : decode cX0_lay 90 = .ok (.bastore, 1) := by decide +kernel
theorem dX0_lay_91 : decode cX0_lay 91 = .ok (.iinc 4 1, 3) := by decide +kernel
theorem dX0_lay_94 : decode cX0_lay 94 = .ok (.goto (-21), 3) := by decide +kernel
theorem dX0_lay_97 : decode cX0_lay 97 = .ok (.aload_n 0, 1) := by decide +kernel
theorem dX0_lay_98 : decode cX0_lay 98 = .ok (.iconst 0, 1) := by decide +kernel
theorem dX0_lay_99 : decode cX0_lay 99 = .ok (.putfield 102, 3) := by decide +kernel
theorem dX0_lay_102 : decode cX0_lay 102 = .ok (.aload_n 0, 1) := by decide +kernel
theorem dX0_lay_103 : decode cX0_lay 103 = .ok (.iconst 0, 1) := by decide +kernel
theorem dX0_lay_104 : decode cX0_lay 104 = .ok (.putfield 77, 3) := by decide +kernel
theorem dX0_lay_107 : decode cX0_lay 107 = .ok (.aload_n 0, 1) := by decide +kernel
theorem dX0_lay_108 : decode cX0_lay 108 = .ok (.aload_n 0, 1) := by decide +kernel
theorem dX0_lay_109 : decode cX0_lay 109 = .ok (.getfield 9, 3) := by decide +kernel
theorem dX0_lay_112 : decode cX0_lay 112 = .ok (.aload_n 0, 1) := by decide +kernel
theorem dX0_lay_113 : decode cX0_lay 113 = .ok (.getfield 53, 3) := by decide +kernel
theorem dX0_lay_116 : decode cX0_lay 116 = .ok (.iaload, 1) := by decide +kernel
theorem dX0_lay_117 : decode cX0_lay 117 = .ok (.iconst 1, 1) := by decide +kernel
theorem dX0_lay_118 : decode cX0_lay 118 = .ok (.isub, 1) := by decide +kernel
theorem dX0_lay_119 : decode cX0_lay 119 = .ok (.putfield 84, 3) := by decide +kernel
theorem dX0_lay_122 : decode cX0_lay 122 = .ok (.aload_n 0, 1) := by decide +kernel
theorem dX0_lay_123 : decode cX0_lay 123 = .ok (.iconst 0, 1) := by decide +kernel
theorem dX0_lay_124 : decode cX0_lay 124 = .ok (.putfield 69, 3) := by decide +kernel
theorem dX0_lay_127 : decode cX0_lay 127 = .ok (.aload_n 0, 1) := by decide +kernel
theorem dX0_lay_128 : decode cX0_lay 128 = .ok (.iconst 0, 1) := by decide +kernel
theorem dX0_lay_129 : decode cX0_lay 129 = .ok (.putfield 87, 3) := by decide +kernel
theorem dX0_lay_132 : decode cX0_lay 132 = .ok (.return_, 1) := by decide +kernel
theorem dX0_isPeg_0 : decode cX0_isPeg 0 = .ok (.iload_n 1, 1) := by decide +kernel
theorem dX0_isPeg_1 : decode cX0_isPeg 1 = .ok (.ifCond .lt 15, 3) := by decide +kernel
theorem dX0_isPeg_4 : decode cX0_isPeg 4 = .ok (.iload_n 1, 1) := by decide +kernel
theorem dX0_isPeg_5 : decode cX0_isPeg 5 = .ok (.aload_n 0, 1) := by decide +kernel
theorem dX0_isPeg_6 : decode cX0_isPeg 6 = .ok (.getfield 117, 3) := by decide +kernel
theorem dX0_isPeg_9 : decode cX0_isPeg 9 = .ok (.if_icmp .ge 7, 3) := by decide +kernel
theorem dX0_isPeg_12 : decode cX0_isPeg 12 = .ok (.iconst 1, 1) := by decide +kernel
theorem dX0_isPeg_13 : decode cX0_isPeg 13 = .ok (.goto 4, 3) := by decide +kernel
theorem dX0_isPeg_16 : decode cX0_isPeg 16 = .ok (.iconst 0, 1) := by decide +kernel
theorem dX0_isPeg_17 : decode cX0_isPeg 17 = .ok (.ireturn, 1) := by decide +kernel
theorem dX0_isDisk_0 : decode cX0_isDisk 0 = .ok (.iload_n 1, 1) := by decide +kernel
theorem dX0_isDisk_1 : decode cX0_isDisk 1 = .ok (.ifCond .lt 15, 3) := by decide +kernel
theorem dX0_isDisk_4 : decode cX0_isDisk 4 = .ok (.iload_n 1, 1) := by decide +kernel
theorem dX0_isDisk_5 : decode cX0_isDisk 5 = .ok (.aload_n 0, 1) := by decide +kernel
theorem dX0_isDisk_6 : decode cX0_isDisk 6 = .ok (.getfield 53, 3) := by decide +kernel
theorem dX0_isDisk_9 : decode cX0_isDisk 9 = .ok (.if_icmp .ge 7, 3) := by decide +kernel
theorem dX0_isDisk_12 : decode cX0_isDisk 12 = .ok (.iconst 1, 1) := by decide +kernel
theorem dX0_isDisk_13 : decode cX0_isDisk 13 = .ok (.goto 4, 3) := by decide +kernel
theorem dX0_isDisk_16 : decode cX0_isDisk 16 = .ok (.iconst 0, 1) := by decide +kernel
theorem dX0_isDisk_17 : decode cX0_isDisk 17 = .ok (.ireturn, 1) := by decide +kernel
theorem dX0_isNumber_0 : decode cX0_isNumber 0 = .ok (.iload_n 1, 1) := by decide +kernel
theorem dX0_isNumber_1 : decode cX0_isNumber 1 = .ok (.ifCond .lt 20, 3) := by decide +kernel
theorem dX0_isNumber_4 : decode cX0_isNumber 4 = .ok (.iload_n 1, 1) := by decide +kernel
theorem dX0_isNumber_5 : decode cX0_isNumber 5 = .ok (.aload_n 0, 1) := by decide +kernel
theorem dX0_isNumber_6 : decode cX0_isNumber 6 = .ok (.getfield 9, 3) := by decide +kernel
theorem dX0_isNumber_9 : decode cX0_isNumber 9 = .ok (.aload_n 0, 1) := by decide +kernel
theorem dX0_isNumber_10 : decode cX0_isNumber 10 = .ok (.getfield 53, 3) := by decide +kernel
theorem dX0_isNumber_13 : decode cX0_isNumber 13 = .ok (.iaload, 1) := by decide +kernel
theorem dX0_isNumber_14 : decode cX0_isNumber 14 = .ok (.if_icmp .ge 7, 3) := by decide +kernel
theorem dX0_isNumber_17 : decode cX0_isNumber 17 = .ok (.iconst 1, 1) := by decide +kernel
theorem dX0_isNumber_18 : decode cX0_isNumber 18 = .ok (.goto 4, 3) := by decide +kernel
theorem dX0_isNumber_21 : decode cX0_isNumber 21 = .ok (.iconst 0, 1) := by decide +kernel
theorem dX0_isNumber_22 : decode cX0_isNumber 22 = .ok (.ireturn, 1) := by decide +kernel
theorem dX0_pairOf_0 : decode cX0_pairOf 0 = .ok (.iload_n 0, 1) := by decide +kernel
theorem dX0_pairOf_1 : decode cX0_pairOf 1 = .ok (.iconst 5, 1) := by decide +kernel
theorem dX0_pairOf_2 : decode cX0_pairOf 2 = .ok (.imul, 1) := by decide +kernel
theorem dX0_pairOf_3 : decode cX0_pairOf 3 = .ok (.iload_n 1, 1) := by decide +kernel
theorem dX0_pairOf_4 : decode cX0_pairOf 4 = .ok (.iadd, 1) := by decide +kernel
theorem dX0_pairOf_5 : decode cX0_pairOf 5 = .ok (.ireturn, 1) := by decide +kernel
theorem dX0_isAnyBarred_0 : decode cX0_isAnyBarred 0 = .ok (.iconst 0, 1) := by decide +kernel
theorem dX0_isAnyBarred_1 : decode cX0_isAnyBarred 1 = .ok (.istore_n 1, 1) := by decide +kernel
theorem dX0_isAnyBarred_2 : decode cX0_isAnyBarred 2 = .ok (.iload_n 1, 1) := by decide +kernel
theorem dX0_isAnyBarred_3 : decode cX0_isAnyBarred 3 = .ok (.aload_n 0, 1) := by decide +kernel
theorem dX0_isAnyBarred_4 : decode cX0_isAnyBarred 4 = .ok (.getfield 16, 3) := by decide +kernel
theorem dX0_isAnyBarred_7 : decode cX0_isAnyBarred 7 = .ok (.arraylength, 1) := by decide +kernel
theorem dX0_isAnyBarred_8 : decode cX0_isAnyBarred 8 = .ok (.if_icmp .ge 20, 3) := by decide +kernel
theorem dX0_isAnyBarred_11 : decode cX0_isAnyBarred 11 = .ok (.aload_n 0, 1) := by decide +kernel
theorem dX0_isAnyBarred_12 : decode cX0_isAnyBarred 12 = .ok (.getfield 16, 3) := by decide +kernel
theorem dX0_isAnyBarred_15 : decode cX0_isAnyBarred 15 = .ok (.iload_n 1, 1) := by decide +kernel
theorem dX0_isAnyBarred_16 : decode cX0_isAnyBarred 16 = .ok (.baload, 1) := by decide +kernel
theorem dX0_isAnyBarred_17 : decode cX0_isAnyBarred 17 = .ok (.ifCond .ne 5, 3) := by decide +kernel
theorem dX0_isAnyBarred_20 : decode cX0_isAnyBarred 20 = .ok (.iconst 1, 1) := by decide +kernel
theorem dX0_isAnyBarred_21 : decode cX0_isAnyBarred 21 = .ok (.ireturn, 1) := by decide +kernel
theorem dX0_isAnyBarred_22 : decode cX0_isAnyBarred 22 = .ok (.iinc 1 1, 3) := by decide +kernel
theorem dX0_isAnyBarred_25 : decode cX0_isAnyBarred 25 = .ok (.goto (-23), 3) := by decide +kernel
theorem dX0_isAnyBarred_28 : decode cX0_isAnyBarred 28 = .ok (.iconst 0, 1) := by decide +kernel
theorem dX0_isAnyBarred_29 : decode cX0_isAnyBarred 29 = .ok (.ireturn, 1) := by decide +kernel
theorem dX0_pegIn_0 : decode cX0_pegIn 0 = .ok (.aload_n 0, 1) := by decide +kernel
theorem dX0_pegIn_1 : decode cX0_pegIn 1 = .ok (.getfield 9, 3) := by decide +kernel
theorem dX0_pegIn_4 : decode cX0_pegIn 4 = .ok (.iload_n 2, 1) := by decide +kernel
theorem dX0_pegIn_5 : decode cX0_pegIn 5 = .ok (.iaload, 1) := by decide +kernel
theorem dX0_pegIn_6 : decode cX0_pegIn 6 = .ok (.istore_n 3, 1) := by decide +kernel
theorem dX0_pegIn_7 : decode cX0_pegIn 7 = .ok (.iload_n 3, 1) := by decide +kernel
theorem dX0_pegIn_8 : decode cX0_pegIn 8 = .ok (.iconst 1, 1) := by decide +kernel
theorem dX0_pegIn_9 : decode cX0_pegIn 9 = .ok (.if_icmp .lt 11, 3) := by decide +kernel
theorem dX0_pegIn_12 : decode cX0_pegIn 12 = .ok (.aload_n 0, 1) := by decide +kernel
theorem dX0_pegIn_13 : decode cX0_pegIn 13 = .ok (.getfield 117, 3) := by decide +kernel
theorem dX0_pegIn_16 : decode cX0_pegIn 16 = .ok (.iconst 1, 1) := by decide +kernel
theorem dX0_pegIn_17 : decode cX0_pegIn 17 = .ok (.if_icmp .ge 5, 3) := by decide +kernel
theorem dX0_pegIn_20 : decode cX0_pegIn 20 = .ok (.iconst 0, 1) := by decide +kernel
theorem dX0_pegIn_21 : decode cX0_pegIn 21 = .ok (.ireturn, 1) := by decide +kernel
theorem dX0_pegIn_22 : decode cX0_pegIn 22 = .ok (.iload_n 1, 1) := by decide +kernel
theorem dX0_pegIn_23 : decode cX0_pegIn 23 = .ok (.iload_n 3, 1) := by decide +kernel
theorem dX0_pegIn_24 : decode cX0_pegIn 24 = .ok (.idiv, 1) := by decide +kernel
theorem dX0_pegIn_25 : decode cX0_pegIn 25 = .ok (.aload_n 0, 1) := by decide +kernel
theorem dX0_pegIn_26 : decode cX0_pegIn 26 = .ok (.getfield 117, 3) := by decide +kernel
theorem dX0_pegIn_29 : decode cX0_pegIn 29 = .ok (.irem, 1) := by decide +kernel
theorem dX0_pegIn_30 : decode cX0_pegIn 30 = .ok (.ireturn, 1) := by decide +kernel
theorem dX0_diskBelow_0 : decode cX0_diskBelow 0 = .ok (.aload_n 0, 1) := by decide +kernel
theorem dX0_diskBelow_1 : decode cX0_diskBelow 1 = .ok (.iload_n 1, 1) := by decide +kernel
theorem dX0_diskBelow_2 : decode cX0_diskBelow 2 = .ok (.iload_n 2, 1) := by decide +kernel
theorem dX0_diskBelow_3 : decode cX0_diskBelow 3 = .ok (.invokevirtual 80, 3) := by decide +kernel
theorem dX0_diskBelow_6 : decode cX0_diskBelow 6 = .ok (.istore_n 3, 1) := by decide +kernel
theorem dX0_diskBelow_7 : decode cX0_diskBelow 7 = .ok (.iload_n 2, 1) := by decide +kernel
theorem dX0_diskBelow_8 : decode cX0_diskBelow 8 = .ok (.iconst 1, 1) := by decide +kernel
theorem dX0_diskBelow_9 : decode cX0_diskBelow 9 = .ok (.iadd, 1) := by decide +kernel
theorem dX0_diskBelow_10 : decode cX0_diskBelow 10 = .ok (.istore 4, 2) := by decide +kernel
theorem dX0_diskBelow_12 : decode cX0_diskBelow 12 = .ok (.iload 4, 2) := by decide +kernel
theorem dX0_diskBelow_14 : decode cX0_diskBelow 14 = .ok (.aload_n 0, 1) := by decide +kernel
theorem dX0_diskBelow_15 : decode cX0_diskBelow 15 = .ok (.getfield 53, 3) := by decide +kernel
theorem dX0_diskBelow_18 : decode cX0_diskBelow 18 = .ok (.if_icmp .ge 23, 3) := by decide +kernel
theorem dX0_diskBelow_21 : decode cX0_diskBelow 21 = .ok (.aload_n 0, 1) := by decide +kernel
theorem dX0_diskBelow_22 : decode cX0_diskBelow 22 = .ok (.iload_n 1, 1) := by decide +kernel
theorem dX0_diskBelow_23 : decode cX0_diskBelow 23 = .ok (.iload 4, 2) := by decide +kernel
theorem dX0_diskBelow_25 : decode cX0_diskBelow 25 = .ok (.invokevirtual 80, 3) := by decide +kernel
theorem dX0_diskBelow_28 : decode cX0_diskBelow 28 = .ok (.iload_n 3, 1) := by decide +kernel
theorem dX0_diskBelow_29 : decode cX0_diskBelow 29 = .ok (.if_icmp .ne 6, 3) := by decide +kernel
theorem dX0_diskBelow_32 : decode cX0_diskBelow 32 = .ok (.iload 4, 2) := by decide +kernel
theorem dX0_diskBelow_34 : decode cX0_diskBelow 34 = .ok (.ireturn, 1) := by decide +kernel
theorem dX0_diskBelow_35 : decode cX0_diskBelow 35 = .ok (.iinc 4 1, 3) := by decide +kernel
theorem dX0_diskBelow_38 : decode cX0_diskBelow 38 = .ok (.goto (-26), 3) := by decide +kernel
theorem dX0_diskBelow_41 : decode cX0_diskBelow 41 = .ok (.iconst (-1), 1) := by decide +kernel
theorem dX0_diskBelow_42 : decode cX0_diskBelow 42 = .ok (.ireturn, 1) := by decide +kernel
theorem dX0_mayLieOn_0 : decode cX0_mayLieOn 0 = .ok (.aload_n 0, 1) := by decide +kernel
theorem dX0_mayLieOn_1 : decode cX0_mayLieOn 1 = .ok (.getfield 102, 3) := by decide +kernel
theorem dX0_mayLieOn_4 : decode cX0_mayLieOn 4 = .ok (.ifCond .eq 23, 3) := by decide +kernel
theorem dX0_mayLieOn_7 : decode cX0_mayLieOn 7 = .ok (.iload_n 2, 1) := by decide +kernel
theorem dX0_mayLieOn_8 : decode cX0_mayLieOn 8 = .ok (.iconst (-1), 1) := by decide +kernel
theorem dX0_mayLieOn_9 : decode cX0_mayLieOn 9 = .ok (.if_icmp .eq 18, 3) := by decide +kernel
theorem dX0_mayLieOn_12 : decode cX0_mayLieOn 12 = .ok (.aload_n 0, 1) := by decide +kernel
theorem dX0_mayLieOn_13 : decode cX0_mayLieOn 13 = .ok (.getfield 13, 3) := by decide +kernel
theorem dX0_mayLieOn_16 : decode cX0_mayLieOn 16 = .ok (.iload_n 1, 1) := by decide +kernel
theorem dX0_mayLieOn_17 : decode cX0_mayLieOn 17 = .ok (.iaload, 1) := by decide +kernel
theorem dX0_mayLieOn_18 : decode cX0_mayLieOn 18 = .ok (.aload_n 0, 1) := by decide +kernel
theorem dX0_mayLieOn_19 : decode cX0_mayLieOn 19 = .ok (.getfield 13, 3) := by decide +kernel
theorem dX0_mayLieOn_22 : decode cX0_mayLieOn 22 = .ok (.iload_n 2, 1) := by decide +kernel
theorem dX0_mayLieOn_23 : decode cX0_mayLieOn 23 = .ok (.iaload, 1) := by decide +kernel
theorem dX0_mayLieOn_24 : decode cX0_mayLieOn 24 = .ok (.if_icmp .eq 7, 3) := by decide +kernel
theorem dX0_mayLieOn_27 : decode cX0_mayLieOn 27 = .ok (.iconst 1, 1) := by decide +kernel
theorem dX0_mayLieOn_28 : decode cX0_mayLieOn 28 = .ok (.goto 4, 3) := by decide +kernel
theorem dX0_mayLieOn_31 : decode cX0_mayLieOn 31 = .ok (.iconst 0, 1) := by decide +kernel
theorem dX0_mayLieOn_32 : decode cX0_mayLieOn 32 = .ok (.ireturn, 1) := by decide +kernel
theorem dX0_keepsRule_0 : decode cX0_keepsRule 0 = .ok (.iconst 0, 1) := by decide +kernel
theorem dX0_keepsRule_1 : decode cX0_keepsRule 1 = .ok (.istore_n 2, 1) := by decide +kernel
theorem dX0_keepsRule_2 : decode cX0_keepsRule 2 = .ok (.iload_n 2, 1) := by decide +kernel
theorem dX0_keepsRule_3 : decode cX0_keepsRule 3 = .ok (.aload_n 0, 1) := by decide +kernel
theorem dX0_keepsRule_4 : decode cX0_keepsRule 4 = .ok (.getfield 53, 3) := by decide +kernel
theorem dX0_keepsRule_7 : decode cX0_keepsRule 7 = .ok (.if_icmp .ge 25, 3) := by decide +kernel
theorem dX0_keepsRule_10 : decode cX0_keepsRule 10 = .ok (.aload_n 0, 1) := by decide +kernel
theorem dX0_keepsRule_11 : decode cX0_keepsRule 11 = .ok (.iload_n 2, 1) := by decide +kernel
theorem dX0_keepsRule_12 : decode cX0_keepsRule 12 = .ok (.aload_n 0, 1) := by decide +kernel
theorem dX0_keepsRule_13 : decode cX0_keepsRule 13 = .ok (.iload_n 1, 1) := by decide +kernel
theorem dX0_keepsRule_14 : decode cX0_keepsRule 14 = .ok (.iload_n 2, 1) := by decide +kernel
theorem dX0_keepsRule_15 : decode cX0_keepsRule 15 = .ok (.invokevirtual 159, 3) := by decide +kernel
theorem dX0_keepsRule_18 : decode cX0_keepsRule 18 = .ok (.invokevirtual 162, 3) := by decide +kernel
theorem dX0_keepsRule_21 : decode cX0_keepsRule 21 = .ok (.ifCond .ne 5, 3) := by decide +kernel
theorem dX0_keepsRule_24 : decode cX0_keepsRule 24 = .ok (.iconst 0, 1) := by decide +kernel
theorem dX0_keepsRule_25 : decode cX0_keepsRule 25 = .ok (.ireturn, 1) := by decide +kernel
theorem dX0_keepsRule_26 : decode cX0_keepsRule 26 = .ok (.iinc 2 1, 3) := by decide +kernel
theorem dX0_keepsRule_29 : decode cX0_keepsRule 29 = .ok (.goto (-27), 3) := by decide +kernel
theorem dX0_keepsRule_32 : decode cX0_keepsRule 32 = .ok (.iconst 1, 1) := by decide +kernel
theorem dX0_keepsRule_33 : decode cX0_keepsRule 33 = .ok (.ireturn, 1) := by decide +kernel
theorem dX0_readTops_0 : decode cX0_readTops 0 = .ok (.iconst 0, 1) := by decide +kernel
theorem dX0_readTops_1 : decode cX0_readTops 1 = .ok (.istore_n 2, 1) := by decide +kernel
theorem dX0_readTops_2 : decode cX0_readTops 2 = .ok (.iload_n 2, 1) := by decide +kernel
theorem dX0_readTops_3 : decode cX0_readTops 3 = .ok (.aload_n 0, 1) := by decide +kernel
theorem dX0_readTops_4 : decode cX0_readTops 4 = .ok (.getfield 23, 3) := by decide +kernel
theorem dX0_readTops_7 : decode cX0_readTops 7 = .ok (.arraylength, 1) := by decide +kernel
theorem dX0_readTops_8 : decode cX0_readTops 8 = .ok (.if_icmp .ge 16, 3) := by decide +kernel
theorem dX0_readTops_11 : decode cX0_readTops 11 = .ok (.aload_n 0, 1) := by decide +kernel
theorem dX0_readTops_12 : decode cX0_readTops 12 = .ok (.getfield 23, 3) := by decide +kernel
theorem dX0_readTops_15 : decode cX0_readTops 15 = .ok (.iload_n 2, 1) := by decide +kernel
theorem dX0_readTops_16 : decode cX0_readTops 16 = .ok (.iconst (-1), 1) := by decide +kernel
theorem dX0_readTops_17 : decode cX0_readTops 17 = .ok (.iastore, 1) := by decide +kernel
theorem dX0_readTops_18 : decode cX0_readTops 18 = .ok (.iinc 2 1, 3) := by decide +kernel
theorem dX0_readTops_21 : decode cX0_readTops 21 = .ok (.goto (-19), 3) := by decide +kernel
theorem dX0_readTops_24 : decode cX0_readTops 24 = .ok (.aload_n 0, 1) := by decide +kernel
theorem dX0_readTops_25 : decode cX0_readTops 25 = .ok (.getfield 53, 3) := by decide +kernel
theorem dX0_readTops_28 : decode cX0_readTops 28 = .ok (.iconst 1, 1) := by decide +kernel
theorem dX0_readTops_29 : decode cX0_readTops 29 = .ok (.isub, 1) := by decide +kernel
theorem dX0_readTops_30 : decode cX0_readTops 30 = .ok (.istore_n 2, 1) := by decide +kernel
theorem dX0_readTops_31 : decode cX0_readTops 31 = .ok (.iload_n 2, 1) := by decide +kernel
theorem dX0_readTops_32 : decode cX0_readTops 32 = .ok (.ifCond .lt 31, 3) := by decide +kernel
theorem dX0_readTops_35 : decode cX0_readTops 35 = .ok (.aload_n 0, 1) := by decide +kernel
theorem dX0_readTops_36 : decode cX0_readTops 36 = .ok (.iload_n 1, 1) := by decide +kernel
theorem dX0_readTops_37 : decode cX0_readTops 37 = .ok (.iload_n 2, 1) := by decide +kernel
theorem dX0_readTops_38 : decode cX0_readTops 38 = .ok (.invokevirtual 80, 3) := by decide +kernel
theorem dX0_readTops_41 : decode cX0_readTops 41 = .ok (.istore_n 3, 1) := by decide +kernel
theorem dX0_readTops_42 : decode cX0_readTops 42 = .ok (.aload_n 0, 1) := by decide +kernel
theorem dX0_readTops_43 : decode cX0_readTops 43 = .ok (.iload_n 3, 1) := by decide +kernel
theorem dX0_readTops_44 : decode cX0_readTops 44 = .ok (.invokevirtual 61, 3) := by decide +kernel
theorem dX0_readTops_47 : decode cX0_readTops 47 = .ok (.ifCond .eq 10, 3) := by decide +kernel
theorem dX0_readTops_50 : decode cX0_readTops 50 = .ok (.aload_n 0, 1) := by decide +kernel
theorem dX0_readTops_51 : decode cX0_readTops 51 = .ok (.getfield 23, 3) := by decide +kernel
theorem dX0_readTops_54 : decode cX0_readTops 54 = .ok (.iload_n 3, 1) := by decide +kernel
theorem dX0_readTops_55 : decode cX0_readTops 55 = .ok (.iload_n 2, 1) := by decide +kernel
theorem dX0_readTops_56 : decode cX0_readTops 56 = .ok (.iastore, 1) := by decide +kernel
theorem dX0_readTops_57 : decode cX0_readTops 57 = .ok (.iinc 2 (-1), 3) := by decide +kernel
theorem dX0_readTops_60 : decode cX0_readTops 60 = .ok (.goto (-29), 3) := by decide +kernel
theorem dX0_readTops_63 : decode cX0_readTops 63 = .ok (.return_, 1) := by decide +kernel
theorem dX0_fits_0 : decode cX0_fits 0 = .ok (.aload_n 0, 1) := by decide +kernel
theorem dX0_fits_1 : decode cX0_fits 1 = .ok (.getfield 23, 3) := by decide +kernel
theorem dX0_fits_4 : decode cX0_fits 4 = .ok (.iload_n 1, 1) := by decide +kernel
theorem dX0_fits_5 : decode cX0_fits 5 = .ok (.iaload, 1) := by decide +kernel
theorem dX0_fits_6 : decode cX0_fits 6 = .ok (.istore_n 3, 1) := by decide +kernel
theorem dX0_fits_7 : decode cX0_fits 7 = .ok (.aload_n 0, 1) := by decide +kernel
theorem dX0_fits_8 : decode cX0_fits 8 = .ok (.getfield 23, 3) := by decide +kernel
theorem dX0_fits_11 : decode cX0_fits 11 = .ok (.iload_n 2, 1) := by decide +kernel
theorem dX0_fits_12 : decode cX0_fits 12 = .ok (.iaload, 1) := by decide +kernel
theorem dX0_fits_13 : decode cX0_fits 13 = .ok (.istore 4, 2) := by decide +kernel
theorem dX0_fits_15 : decode cX0_fits 15 = .ok (.iload_n 1, 1) := by decide +kernel
theorem dX0_fits_16 : decode cX0_fits 16 = .ok (.iload_n 2, 1) := by decide +kernel
theorem dX0_fits_17 : decode cX0_fits 17 = .ok (.if_icmp .eq 24, 3) := by decide +kernel
theorem dX0_fits_20 : decode cX0_fits 20 = .ok (.iload_n 3, 1) := by decide +kernel
theorem dX0_fits_21 : decode cX0_fits 21 = .ok (.iconst (-1), 1) := by decide +kernel
theorem dX0_fits_22 : decode cX0_fits 22 = .ok (.if_icmp .eq 19, 3) := by decide +kernel
theorem dX0_fits_25 : decode cX0_fits 25 = .ok (.iload 4, 2) := by decide +kernel
theorem dX0_fits_27 : decode cX0_fits 27 = .ok (.iconst (-1), 1) := by decide +kernel
theorem dX0_fits_28 : decode cX0_fits 28 = .ok (.if_icmp .eq 9, 3) := by decide +kernel
theorem dX0_fits_31 : decode cX0_fits 31 = .ok (.iload 4, 2) := by decide +kernel
theorem dX0_fits_33 : decode cX0_fits 33 = .ok (.iload_n 3, 1) := by decide +kernel
theorem dX0_fits_34 : decode cX0_fits 34 = .ok (.if_icmp .le 7, 3) := by decide +kernel
theorem dX0_fits_37 : decode cX0_fits 37 = .ok (.iconst 1, 1) := by decide +kernel
theorem dX0_fits_38 : decode cX0_fits 38 = .ok (.goto 4, 3) := by decide +kernel
theorem dX0_fits_41 : decode cX0_fits 41 = .ok (.iconst 0, 1) := by decide +kernel
theorem dX0_fits_42 : decode cX0_fits 42 = .ok (.ireturn, 1) := by decide +kernel
theorem dX0_behindMove_0 : decode cX0_behindMove 0 = .ok (.aload_n 0, 1) := by decide +kernel
theorem dX0_behindMove_1 : decode cX0_behindMove 1 = .ok (.getfield 23, 3) := by decide +kernel
theorem dX0_behindMove_4 : decode cX0_behindMove 4 = .ok (.iload_n 2, 1) := by decide +kernel
theorem dX0_behindMove_5 : decode cX0_behindMove 5 = .ok (.iaload, 1) := by decide +kernel
theorem dX0_behindMove_6 : decode cX0_behindMove 6 = .ok (.istore 4, 2) := by decide +kernel
theorem dX0_behindMove_8 : decode cX0_behindMove 8 = .ok (.aload_n 0, 1) := by decide +kernel
theorem dX0_behindMove_9 : decode cX0_behindMove 9 = .ok (.iload 4, 2) := by decide +kernel
theorem dX0_behindMove_11 : decode cX0_behindMove 11 = .ok (.invokevirtual 57, 3) := by decide +kernel
theorem dX0_behindMove_14 : decode cX0_behindMove 14 = .ok (.ifCond .ne 5, 3) := by decide +kernel
theorem dX0_behindMove_17 : decode cX0_behindMove 17 = .ok (.iload_n 1, 1) := by decide +kernel
theorem dX0_behindMove_18 : decode cX0_behindMove 18 = .ok (.ireturn, 1) := by decide +kernel
theorem dX0_behindMove_19 : decode cX0_behindMove 19 = .ok (.iload_n 1, 1) := by decide +kernel
theorem dX0_behindMove_20 : decode cX0_behindMove 20 = .ok (.iload_n 3, 1) := by decide +kernel
theorem dX0_behindMove_21 : decode cX0_behindMove 21 = .ok (.iload_n 2, 1) := by decide +kernel
theorem dX0_behindMove_22 : decode cX0_behindMove 22 = .ok (.isub, 1) := by decide +kernel
theorem dX0_behindMove_23 : decode cX0_behindMove 23 = .ok (.aload_n 0, 1) := by decide +kernel
theorem dX0_behindMove_24 : decode cX0_behindMove 24 = .ok (.getfield 9, 3) := by decide +kernel
theorem dX0_behindMove_27 : decode cX0_behindMove 27 = .ok (.iload 4, 2) := by decide +kernel
theorem dX0_behindMove_29 : decode cX0_behindMove 29 = .ok (.iaload, 1) := by decide +kernel
theorem dX0_behindMove_30 : decode cX0_behindMove 30 = .ok (.imul, 1) := by decide +kernel
theorem dX0_behindMove_31 : decode cX0_behindMove 31 = .ok (.iadd, 1) := by decide +kernel
theorem dX0_behindMove_32 : decode cX0_behindMove 32 = .ok (.ireturn, 1) := by decide +kernel
theorem dX0_isPossible_0 : decode cX0_isPossible 0 = .ok (.aload_n 0, 1) := by decide +kernel
theorem dX0_isPossible_1 : decode cX0_isPossible 1 = .ok (.aload_n 0, 1) := by decide +kernel
theorem dX0_isPossible_2 : decode cX0_isPossible 2 = .ok (.getfield 77, 3) := by decide +kernel
theorem dX0_isPossible_5 : decode cX0_isPossible 5 = .ok (.invokevirtual 120, 3) := by decide +kernel
theorem dX0_isPossible_8 : decode cX0_isPossible 8 = .ok (.aload_n 0, 1) := by decide +kernel
theorem dX0_isPossible_9 : decode cX0_isPossible 9 = .ok (.iload_n 1, 1) := by decide +kernel
theorem dX0_isPossible_10 : decode cX0_isPossible 10 = .ok (.iload_n 2, 1) := by decide +kernel
theorem dX0_isPossible_11 : decode cX0_isPossible 11 = .ok (.invokevirtual 165, 3) := by decide +kernel
theorem dX0_isPossible_14 : decode cX0_isPossible 14 = .ok (.ifCond .eq 37, 3) := by decide +kernel
theorem dX0_isPossible_17 : decode cX0_isPossible 17 = .ok (.aload_n 0, 1) := by decide +kernel
theorem dX0_isPossible_18 : decode cX0_isPossible 18 = .ok (.getfield 16, 3) := by decide +kernel
theorem dX0_isPossible_21 : decode cX0_isPossible 21 = .ok (.iload_n 1, 1) := by decide +kernel
theorem dX0_isPossible_22 : decode cX0_isPossible 22 = .ok (.iload_n 2, 1) := by decide +kernel
theorem dX0_isPossible_23 : decode cX0_isPossible 23 = .ok (.invokestatic 95, 3) := by decide +kernel
theorem dX0_isPossible_26 : decode cX0_isPossible 26 = .ok (.baload, 1) := by decide +kernel
theorem dX0_isPossible_27 : decode cX0_isPossible 27 = .ok (.ifCond .eq 24, 3) := by decide +kernel
theorem dX0_isPossible_30 : decode cX0_isPossible 30 = .ok (.aload_n 0, 1) := by decide +kernel
theorem dX0_isPossible_31 : decode cX0_isPossible 31 = .ok (.aload_n 0, 1) := by decide +kernel
theorem dX0_isPossible_32 : decode cX0_isPossible 32 = .ok (.aload_n 0, 1) := by decide +kernel
theorem dX0_isPossible_33 : decode cX0_isPossible 33 = .ok (.getfield 77, 3) := by decide +kernel
theorem dX0_isPossible_36 : decode cX0_isPossible 36 = .ok (.iload_n 1, 1) := by decide +kernel
theorem dX0_isPossible_37 : decode cX0_isPossible 37 = .ok (.iload_n 2, 1) := by decide +kernel
theorem dX0_isPossible_38 : decode cX0_isPossible 38 = .ok (.invokevirtual 111, 3) := by decide +kernel
theorem dX0_isPossible_41 : decode cX0_isPossible 41 = .ok (.invokevirtual 124, 3) := by decide +kernel
theorem dX0_isPossible_44 : decode cX0_isPossible 44 = .ok (.ifCond .eq 7, 3) := by decide +kernel
theorem dX0_isPossible_47 : decode cX0_isPossible 47 = .ok (.iconst 1, 1) := by decide +kernel
theorem dX0_isPossible_48 : decode cX0_isPossible 48 = .ok (.goto 4, 3) := by decide +kernel
theorem dX0_isPossible_51 : decode cX0_isPossible 51 = .ok (.iconst 0, 1) := by decide +kernel
theorem dX0_isPossible_52 : decode cX0_isPossible 52 = .ok (.ireturn, 1) := by decide +kernel
theorem dX0_isStep_0 : decode cX0_isStep 0 = .ok (.aload_n 0, 1) := by decide +kernel
theorem dX0_isStep_1 : decode cX0_isStep 1 = .ok (.iload_n 1, 1) := by decide +kernel
theorem dX0_isStep_2 : decode cX0_isStep 2 = .ok (.iload_n 2, 1) := by decide +kernel
theorem dX0_isStep_3 : decode cX0_isStep 3 = .ok (.invokevirtual 165, 3) := by decide +kernel
theorem dX0_isStep_6 : decode cX0_isStep 6 = .ok (.ifCond .ne 5, 3) := by decide +kernel
theorem dX0_isStep_9 : decode cX0_isStep 9 = .ok (.iconst 0, 1) := by decide +kernel
theorem dX0_isStep_10 : decode cX0_isStep 10 = .ok (.ireturn, 1) := by decide +kernel
theorem dX0_isStep_11 : decode cX0_isStep 11 = .ok (.iload_n 3, 1) := by decide +kernel
theorem dX0_isStep_12 : decode cX0_isStep 12 = .ok (.ifCond .eq 11, 3) := by decide +kernel
theorem dX0_isStep_15 : decode cX0_isStep 15 = .ok (.iload_n 2, 1) := by decide +kernel
theorem dX0_isStep_16 : decode cX0_isStep 16 = .ok (.iload_n 1, 1) := by decide +kernel
theorem dX0_isStep_17 : decode cX0_isStep 17 = .ok (.invokestatic 95, 3) := by decide +kernel
theorem dX0_isStep_20 : decode cX0_isStep 20 = .ok (.goto 8, 3) := by decide +kernel
theorem dX0_isStep_23 : decode cX0_isStep 23 = .ok (.iload_n 1, 1) := by decide +kernel
theorem dX0_isStep_24 : decode cX0_isStep 24 = .ok (.iload_n 2, 1) := by decide +kernel
theorem dX0_isStep_25 : decode cX0_isStep 25 = .ok (.invokestatic 95, 3) := by decide +kernel
theorem dX0_isStep_28 : decode cX0_isStep 28 = .ok (.istore 4, 2) := by decide +kernel
theorem dX0_isStep_30 : decode cX0_isStep 30 = .ok (.aload_n 0, 1) := by decide +kernel
theorem dX0_isStep_31 : decode cX0_isStep 31 = .ok (.getfield 16, 3) := by decide +kernel
theorem dX0_isStep_34 : decode cX0_isStep 34 = .ok (.iload 4, 2) := by decide +kernel
theorem dX0_isStep_36 : decode cX0_isStep 36 = .ok (.baload, 1) := by decide +kernel
theorem dX0_isStep_37 : decode cX0_isStep 37 = .ok (.ifCond .eq 26, 3) := by decide +kernel
theorem dX0_isStep_40 : decode cX0_isStep 40 = .ok (.aload_n 0, 1) := by decide +kernel
theorem dX0_isStep_41 : decode cX0_isStep 41 = .ok (.aload_n 0, 1) := by decide +kernel
theorem dX0_isStep_42 : decode cX0_isStep 42 = .ok (.getfield 23, 3) := by decide +kernel
theorem dX0_isStep_45 : decode cX0_isStep 45 = .ok (.iload_n 1, 1) := by decide +kernel
theorem dX0_isStep_46 : decode cX0_isStep 46 = .ok (.iaload, 1) := by decide +kernel
theorem dX0_isStep_47 : decode cX0_isStep 47 = .ok (.aload_n 0, 1) := by decide +kernel
theorem dX0_isStep_48 : decode cX0_isStep 48 = .ok (.getfield 23, 3) := by decide +kernel
theorem dX0_isStep_51 : decode cX0_isStep 51 = .ok (.iload_n 2, 1) := by decide +kernel
theorem dX0_isStep_52 : decode cX0_isStep 52 = .ok (.iaload, 1) := by decide +kernel
theorem dX0_isStep_53 : decode cX0_isStep 53 = .ok (.invokevirtual 162, 3) := by decide +kernel
theorem dX0_isStep_56 : decode cX0_isStep 56 = .ok (.ifCond .eq 7, 3) := by decide +kernel
theorem dX0_isStep_59 : decode cX0_isStep 59 = .ok (.iconst 1, 1) := by decide +kernel
theorem dX0_isStep_60 : decode cX0_isStep 60 = .ok (.goto 4, 3) := by decide +kernel
theorem dX0_isStep_63 : decode cX0_isStep 63 = .ok (.iconst 0, 1) := by decide +kernel
theorem dX0_isStep_64 : decode cX0_isStep 64 = .ok (.ireturn, 1) := by decide +kernel
theorem dX0_wayFrom_0 : decode cX0_wayFrom 0 = .ok (.aload_n 0, 1) := by decide +kernel
theorem dX0_wayFrom_1 : decode cX0_wayFrom 1 = .ok (.getfield 87, 3) := by decide +kernel
theorem dX0_wayFrom_4 : decode cX0_wayFrom 4 = .ok (.ifCond .ne 22, 3) := by decide +kernel
theorem dX0_wayFrom_7 : decode cX0_wayFrom 7 = .ok (.aload_n 0, 1) := by decide +kernel
theorem dX0_wayFrom_8 : decode cX0_wayFrom 8 = .ok (.aload_n 0, 1) := by decide +kernel
theorem dX0_wayFrom_9 : decode cX0_wayFrom 9 = .ok (.getfield 84, 3) := by decide +kernel
theorem dX0_wayFrom_12 : decode cX0_wayFrom 12 = .ok (.aload_n 0, 1) := by decide +kernel
theorem dX0_wayFrom_13 : decode cX0_wayFrom 13 = .ok (.getfield 26, 3) := by decide +kernel
theorem dX0_wayFrom_16 : decode cX0_wayFrom 16 = .ok (.iconst 1, 1) := by decide +kernel
theorem dX0_wayFrom_17 : decode cX0_wayFrom 17 = .ok (.invokevirtual 150, 3) := by decide +kernel
theorem dX0_wayFrom_20 : decode cX0_wayFrom 20 = .ok (.pop, 1) := by decide +kernel
theorem dX0_wayFrom_21 : decode cX0_wayFrom 21 = .ok (.aload_n 0, 1) := by decide +kernel
theorem dX0_wayFrom_22 : decode cX0_wayFrom 22 = .ok (.iconst 1, 1) := by decide +kernel
theorem dX0_wayFrom_23 : decode cX0_wayFrom 23 = .ok (.putfield 87, 3) := by decide +kernel
theorem dX0_wayFrom_26 : decode cX0_wayFrom 26 = .ok (.aload_n 0, 1) := by decide +kernel
theorem dX0_wayFrom_27 : decode cX0_wayFrom 27 = .ok (.iload_n 1, 1) := by decide +kernel
theorem dX0_wayFrom_28 : decode cX0_wayFrom 28 = .ok (.invokevirtual 168, 3) := by decide +kernel
theorem dX0_wayFrom_31 : decode cX0_wayFrom 31 = .ok (.ifCond .eq 12, 3) := by decide +kernel
theorem dX0_wayFrom_34 : decode cX0_wayFrom 34 = .ok (.aload_n 0, 1) := by decide +kernel
theorem dX0_wayFrom_35 : decode cX0_wayFrom 35 = .ok (.getfield 26, 3) := by decide +kernel
theorem dX0_wayFrom_38 : decode cX0_wayFrom 38 = .ok (.iload_n 1, 1) := by decide +kernel
theorem dX0_wayFrom_39 : decode cX0_wayFrom 39 = .ok (.iaload, 1) := by decide +kernel
theorem dX0_wayFrom_40 : decode cX0_wayFrom 40 = .ok (.goto 4, 3) := by decide +kernel
theorem dX0_wayFrom_43 : decode cX0_wayFrom 43 = .ok (.iconst (-1), 1) := by decide +kernel
theorem dX0_wayFrom_44 : decode cX0_wayFrom 44 = .ok (.ireturn, 1) := by decide +kernel
theorem dX0_search_0 : decode cX0_search 0 = .ok (.iconst 0, 1) := by decide +kernel
theorem dX0_search_1 : decode cX0_search 1 = .ok (.istore 4, 2) := by decide +kernel
theorem dX0_search_3 : decode cX0_search 3 = .ok (.iload 4, 2) := by decide +kernel
theorem dX0_search_5 : decode cX0_search 5 = .ok (.aload_n 0, 1) := by decide +kernel
theorem dX0_search_6 : decode cX0_search 6 = .ok (.getfield 9, 3) := by decide +kernel
theorem dX0_search_9 : decode cX0_search 9 = .ok (.aload_n 0, 1) := by decide +kernel
theorem dX0_search_10 : decode cX0_search 10 = .ok (.getfield 53, 3) := by decide +kernel
theorem dX0_search_13 : decode cX0_search 13 = .ok (.iaload, 1) := by decide +kernel
theorem dX0_search_14 : decode cX0_search 14 = .ok (.if_icmp .ge 21, 3) := by decide +kernel
theorem dX0_search_17 : decode cX0_search 17 = .ok (.iload 4, 2) := by decide +kernel
theorem dX0_search_19 : decode cX0_search 19 = .ok (.aload_n 2, 1) := by decide +kernel
theorem dX0_search_20 : decode cX0_search 20 = .ok (.arraylength, 1) := by decide +kernel
theorem dX0_search_21 : decode cX0_search 21 = .ok (.if_icmp .ge 14, 3) := by decide +kernel
theorem dX0_search_24 : decode cX0_search 24 = .ok (.aload_n 2, 1) := by decide +kernel
theorem dX0_search_25 : decode cX0_search 25 = .ok (.iload 4, 2) := by decide +kernel
theorem dX0_search_27 : decode cX0_search 27 = .ok (.iconst (-1), 1) := by decide +kernel
theorem dX0_search_28 : decode cX0_search 28 = .ok (.iastore, 1) := by decide +kernel
theorem dX0_search_29 : decode cX0_search 29 = .ok (.iinc 4 1, 3) := by decide +kernel
theorem dX0_search_32 : decode cX0_search 32 = .ok (.goto (-29), 3) := by decide +kernel
theorem dX0_search_35 : decode cX0_search 35 = .ok (.aload_n 0, 1) := by decide +kernel
theorem dX0_search_36 : decode cX0_search 36 = .ok (.iload_n 1, 1) := by decide +kernel
theorem dX0_search_37 : decode cX0_search 37 = .ok (.invokevirtual 168, 3) := by decide +kernel
theorem dX0_search_40 : decode cX0_search 40 = .ok (.ifCond .eq 11, 3) := by decide +kernel
theorem dX0_search_43 : decode cX0_search 43 = .ok (.aload_n 0, 1) := by decide +kernel
theorem dX0_search_44 : decode cX0_search 44 = .ok (.iload_n 1, 1) := by decide +kernel
theorem dX0_search_45 : decode cX0_search 45 = .ok (.invokevirtual 124, 3) := by decide +kernel
theorem dX0_search_48 : decode cX0_search 48 = .ok (.ifCond .ne 5, 3) := by decide +kernel
theorem dX0_search_51 : decode cX0_search 51 = .ok (.iconst 0, 1) := by decide +kernel
theorem dX0_search_52 : decode cX0_search 52 = .ok (.ireturn, 1) := by decide +kernel
theorem dX0_search_53 : decode cX0_search 53 = .ok (.aload_n 2, 1) := by decide +kernel
theorem dX0_search_54 : decode cX0_search 54 = .ok (.iload_n 1, 1) := by decide +kernel
theorem dX0_search_55 : decode cX0_search 55 = .ok (.iconst 0, 1) := by decide +kernel
theorem dX0_search_56 : decode cX0_search 56 = .ok (.iastore, 1) := by decide +kernel
theorem dX0_search_57 : decode cX0_search 57 = .ok (.aload_n 0, 1) := by decide +kernel
theorem dX0_search_58 : decode cX0_search 58 = .ok (.getfield 32, 3) := by decide +kernel
theorem dX0_search_61 : decode cX0_search 61 = .ok (.iconst 0, 1) := by decide +kernel
theorem dX0_search_62 : decode cX0_search 62 = .ok (.iload_n 1, 1) := by decide +kernel
theorem dX0_search_63 : decode cX0_search 63 = .ok (.iastore, 1) := by decide +kernel
theorem dX0_search_64 : decode cX0_search 64 = .ok (.iconst 1, 1) := by decide +kernel
theorem dX0_search_65 : decode cX0_search 65 = .ok (.istore 4, 2) := by decide +kernel
theorem dX0_search_67 : decode cX0_search 67 = .ok (.iconst 0, 1) := by decide +kernel
theorem dX0_search_68 : decode cX0_search 68 = .ok (.istore 5, 2) := by decide +kernel
theorem dX0_search_70 : decode cX0_search 70 = .ok (.iload 5, 2) := by decide +kernel
theorem dX0_search_72 : decode cX0_search 72 = .ok (.iload 4, 2) := by decide +kernel
theorem dX0_search_74 : decode cX0_search 74 = .ok (.if_icmp .ge 36, 3) := by decide +kernel
theorem dX0_search_77 : decode cX0_search 77 = .ok (.iload 5, 2) := by decide +kernel
theorem dX0_search_79 : decode cX0_search 79 = .ok (.aload_n 0, 1) := by decide +kernel
theorem dX0_search_80 : decode cX0_search 80 = .ok (.getfield 32, 3) := by decide +kernel
theorem dX0_search_83 : decode cX0_search 83 = .ok (.arraylength, 1) := by decide +kernel
theorem dX0_search_84 : decode cX0_search 84 = .ok (.if_icmp .ge 26, 3) := by decide +kernel
theorem dX0_search_87 : decode cX0_search 87 = .ok (.aload_n 0, 1) := by decide +kernel
theorem dX0_search_88 : decode cX0_search 88 = .ok (.aload_n 0, 1) := by decide +kernel
theorem dX0_search_89 : decode cX0_search 89 = .ok (.getfield 32, 3) := by decide +kernel
theorem dX0_search_92 : decode cX0_search 92 = .ok (.iload 5, 2) := by decide +kernel
theorem dX0_search_94 : decode cX0_search 94 = .ok (.iaload, 1) := by decide +kernel
theorem dX0_search_95 : decode cX0_search 95 = .ok (.aload_n 2, 1) := by decide +kernel
theorem dX0_search_96 : decode cX0_search 96 = .ok (.iload_n 3, 1) := by decide +kernel
theorem dX0_search_97 : decode cX0_search 97 = .ok (.iload 4, 2) := by decide +kernel
theorem dX0_search_99 : decode cX0_search 99 = .ok (.invokevirtual 171, 3) := by decide +kernel
theorem dX0_search_102 : decode cX0_search 102 = .ok (.istore 4, 2) := by decide +kernel
theorem dX0_search_104 : decode cX0_search 104 = .ok (.iinc 5 1, 3) := by decide +kernel
theorem dX0_search_107 : decode cX0_search 107 = .ok (.goto (-37), 3) := by decide +kernel
theorem dX0_search_110 : decode cX0_search 110 = .ok (.iload 4, 2) := by decide +kernel
theorem dX0_search_112 : decode cX0_search 112 = .ok (.ireturn, 1) := by decide +kernel
theorem dX0_searchFrom_0 : decode cX0_searchFrom 0 = .ok (.iload 4, 2) := by decide +kernel
theorem dX0_searchFrom_2 : decode cX0_searchFrom 2 = .ok (.istore 5, 2) := by decide +kernel
theorem dX0_searchFrom_4 : decode cX0_searchFrom 4 = .ok (.aload_n 0, 1) := by decide +kernel
theorem dX0_searchFrom_5 : decode cX0_searchFrom 5 = .ok (.iload_n 1, 1) := by decide +kernel
theorem dX0_searchFrom_6 : decode cX0_searchFrom 6 = .ok (.invokevirtual 120, 3) := by decide +kernel
theorem dX0_searchFrom_9 : decode cX0_searchFrom 9 = .ok (.iconst 0, 1) := by decide +kernel
theorem dX0_searchFrom_10 : decode cX0_searchFrom 10 = .ok (.istore 6, 2) := by decide +kernel
theorem dX0_searchFrom_12 : decode cX0_searchFrom 12 = .ok (.iload 6, 2) := by decide +kernel
theorem dX0_searchFrom_14 : decode cX0_searchFrom 14 = .ok (.aload_n 0, 1) := by decide +kernel
theorem dX0_searchFrom_15 : decode cX0_searchFrom 15 = .ok (.getfield 117, 3) := by decide +kernel
theorem dX0_searchFrom_18 : decode cX0_searchFrom 18 = .ok (.if_icmp .ge 98, 3) := by decide +kernel
theorem dX0_searchFrom_21 : decode cX0_searchFrom 21 = .ok (.iconst 0, 1) := by decide +kernel
theorem dX0_searchFrom_22 : decode cX0_searchFrom 22 = .ok (.istore 7, 2) := by decide +kernel
theorem dX0_searchFrom_24 : decode cX0_searchFrom 24 = .ok (.iload 7, 2) := by decide +kernel
theorem dX0_searchFrom_26 : decode cX0_searchFrom 26 = .ok (.aload_n 0, 1) := by decide +kernel
theorem dX0_searchFrom_27 : decode cX0_searchFrom 27 = .ok (.getfield 117, 3) := by decide +kernel
theorem dX0_searchFrom_30 : decode cX0_searchFrom 30 = .ok (.if_icmp .ge 80, 3) := by decide +kernel
theorem dX0_searchFrom_33 : decode cX0_searchFrom 33 = .ok (.aload_n 0, 1) := by decide +kernel
theorem dX0_searchFrom_34 : decode cX0_searchFrom 34 = .ok (.iload 6, 2) := by decide +kernel
theorem dX0_searchFrom_36 : decode cX0_searchFrom 36 = .ok (.iload 7, 2) := by decide +kernel
theorem dX0_searchFrom_38 : decode cX0_searchFrom 38 = .ok (.iload_n 3, 1) := by decide +kernel
theorem dX0_searchFrom_39 : decode cX0_searchFrom 39 = .ok (.invokevirtual 175, 3) := by decide +kernel
theorem dX0_searchFrom_42 : decode cX0_searchFrom 42 = .ok (.ifCond .eq 62, 3) := by decide +kernel
theorem dX0_searchFrom_45 : decode cX0_searchFrom 45 = .ok (.aload_n 0, 1) := by decide +kernel
theorem dX0_searchFrom_46 : decode cX0_searchFrom 46 = .ok (.iload_n 1, 1) := by decide +kernel
theorem dX0_searchFrom_47 : decode cX0_searchFrom 47 = .ok (.iload 6, 2) := by decide +kernel
theorem dX0_searchFrom_49 : decode cX0_searchFrom 49 = .ok (.iload 7, 2) := by decide +kernel
theorem dX0_searchFrom_51 : decode cX0_searchFrom 51 = .ok (.invokevirtual 111, 3) := by decide +kernel
theorem dX0_searchFrom_54 : decode cX0_searchFrom 54 = .ok (.istore 8, 2) := by decide +kernel
theorem dX0_searchFrom_56 : decode cX0_searchFrom 56 = .ok (.aload_n 0, 1) := by decide +kernel
theorem dX0_searchFrom_57 : decode cX0_searchFrom 57 = .ok (.iload 8, 2) := by decide +kernel
theorem dX0_searchFrom_59 : decode cX0_searchFrom 59 = .ok (.invokevirtual 168, 3) := by decide +kernel
theorem dX0_searchFrom_62 : decode cX0_searchFrom 62 = .ok (.ifCond .eq 42, 3) := by decide +kernel
theorem dX0_searchFrom_65 : decode cX0_searchFrom 65 = .ok (.aload_n 2, 1) := by decide +kernel
theorem dX0_searchFrom_66 : decode cX0_searchFrom 66 = .ok (.iload 8, 2) := by decide +kernel
theorem dX0_searchFrom_68 : decode cX0_searchFrom 68 = .ok (.iaload, 1) := by decide +kernel
theorem dX0_searchFrom_69 : decode cX0_searchFrom 69 = .ok (.iconst (-1), 1) := by decide +kernel
theorem dX0_searchFrom_70 : decode cX0_searchFrom 70 = .ok (.if_icmp .ne 34, 3) := by decide +kernel
theorem dX0_searchFrom_73 : decode cX0_searchFrom 73 = .ok (.iload 5, 2) := by decide +kernel
theorem dX0_searchFrom_75 : decode cX0_searchFrom 75 = .ok (.aload_n 0, 1) := by decide +kernel
theorem dX0_searchFrom_76 : decode cX0_searchFrom 76 = .ok (.getfield 32, 3) := by decide +kernel
theorem dX0_searchFrom_79 : decode cX0_searchFrom 79 = .ok (.arraylength, 1) := by decide +kernel
theorem dX0_searchFrom_80 : decode cX0_searchFrom 80 = .ok (.if_icmp .ge 24, 3) := by decide +kernel
theorem dX0_searchFrom_83 : decode cX0_searchFrom 83 = .ok (.aload_n 2, 1) := by decide +kernel
theorem dX0_searchFrom_84 : decode cX0_searchFrom 84 = .ok (.iload 8, 2) := by decide +kernel
theorem dX0_searchFrom_86 : decode cX0_searchFrom 86 = .ok (.aload_n 2, 1) := by decide +kernel
theorem dX0_searchFrom_87 : decode cX0_searchFrom 87 = .ok (.iload_n 1, 1) := by decide +kernel
theorem dX0_searchFrom_88 : decode cX0_searchFrom 88 = .ok (.iaload, 1) := by decide +kernel
theorem dX0_searchFrom_89 : decode cX0_searchFrom 89 = .ok (.iconst 1, 1) := by decide +kernel
theorem dX0_searchFrom_90 : decode cX0_searchFrom 90 = .ok (.iadd, 1) := by decide +kernel
theorem dX0_searchFrom_91 : decode cX0_searchFrom 91 = .ok (.iastore, 1) := by decide +kernel
theorem dX0_searchFrom_92 : decode cX0_searchFrom 92 = .ok (.aload_n 0, 1) := by decide +kernel
theorem dX0_searchFrom_93 : decode cX0_searchFrom 93 = .ok (.getfield 32, 3) := by decide +kernel
theorem dX0_searchFrom_96 : decode cX0_searchFrom 96 = .ok (.iload 5, 2) := by decide +kernel
theorem dX0_searchFrom_98 : decode cX0_searchFrom 98 = .ok (.iload 8, 2) := by decide +kernel
theorem dX0_searchFrom_100 : decode cX0_searchFrom 100 = .ok (.iastore, 1) := by decide +kernel
theorem dX0_searchFrom_101 : decode cX0_searchFrom 101 = .ok (.iinc 5 1, 3) := by decide +kernel
theorem dX0_searchFrom_104 : decode cX0_searchFrom 104 = .ok (.iinc 7 1, 3) := by decide +kernel
theorem dX0_searchFrom_107 : decode cX0_searchFrom 107 = .ok (.goto (-83), 3) := by decide +kernel
theorem dX0_searchFrom_110 : decode cX0_searchFrom 110 = .ok (.iinc 6 1, 3) := by decide +kernel
theorem dX0_searchFrom_113 : decode cX0_searchFrom 113 = .ok (.goto (-101), 3) := by decide +kernel
theorem dX0_searchFrom_116 : decode cX0_searchFrom 116 = .ok (.iload 5, 2) := by decide +kernel
theorem dX0_searchFrom_118 : decode cX0_searchFrom 118 = .ok (.ireturn, 1) := by decide +kernel
theorem dX0_thirdPeg_0 : decode cX0_thirdPeg 0 = .ok (.iconst 3, 1) := by decide +kernel
theorem dX0_thirdPeg_1 : decode cX0_thirdPeg 1 = .ok (.iload_n 0, 1) := by decide +kernel
theorem dX0_thirdPeg_2 : decode cX0_thirdPeg 2 = .ok (.isub, 1) := by decide +kernel
theorem dX0_thirdPeg_3 : decode cX0_thirdPeg 3 = .ok (.iload_n 1, 1) := by decide +kernel
theorem dX0_thirdPeg_4 : decode cX0_thirdPeg 4 = .ok (.isub, 1) := by decide +kernel
theorem dX0_thirdPeg_5 : decode cX0_thirdPeg 5 = .ok (.ireturn, 1) := by decide +kernel
theorem dX0_gather_0 : decode cX0_gather 0 = .ok (.iload_n 3, 1) := by decide +kernel
theorem dX0_gather_1 : decode cX0_gather 1 = .ok (.istore 4, 2) := by decide +kernel
theorem dX0_gather_3 : decode cX0_gather 3 = .ok (.iconst 0, 1) := by decide +kernel
theorem dX0_gather_4 : decode cX0_gather 4 = .ok (.istore 5, 2) := by decide +kernel
theorem dX0_gather_6 : decode cX0_gather 6 = .ok (.iload_n 2, 1) := by decide +kernel
theorem dX0_gather_7 : decode cX0_gather 7 = .ok (.iconst 1, 1) := by decide +kernel
theorem dX0_gather_8 : decode cX0_gather 8 = .ok (.isub, 1) := by decide +kernel
theorem dX0_gather_9 : decode cX0_gather 9 = .ok (.istore 6, 2) := by decide +kernel
theorem dX0_gather_11 : decode cX0_gather 11 = .ok (.iload 6, 2) := by decide +kernel
theorem dX0_gather_13 : decode cX0_gather 13 = .ok (.ifCond .lt 43, 3) := by decide +kernel
theorem dX0_gather_16 : decode cX0_gather 16 = .ok (.aload_n 0, 1) := by decide +kernel
theorem dX0_gather_17 : decode cX0_gather 17 = .ok (.iload_n 1, 1) := by decide +kernel
theorem dX0_gather_18 : decode cX0_gather 18 = .ok (.iload 6, 2) := by decide +kernel
theorem dX0_gather_20 : decode cX0_gather 20 = .ok (.invokevirtual 80, 3) := by decide +kernel
theorem dX0_gather_23 : decode cX0_gather 23 = .ok (.istore 7, 2) := by decide +kernel
theorem dX0_gather_25 : decode cX0_gather 25 = .ok (.iload 7, 2) := by decide +kernel
theorem dX0_gather_27 : decode cX0_gather 27 = .ok (.iload 4, 2) := by decide +kernel
theorem dX0_gather_29 : decode cX0_gather 29 = .ok (.if_icmp .eq 21, 3) := by decide +kernel
theorem dX0_gather_32 : decode cX0_gather 32 = .ok (.iload 7, 2) := by decide +kernel
theorem dX0_gather_34 : decode cX0_gather 34 = .ok (.iload 4, 2) := by decide +kernel
theorem dX0_gather_36 : decode cX0_gather 36 = .ok (.invokestatic 137, 3) := by decide +kernel
theorem dX0_gather_39 : decode cX0_gather 39 = .ok (.istore 4, 2) := by decide +kernel
theorem dX0_gather_41 : decode cX0_gather 41 = .ok (.iload 5, 2) := by decide +kernel
theorem dX0_gather_43 : decode cX0_gather 43 = .ok (.iconst 1, 1) := by decide +kernel
theorem dX0_gather_44 : decode cX0_gather 44 = .ok (.iload 6, 2) := by decide +kernel
theorem dX0_gather_46 : decode cX0_gather 46 = .ok (.ishl, 1) := by decide +kernel
theorem dX0_gather_47 : decode cX0_gather 47 = .ok (.iadd, 1) := by decide +kernel
theorem dX0_gather_48 : decode cX0_gather 48 = .ok (.istore 5, 2) := by decide +kernel
theorem dX0_gather_50 : decode cX0_gather 50 = .ok (.iinc 6 (-1), 3) := by decide +kernel
theorem dX0_gather_53 : decode cX0_gather 53 = .ok (.goto (-42), 3) := by decide +kernel
theorem dX0_gather_56 : decode cX0_gather 56 = .ok (.iload 5, 2) := by decide +kernel
theorem dX0_gather_58 : decode cX0_gather 58 = .ok (.ireturn, 1) := by decide +kernel
theorem dX0_splitIndex_0 : decode cX0_splitIndex 0 = .ok (.iload_n 1, 1) := by decide +kernel
theorem dX0_splitIndex_1 : decode cX0_splitIndex 1 = .ok (.iconst 3, 1) := by decide +kernel
theorem dX0_splitIndex_2 : decode cX0_splitIndex 2 = .ok (.isub, 1) := by decide +kernel
theorem dX0_splitIndex_3 : decode cX0_splitIndex 3 = .ok (.bipush 21, 2) := by decide +kernel
theorem dX0_splitIndex_5 : decode cX0_splitIndex 5 = .ok (.imul, 1) := by decide +kernel
theorem dX0_splitIndex_6 : decode cX0_splitIndex 6 = .ok (.iload_n 0, 1) := by decide +kernel
theorem dX0_splitIndex_7 : decode cX0_splitIndex 7 = .ok (.iadd, 1) := by decide +kernel
theorem dX0_splitIndex_8 : decode cX0_splitIndex 8 = .ok (.ireturn, 1) := by decide +kernel
theorem dX0_splitTable_0 : decode cX0_splitTable 0 = .ok (.bipush 20, 2) := by decide +kernel
theorem dX0_splitTable_2 : decode cX0_splitTable 2 = .ok (.iconst 5, 1) := by decide +kernel
theorem dX0_splitTable_3 : decode cX0_splitTable 3 = .ok (.invokestatic 156, 3) := by decide +kernel
theorem dX0_splitTable_6 : decode cX0_splitTable 6 = .ok (.iconst 1, 1) := by decide +kernel
theorem dX0_splitTable_7 : decode cX0_splitTable 7 = .ok (.iadd, 1) := by decide +kernel
theorem dX0_splitTable_8 : decode cX0_splitTable 8 = .ok (.newarray .int, 2) := by decide +kernel
theorem dX0_splitTable_10 : decode cX0_splitTable 10 = .ok (.astore_n 0, 1) := by decide +kernel
theorem dX0_splitTable_11 : decode cX0_splitTable 11 = .ok (.iconst 3, 1) := by decide +kernel
theorem dX0_splitTable_12 : decode cX0_splitTable 12 = .ok (.istore_n 1, 1) := by decide +kernel
theorem dX0_splitTable_13 : decode cX0_splitTable 13 = .ok (.iload_n 1, 1) := by decide +kernel
theorem dX0_splitTable_14 : decode cX0_splitTable 14 = .ok (.iconst 5, 1) := by decide +kernel
theorem dX0_splitTable_15 : decode cX0_splitTable 15 = .ok (.if_icmp .gt 36, 3) := by decide +kernel
theorem dX0_splitTable_18 : decode cX0_splitTable 18 = .ok (.iconst 0, 1) := by decide +kernel
theorem dX0_splitTable_19 : decode cX0_splitTable 19 = .ok (.istore_n 2, 1) := by decide +kernel
theorem dX0_splitTable_20 : decode cX0_splitTable 20 = .ok (.iload_n 2, 1) := by decide +kernel
theorem dX0_splitTable_21 : decode cX0_splitTable 21 = .ok (.bipush 20, 2) := by decide +kernel
theorem dX0_splitTable_23 : decode cX0_splitTable 23 = .ok (.if_icmp .gt 22, 3) := by decide +kernel
theorem dX0_splitTable_26 : decode cX0_splitTable 26 = .ok (.aload_n 0, 1) := by decide +kernel
theorem dX0_splitTable_27 : decode cX0_splitTable 27 = .ok (.iload_n 2, 1) := by decide +kernel
theorem dX0_splitTable_28 : decode cX0_splitTable 28 = .ok (.iload_n 1, 1) := by decide +kernel
theorem dX0_splitTable_29 : decode cX0_splitTable 29 = .ok (.invokestatic 156, 3) := by decide +kernel
theorem dX0_splitTable_32 : decode cX0_splitTable 32 = .ok (.aload_n 0, 1) := by decide +kernel
theorem dX0_splitTable_33 : decode cX0_splitTable 33 = .ok (.iload_n 2, 1) := by decide +kernel
theorem dX0_splitTable_34 : decode cX0_splitTable 34 = .ok (.iload_n 1, 1) := by decide +kernel
theorem dX0_splitTable_35 : decode cX0_splitTable 35 = .ok (.invokestatic 179, 3) := by decide +kernel
theorem dX0_splitTable_38 : decode cX0_splitTable 38 = .ok (.iastore, 1) := by decide +kernel
theorem dX0_splitTable_39 : decode cX0_splitTable 39 = .ok (.iinc 2 1, 3) := by decide +kernel
theorem dX0_splitTable_42 : decode cX0_splitTable 42 = .ok (.goto (-22), 3) := by decide +kernel
theorem dX0_splitTable_45 : decode cX0_splitTable 45 = .ok (.iinc 1 1, 3) := by decide +kernel
theorem dX0_splitTable_48 : decode cX0_splitTable 48 = .ok (.goto (-35), 3) := by decide +kernel
theorem dX0_splitTable_51 : decode cX0_splitTable 51 = .ok (.aload_n 0, 1) := by decide +kernel
theorem dX0_splitTable_52 : decode cX0_splitTable 52 = .ok (.areturn, 1) := by decide +kernel
theorem dX0_splitNumber_0 : decode cX0_splitNumber 0 = .ok (.iload_n 2, 1) := by decide +kernel
theorem dX0_splitNumber_1 : decode cX0_splitNumber 1 = .ok (.iconst 3, 1) := by decide +kernel
theorem dX0_splitNumber_2 : decode cX0_splitNumber 2 = .ok (.if_icmp .ne 9, 3) := by decide +kernel
theorem dX0_splitNumber_5 : decode cX0_splitNumber 5 = .ok (.iconst 1, 1) := by decide +kernel
theorem dX0_splitNumber_6 : decode cX0_splitNumber 6 = .ok (.iload_n 1, 1) := by decide +kernel
theorem dX0_splitNumber_7 : decode cX0_splitNumber 7 = .ok (.ishl, 1) := by decide +kernel
theorem dX0_splitNumber_8 : decode cX0_splitNumber 8 = .ok (.iconst 1, 1) := by decide +kernel
theorem dX0_splitNumber_9 : decode cX0_splitNumber 9 = .ok (.isub, 1) := by decide +kernel
theorem dX0_splitNumber_10 : decode cX0_splitNumber 10 = .ok (.ireturn, 1) := by decide +kernel
theorem dX0_splitNumber_11 : decode cX0_splitNumber 11 = .ok (.iload_n 1, 1) := by decide +kernel
theorem dX0_splitNumber_12 : decode cX0_splitNumber 12 = .ok (.iconst 2, 1) := by decide +kernel
theorem dX0_splitNumber_13 : decode cX0_splitNumber 13 = .ok (.if_icmp .ge 5, 3) := by decide +kernel
theorem dX0_splitNumber_16 : decode cX0_splitNumber 16 = .ok (.iload_n 1, 1) := by decide +kernel
theorem dX0_splitNumber_17 : decode cX0_splitNumber 17 = .ok (.ireturn, 1) := by decide +kernel
theorem dX0_splitNumber_18 : decode cX0_splitNumber 18 = .ok (.ldc 185, 2) := by decide +kernel
theorem dX0_splitNumber_20 : decode cX0_splitNumber 20 = .ok (.istore_n 3, 1) := by decide +kernel
theorem dX0_splitNumber_21 : decode cX0_splitNumber 21 = .ok (.iconst 1, 1) := by decide +kernel
theorem dX0_splitNumber_22 : decode cX0_splitNumber 22 = .ok (.istore 4, 2) := by decide +kernel
theorem dX0_splitNumber_24 : decode cX0_splitNumber 24 = .ok (.iload 4, 2) := by decide +kernel
theorem dX0_splitNumber_26 : decode cX0_splitNumber 26 = .ok (.iload_n 1, 1) := by decide +kernel
theorem dX0_splitNumber_27 : decode cX0_splitNumber 27 = .ok (.if_icmp .ge 41, 3) := by decide +kernel
theorem dX0_splitNumber_30 : decode cX0_splitNumber 30 = .ok (.iconst 2, 1) := by decide +kernel
theorem dX0_splitNumber_31 : decode cX0_splitNumber 31 = .ok (.aload_n 0, 1) := by decide +kernel
theorem dX0_splitNumber_32 : decode cX0_splitNumber 32 = .ok (.iload 4, 2) := by decide +kernel
theorem dX0_splitNumber_34 : decode cX0_splitNumber 34 = .ok (.iload_n 2, 1) := by decide +kernel
theorem dX0_splitNumber_35 : decode cX0_splitNumber 35 = .ok (.invokestatic 156, 3) := by decide +kernel
theorem dX0_splitNumber_38 : decode cX0_splitNumber 38 = .ok (.iaload, 1) := by decide +kernel
theorem dX0_splitNumber_39 : decode cX0_splitNumber 39 = .ok (.imul, 1) := by decide +kernel
theorem dX0_splitNumber_40 : decode cX0_splitNumber 40 = .ok (.aload_n 0, 1) := by decide +kernel
theorem dX0_splitNumber_41 : decode cX0_splitNumber 41 = .ok (.iload_n 1, 1) := by decide +kernel
theorem dX0_splitNumber_42 : decode cX0_splitNumber 42 = .ok (.iload 4, 2) := by decide +kernel
theorem dX0_splitNumber_44 : decode cX0_splitNumber 44 = .ok (.isub, 1) := by decide +kernel
theorem dX0_splitNumber_45 : decode cX0_splitNumber 45 = .ok (.iload_n 2, 1) := by decide +kernel
theorem dX0_splitNumber_46 : decode cX0_splitNumber 46 = .ok (.iconst 1, 1) := by decide +kernel
theorem dX0_splitNumber_47 : decode cX0_splitNumber 47 = .ok (.isub, 1) := by decide +kernel
theorem dX0_splitNumber_48 : decode cX0_splitNumber 48 = .ok (.invokestatic 156, 3) := by decide +kernel
theorem dX0_splitNumber_51 : decode cX0_splitNumber 51 = .ok (.iaload, 1) := by decide +kernel
theorem dX0_splitNumber_52 : decode cX0_splitNumber 52 = .ok (.iadd, 1) := by decide +kernel
theorem dX0_splitNumber_53 : decode cX0_splitNumber 53 = .ok (.istore 5, 2) := by decide +kernel
theorem dX0_splitNumber_55 : decode cX0_splitNumber 55 = .ok (.iload_n 3, 1) := by decide +kernel
theorem dX0_splitNumber_56 : decode cX0_splitNumber 56 = .ok (.iload 5, 2) := by decide +kernel
theorem dX0_splitNumber_58 : decode cX0_splitNumber 58 = .ok (.invokestatic 143, 3) := by decide +kernel
theorem dX0_splitNumber_61 : decode cX0_splitNumber 61 = .ok (.istore_n 3, 1) := by decide +kernel
theorem dX0_splitNumber_62 : decode cX0_splitNumber 62 = .ok (.iinc 4 1, 3) := by decide +kernel
theorem dX0_splitNumber_65 : decode cX0_splitNumber 65 = .ok (.goto (-41), 3) := by decide +kernel
theorem dX0_splitNumber_68 : decode cX0_splitNumber 68 = .ok (.iload_n 3, 1) := by decide +kernel
theorem dX0_splitNumber_69 : decode cX0_splitNumber 69 = .ok (.ireturn, 1) := by decide +kernel
theorem dJ9_min_7cf53_0 : decode cJ9_min_7cf53 0 = .ok (.iload_n 0, 1) := by decide +kernel
theorem dJ9_min_7cf53_1 : decode cJ9_min_7cf53 1 = .ok (.iload_n 1, 1) := by decide +kernel
theorem dJ9_min_7cf53_2 : decode cJ9_min_7cf53 2 = .ok (.if_icmp .gt 7, 3) := by decide +kernel
theorem dJ9_min_7cf53_5 : decode cJ9_min_7cf53 5 = .ok (.iload_n 0, 1) := by decide +kernel
theorem dJ9_min_7cf53_6 : decode cJ9_min_7cf53 6 = .ok (.goto 4, 3) := by decide +kernel
theorem dJ9_min_7cf53_9 : decode cJ9_min_7cf53 9 = .ok (.iload_n 1, 1) := by decide +kernel
theorem dJ9_min_7cf53_10 : decode cJ9_min_7cf53 10 = .ok (.ireturn, 1) := by decide +kernel
