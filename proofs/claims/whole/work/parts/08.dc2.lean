theorem d_Fra_inside_19 : decode b_Fra_inside 19 = .ok (.aload_n 0, 1) := by decide +kernel
theorem d_Fra_inside_20 : decode b_Fra_inside 20 = .ok (.getfield 31, 3) := by decide +kernel
theorem d_Fra_inside_23 : decode b_Fra_inside 23 = .ok (.areturn, 1) := by decide +kernel
theorem d_Fra_begin_0 : decode b_Fra_begin 0 = .ok (.aload_n 0, 1) := by decide +kernel
theorem d_Fra_begin_1 : decode b_Fra_begin 1 = .ok (.getfield 14, 3) := by decide +kernel
theorem d_Fra_begin_4 : decode b_Fra_begin 4 = .ok (.aload_n 2, 1) := by decide +kernel
theorem d_Fra_begin_5 : decode b_Fra_begin 5 = .ok (.invokevirtual 37, 3) := by decide +kernel
theorem d_Fra_begin_8 : decode b_Fra_begin 8 = .ok (.aload_n 0, 1) := by decide +kernel
theorem d_Fra_begin_9 : decode b_Fra_begin 9 = .ok (.getfield 20, 3) := by decide +kernel
theorem d_Fra_begin_12 : decode b_Fra_begin 12 = .ok (.aload_n 3, 1) := by decide +kernel
theorem d_Fra_begin_13 : decode b_Fra_begin 13 = .ok (.invokevirtual 37, 3) := by decide +kernel
theorem d_Fra_begin_16 : decode b_Fra_begin 16 = .ok (.aload_n 0, 1) := by decide +kernel
theorem d_Fra_begin_17 : decode b_Fra_begin 17 = .ok (.aload_n 1, 1) := by decide +kernel
theorem d_Fra_begin_18 : decode b_Fra_begin 18 = .ok (.getfield 41, 3) := by decide +kernel
theorem d_Fra_begin_21 : decode b_Fra_begin 21 = .ok (.putfield 47, 3) := by decide +kernel
theorem d_Fra_begin_24 : decode b_Fra_begin 24 = .ok (.aload_n 0, 1) := by decide +kernel
theorem d_Fra_begin_25 : decode b_Fra_begin 25 = .ok (.aload_n 1, 1) := by decide +kernel
theorem d_Fra_begin_26 : decode b_Fra_begin 26 = .ok (.getfield 48, 3) := by decide +kernel
theorem d_Fra_begin_29 : decode b_Fra_begin 29 = .ok (.putfield 51, 3) := by decide +kernel
theorem d_Fra_begin_32 : decode b_Fra_begin 32 = .ok (.aload_n 0, 1) := by decide +kernel
theorem d_Fra_begin_33 : decode b_Fra_begin 33 = .ok (.aload_n 1, 1) := by decide +kernel
theorem d_Fra_begin_34 : decode b_Fra_begin 34 = .ok (.getfield 52, 3) := by decide +kernel
theorem d_Fra_begin_37 : decode b_Fra_begin 37 = .ok (.putfield 55, 3) := by decide +kernel
theorem d_Fra_begin_40 : decode b_Fra_begin 40 = .ok (.aload_n 0, 1) := by decide +kernel
theorem d_Fra_begin_41 : decode b_Fra_begin 41 = .ok (.aload_n 1, 1) := by decide +kernel
theorem d_Fra_begin_42 : decode b_Fra_begin 42 = .ok (.getfield 56, 3) := by decide +kernel
theorem d_Fra_begin_45 : decode b_Fra_begin 45 = .ok (.putfield 59, 3) := by decide +kernel
theorem d_Fra_begin_48 : decode b_Fra_begin 48 = .ok (.aload_n 0, 1) := by decide +kernel
theorem d_Fra_begin_49 : decode b_Fra_begin 49 = .ok (.aload_n 2, 1) := by decide +kernel
theorem d_Fra_begin_50 : decode b_Fra_begin 50 = .ok (.getfield 60, 3) := by decide +kernel
theorem d_Fra_begin_53 : decode b_Fra_begin 53 = .ok (.putfield 63, 3) := by decide +kernel
theorem d_Fra_begin_56 : decode b_Fra_begin 56 = .ok (.aload_n 0, 1) := by decide +kernel
theorem d_Fra_begin_57 : decode b_Fra_begin 57 = .ok (.aload_n 3, 1) := by decide +kernel
theorem d_Fra_begin_58 : decode b_Fra_begin 58 = .ok (.getfield 60, 3) := by decide +kernel
theorem d_Fra_begin_61 : decode b_Fra_begin 61 = .ok (.putfield 66, 3) := by decide +kernel
theorem d_Fra_begin_64 : decode b_Fra_begin 64 = .ok (.aload_n 0, 1) := by decide +kernel
theorem d_Fra_begin_65 : decode b_Fra_begin 65 = .ok (.aload_n 0, 1) := by decide +kernel
theorem d_Fra_begin_66 : decode b_Fra_begin 66 = .ok (.getfield 47, 3) := by decide +kernel
theorem d_Fra_begin_69 : decode b_Fra_begin 69 = .ok (.ifCond .eq 15, 3) := by decide +kernel
theorem d_Fra_begin_72 : decode b_Fra_begin 72 = .ok (.aload_n 0, 1) := by decide +kernel
theorem d_Fra_begin_73 : decode b_Fra_begin 73 = .ok (.getfield 66, 3) := by decide +kernel
theorem d_Fra_begin_76 : decode b_Fra_begin 76 = .ok (.aload_n 0, 1) := by decide +kernel
theorem d_Fra_begin_77 : decode b_Fra_begin 77 = .ok (.getfield 55, 3) := by decide +kernel
theorem d_Fra_begin_80 : decode b_Fra_begin 80 = .ok (.isub, 1) := by decide +kernel
theorem d_Fra_begin_81 : decode b_Fra_begin 81 = .ok (.goto 7, 3) := by decide +kernel
theorem d_Fra_begin_84 : decode b_Fra_begin 84 = .ok (.aload_n 0, 1) := by decide +kernel
theorem d_Fra_begin_85 : decode b_Fra_begin 85 = .ok (.getfield 63, 3) := by decide +kernel
theorem d_Fra_begin_88 : decode b_Fra_begin 88 = .ok (.putfield 69, 3) := by decide +kernel
theorem d_Fra_begin_91 : decode b_Fra_begin 91 = .ok (.aload_n 0, 1) := by decide +kernel
theorem d_Fra_begin_92 : decode b_Fra_begin 92 = .ok (.aload_n 1, 1) := by decide +kernel
theorem d_Fra_begin_93 : decode b_Fra_begin 93 = .ok (.getfield 72, 3) := by decide +kernel
theorem d_Fra_begin_96 : decode b_Fra_begin 96 = .ok (.putfield 76, 3) := by decide +kernel
theorem d_Fra_begin_99 : decode b_Fra_begin 99 = .ok (.return_, 1) := by decide +kernel
theorem d_Fra_widthOf_0 : decode b_Fra_widthOf 0 = .ok (.aload_n 1, 1) := by decide +kernel
theorem d_Fra_widthOf_1 : decode b_Fra_widthOf 1 = .ok (.getfield 79, 3) := by decide +kernel
theorem d_Fra_widthOf_4 : decode b_Fra_widthOf 4 = .ok (.iconst 1, 1) := by decide +kernel
theorem d_Fra_widthOf_5 : decode b_Fra_widthOf 5 = .ok (.iand, 1) := by decide +kernel
theorem d_Fra_widthOf_6 : decode b_Fra_widthOf 6 = .ok (.ifCond .eq 10, 3) := by decide +kernel
theorem d_Fra_widthOf_9 : decode b_Fra_widthOf 9 = .ok (.aload_n 0, 1) := by decide +kernel
theorem d_Fra_widthOf_10 : decode b_Fra_widthOf 10 = .ok (.getfield 51, 3) := by decide +kernel
theorem d_Fra_widthOf_13 : decode b_Fra_widthOf 13 = .ok (.goto 7, 3) := by decide +kernel
theorem d_Fra_widthOf_16 : decode b_Fra_widthOf 16 = .ok (.aload_n 1, 1) := by decide +kernel
theorem d_Fra_widthOf_17 : decode b_Fra_widthOf 17 = .ok (.getfield 84, 3) := by decide +kernel
theorem d_Fra_widthOf_20 : decode b_Fra_widthOf 20 = .ok (.ireturn, 1) := by decide +kernel
theorem d_Fra_heightOf_0 : decode b_Fra_heightOf 0 = .ok (.aload_n 1, 1) := by decide +kernel
theorem d_Fra_heightOf_1 : decode b_Fra_heightOf 1 = .ok (.getfield 79, 3) := by decide +kernel
theorem d_Fra_heightOf_4 : decode b_Fra_heightOf 4 = .ok (.iconst 2, 1) := by decide +kernel
theorem d_Fra_heightOf_5 : decode b_Fra_heightOf 5 = .ok (.iand, 1) := by decide +kernel
theorem d_Fra_heightOf_6 : decode b_Fra_heightOf 6 = .ok (.ifCond .eq 10, 3) := by decide +kernel
theorem d_Fra_heightOf_9 : decode b_Fra_heightOf 9 = .ok (.aload_n 0, 1) := by decide +kernel
theorem d_Fra_heightOf_10 : decode b_Fra_heightOf 10 = .ok (.getfield 55, 3) := by decide +kernel
theorem d_Fra_heightOf_13 : decode b_Fra_heightOf 13 = .ok (.goto 7, 3) := by decide +kernel
theorem d_Fra_heightOf_16 : decode b_Fra_heightOf 16 = .ok (.aload_n 1, 1) := by decide +kernel
theorem d_Fra_heightOf_17 : decode b_Fra_heightOf 17 = .ok (.getfield 85, 3) := by decide +kernel
theorem d_Fra_heightOf_20 : decode b_Fra_heightOf 20 = .ok (.ireturn, 1) := by decide +kernel
theorem d_Fra_depthOf_0 : decode b_Fra_depthOf 0 = .ok (.aload_n 1, 1) := by decide +kernel
theorem d_Fra_depthOf_1 : decode b_Fra_depthOf 1 = .ok (.getfield 79, 3) := by decide +kernel
theorem d_Fra_depthOf_4 : decode b_Fra_depthOf 4 = .ok (.iconst 4, 1) := by decide +kernel
theorem d_Fra_depthOf_5 : decode b_Fra_depthOf 5 = .ok (.iand, 1) := by decide +kernel
theorem d_Fra_depthOf_6 : decode b_Fra_depthOf 6 = .ok (.ifCond .eq 10, 3) := by decide +kernel
theorem d_Fra_depthOf_9 : decode b_Fra_depthOf 9 = .ok (.aload_n 0, 1) := by decide +kernel
theorem d_Fra_depthOf_10 : decode b_Fra_depthOf 10 = .ok (.getfield 59, 3) := by decide +kernel
theorem d_Fra_depthOf_13 : decode b_Fra_depthOf 13 = .ok (.goto 7, 3) := by decide +kernel
theorem d_Fra_depthOf_16 : decode b_Fra_depthOf 16 = .ok (.aload_n 1, 1) := by decide +kernel
theorem d_Fra_depthOf_17 : decode b_Fra_depthOf 17 = .ok (.getfield 86, 3) := by decide +kernel
theorem d_Fra_depthOf_20 : decode b_Fra_depthOf 20 = .ok (.ireturn, 1) := by decide +kernel
theorem d_Fra_extentOf_0 : decode b_Fra_extentOf 0 = .ok (.aload_n 0, 1) := by decide +kernel
theorem d_Fra_extentOf_1 : decode b_Fra_extentOf 1 = .ok (.aload_n 1, 1) := by decide +kernel
theorem d_Fra_extentOf_2 : decode b_Fra_extentOf 2 = .ok (.invokevirtual 87, 3) := by decide +kernel
theorem d_Fra_extentOf_5 : decode b_Fra_extentOf 5 = .ok (.i2l, 1) := by decide +kernel
theorem d_Fra_extentOf_6 : decode b_Fra_extentOf 6 = .ok (.aload_n 0, 1) := by decide +kernel
theorem d_Fra_extentOf_7 : decode b_Fra_extentOf 7 = .ok (.aload_n 1, 1) := by decide +kernel
theorem d_Fra_extentOf_8 : decode b_Fra_extentOf 8 = .ok (.invokevirtual 91, 3) := by decide +kernel
theorem d_Fra_extentOf_11 : decode b_Fra_extentOf 11 = .ok (.i2l, 1) := by decide +kernel
theorem d_Fra_extentOf_12 : decode b_Fra_extentOf 12 = .ok (.ladd, 1) := by decide +kernel
theorem d_Fra_extentOf_13 : decode b_Fra_extentOf 13 = .ok (.lreturn, 1) := by decide +kernel
theorem d_Fra_rightOf_0 : decode b_Fra_rightOf 0 = .ok (.aload_n 0, 1) := by decide +kernel
theorem d_Fra_rightOf_1 : decode b_Fra_rightOf 1 = .ok (.getfield 47, 3) := by decide +kernel
theorem d_Fra_rightOf_4 : decode b_Fra_rightOf 4 = .ok (.ifCond .eq 17, 3) := by decide +kernel
theorem d_Fra_rightOf_7 : decode b_Fra_rightOf 7 = .ok (.aload_n 0, 1) := by decide +kernel
theorem d_Fra_rightOf_8 : decode b_Fra_rightOf 8 = .ok (.getfield 63, 3) := by decide +kernel
theorem d_Fra_rightOf_11 : decode b_Fra_rightOf 11 = .ok (.i2l, 1) := by decide +kernel
theorem d_Fra_rightOf_12 : decode b_Fra_rightOf 12 = .ok (.aload_n 1, 1) := by decide +kernel
theorem d_Fra_rightOf_13 : decode b_Fra_rightOf 13 = .ok (.getfield 94, 3) := by decide +kernel
theorem d_Fra_rightOf_16 : decode b_Fra_rightOf 16 = .ok (.i2l, 1) := by decide +kernel
theorem d_Fra_rightOf_17 : decode b_Fra_rightOf 17 = .ok (.ladd, 1) := by decide +kernel
theorem d_Fra_rightOf_18 : decode b_Fra_rightOf 18 = .ok (.goto 8, 3) := by decide +kernel
theorem d_Fra_rightOf_21 : decode b_Fra_rightOf 21 = .ok (.aload_n 0, 1) := by decide +kernel
theorem d_Fra_rightOf_22 : decode b_Fra_rightOf 22 = .ok (.getfield 69, 3) := by decide +kernel
theorem d_Fra_rightOf_25 : decode b_Fra_rightOf 25 = .ok (.i2l, 1) := by decide +kernel
theorem d_Fra_rightOf_26 : decode b_Fra_rightOf 26 = .ok (.lreturn, 1) := by decide +kernel
theorem d_Fra_downOf_0 : decode b_Fra_downOf 0 = .ok (.aload_n 0, 1) := by decide +kernel
theorem d_Fra_downOf_1 : decode b_Fra_downOf 1 = .ok (.getfield 47, 3) := by decide +kernel
theorem d_Fra_downOf_4 : decode b_Fra_downOf 4 = .ok (.ifCond .eq 31, 3) := by decide +kernel
theorem d_Fra_downOf_7 : decode b_Fra_downOf 7 = .ok (.aload_n 0, 1) := by decide +kernel
theorem d_Fra_downOf_8 : decode b_Fra_downOf 8 = .ok (.getfield 69, 3) := by decide +kernel
theorem d_Fra_downOf_11 : decode b_Fra_downOf 11 = .ok (.i2l, 1) := by decide +kernel
theorem d_Fra_downOf_12 : decode b_Fra_downOf 12 = .ok (.aload_n 1, 1) := by decide +kernel
theorem d_Fra_downOf_13 : decode b_Fra_downOf 13 = .ok (.getfield 97, 3) := by decide +kernel
theorem d_Fra_downOf_16 : decode b_Fra_downOf 16 = .ok (.iconst 1, 1) := by decide +kernel
theorem d_Fra_downOf_17 : decode b_Fra_downOf 17 = .ok (.if_icmp .ne 11, 3) := by decide +kernel
theorem d_Fra_downOf_20 : decode b_Fra_downOf 20 = .ok (.aload_n 0, 1) := by decide +kernel
theorem d_Fra_downOf_21 : decode b_Fra_downOf 21 = .ok (.aload_n 1, 1) := by decide +kernel
theorem d_Fra_downOf_22 : decode b_Fra_downOf 22 = .ok (.invokevirtual 100, 3) := by decide +kernel
theorem d_Fra_downOf_25 : decode b_Fra_downOf 25 = .ok (.goto 8, 3) := by decide +kernel
theorem d_Fra_downOf_28 : decode b_Fra_downOf 28 = .ok (.aload_n 1, 1) := by decide +kernel
theorem d_Fra_downOf_29 : decode b_Fra_downOf 29 = .ok (.getfield 85, 3) := by decide +kernel
theorem d_Fra_downOf_32 : decode b_Fra_downOf 32 = .ok (.i2l, 1) := by decide +kernel
theorem d_Fra_downOf_33 : decode b_Fra_downOf 33 = .ok (.ladd, 1) := by decide +kernel
theorem d_Fra_downOf_34 : decode b_Fra_downOf 34 = .ok (.lreturn, 1) := by decide +kernel
theorem d_Fra_downOf_35 : decode b_Fra_downOf 35 = .ok (.aload_n 0, 1) := by decide +kernel
theorem d_Fra_downOf_36 : decode b_Fra_downOf 36 = .ok (.getfield 66, 3) := by decide +kernel
theorem d_Fra_downOf_39 : decode b_Fra_downOf 39 = .ok (.i2l, 1) := by decide +kernel
theorem d_Fra_downOf_40 : decode b_Fra_downOf 40 = .ok (.aload_n 1, 1) := by decide +kernel
theorem d_Fra_downOf_41 : decode b_Fra_downOf 41 = .ok (.getfield 97, 3) := by decide +kernel
theorem d_Fra_downOf_44 : decode b_Fra_downOf 44 = .ok (.iconst 1, 1) := by decide +kernel
theorem d_Fra_downOf_45 : decode b_Fra_downOf 45 = .ok (.if_icmp .ne 11, 3) := by decide +kernel
theorem d_Fra_downOf_48 : decode b_Fra_downOf 48 = .ok (.aload_n 0, 1) := by decide +kernel
theorem d_Fra_downOf_49 : decode b_Fra_downOf 49 = .ok (.aload_n 1, 1) := by decide +kernel
theorem d_Fra_downOf_50 : decode b_Fra_downOf 50 = .ok (.invokevirtual 91, 3) := by decide +kernel
theorem d_Fra_downOf_53 : decode b_Fra_downOf 53 = .ok (.goto 7, 3) := by decide +kernel
theorem d_Fra_downOf_56 : decode b_Fra_downOf 56 = .ok (.aload_n 1, 1) := by decide +kernel
theorem d_Fra_downOf_57 : decode b_Fra_downOf 57 = .ok (.getfield 94, 3) := by decide +kernel
theorem d_Fra_downOf_60 : decode b_Fra_downOf 60 = .ok (.i2l, 1) := by decide +kernel
theorem d_Fra_downOf_61 : decode b_Fra_downOf 61 = .ok (.ladd, 1) := by decide +kernel
theorem d_Fra_downOf_62 : decode b_Fra_downOf 62 = .ok (.lreturn, 1) := by decide +kernel
theorem d_Fra_behind_0 : decode b_Fra_behind 0 = .ok (.aload_n 0, 1) := by decide +kernel
theorem d_Fra_behind_1 : decode b_Fra_behind 1 = .ok (.getfield 47, 3) := by decide +kernel
theorem d_Fra_behind_4 : decode b_Fra_behind 4 = .ok (.ifCond .eq 23, 3) := by decide +kernel
theorem d_Fra_behind_7 : decode b_Fra_behind 7 = .ok (.aload_n 1, 1) := by decide +kernel
theorem d_Fra_behind_8 : decode b_Fra_behind 8 = .ok (.getfield 97, 3) := by decide +kernel
theorem d_Fra_behind_11 : decode b_Fra_behind 11 = .ok (.iconst 2, 1) := by decide +kernel
theorem d_Fra_behind_12 : decode b_Fra_behind 12 = .ok (.if_icmp .eq 15, 3) := by decide +kernel
theorem d_Fra_behind_15 : decode b_Fra_behind 15 = .ok (.aload_n 0, 1) := by decide +kernel
theorem d_Fra_behind_16 : decode b_Fra_behind 16 = .ok (.getfield 69, 3) := by decide +kernel
theorem d_Fra_behind_19 : decode b_Fra_behind 19 = .ok (.i2l, 1) := by decide +kernel
theorem d_Fra_behind_20 : decode b_Fra_behind 20 = .ok (.aload_n 0, 1) := by decide +kernel
theorem d_Fra_behind_21 : decode b_Fra_behind 21 = .ok (.aload_n 1, 1) := by decide +kernel
theorem d_Fra_behind_22 : decode b_Fra_behind 22 = .ok (.invokevirtual 100, 3) := by decide +kernel
theorem d_Fra_behind_25 : decode b_Fra_behind 25 = .ok (.ladd, 1) := by decide +kernel
theorem d_Fra_behind_26 : decode b_Fra_behind 26 = .ok (.lreturn, 1) := by decide +kernel
theorem d_Fra_behind_27 : decode b_Fra_behind 27 = .ok (.aload_n 0, 1) := by decide +kernel
theorem d_Fra_behind_28 : decode b_Fra_behind 28 = .ok (.getfield 69, 3) := by decide +kernel
theorem d_Fra_behind_31 : decode b_Fra_behind 31 = .ok (.i2l, 1) := by decide +kernel
theorem d_Fra_behind_32 : decode b_Fra_behind 32 = .ok (.aload_n 1, 1) := by decide +kernel
theorem d_Fra_behind_33 : decode b_Fra_behind 33 = .ok (.getfield 84, 3) := by decide +kernel
theorem d_Fra_behind_36 : decode b_Fra_behind 36 = .ok (.i2l, 1) := by decide +kernel
theorem d_Fra_behind_37 : decode b_Fra_behind 37 = .ok (.ladd, 1) := by decide +kernel
theorem d_Fra_behind_38 : decode b_Fra_behind 38 = .ok (.lreturn, 1) := by decide +kernel
theorem d_PgW_init_0 : decode b_PgW_init 0 = .ok (.aload_n 0, 1) := by decide +kernel
theorem d_PgW_init_1 : decode b_PgW_init 1 = .ok (.invokespecial 3, 3) := by decide +kernel
theorem d_PgW_init_4 : decode b_PgW_init 4 = .ok (.aload_n 0, 1) := by decide +kernel
theorem d_PgW_init_5 : decode b_PgW_init 5 = .ok (.new 9, 3) := by decide +kernel
theorem d_PgW_init_8 : decode b_PgW_init 8 = .ok (.dup, 1) := by decide +kernel
theorem d_PgW_init_9 : decode b_PgW_init 9 = .ok (.invokespecial 11, 3) := by decide +kernel
theorem d_PgW_init_12 : decode b_PgW_init 12 = .ok (.putfield 12, 3) := by decide +kernel
theorem d_PgW_init_15 : decode b_PgW_init 15 = .ok (.aload_n 0, 1) := by decide +kernel
theorem d_PgW_init_16 : decode b_PgW_init 16 = .ok (.new 18, 3) := by decide +kernel
theorem d_PgW_init_19 : decode b_PgW_init 19 = .ok (.dup, 1) := by decide +kernel
theorem d_PgW_init_20 : decode b_PgW_init 20 = .ok (.invokespecial 20, 3) := by decide +kernel
theorem d_PgW_init_23 : decode b_PgW_init 23 = .ok (.putfield 21, 3) := by decide +kernel
theorem d_PgW_init_26 : decode b_PgW_init 26 = .ok (.aload_n 0, 1) := by decide +kernel
theorem d_PgW_init_27 : decode b_PgW_init 27 = .ok (.new 25, 3) := by decide +kernel
theorem d_PgW_init_30 : decode b_PgW_init 30 = .ok (.dup, 1) := by decide +kernel
theorem d_PgW_init_31 : decode b_PgW_init 31 = .ok (.sipush 147, 3) := by decide +kernel
theorem d_PgW_init_34 : decode b_PgW_init 34 = .ok (.invokespecial 27, 3) := by decide +kernel
theorem d_PgW_init_37 : decode b_PgW_init 37 = .ok (.putfield 30, 3) := by decide +kernel
theorem d_PgW_init_40 : decode b_PgW_init 40 = .ok (.aload_n 0, 1) := by decide +kernel
theorem d_PgW_init_41 : decode b_PgW_init 41 = .ok (.new 25, 3) := by decide +kernel
theorem d_PgW_init_44 : decode b_PgW_init 44 = .ok (.dup, 1) := by decide +kernel
theorem d_PgW_init_45 : decode b_PgW_init 45 = .ok (.sipush 161, 3) := by decide +kernel
theorem d_PgW_init_48 : decode b_PgW_init 48 = .ok (.invokespecial 27, 3) := by decide +kernel
theorem d_PgW_init_51 : decode b_PgW_init 51 = .ok (.putfield 34, 3) := by decide +kernel
theorem d_PgW_init_54 : decode b_PgW_init 54 = .ok (.aload_n 0, 1) := by decide +kernel
theorem d_PgW_init_55 : decode b_PgW_init 55 = .ok (.new 37, 3) := by decide +kernel
theorem d_PgW_init_58 : decode b_PgW_init 58 = .ok (.dup, 1) := by decide +kernel
theorem d_PgW_init_59 : decode b_PgW_init 59 = .ok (.aconst_null, 1) := by decide +kernel
theorem d_PgW_init_60 : decode b_PgW_init 60 = .ok (.invokespecial 39, 3) := by decide +kernel
theorem d_PgW_init_63 : decode b_PgW_init 63 = .ok (.putfield 42, 3) := by decide +kernel
theorem d_PgW_init_66 : decode b_PgW_init 66 = .ok (.return_, 1) := by decide +kernel
theorem d_PgW_writeBox_0 : decode b_PgW_writeBox 0 = .ok (.aload_n 0, 1) := by decide +kernel
theorem d_PgW_writeBox_1 : decode b_PgW_writeBox 1 = .ok (.getfield 30, 3) := by decide +kernel
theorem d_PgW_writeBox_4 : decode b_PgW_writeBox 4 = .ok (.invokevirtual 46, 3) := by decide +kernel
theorem d_PgW_writeBox_7 : decode b_PgW_writeBox 7 = .ok (.aload_n 0, 1) := by decide +kernel
theorem d_PgW_writeBox_8 : decode b_PgW_writeBox 8 = .ok (.getfield 34, 3) := by decide +kernel
theorem d_PgW_writeBox_11 : decode b_PgW_writeBox 11 = .ok (.invokevirtual 46, 3) := by decide +kernel
theorem d_PgW_writeBox_14 : decode b_PgW_writeBox 14 = .ok (.aload_n 0, 1) := by decide +kernel
theorem d_PgW_writeBox_15 : decode b_PgW_writeBox 15 = .ok (.iconst (-1), 1) := by decide +kernel
theorem d_PgW_writeBox_16 : decode b_PgW_writeBox 16 = .ok (.putfield 49, 3) := by decide +kernel
theorem d_PgW_writeBox_19 : decode b_PgW_writeBox 19 = .ok (.aload_n 0, 1) := by decide +kernel
theorem d_PgW_writeBox_20 : decode b_PgW_writeBox 20 = .ok (.iconst 0, 1) := by decide +kernel
theorem d_PgW_writeBox_21 : decode b_PgW_writeBox 21 = .ok (.putfield 53, 3) := by decide +kernel
theorem d_PgW_writeBox_24 : decode b_PgW_writeBox 24 = .ok (.aload_n 0, 1) := by decide +kernel
theorem d_PgW_writeBox_25 : decode b_PgW_writeBox 25 = .ok (.iconst 0, 1) := by decide +kernel
theorem d_PgW_writeBox_26 : decode b_PgW_writeBox 26 = .ok (.putfield 56, 3) := by decide +kernel
theorem d_PgW_writeBox_29 : decode b_PgW_writeBox 29 = .ok (.aload_n 1, 1) := by decide +kernel
theorem d_PgW_writeBox_30 : decode b_PgW_writeBox 30 = .ok (.getfield 60, 3) := by decide +kernel
theorem d_PgW_writeBox_33 : decode b_PgW_writeBox 33 = .ok (.ifnonnull 5, 3) := by decide +kernel
theorem d_PgW_writeBox_36 : decode b_PgW_writeBox 36 = .ok (.iconst 1, 1) := by decide +kernel
theorem d_PgW_writeBox_37 : decode b_PgW_writeBox 37 = .ok (.ireturn, 1) := by decide +kernel
theorem d_PgW_writeBox_38 : decode b_PgW_writeBox 38 = .ok (.aload_n 0, 1) := by decide +kernel
theorem d_PgW_writeBox_39 : decode b_PgW_writeBox 39 = .ok (.iconst 0, 1) := by decide +kernel
theorem d_PgW_writeBox_40 : decode b_PgW_writeBox 40 = .ok (.aload_n 1, 1) := by decide +kernel
theorem d_PgW_writeBox_41 : decode b_PgW_writeBox 41 = .ok (.getfield 66, 3) := by decide +kernel
theorem d_PgW_writeBox_44 : decode b_PgW_writeBox 44 = .ok (.invokevirtual 69, 3) := by decide +kernel
theorem d_PgW_writeBox_47 : decode b_PgW_writeBox 47 = .ok (.aload_n 0, 1) := by decide +kernel
theorem d_PgW_writeBox_48 : decode b_PgW_writeBox 48 = .ok (.aload_n 0, 1) := by decide +kernel
theorem d_PgW_writeBox_49 : decode b_PgW_writeBox 49 = .ok (.getfield 42, 3) := by decide +kernel
theorem d_PgW_writeBox_52 : decode b_PgW_writeBox 52 = .ok (.aload_n 1, 1) := by decide +kernel
theorem d_PgW_writeBox_53 : decode b_PgW_writeBox 53 = .ok (.invokevirtual 73, 3) := by decide +kernel
theorem d_PgW_writeBox_56 : decode b_PgW_writeBox 56 = .ok (.astore_n 2, 1) := by decide +kernel
theorem d_PgW_writeBox_57 : decode b_PgW_writeBox 57 = .ok (.iconst 0, 1) := by decide +kernel
theorem d_PgW_writeBox_58 : decode b_PgW_writeBox 58 = .ok (.istore_n 3, 1) := by decide +kernel
theorem d_PgW_writeBox_59 : decode b_PgW_writeBox 59 = .ok (.iload_n 3, 1) := by decide +kernel
theorem d_PgW_writeBox_60 : decode b_PgW_writeBox 60 = .ok (.sipush 12000, 3) := by decide +kernel
theorem d_PgW_writeBox_63 : decode b_PgW_writeBox 63 = .ok (.if_icmp .ge 57, 3) := by decide +kernel
theorem d_PgW_writeBox_66 : decode b_PgW_writeBox 66 = .ok (.aload_n 2, 1) := by decide +kernel
theorem d_PgW_writeBox_67 : decode b_PgW_writeBox 67 = .ok (.ifnull 53, 3) := by decide +kernel
theorem d_PgW_writeBox_70 : decode b_PgW_writeBox 70 = .ok (.aload_n 0, 1) := by decide +kernel
theorem d_PgW_writeBox_71 : decode b_PgW_writeBox 71 = .ok (.getfield 56, 3) := by decide +kernel
theorem d_PgW_writeBox_74 : decode b_PgW_writeBox 74 = .ok (.ifCond .ne 46, 3) := by decide +kernel
theorem d_PgW_writeBox_77 : decode b_PgW_writeBox 77 = .ok (.aload_n 2, 1) := by decide +kernel
theorem d_PgW_writeBox_78 : decode b_PgW_writeBox 78 = .ok (.getfield 77, 3) := by decide +kernel
theorem d_PgW_writeBox_81 : decode b_PgW_writeBox 81 = .ok (.astore 4, 2) := by decide +kernel
theorem d_PgW_writeBox_83 : decode b_PgW_writeBox 83 = .ok (.aload 4, 2) := by decide +kernel
theorem d_PgW_writeBox_85 : decode b_PgW_writeBox 85 = .ok (.ifnonnull 12, 3) := by decide +kernel
theorem d_PgW_writeBox_88 : decode b_PgW_writeBox 88 = .ok (.aload_n 0, 1) := by decide +kernel
theorem d_PgW_writeBox_89 : decode b_PgW_writeBox 89 = .ok (.aload_n 2, 1) := by decide +kernel
theorem d_PgW_writeBox_90 : decode b_PgW_writeBox 90 = .ok (.invokevirtual 80, 3) := by decide +kernel
theorem d_PgW_writeBox_93 : decode b_PgW_writeBox 93 = .ok (.astore_n 2, 1) := by decide +kernel
theorem d_PgW_writeBox_94 : decode b_PgW_writeBox 94 = .ok (.goto 20, 3) := by decide +kernel
theorem d_PgW_writeBox_97 : decode b_PgW_writeBox 97 = .ok (.aload_n 2, 1) := by decide +kernel
theorem d_PgW_writeBox_98 : decode b_PgW_writeBox 98 = .ok (.aload 4, 2) := by decide +kernel
theorem d_PgW_writeBox_100 : decode b_PgW_writeBox 100 = .ok (.getfield 84, 3) := by decide +kernel
theorem d_PgW_writeBox_103 : decode b_PgW_writeBox 103 = .ok (.putfield 77, 3) := by decide +kernel
theorem d_PgW_writeBox_106 : decode b_PgW_writeBox 106 = .ok (.aload_n 0, 1) := by decide +kernel
theorem d_PgW_writeBox_107 : decode b_PgW_writeBox 107 = .ok (.aload_n 2, 1) := by decide +kernel
theorem d_PgW_writeBox_108 : decode b_PgW_writeBox 108 = .ok (.aload 4, 2) := by decide +kernel
theorem d_PgW_writeBox_110 : decode b_PgW_writeBox 110 = .ok (.invokevirtual 87, 3) := by decide +kernel
theorem d_PgW_writeBox_113 : decode b_PgW_writeBox 113 = .ok (.astore_n 2, 1) := by decide +kernel
theorem d_PgW_writeBox_114 : decode b_PgW_writeBox 114 = .ok (.iinc 3 1, 3) := by decide +kernel
theorem d_PgW_writeBox_117 : decode b_PgW_writeBox 117 = .ok (.goto (-58), 3) := by decide +kernel
theorem d_PgW_writeBox_120 : decode b_PgW_writeBox 120 = .ok (.aload_n 0, 1) := by decide +kernel
theorem d_PgW_writeBox_121 : decode b_PgW_writeBox 121 = .ok (.getfield 56, 3) := by decide +kernel
theorem d_PgW_writeBox_124 : decode b_PgW_writeBox 124 = .ok (.ifCond .ne 7, 3) := by decide +kernel
theorem d_PgW_writeBox_127 : decode b_PgW_writeBox 127 = .ok (.iconst 1, 1) := by decide +kernel
theorem d_PgW_writeBox_128 : decode b_PgW_writeBox 128 = .ok (.goto 4, 3) := by decide +kernel
theorem d_PgW_writeBox_131 : decode b_PgW_writeBox 131 = .ok (.iconst 0, 1) := by decide +kernel
theorem d_PgW_writeBox_132 : decode b_PgW_writeBox 132 = .ok (.ireturn, 1) := by decide +kernel
theorem d_PgW_writeItem_0 : decode b_PgW_writeItem 0 = .ok (.aload_n 1, 1) := by decide +kernel
theorem d_PgW_writeItem_1 : decode b_PgW_writeItem 1 = .ok (.aload_n 2, 1) := by decide +kernel
theorem d_PgW_writeItem_2 : decode b_PgW_writeItem 2 = .ok (.invokevirtual 91, 3) := by decide +kernel
theorem d_PgW_writeItem_5 : decode b_PgW_writeItem 5 = .ok (.lstore_n 3, 1) := by decide +kernel
theorem d_PgW_writeItem_6 : decode b_PgW_writeItem 6 = .ok (.aload_n 1, 1) := by decide +kernel
theorem d_PgW_writeItem_7 : decode b_PgW_writeItem 7 = .ok (.aload_n 2, 1) := by decide +kernel
theorem d_PgW_writeItem_8 : decode b_PgW_writeItem 8 = .ok (.invokevirtual 95, 3) := by decide +kernel
theorem d_PgW_writeItem_11 : decode b_PgW_writeItem 11 = .ok (.lstore 5, 2) := by decide +kernel
theorem d_PgW_writeItem_13 : decode b_PgW_writeItem 13 = .ok (.aload_n 1, 1) := by decide +kernel
theorem d_PgW_writeItem_14 : decode b_PgW_writeItem 14 = .ok (.aload_n 2, 1) := by decide +kernel
theorem d_PgW_writeItem_15 : decode b_PgW_writeItem 15 = .ok (.invokevirtual 98, 3) := by decide +kernel
theorem d_PgW_writeItem_18 : decode b_PgW_writeItem 18 = .ok (.lstore 7, 2) := by decide +kernel
theorem d_PgW_writeItem_20 : decode b_PgW_writeItem 20 = .ok (.lload_n 3, 1) := by decide +kernel
theorem d_PgW_writeItem_21 : decode b_PgW_writeItem 21 = .ok (.lload 5, 2) := by decide +kernel
theorem d_PgW_writeItem_23 : decode b_PgW_writeItem 23 = .ok (.lload 7, 2) := by decide +kernel
theorem d_PgW_writeItem_25 : decode b_PgW_writeItem 25 = .ok (.invokestatic 101, 3) := by decide +kernel
theorem d_PgW_writeItem_28 : decode b_PgW_writeItem 28 = .ok (.ifCond .eq 13, 3) := by decide +kernel
theorem d_PgW_writeItem_31 : decode b_PgW_writeItem 31 = .ok (.aload_n 1, 1) := by decide +kernel
theorem d_PgW_writeItem_32 : decode b_PgW_writeItem 32 = .ok (.aload_n 2, 1) := by decide +kernel
theorem d_PgW_writeItem_33 : decode b_PgW_writeItem 33 = .ok (.lload 5, 2) := by decide +kernel
theorem d_PgW_writeItem_35 : decode b_PgW_writeItem 35 = .ok (.invokestatic 105, 3) := by decide +kernel
theorem d_PgW_writeItem_38 : decode b_PgW_writeItem 38 = .ok (.ifCond .ne 10, 3) := by decide +kernel
theorem d_PgW_writeItem_41 : decode b_PgW_writeItem 41 = .ok (.aload_n 0, 1) := by decide +kernel
theorem d_PgW_writeItem_42 : decode b_PgW_writeItem 42 = .ok (.iconst 1, 1) := by decide +kernel
theorem d_PgW_writeItem_43 : decode b_PgW_writeItem 43 = .ok (.putfield 56, 3) := by decide +kernel
theorem d_PgW_writeItem_46 : decode b_PgW_writeItem 46 = .ok (.aload_n 1, 1) := by decide +kernel
theorem d_PgW_writeItem_47 : decode b_PgW_writeItem 47 = .ok (.areturn, 1) := by decide +kernel
theorem d_PgW_writeItem_48 : decode b_PgW_writeItem 48 = .ok (.aload_n 1, 1) := by decide +kernel
theorem d_PgW_writeItem_49 : decode b_PgW_writeItem 49 = .ok (.lload 7, 2) := by decide +kernel
theorem d_PgW_writeItem_51 : decode b_PgW_writeItem 51 = .ok (.l2i, 1) := by decide +kernel
theorem d_PgW_writeItem_52 : decode b_PgW_writeItem 52 = .ok (.putfield 109, 3) := by decide +kernel
theorem d_PgW_writeItem_55 : decode b_PgW_writeItem 55 = .ok (.aload_n 1, 1) := by decide +kernel
theorem d_PgW_writeItem_56 : decode b_PgW_writeItem 56 = .ok (.aload_n 2, 1) := by decide +kernel
theorem d_PgW_writeItem_57 : decode b_PgW_writeItem 57 = .ok (.invokestatic 112, 3) := by decide +kernel
theorem d_PgW_writeItem_60 : decode b_PgW_writeItem 60 = .ok (.ifCond .ne 5, 3) := by decide +kernel
theorem d_PgW_writeItem_63 : decode b_PgW_writeItem 63 = .ok (.aload_n 1, 1) := by decide +kernel
theorem d_PgW_writeItem_64 : decode b_PgW_writeItem 64 = .ok (.areturn, 1) := by decide +kernel
theorem d_PgW_writeItem_65 : decode b_PgW_writeItem 65 = .ok (.aload_n 0, 1) := by decide +kernel
theorem d_PgW_writeItem_66 : decode b_PgW_writeItem 66 = .ok (.lload_n 3, 1) := by decide +kernel
theorem d_PgW_writeItem_67 : decode b_PgW_writeItem 67 = .ok (.l2i, 1) := by decide +kernel
theorem d_PgW_writeItem_68 : decode b_PgW_writeItem 68 = .ok (.lload 5, 2) := by decide +kernel
theorem d_PgW_writeItem_70 : decode b_PgW_writeItem 70 = .ok (.l2i, 1) := by decide +kernel
theorem d_PgW_writeItem_71 : decode b_PgW_writeItem 71 = .ok (.invokevirtual 69, 3) := by decide +kernel
theorem d_PgW_writeItem_74 : decode b_PgW_writeItem 74 = .ok (.aload_n 2, 1) := by decide +kernel
theorem d_PgW_writeItem_75 : decode b_PgW_writeItem 75 = .ok (.getfield 116, 3) := by decide +kernel
theorem d_PgW_writeItem_78 : decode b_PgW_writeItem 78 = .ok (.ifnull 16, 3) := by decide +kernel
theorem d_PgW_writeItem_81 : decode b_PgW_writeItem 81 = .ok (.aload_n 0, 1) := by decide +kernel
theorem d_PgW_writeItem_82 : decode b_PgW_writeItem 82 = .ok (.aload_n 1, 1) := by decide +kernel
theorem d_PgW_writeItem_83 : decode b_PgW_writeItem 83 = .ok (.invokevirtual 120, 3) := by decide +kernel
theorem d_PgW_writeItem_86 : decode b_PgW_writeItem 86 = .ok (.aload_n 2, 1) := by decide +kernel
theorem d_PgW_writeItem_87 : decode b_PgW_writeItem 87 = .ok (.getfield 116, 3) := by decide +kernel
theorem d_PgW_writeItem_90 : decode b_PgW_writeItem 90 = .ok (.invokevirtual 73, 3) := by decide +kernel
theorem d_PgW_writeItem_93 : decode b_PgW_writeItem 93 = .ok (.areturn, 1) := by decide +kernel
theorem d_PgW_writeItem_94 : decode b_PgW_writeItem 94 = .ok (.aload_n 2, 1) := by decide +kernel
theorem d_PgW_writeItem_95 : decode b_PgW_writeItem 95 = .ok (.getfield 124, 3) := by decide +kernel
theorem d_PgW_writeItem_98 : decode b_PgW_writeItem 98 = .ok (.iconst 1, 1) := by decide +kernel
theorem d_PgW_writeItem_99 : decode b_PgW_writeItem 99 = .ok (.if_icmp .ne 12, 3) := by decide +kernel
theorem d_PgW_writeItem_102 : decode b_PgW_writeItem 102 = .ok (.aload_n 0, 1) := by decide +kernel
theorem d_PgW_writeItem_103 : decode b_PgW_writeItem 103 = .ok (.aload_n 1, 1) := by decide +kernel
theorem d_PgW_writeItem_104 : decode b_PgW_writeItem 104 = .ok (.aload_n 2, 1) := by decide +kernel
theorem d_PgW_writeItem_105 : decode b_PgW_writeItem 105 = .ok (.invokevirtual 127, 3) := by decide +kernel
theorem d_PgW_writeItem_108 : decode b_PgW_writeItem 108 = .ok (.goto 8, 3) := by decide +kernel
theorem d_PgW_writeItem_111 : decode b_PgW_writeItem 111 = .ok (.aload_n 0, 1) := by decide +kernel
theorem d_PgW_writeItem_112 : decode b_PgW_writeItem 112 = .ok (.aload_n 2, 1) := by decide +kernel
theorem d_PgW_writeItem_113 : decode b_PgW_writeItem 113 = .ok (.invokevirtual 131, 3) := by decide +kernel
theorem d_PgW_writeItem_116 : decode b_PgW_writeItem 116 = .ok (.aload_n 1, 1) := by decide +kernel
theorem d_PgW_writeItem_117 : decode b_PgW_writeItem 117 = .ok (.areturn, 1) := by decide +kernel
theorem d_PgW_canStand_0 : decode b_PgW_canStand 0 = .ok (.aload_n 1, 1) := by decide +kernel
theorem d_PgW_canStand_1 : decode b_PgW_canStand 1 = .ok (.getfield 124, 3) := by decide +kernel
theorem d_PgW_canStand_4 : decode b_PgW_canStand 4 = .ok (.iconst 1, 1) := by decide +kernel
theorem d_PgW_canStand_5 : decode b_PgW_canStand 5 = .ok (.if_icmp .ne 12, 3) := by decide +kernel
theorem d_PgW_canStand_8 : decode b_PgW_canStand 8 = .ok (.aload_n 0, 1) := by decide +kernel
theorem d_PgW_canStand_9 : decode b_PgW_canStand 9 = .ok (.aload_n 1, 1) := by decide +kernel
theorem d_PgW_canStand_10 : decode b_PgW_canStand 10 = .ok (.invokevirtual 135, 3) := by decide +kernel
theorem d_PgW_canStand_13 : decode b_PgW_canStand 13 = .ok (.invokestatic 138, 3) := by decide +kernel
theorem d_PgW_canStand_16 : decode b_PgW_canStand 16 = .ok (.ireturn, 1) := by decide +kernel
theorem d_PgW_canStand_17 : decode b_PgW_canStand 17 = .ok (.aload_n 1, 1) := by decide +kernel
theorem d_PgW_canStand_18 : decode b_PgW_canStand 18 = .ok (.getfield 116, 3) := by decide +kernel
theorem d_PgW_canStand_21 : decode b_PgW_canStand 21 = .ok (.ifnull 29, 3) := by decide +kernel
theorem d_PgW_canStand_24 : decode b_PgW_canStand 24 = .ok (.aload_n 1, 1) := by decide +kernel
theorem d_PgW_canStand_25 : decode b_PgW_canStand 25 = .ok (.getfield 116, 3) := by decide +kernel
theorem d_PgW_canStand_28 : decode b_PgW_canStand 28 = .ok (.getfield 142, 3) := by decide +kernel
theorem d_PgW_canStand_31 : decode b_PgW_canStand 31 = .ok (.ifCond .eq 19, 3) := by decide +kernel
theorem d_PgW_canStand_34 : decode b_PgW_canStand 34 = .ok (.lload_n 2, 1) := by decide +kernel
theorem d_PgW_canStand_35 : decode b_PgW_canStand 35 = .ok (.aload_n 1, 1) := by decide +kernel
theorem d_PgW_canStand_36 : decode b_PgW_canStand 36 = .ok (.getfield 116, 3) := by decide +kernel
theorem d_PgW_canStand_39 : decode b_PgW_canStand 39 = .ok (.getfield 66, 3) := by decide +kernel
theorem d_PgW_canStand_42 : decode b_PgW_canStand 42 = .ok (.i2l, 1) := by decide +kernel
theorem d_PgW_canStand_43 : decode b_PgW_canStand 43 = .ok (.lsub, 1) := by decide +kernel
theorem d_PgW_canStand_44 : decode b_PgW_canStand 44 = .ok (.invokestatic 138, 3) := by decide +kernel
theorem d_PgW_canStand_47 : decode b_PgW_canStand 47 = .ok (.ifCond .eq 7, 3) := by decide +kernel
theorem d_PgW_canStand_50 : decode b_PgW_canStand 50 = .ok (.iconst 1, 1) := by decide +kernel
theorem d_PgW_canStand_51 : decode b_PgW_canStand 51 = .ok (.goto 4, 3) := by decide +kernel
theorem d_PgW_canStand_54 : decode b_PgW_canStand 54 = .ok (.iconst 0, 1) := by decide +kernel
theorem d_PgW_canStand_55 : decode b_PgW_canStand 55 = .ok (.ireturn, 1) := by decide +kernel
theorem d_PgW_isWritten_0 : decode b_PgW_isWritten 0 = .ok (.aload_n 1, 1) := by decide +kernel
theorem d_PgW_isWritten_1 : decode b_PgW_isWritten 1 = .ok (.getfield 124, 3) := by decide +kernel
theorem d_PgW_isWritten_4 : decode b_PgW_isWritten 4 = .ok (.tableswitch 81 0 3 #[32, 34, 81, 58], 32) := by decide +kernel
theorem d_PgW_isWritten_36 : decode b_PgW_isWritten 36 = .ok (.iconst 1, 1) := by decide +kernel
theorem d_PgW_isWritten_37 : decode b_PgW_isWritten 37 = .ok (.ireturn, 1) := by decide +kernel
theorem d_PgW_isWritten_38 : decode b_PgW_isWritten 38 = .ok (.aload_n 0, 1) := by decide +kernel
theorem d_PgW_isWritten_39 : decode b_PgW_isWritten 39 = .ok (.aload_n 1, 1) := by decide +kernel
theorem d_PgW_isWritten_40 : decode b_PgW_isWritten 40 = .ok (.invokevirtual 135, 3) := by decide +kernel
theorem d_PgW_isWritten_43 : decode b_PgW_isWritten 43 = .ok (.lconst 0, 1) := by decide +kernel
theorem d_PgW_isWritten_44 : decode b_PgW_isWritten 44 = .ok (.lcmp, 1) := by decide +kernel
theorem d_PgW_isWritten_45 : decode b_PgW_isWritten 45 = .ok (.ifCond .le 15, 3) := by decide +kernel
theorem d_PgW_isWritten_48 : decode b_PgW_isWritten 48 = .ok (.aload_n 0, 1) := by decide +kernel
theorem d_PgW_isWritten_49 : decode b_PgW_isWritten 49 = .ok (.aload_n 1, 1) := by decide +kernel
theorem d_PgW_isWritten_50 : decode b_PgW_isWritten 50 = .ok (.invokevirtual 145, 3) := by decide +kernel
theorem d_PgW_isWritten_53 : decode b_PgW_isWritten 53 = .ok (.ifCond .le 7, 3) := by decide +kernel
theorem d_PgW_isWritten_56 : decode b_PgW_isWritten 56 = .ok (.iconst 1, 1) := by decide +kernel
theorem d_PgW_isWritten_57 : decode b_PgW_isWritten 57 = .ok (.goto 4, 3) := by decide +kernel
theorem d_PgW_isWritten_60 : decode b_PgW_isWritten 60 = .ok (.iconst 0, 1) := by decide +kernel
theorem d_PgW_isWritten_61 : decode b_PgW_isWritten 61 = .ok (.ireturn, 1) := by decide +kernel
theorem d_PgW_isWritten_62 : decode b_PgW_isWritten 62 = .ok (.aload_n 1, 1) := by decide +kernel
theorem d_PgW_isWritten_63 : decode b_PgW_isWritten 63 = .ok (.getfield 116, 3) := by decide +kernel
theorem d_PgW_isWritten_66 : decode b_PgW_isWritten 66 = .ok (.ifnull 17, 3) := by decide +kernel
theorem d_PgW_isWritten_69 : decode b_PgW_isWritten 69 = .ok (.aload_n 1, 1) := by decide +kernel
theorem d_PgW_isWritten_70 : decode b_PgW_isWritten 70 = .ok (.getfield 116, 3) := by decide +kernel
theorem d_PgW_isWritten_73 : decode b_PgW_isWritten 73 = .ok (.getfield 60, 3) := by decide +kernel
theorem d_PgW_isWritten_76 : decode b_PgW_isWritten 76 = .ok (.ifnull 7, 3) := by decide +kernel
theorem d_PgW_isWritten_79 : decode b_PgW_isWritten 79 = .ok (.iconst 1, 1) := by decide +kernel
theorem d_PgW_isWritten_80 : decode b_PgW_isWritten 80 = .ok (.goto 4, 3) := by decide +kernel
theorem d_PgW_isWritten_83 : decode b_PgW_isWritten 83 = .ok (.iconst 0, 1) := by decide +kernel
theorem d_PgW_isWritten_84 : decode b_PgW_isWritten 84 = .ok (.ireturn, 1) := by decide +kernel
theorem d_PgW_isWritten_85 : decode b_PgW_isWritten 85 = .ok (.iconst 0, 1) := by decide +kernel
theorem d_PgW_isWritten_86 : decode b_PgW_isWritten 86 = .ok (.ireturn, 1) := by decide +kernel
theorem d_PgW_moveTo_0 : decode b_PgW_moveTo 0 = .ok (.aload_n 0, 1) := by decide +kernel
theorem d_PgW_moveTo_1 : decode b_PgW_moveTo 1 = .ok (.getfield 30, 3) := by decide +kernel
theorem d_PgW_moveTo_4 : decode b_PgW_moveTo 4 = .ok (.iload_n 1, 1) := by decide +kernel
theorem d_PgW_moveTo_5 : decode b_PgW_moveTo 5 = .ok (.aload_n 0, 1) := by decide +kernel
theorem d_PgW_moveTo_6 : decode b_PgW_moveTo 6 = .ok (.getfield 12, 3) := by decide +kernel
theorem d_PgW_moveTo_9 : decode b_PgW_moveTo 9 = .ok (.invokevirtual 149, 3) := by decide +kernel
theorem d_PgW_moveTo_12 : decode b_PgW_moveTo 12 = .ok (.ifCond .eq 18, 3) := by decide +kernel
theorem d_PgW_moveTo_15 : decode b_PgW_moveTo 15 = .ok (.aload_n 0, 1) := by decide +kernel
theorem d_PgW_moveTo_16 : decode b_PgW_moveTo 16 = .ok (.getfield 34, 3) := by decide +kernel
theorem d_PgW_moveTo_19 : decode b_PgW_moveTo 19 = .ok (.iload_n 2, 1) := by decide +kernel
theorem d_PgW_moveTo_20 : decode b_PgW_moveTo 20 = .ok (.aload_n 0, 1) := by decide +kernel
theorem d_PgW_moveTo_21 : decode b_PgW_moveTo 21 = .ok (.getfield 12, 3) := by decide +kernel
theorem d_PgW_moveTo_24 : decode b_PgW_moveTo 24 = .ok (.invokevirtual 149, 3) := by decide +kernel
theorem d_PgW_moveTo_27 : decode b_PgW_moveTo 27 = .ok (.ifCond .ne 8, 3) := by decide +kernel
theorem d_PgW_moveTo_30 : decode b_PgW_moveTo 30 = .ok (.aload_n 0, 1) := by decide +kernel
theorem d_PgW_moveTo_31 : decode b_PgW_moveTo 31 = .ok (.iconst 1, 1) := by decide +kernel
theorem d_PgW_moveTo_32 : decode b_PgW_moveTo 32 = .ok (.putfield 56, 3) := by decide +kernel
theorem d_PgW_moveTo_35 : decode b_PgW_moveTo 35 = .ok (.return_, 1) := by decide +kernel
theorem d_PgW_writeCharacter_0 : decode b_PgW_writeCharacter 0 = .ok (.aload_n 0, 1) := by decide +kernel
theorem d_PgW_writeCharacter_1 : decode b_PgW_writeCharacter 1 = .ok (.getfield 21, 3) := by decide +kernel
theorem d_PgW_writeCharacter_4 : decode b_PgW_writeCharacter 4 = .ok (.aload_n 1, 1) := by decide +kernel
theorem d_PgW_writeCharacter_5 : decode b_PgW_writeCharacter 5 = .ok (.getfield 153, 3) := by decide +kernel
theorem d_PgW_writeCharacter_8 : decode b_PgW_writeCharacter 8 = .ok (.invokevirtual 156, 3) := by decide +kernel
theorem d_PgW_writeCharacter_11 : decode b_PgW_writeCharacter 11 = .ok (.ifCond .ne 18, 3) := by decide +kernel
theorem d_PgW_writeCharacter_14 : decode b_PgW_writeCharacter 14 = .ok (.aload_n 0, 1) := by decide +kernel
theorem d_PgW_writeCharacter_15 : decode b_PgW_writeCharacter 15 = .ok (.getfield 21, 3) := by decide +kernel
theorem d_PgW_writeCharacter_18 : decode b_PgW_writeCharacter 18 = .ok (.aload_n 1, 1) := by decide +kernel
theorem d_PgW_writeCharacter_19 : decode b_PgW_writeCharacter 19 = .ok (.getfield 153, 3) := by decide +kernel
theorem d_PgW_writeCharacter_22 : decode b_PgW_writeCharacter 22 = .ok (.aload_n 0, 1) := by decide +kernel
theorem d_PgW_writeCharacter_23 : decode b_PgW_writeCharacter 23 = .ok (.getfield 12, 3) := by decide +kernel
theorem d_PgW_writeCharacter_26 : decode b_PgW_writeCharacter 26 = .ok (.invokevirtual 160, 3) := by decide +kernel
theorem d_PgW_writeCharacter_29 : decode b_PgW_writeCharacter 29 = .ok (.aload_n 1, 1) := by decide +kernel
theorem d_PgW_writeCharacter_30 : decode b_PgW_writeCharacter 30 = .ok (.getfield 153, 3) := by decide +kernel
theorem d_PgW_writeCharacter_33 : decode b_PgW_writeCharacter 33 = .ok (.aload_n 0, 1) := by decide +kernel
theorem d_PgW_writeCharacter_34 : decode b_PgW_writeCharacter 34 = .ok (.getfield 49, 3) := by decide +kernel
theorem d_PgW_writeCharacter_37 : decode b_PgW_writeCharacter 37 = .ok (.if_icmp .eq 27, 3) := by decide +kernel
theorem d_PgW_writeCharacter_40 : decode b_PgW_writeCharacter 40 = .ok (.aload_n 0, 1) := by decide +kernel
theorem d_PgW_writeCharacter_41 : decode b_PgW_writeCharacter 41 = .ok (.getfield 12, 3) := by decide +kernel
theorem d_PgW_writeCharacter_44 : decode b_PgW_writeCharacter 44 = .ok (.sipush 171, 3) := by decide +kernel
theorem d_PgW_writeCharacter_47 : decode b_PgW_writeCharacter 47 = .ok (.aload_n 1, 1) := by decide +kernel
theorem d_PgW_writeCharacter_48 : decode b_PgW_writeCharacter 48 = .ok (.getfield 153, 3) := by decide +kernel
theorem d_PgW_writeCharacter_51 : decode b_PgW_writeCharacter 51 = .ok (.iadd, 1) := by decide +kernel
theorem d_PgW_writeCharacter_52 : decode b_PgW_writeCharacter 52 = .ok (.iconst 1, 1) := by decide +kernel
theorem d_PgW_writeCharacter_53 : decode b_PgW_writeCharacter 53 = .ok (.invokevirtual 164, 3) := by decide +kernel
theorem d_PgW_writeCharacter_56 : decode b_PgW_writeCharacter 56 = .ok (.aload_n 0, 1) := by decide +kernel
theorem d_PgW_writeCharacter_57 : decode b_PgW_writeCharacter 57 = .ok (.aload_n 1, 1) := by decide +kernel
theorem d_PgW_writeCharacter_58 : decode b_PgW_writeCharacter 58 = .ok (.getfield 153, 3) := by decide +kernel
theorem d_PgW_writeCharacter_61 : decode b_PgW_writeCharacter 61 = .ok (.putfield 49, 3) := by decide +kernel
theorem d_PgW_writeCharacter_64 : decode b_PgW_writeCharacter 64 = .ok (.aload_n 1, 1) := by decide +kernel
theorem d_PgW_writeCharacter_65 : decode b_PgW_writeCharacter 65 = .ok (.getfield 167, 3) := by decide +kernel
theorem d_PgW_writeCharacter_68 : decode b_PgW_writeCharacter 68 = .ok (.sipush 128, 3) := by decide +kernel
theorem d_PgW_writeCharacter_71 : decode b_PgW_writeCharacter 71 = .ok (.if_icmp .lt 14, 3) := by decide +kernel
theorem d_PgW_writeCharacter_74 : decode b_PgW_writeCharacter 74 = .ok (.aload_n 0, 1) := by decide +kernel
theorem d_PgW_writeCharacter_75 : decode b_PgW_writeCharacter 75 = .ok (.getfield 12, 3) := by decide +kernel
theorem d_PgW_writeCharacter_78 : decode b_PgW_writeCharacter 78 = .ok (.sipush 128, 3) := by decide +kernel
theorem d_PgW_writeCharacter_81 : decode b_PgW_writeCharacter 81 = .ok (.iconst 1, 1) := by decide +kernel
theorem d_PgW_writeCharacter_82 : decode b_PgW_writeCharacter 82 = .ok (.invokevirtual 164, 3) := by decide +kernel
theorem d_PgW_writeCharacter_85 : decode b_PgW_writeCharacter 85 = .ok (.aload_n 0, 1) := by decide +kernel
theorem d_PgW_writeCharacter_86 : decode b_PgW_writeCharacter 86 = .ok (.getfield 12, 3) := by decide +kernel
theorem d_PgW_writeCharacter_89 : decode b_PgW_writeCharacter 89 = .ok (.aload_n 1, 1) := by decide +kernel
theorem d_PgW_writeCharacter_90 : decode b_PgW_writeCharacter 90 = .ok (.getfield 167, 3) := by decide +kernel
theorem d_PgW_writeCharacter_93 : decode b_PgW_writeCharacter 93 = .ok (.iconst 1, 1) := by decide +kernel
theorem d_PgW_writeCharacter_94 : decode b_PgW_writeCharacter 94 = .ok (.invokevirtual 164, 3) := by decide +kernel
theorem d_PgW_writeCharacter_97 : decode b_PgW_writeCharacter 97 = .ok (.aload_n 0, 1) := by decide +kernel
theorem d_PgW_writeCharacter_98 : decode b_PgW_writeCharacter 98 = .ok (.getfield 30, 3) := by decide +kernel
theorem d_PgW_writeCharacter_101 : decode b_PgW_writeCharacter 101 = .ok (.dup, 1) := by decide +kernel
theorem d_PgW_writeCharacter_102 : decode b_PgW_writeCharacter 102 = .ok (.getfield 170, 3) := by decide +kernel
theorem d_PgW_writeCharacter_105 : decode b_PgW_writeCharacter 105 = .ok (.aload_n 1, 1) := by decide +kernel
theorem d_PgW_writeCharacter_106 : decode b_PgW_writeCharacter 106 = .ok (.getfield 173, 3) := by decide +kernel
theorem d_PgW_writeCharacter_109 : decode b_PgW_writeCharacter 109 = .ok (.iadd, 1) := by decide +kernel
theorem d_PgW_writeCharacter_110 : decode b_PgW_writeCharacter 110 = .ok (.putfield 170, 3) := by decide +kernel
theorem d_PgW_writeCharacter_113 : decode b_PgW_writeCharacter 113 = .ok (.return_, 1) := by decide +kernel
theorem d_PgW_writeRule_0 : decode b_PgW_writeRule 0 = .ok (.aload_n 0, 1) := by decide +kernel
theorem d_PgW_writeRule_1 : decode b_PgW_writeRule 1 = .ok (.getfield 12, 3) := by decide +kernel
theorem d_PgW_writeRule_4 : decode b_PgW_writeRule 4 = .ok (.aload_n 1, 1) := by decide +kernel
theorem d_PgW_writeRule_5 : decode b_PgW_writeRule 5 = .ok (.getfield 176, 3) := by decide +kernel
theorem d_PgW_writeRule_8 : decode b_PgW_writeRule 8 = .ok (.ifCond .eq 9, 3) := by decide +kernel
theorem d_PgW_writeRule_11 : decode b_PgW_writeRule 11 = .ok (.sipush 137, 3) := by decide +kernel
theorem d_PgW_writeRule_14 : decode b_PgW_writeRule 14 = .ok (.goto 6, 3) := by decide +kernel
theorem d_PgW_writeRule_17 : decode b_PgW_writeRule 17 = .ok (.sipush 132, 3) := by decide +kernel
theorem d_PgW_writeRule_20 : decode b_PgW_writeRule 20 = .ok (.iconst 1, 1) := by decide +kernel
theorem d_PgW_writeRule_21 : decode b_PgW_writeRule 21 = .ok (.invokevirtual 164, 3) := by decide +kernel
theorem d_PgW_writeRule_24 : decode b_PgW_writeRule 24 = .ok (.aload_n 0, 1) := by decide +kernel
theorem d_PgW_writeRule_25 : decode b_PgW_writeRule 25 = .ok (.getfield 12, 3) := by decide +kernel
theorem d_PgW_writeRule_28 : decode b_PgW_writeRule 28 = .ok (.aload_n 1, 1) := by decide +kernel
theorem d_PgW_writeRule_29 : decode b_PgW_writeRule 29 = .ok (.aload_n 2, 1) := by decide +kernel
theorem d_PgW_writeRule_30 : decode b_PgW_writeRule 30 = .ok (.invokevirtual 135, 3) := by decide +kernel
theorem d_PgW_writeRule_33 : decode b_PgW_writeRule 33 = .ok (.l2i, 1) := by decide +kernel
theorem d_PgW_writeRule_34 : decode b_PgW_writeRule 34 = .ok (.iconst 4, 1) := by decide +kernel
theorem d_PgW_writeRule_35 : decode b_PgW_writeRule 35 = .ok (.invokevirtual 164, 3) := by decide +kernel
theorem d_PgW_writeRule_38 : decode b_PgW_writeRule 38 = .ok (.aload_n 0, 1) := by decide +kernel
theorem d_PgW_writeRule_39 : decode b_PgW_writeRule 39 = .ok (.getfield 12, 3) := by decide +kernel
theorem d_PgW_writeRule_42 : decode b_PgW_writeRule 42 = .ok (.aload_n 1, 1) := by decide +kernel
theorem d_PgW_writeRule_43 : decode b_PgW_writeRule 43 = .ok (.aload_n 2, 1) := by decide +kernel
theorem d_PgW_writeRule_44 : decode b_PgW_writeRule 44 = .ok (.invokevirtual 145, 3) := by decide +kernel
theorem d_PgW_writeRule_47 : decode b_PgW_writeRule 47 = .ok (.iconst 4, 1) := by decide +kernel
theorem d_PgW_writeRule_48 : decode b_PgW_writeRule 48 = .ok (.invokevirtual 164, 3) := by decide +kernel
theorem d_PgW_writeRule_51 : decode b_PgW_writeRule 51 = .ok (.aload_n 1, 1) := by decide +kernel
theorem d_PgW_writeRule_52 : decode b_PgW_writeRule 52 = .ok (.getfield 176, 3) := by decide +kernel
theorem d_PgW_writeRule_55 : decode b_PgW_writeRule 55 = .ok (.ifCond .ne 19, 3) := by decide +kernel
theorem d_PgW_writeRule_58 : decode b_PgW_writeRule 58 = .ok (.aload_n 0, 1) := by decide +kernel
theorem d_PgW_writeRule_59 : decode b_PgW_writeRule 59 = .ok (.getfield 30, 3) := by decide +kernel
theorem d_PgW_writeRule_62 : decode b_PgW_writeRule 62 = .ok (.dup, 1) := by decide +kernel
theorem d_PgW_writeRule_63 : decode b_PgW_writeRule 63 = .ok (.getfield 170, 3) := by decide +kernel
theorem d_PgW_writeRule_66 : decode b_PgW_writeRule 66 = .ok (.aload_n 2, 1) := by decide +kernel
theorem d_PgW_writeRule_67 : decode b_PgW_writeRule 67 = .ok (.getfield 173, 3) := by decide +kernel
theorem d_PgW_writeRule_70 : decode b_PgW_writeRule 70 = .ok (.iadd, 1) := by decide +kernel
theorem d_PgW_writeRule_71 : decode b_PgW_writeRule 71 = .ok (.putfield 170, 3) := by decide +kernel
theorem d_PgW_writeRule_74 : decode b_PgW_writeRule 74 = .ok (.return_, 1) := by decide +kernel
theorem d_PgW_enter_0 : decode b_PgW_enter 0 = .ok (.aload_n 0, 1) := by decide +kernel
theorem d_PgW_enter_1 : decode b_PgW_enter 1 = .ok (.getfield 12, 3) := by decide +kernel
theorem d_PgW_enter_4 : decode b_PgW_enter 4 = .ok (.sipush 141, 3) := by decide +kernel
theorem d_PgW_enter_7 : decode b_PgW_enter 7 = .ok (.iconst 1, 1) := by decide +kernel
theorem d_PgW_enter_8 : decode b_PgW_enter 8 = .ok (.invokevirtual 164, 3) := by decide +kernel
theorem d_PgW_enter_11 : decode b_PgW_enter 11 = .ok (.aload_n 1, 1) := by decide +kernel
theorem d_PgW_enter_12 : decode b_PgW_enter 12 = .ok (.aload_n 2, 1) := by decide +kernel
theorem d_PgW_enter_13 : decode b_PgW_enter 13 = .ok (.aload_n 0, 1) := by decide +kernel
theorem d_PgW_enter_14 : decode b_PgW_enter 14 = .ok (.getfield 30, 3) := by decide +kernel
theorem d_PgW_enter_17 : decode b_PgW_enter 17 = .ok (.aload_n 0, 1) := by decide +kernel
theorem d_PgW_enter_18 : decode b_PgW_enter 18 = .ok (.getfield 34, 3) := by decide +kernel
theorem d_PgW_enter_21 : decode b_PgW_enter 21 = .ok (.invokevirtual 177, 3) := by decide +kernel
theorem d_PgW_enter_24 : decode b_PgW_enter 24 = .ok (.aload_n 0, 1) := by decide +kernel
theorem d_PgW_enter_25 : decode b_PgW_enter 25 = .ok (.aload_n 0, 1) := by decide +kernel
theorem d_PgW_enter_26 : decode b_PgW_enter 26 = .ok (.getfield 53, 3) := by decide +kernel
theorem d_PgW_enter_29 : decode b_PgW_enter 29 = .ok (.aload_n 1, 1) := by decide +kernel
theorem d_PgW_enter_30 : decode b_PgW_enter 30 = .ok (.getfield 181, 3) := by decide +kernel
theorem d_PgW_enter_33 : decode b_PgW_enter 33 = .ok (.invokestatic 184, 3) := by decide +kernel
theorem d_PgW_enter_36 : decode b_PgW_enter 36 = .ok (.putfield 53, 3) := by decide +kernel
theorem d_PgW_enter_39 : decode b_PgW_enter 39 = .ok (.aload_n 1, 1) := by decide +kernel
theorem d_PgW_enter_40 : decode b_PgW_enter 40 = .ok (.areturn, 1) := by decide +kernel
theorem d_PgW_leave_0 : decode b_PgW_leave 0 = .ok (.aload_n 0, 1) := by decide +kernel
theorem d_PgW_leave_1 : decode b_PgW_leave 1 = .ok (.getfield 12, 3) := by decide +kernel
theorem d_PgW_leave_4 : decode b_PgW_leave 4 = .ok (.sipush 142, 3) := by decide +kernel
theorem d_PgW_leave_7 : decode b_PgW_leave 7 = .ok (.iconst 1, 1) := by decide +kernel
theorem d_PgW_leave_8 : decode b_PgW_leave 8 = .ok (.invokevirtual 164, 3) := by decide +kernel
theorem d_PgW_leave_11 : decode b_PgW_leave 11 = .ok (.aload_n 0, 1) := by decide +kernel
theorem d_PgW_leave_12 : decode b_PgW_leave 12 = .ok (.getfield 30, 3) := by decide +kernel
theorem d_PgW_leave_15 : decode b_PgW_leave 15 = .ok (.aload_n 1, 1) := by decide +kernel
theorem d_PgW_leave_16 : decode b_PgW_leave 16 = .ok (.getfield 190, 3) := by decide +kernel
theorem d_PgW_leave_19 : decode b_PgW_leave 19 = .ok (.invokevirtual 193, 3) := by decide +kernel
theorem d_PgW_leave_22 : decode b_PgW_leave 22 = .ok (.aload_n 0, 1) := by decide +kernel
theorem d_PgW_leave_23 : decode b_PgW_leave 23 = .ok (.getfield 34, 3) := by decide +kernel
theorem d_PgW_leave_26 : decode b_PgW_leave 26 = .ok (.aload_n 1, 1) := by decide +kernel
theorem d_PgW_leave_27 : decode b_PgW_leave 27 = .ok (.getfield 197, 3) := by decide +kernel
theorem d_PgW_leave_30 : decode b_PgW_leave 30 = .ok (.invokevirtual 193, 3) := by decide +kernel
theorem d_PgW_leave_33 : decode b_PgW_leave 33 = .ok (.aload_n 1, 1) := by decide +kernel
theorem d_PgW_leave_34 : decode b_PgW_leave 34 = .ok (.getfield 200, 3) := by decide +kernel
theorem d_PgW_leave_37 : decode b_PgW_leave 37 = .ok (.areturn, 1) := by decide +kernel
theorem d_PF_init_0 : decode b_PF_init 0 = .ok (.aload_n 0, 1) := by decide +kernel
theorem d_PF_init_1 : decode b_PF_init 1 = .ok (.invokespecial 3, 3) := by decide +kernel
theorem d_PF_init_4 : decode b_PF_init 4 = .ok (.aload_n 0, 1) := by decide +kernel
theorem d_PF_init_5 : decode b_PF_init 5 = .ok (.bipush 8, 2) := by decide +kernel
theorem d_PF_init_7 : decode b_PF_init 7 = .ok (.anewarray 9, 3) := by decide +kernel
theorem d_PF_init_10 : decode b_PF_init 10 = .ok (.putfield 11, 3) := by decide +kernel
theorem d_PF_init_13 : decode b_PF_init 13 = .ok (.aload_n 0, 1) := by decide +kernel
theorem d_PF_init_14 : decode b_PF_init 14 = .ok (.new 15, 3) := by decide +kernel
theorem d_PF_init_17 : decode b_PF_init 17 = .ok (.dup, 1) := by decide +kernel
theorem d_PF_init_18 : decode b_PF_init 18 = .ok (.invokespecial 17, 3) := by decide +kernel
theorem d_PF_init_21 : decode b_PF_init 21 = .ok (.putfield 18, 3) := by decide +kernel
theorem d_PF_init_24 : decode b_PF_init 24 = .ok (.aload_n 0, 1) := by decide +kernel
theorem d_PF_init_25 : decode b_PF_init 25 = .ok (.aload_n 0, 1) := by decide +kernel
theorem d_PF_init_26 : decode b_PF_init 26 = .ok (.getfield 18, 3) := by decide +kernel
theorem d_PF_init_29 : decode b_PF_init 29 = .ok (.getfield 22, 3) := by decide +kernel
theorem d_PF_init_32 : decode b_PF_init 32 = .ok (.putfield 26, 3) := by decide +kernel
theorem d_PF_init_35 : decode b_PF_init 35 = .ok (.aload_n 0, 1) := by decide +kernel
theorem d_PF_init_36 : decode b_PF_init 36 = .ok (.aload_n 0, 1) := by decide +kernel
theorem d_PF_init_37 : decode b_PF_init 37 = .ok (.getfield 18, 3) := by decide +kernel
theorem d_PF_init_40 : decode b_PF_init 40 = .ok (.getfield 27, 3) := by decide +kernel
theorem d_PF_init_43 : decode b_PF_init 43 = .ok (.putfield 31, 3) := by decide +kernel
theorem d_PF_init_46 : decode b_PF_init 46 = .ok (.aload_n 0, 1) := by decide +kernel
theorem d_PF_init_47 : decode b_PF_init 47 = .ok (.iconst (-1), 1) := by decide +kernel
theorem d_PF_init_48 : decode b_PF_init 48 = .ok (.putfield 32, 3) := by decide +kernel
theorem d_PF_init_51 : decode b_PF_init 51 = .ok (.return_, 1) := by decide +kernel
theorem d_PF_font_0 : decode b_PF_font 0 = .ok (.iload_n 1, 1) := by decide +kernel
theorem d_PF_font_1 : decode b_PF_font 1 = .ok (.invokestatic 36, 3) := by decide +kernel
theorem d_PF_font_4 : decode b_PF_font 4 = .ok (.ifCond .eq 11, 3) := by decide +kernel
theorem d_PF_font_7 : decode b_PF_font 7 = .ok (.iload_n 2, 1) := by decide +kernel
theorem d_PF_font_8 : decode b_PF_font 8 = .ok (.ifCond .lt 7, 3) := by decide +kernel
theorem d_PF_font_11 : decode b_PF_font 11 = .ok (.iload_n 3, 1) := by decide +kernel
theorem d_PF_font_12 : decode b_PF_font 12 = .ok (.ifCond .ge 5, 3) := by decide +kernel
theorem d_PF_font_15 : decode b_PF_font 15 = .ok (.iconst 0, 1) := by decide +kernel
theorem d_PF_font_16 : decode b_PF_font 16 = .ok (.ireturn, 1) := by decide +kernel
theorem d_PF_font_17 : decode b_PF_font 17 = .ok (.aload_n 0, 1) := by decide +kernel
theorem d_PF_font_18 : decode b_PF_font 18 = .ok (.getfield 31, 3) := by decide +kernel
theorem d_PF_font_21 : decode b_PF_font 21 = .ok (.iload_n 1, 1) := by decide +kernel
theorem d_PF_font_22 : decode b_PF_font 22 = .ok (.iload_n 2, 1) := by decide +kernel
theorem d_PF_font_23 : decode b_PF_font 23 = .ok (.iload_n 3, 1) := by decide +kernel
theorem d_PF_font_24 : decode b_PF_font 24 = .ok (.invokevirtual 40, 3) := by decide +kernel
theorem d_PF_font_27 : decode b_PF_font 27 = .ok (.iconst 1, 1) := by decide +kernel
theorem d_PF_font_28 : decode b_PF_font 28 = .ok (.ireturn, 1) := by decide +kernel
theorem d_PF_open_0 : decode b_PF_open 0 = .ok (.aload_n 0, 1) := by decide +kernel
theorem d_PF_open_1 : decode b_PF_open 1 = .ok (.getfield 46, 3) := by decide +kernel
theorem d_PF_open_4 : decode b_PF_open 4 = .ok (.ifnull 17, 3) := by decide +kernel
theorem d_PF_open_7 : decode b_PF_open 7 = .ok (.aload_n 0, 1) := by decide +kernel
theorem d_PF_open_8 : decode b_PF_open 8 = .ok (.getfield 46, 3) := by decide +kernel
theorem d_PF_open_11 : decode b_PF_open 11 = .ok (.getfield 50, 3) := by decide +kernel
theorem d_PF_open_14 : decode b_PF_open 14 = .ok (.bipush 100, 2) := by decide +kernel
theorem d_PF_open_16 : decode b_PF_open 16 = .ok (.if_icmp .lt 5, 3) := by decide +kernel
theorem d_PF_open_19 : decode b_PF_open 19 = .ok (.iconst 0, 1) := by decide +kernel
theorem d_PF_open_20 : decode b_PF_open 20 = .ok (.ireturn, 1) := by decide +kernel
theorem d_PF_open_21 : decode b_PF_open 21 = .ok (.aload_n 0, 1) := by decide +kernel
theorem d_PF_open_22 : decode b_PF_open 22 = .ok (.new 51, 3) := by decide +kernel
theorem d_PF_open_25 : decode b_PF_open 25 = .ok (.dup, 1) := by decide +kernel
theorem d_PF_open_26 : decode b_PF_open 26 = .ok (.iload_n 1, 1) := by decide +kernel
