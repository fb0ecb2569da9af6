theorem d_Byt_init_0 : decode b_Byt_init 0 = .ok (.aload_n 0, 1) := by decide +kernel
theorem d_Byt_init_1 : decode b_Byt_init 1 = .ok (.invokespecial 3, 3) := by decide +kernel
theorem d_Byt_init_4 : decode b_Byt_init 4 = .ok (.aload_n 0, 1) := by decide +kernel
theorem d_Byt_init_5 : decode b_Byt_init 5 = .ok (.sipush 256, 3) := by decide +kernel
theorem d_Byt_init_8 : decode b_Byt_init 8 = .ok (.newarray .byte, 2) := by decide +kernel
theorem d_Byt_init_10 : decode b_Byt_init 10 = .ok (.putfield 9, 3) := by decide +kernel
theorem d_Byt_init_13 : decode b_Byt_init 13 = .ok (.return_, 1) := by decide +kernel
theorem d_Byt_add_0 : decode b_Byt_add 0 = .ok (.aload_n 0, 1) := by decide +kernel
theorem d_Byt_add_1 : decode b_Byt_add 1 = .ok (.getfield 9, 3) := by decide +kernel
theorem d_Byt_add_4 : decode b_Byt_add 4 = .ok (.arraylength, 1) := by decide +kernel
theorem d_Byt_add_5 : decode b_Byt_add 5 = .ok (.aload_n 0, 1) := by decide +kernel
theorem d_Byt_add_6 : decode b_Byt_add 6 = .ok (.getfield 15, 3) := by decide +kernel
theorem d_Byt_add_9 : decode b_Byt_add 9 = .ok (.isub, 1) := by decide +kernel
theorem d_Byt_add_10 : decode b_Byt_add 10 = .ok (.iload_n 2, 1) := by decide +kernel
theorem d_Byt_add_11 : decode b_Byt_add 11 = .ok (.if_icmp .ge 21, 3) := by decide +kernel
theorem d_Byt_add_14 : decode b_Byt_add 14 = .ok (.aload_n 0, 1) := by decide +kernel
theorem d_Byt_add_15 : decode b_Byt_add 15 = .ok (.aload_n 0, 1) := by decide +kernel
theorem d_Byt_add_16 : decode b_Byt_add 16 = .ok (.getfield 9, 3) := by decide +kernel
theorem d_Byt_add_19 : decode b_Byt_add 19 = .ok (.iconst 2, 1) := by decide +kernel
theorem d_Byt_add_20 : decode b_Byt_add 20 = .ok (.aload_n 0, 1) := by decide +kernel
theorem d_Byt_add_21 : decode b_Byt_add 21 = .ok (.getfield 9, 3) := by decide +kernel
theorem d_Byt_add_24 : decode b_Byt_add 24 = .ok (.arraylength, 1) := by decide +kernel
theorem d_Byt_add_25 : decode b_Byt_add 25 = .ok (.imul, 1) := by decide +kernel
theorem d_Byt_add_26 : decode b_Byt_add 26 = .ok (.invokestatic 19, 3) := by decide +kernel
theorem d_Byt_add_29 : decode b_Byt_add 29 = .ok (.putfield 9, 3) := by decide +kernel
theorem d_Byt_add_32 : decode b_Byt_add 32 = .ok (.iload_n 2, 1) := by decide +kernel
theorem d_Byt_add_33 : decode b_Byt_add 33 = .ok (.iconst 1, 1) := by decide +kernel
theorem d_Byt_add_34 : decode b_Byt_add 34 = .ok (.isub, 1) := by decide +kernel
theorem d_Byt_add_35 : decode b_Byt_add 35 = .ok (.istore_n 3, 1) := by decide +kernel
theorem d_Byt_add_36 : decode b_Byt_add 36 = .ok (.iload_n 3, 1) := by decide +kernel
theorem d_Byt_add_37 : decode b_Byt_add 37 = .ok (.ifCond .lt 35, 3) := by decide +kernel
theorem d_Byt_add_40 : decode b_Byt_add 40 = .ok (.aload_n 0, 1) := by decide +kernel
theorem d_Byt_add_41 : decode b_Byt_add 41 = .ok (.getfield 9, 3) := by decide +kernel
theorem d_Byt_add_44 : decode b_Byt_add 44 = .ok (.aload_n 0, 1) := by decide +kernel
theorem d_Byt_add_45 : decode b_Byt_add 45 = .ok (.getfield 15, 3) := by decide +kernel
theorem d_Byt_add_48 : decode b_Byt_add 48 = .ok (.iload_n 1, 1) := by decide +kernel
theorem d_Byt_add_49 : decode b_Byt_add 49 = .ok (.bipush 8, 2) := by decide +kernel
theorem d_Byt_add_51 : decode b_Byt_add 51 = .ok (.iload_n 3, 1) := by decide +kernel
theorem d_Byt_add_52 : decode b_Byt_add 52 = .ok (.imul, 1) := by decide +kernel
theorem d_Byt_add_53 : decode b_Byt_add 53 = .ok (.ishr, 1) := by decide +kernel
theorem d_Byt_add_54 : decode b_Byt_add 54 = .ok (.i2b, 1) := by decide +kernel
theorem d_Byt_add_55 : decode b_Byt_add 55 = .ok (.bastore, 1) := by decide +kernel
theorem d_Byt_add_56 : decode b_Byt_add 56 = .ok (.aload_n 0, 1) := by decide +kernel
theorem d_Byt_add_57 : decode b_Byt_add 57 = .ok (.dup, 1) := by decide +kernel
theorem d_Byt_add_58 : decode b_Byt_add 58 = .ok (.getfield 15, 3) := by decide +kernel
theorem d_Byt_add_61 : decode b_Byt_add 61 = .ok (.iconst 1, 1) := by decide +kernel
theorem d_Byt_add_62 : decode b_Byt_add 62 = .ok (.iadd, 1) := by decide +kernel
theorem d_Byt_add_63 : decode b_Byt_add 63 = .ok (.putfield 15, 3) := by decide +kernel
theorem d_Byt_add_66 : decode b_Byt_add 66 = .ok (.iinc 3 (-1), 3) := by decide +kernel
theorem d_Byt_add_69 : decode b_Byt_add 69 = .ok (.goto (-33), 3) := by decide +kernel
theorem d_Byt_add_72 : decode b_Byt_add 72 = .ok (.return_, 1) := by decide +kernel
theorem d_Byt_get_0 : decode b_Byt_get 0 = .ok (.iload_n 1, 1) := by decide +kernel
theorem d_Byt_get_1 : decode b_Byt_get 1 = .ok (.ifCond .lt 24, 3) := by decide +kernel
theorem d_Byt_get_4 : decode b_Byt_get 4 = .ok (.iload_n 1, 1) := by decide +kernel
theorem d_Byt_get_5 : decode b_Byt_get 5 = .ok (.aload_n 0, 1) := by decide +kernel
theorem d_Byt_get_6 : decode b_Byt_get 6 = .ok (.getfield 15, 3) := by decide +kernel
theorem d_Byt_get_9 : decode b_Byt_get 9 = .ok (.if_icmp .ge 16, 3) := by decide +kernel
theorem d_Byt_get_12 : decode b_Byt_get 12 = .ok (.aload_n 0, 1) := by decide +kernel
theorem d_Byt_get_13 : decode b_Byt_get 13 = .ok (.getfield 9, 3) := by decide +kernel
theorem d_Byt_get_16 : decode b_Byt_get 16 = .ok (.iload_n 1, 1) := by decide +kernel
theorem d_Byt_get_17 : decode b_Byt_get 17 = .ok (.baload, 1) := by decide +kernel
theorem d_Byt_get_18 : decode b_Byt_get 18 = .ok (.sipush 255, 3) := by decide +kernel
theorem d_Byt_get_21 : decode b_Byt_get 21 = .ok (.iand, 1) := by decide +kernel
theorem d_Byt_get_22 : decode b_Byt_get 22 = .ok (.goto 4, 3) := by decide +kernel
theorem d_Byt_get_25 : decode b_Byt_get 25 = .ok (.iconst (-1), 1) := by decide +kernel
theorem d_Byt_get_26 : decode b_Byt_get 26 = .ok (.ireturn, 1) := by decide +kernel
theorem d_Byt_cutTo_0 : decode b_Byt_cutTo 0 = .ok (.iload_n 1, 1) := by decide +kernel
theorem d_Byt_cutTo_1 : decode b_Byt_cutTo 1 = .ok (.ifCond .lt 16, 3) := by decide +kernel
theorem d_Byt_cutTo_4 : decode b_Byt_cutTo 4 = .ok (.iload_n 1, 1) := by decide +kernel
theorem d_Byt_cutTo_5 : decode b_Byt_cutTo 5 = .ok (.aload_n 0, 1) := by decide +kernel
theorem d_Byt_cutTo_6 : decode b_Byt_cutTo 6 = .ok (.getfield 15, 3) := by decide +kernel
theorem d_Byt_cutTo_9 : decode b_Byt_cutTo 9 = .ok (.if_icmp .ge 8, 3) := by decide +kernel
theorem d_Byt_cutTo_12 : decode b_Byt_cutTo 12 = .ok (.aload_n 0, 1) := by decide +kernel
theorem d_Byt_cutTo_13 : decode b_Byt_cutTo 13 = .ok (.iload_n 1, 1) := by decide +kernel
theorem d_Byt_cutTo_14 : decode b_Byt_cutTo 14 = .ok (.putfield 15, 3) := by decide +kernel
theorem d_Byt_cutTo_17 : decode b_Byt_cutTo 17 = .ok (.return_, 1) := by decide +kernel
theorem d_Fon_init_0 : decode b_Fon_init 0 = .ok (.aload_n 0, 1) := by decide +kernel
theorem d_Fon_init_1 : decode b_Fon_init 1 = .ok (.invokespecial 3, 3) := by decide +kernel
theorem d_Fon_init_4 : decode b_Fon_init 4 = .ok (.aload_n 0, 1) := by decide +kernel
theorem d_Fon_init_5 : decode b_Fon_init 5 = .ok (.bipush 32, 2) := by decide +kernel
theorem d_Fon_init_7 : decode b_Fon_init 7 = .ok (.newarray .int, 2) := by decide +kernel
theorem d_Fon_init_9 : decode b_Fon_init 9 = .ok (.putfield 9, 3) := by decide +kernel
theorem d_Fon_init_12 : decode b_Fon_init 12 = .ok (.aload_n 0, 1) := by decide +kernel
theorem d_Fon_init_13 : decode b_Fon_init 13 = .ok (.bipush 32, 2) := by decide +kernel
theorem d_Fon_init_15 : decode b_Fon_init 15 = .ok (.newarray .int, 2) := by decide +kernel
theorem d_Fon_init_17 : decode b_Fon_init 17 = .ok (.putfield 15, 3) := by decide +kernel
theorem d_Fon_init_20 : decode b_Fon_init 20 = .ok (.return_, 1) := by decide +kernel
theorem d_Fon_keep_0 : decode b_Fon_keep 0 = .ok (.iload_n 1, 1) := by decide +kernel
theorem d_Fon_keep_1 : decode b_Fon_keep 1 = .ok (.invokestatic 18, 3) := by decide +kernel
theorem d_Fon_keep_4 : decode b_Fon_keep 4 = .ok (.ifCond .eq 17, 3) := by decide +kernel
theorem d_Fon_keep_7 : decode b_Fon_keep 7 = .ok (.aload_n 0, 1) := by decide +kernel
theorem d_Fon_keep_8 : decode b_Fon_keep 8 = .ok (.getfield 9, 3) := by decide +kernel
theorem d_Fon_keep_11 : decode b_Fon_keep 11 = .ok (.iload_n 1, 1) := by decide +kernel
theorem d_Fon_keep_12 : decode b_Fon_keep 12 = .ok (.iload_n 2, 1) := by decide +kernel
theorem d_Fon_keep_13 : decode b_Fon_keep 13 = .ok (.iastore, 1) := by decide +kernel
theorem d_Fon_keep_14 : decode b_Fon_keep 14 = .ok (.aload_n 0, 1) := by decide +kernel
theorem d_Fon_keep_15 : decode b_Fon_keep 15 = .ok (.getfield 15, 3) := by decide +kernel
theorem d_Fon_keep_18 : decode b_Fon_keep 18 = .ok (.iload_n 1, 1) := by decide +kernel
theorem d_Fon_keep_19 : decode b_Fon_keep 19 = .ok (.iload_n 3, 1) := by decide +kernel
theorem d_Fon_keep_20 : decode b_Fon_keep 20 = .ok (.iastore, 1) := by decide +kernel
theorem d_Fon_keep_21 : decode b_Fon_keep 21 = .ok (.return_, 1) := by decide +kernel
theorem d_Fon_isUsed_0 : decode b_Fon_isUsed 0 = .ok (.iload_n 1, 1) := by decide +kernel
theorem d_Fon_isUsed_1 : decode b_Fon_isUsed 1 = .ok (.invokestatic 18, 3) := by decide +kernel
theorem d_Fon_isUsed_4 : decode b_Fon_isUsed 4 = .ok (.ifCond .eq 18, 3) := by decide +kernel
theorem d_Fon_isUsed_7 : decode b_Fon_isUsed 7 = .ok (.aload_n 0, 1) := by decide +kernel
theorem d_Fon_isUsed_8 : decode b_Fon_isUsed 8 = .ok (.getfield 22, 3) := by decide +kernel
theorem d_Fon_isUsed_11 : decode b_Fon_isUsed 11 = .ok (.iload_n 1, 1) := by decide +kernel
theorem d_Fon_isUsed_12 : decode b_Fon_isUsed 12 = .ok (.ishr, 1) := by decide +kernel
theorem d_Fon_isUsed_13 : decode b_Fon_isUsed 13 = .ok (.iconst 1, 1) := by decide +kernel
theorem d_Fon_isUsed_14 : decode b_Fon_isUsed 14 = .ok (.iand, 1) := by decide +kernel
theorem d_Fon_isUsed_15 : decode b_Fon_isUsed 15 = .ok (.ifCond .eq 7, 3) := by decide +kernel
theorem d_Fon_isUsed_18 : decode b_Fon_isUsed 18 = .ok (.iconst 1, 1) := by decide +kernel
theorem d_Fon_isUsed_19 : decode b_Fon_isUsed 19 = .ok (.goto 4, 3) := by decide +kernel
theorem d_Fon_isUsed_22 : decode b_Fon_isUsed 22 = .ok (.iconst 0, 1) := by decide +kernel
theorem d_Fon_isUsed_23 : decode b_Fon_isUsed 23 = .ok (.ireturn, 1) := by decide +kernel
theorem d_Fon_write_0 : decode b_Fon_write 0 = .ok (.iload_n 1, 1) := by decide +kernel
theorem d_Fon_write_1 : decode b_Fon_write 1 = .ok (.invokestatic 18, 3) := by decide +kernel
theorem d_Fon_write_4 : decode b_Fon_write 4 = .ok (.ifCond .ne 4, 3) := by decide +kernel
theorem d_Fon_write_7 : decode b_Fon_write 7 = .ok (.return_, 1) := by decide +kernel
theorem d_Fon_write_8 : decode b_Fon_write 8 = .ok (.aload_n 0, 1) := by decide +kernel
theorem d_Fon_write_9 : decode b_Fon_write 9 = .ok (.dup, 1) := by decide +kernel
theorem d_Fon_write_10 : decode b_Fon_write 10 = .ok (.getfield 22, 3) := by decide +kernel
theorem d_Fon_write_13 : decode b_Fon_write 13 = .ok (.iconst 1, 1) := by decide +kernel
theorem d_Fon_write_14 : decode b_Fon_write 14 = .ok (.iload_n 1, 1) := by decide +kernel
theorem d_Fon_write_15 : decode b_Fon_write 15 = .ok (.ishl, 1) := by decide +kernel
theorem d_Fon_write_16 : decode b_Fon_write 16 = .ok (.ior, 1) := by decide +kernel
theorem d_Fon_write_17 : decode b_Fon_write 17 = .ok (.putfield 22, 3) := by decide +kernel
theorem d_Fon_write_20 : decode b_Fon_write 20 = .ok (.aload_n 2, 1) := by decide +kernel
theorem d_Fon_write_21 : decode b_Fon_write 21 = .ok (.sipush 243, 3) := by decide +kernel
theorem d_Fon_write_24 : decode b_Fon_write 24 = .ok (.iconst 1, 1) := by decide +kernel
theorem d_Fon_write_25 : decode b_Fon_write 25 = .ok (.invokevirtual 26, 3) := by decide +kernel
theorem d_Fon_write_28 : decode b_Fon_write 28 = .ok (.aload_n 2, 1) := by decide +kernel
theorem d_Fon_write_29 : decode b_Fon_write 29 = .ok (.iload_n 1, 1) := by decide +kernel
theorem d_Fon_write_30 : decode b_Fon_write 30 = .ok (.iconst 1, 1) := by decide +kernel
theorem d_Fon_write_31 : decode b_Fon_write 31 = .ok (.invokevirtual 26, 3) := by decide +kernel
theorem d_Fon_write_34 : decode b_Fon_write 34 = .ok (.aload_n 2, 1) := by decide +kernel
theorem d_Fon_write_35 : decode b_Fon_write 35 = .ok (.iconst 0, 1) := by decide +kernel
theorem d_Fon_write_36 : decode b_Fon_write 36 = .ok (.iconst 4, 1) := by decide +kernel
theorem d_Fon_write_37 : decode b_Fon_write 37 = .ok (.invokevirtual 26, 3) := by decide +kernel
theorem d_Fon_write_40 : decode b_Fon_write 40 = .ok (.aload_n 2, 1) := by decide +kernel
theorem d_Fon_write_41 : decode b_Fon_write 41 = .ok (.aload_n 0, 1) := by decide +kernel
theorem d_Fon_write_42 : decode b_Fon_write 42 = .ok (.getfield 9, 3) := by decide +kernel
theorem d_Fon_write_45 : decode b_Fon_write 45 = .ok (.iload_n 1, 1) := by decide +kernel
theorem d_Fon_write_46 : decode b_Fon_write 46 = .ok (.iaload, 1) := by decide +kernel
theorem d_Fon_write_47 : decode b_Fon_write 47 = .ok (.iconst 4, 1) := by decide +kernel
theorem d_Fon_write_48 : decode b_Fon_write 48 = .ok (.invokevirtual 26, 3) := by decide +kernel
theorem d_Fon_write_51 : decode b_Fon_write 51 = .ok (.aload_n 2, 1) := by decide +kernel
theorem d_Fon_write_52 : decode b_Fon_write 52 = .ok (.aload_n 0, 1) := by decide +kernel
theorem d_Fon_write_53 : decode b_Fon_write 53 = .ok (.getfield 15, 3) := by decide +kernel
theorem d_Fon_write_56 : decode b_Fon_write 56 = .ok (.iload_n 1, 1) := by decide +kernel
theorem d_Fon_write_57 : decode b_Fon_write 57 = .ok (.iaload, 1) := by decide +kernel
theorem d_Fon_write_58 : decode b_Fon_write 58 = .ok (.iconst 4, 1) := by decide +kernel
theorem d_Fon_write_59 : decode b_Fon_write 59 = .ok (.invokevirtual 26, 3) := by decide +kernel
theorem d_Fon_write_62 : decode b_Fon_write 62 = .ok (.aload_n 2, 1) := by decide +kernel
theorem d_Fon_write_63 : decode b_Fon_write 63 = .ok (.iconst 0, 1) := by decide +kernel
theorem d_Fon_write_64 : decode b_Fon_write 64 = .ok (.iconst 1, 1) := by decide +kernel
theorem d_Fon_write_65 : decode b_Fon_write 65 = .ok (.invokevirtual 26, 3) := by decide +kernel
theorem d_Fon_write_68 : decode b_Fon_write 68 = .ok (.aload_n 2, 1) := by decide +kernel
theorem d_Fon_write_69 : decode b_Fon_write 69 = .ok (.iconst 1, 1) := by decide +kernel
theorem d_Fon_write_70 : decode b_Fon_write 70 = .ok (.iconst 1, 1) := by decide +kernel
theorem d_Fon_write_71 : decode b_Fon_write 71 = .ok (.invokevirtual 26, 3) := by decide +kernel
theorem d_Fon_write_74 : decode b_Fon_write 74 = .ok (.aload_n 2, 1) := by decide +kernel
theorem d_Fon_write_75 : decode b_Fon_write 75 = .ok (.bipush 65, 2) := by decide +kernel
theorem d_Fon_write_77 : decode b_Fon_write 77 = .ok (.iload_n 1, 1) := by decide +kernel
theorem d_Fon_write_78 : decode b_Fon_write 78 = .ok (.bipush 26, 2) := by decide +kernel
theorem d_Fon_write_80 : decode b_Fon_write 80 = .ok (.irem, 1) := by decide +kernel
theorem d_Fon_write_81 : decode b_Fon_write 81 = .ok (.iadd, 1) := by decide +kernel
theorem d_Fon_write_82 : decode b_Fon_write 82 = .ok (.iconst 1, 1) := by decide +kernel
theorem d_Fon_write_83 : decode b_Fon_write 83 = .ok (.invokevirtual 26, 3) := by decide +kernel
theorem d_Fon_write_86 : decode b_Fon_write 86 = .ok (.return_, 1) := by decide +kernel
theorem d_Trk_init_0 : decode b_Trk_init 0 = .ok (.aload_n 0, 1) := by decide +kernel
theorem d_Trk_init_1 : decode b_Trk_init 1 = .ok (.invokespecial 3, 3) := by decide +kernel
theorem d_Trk_init_4 : decode b_Trk_init 4 = .ok (.aload_n 0, 1) := by decide +kernel
theorem d_Trk_init_5 : decode b_Trk_init 5 = .ok (.iload_n 1, 1) := by decide +kernel
theorem d_Trk_init_6 : decode b_Trk_init 6 = .ok (.putfield 9, 3) := by decide +kernel
theorem d_Trk_init_9 : decode b_Trk_init 9 = .ok (.return_, 1) := by decide +kernel
theorem d_Trk_restart_0 : decode b_Trk_restart 0 = .ok (.aload_n 0, 1) := by decide +kernel
theorem d_Trk_restart_1 : decode b_Trk_restart 1 = .ok (.iconst 0, 1) := by decide +kernel
theorem d_Trk_restart_2 : decode b_Trk_restart 2 = .ok (.putfield 15, 3) := by decide +kernel
theorem d_Trk_restart_5 : decode b_Trk_restart 5 = .ok (.aload_n 0, 1) := by decide +kernel
theorem d_Trk_restart_6 : decode b_Trk_restart 6 = .ok (.iconst 0, 1) := by decide +kernel
theorem d_Trk_restart_7 : decode b_Trk_restart 7 = .ok (.putfield 18, 3) := by decide +kernel
theorem d_Trk_restart_10 : decode b_Trk_restart 10 = .ok (.aload_n 0, 1) := by decide +kernel
theorem d_Trk_restart_11 : decode b_Trk_restart 11 = .ok (.iconst 0, 1) := by decide +kernel
theorem d_Trk_restart_12 : decode b_Trk_restart 12 = .ok (.putfield 21, 3) := by decide +kernel
theorem d_Trk_restart_15 : decode b_Trk_restart 15 = .ok (.aload_n 0, 1) := by decide +kernel
theorem d_Trk_restart_16 : decode b_Trk_restart 16 = .ok (.iconst 0, 1) := by decide +kernel
theorem d_Trk_restart_17 : decode b_Trk_restart 17 = .ok (.putfield 24, 3) := by decide +kernel
theorem d_Trk_restart_20 : decode b_Trk_restart 20 = .ok (.return_, 1) := by decide +kernel
theorem d_Trk_become_0 : decode b_Trk_become 0 = .ok (.aload_n 0, 1) := by decide +kernel
theorem d_Trk_become_1 : decode b_Trk_become 1 = .ok (.aload_n 1, 1) := by decide +kernel
theorem d_Trk_become_2 : decode b_Trk_become 2 = .ok (.getfield 15, 3) := by decide +kernel
theorem d_Trk_become_5 : decode b_Trk_become 5 = .ok (.putfield 15, 3) := by decide +kernel
theorem d_Trk_become_8 : decode b_Trk_become 8 = .ok (.aload_n 0, 1) := by decide +kernel
theorem d_Trk_become_9 : decode b_Trk_become 9 = .ok (.aload_n 1, 1) := by decide +kernel
theorem d_Trk_become_10 : decode b_Trk_become 10 = .ok (.getfield 18, 3) := by decide +kernel
theorem d_Trk_become_13 : decode b_Trk_become 13 = .ok (.putfield 18, 3) := by decide +kernel
theorem d_Trk_become_16 : decode b_Trk_become 16 = .ok (.aload_n 0, 1) := by decide +kernel
theorem d_Trk_become_17 : decode b_Trk_become 17 = .ok (.aload_n 1, 1) := by decide +kernel
theorem d_Trk_become_18 : decode b_Trk_become 18 = .ok (.getfield 21, 3) := by decide +kernel
theorem d_Trk_become_21 : decode b_Trk_become 21 = .ok (.putfield 21, 3) := by decide +kernel
theorem d_Trk_become_24 : decode b_Trk_become 24 = .ok (.aload_n 0, 1) := by decide +kernel
theorem d_Trk_become_25 : decode b_Trk_become 25 = .ok (.aload_n 1, 1) := by decide +kernel
theorem d_Trk_become_26 : decode b_Trk_become 26 = .ok (.getfield 24, 3) := by decide +kernel
theorem d_Trk_become_29 : decode b_Trk_become 29 = .ok (.putfield 24, 3) := by decide +kernel
theorem d_Trk_become_32 : decode b_Trk_become 32 = .ok (.return_, 1) := by decide +kernel
theorem d_Trk_goTo_0 : decode b_Trk_goTo 0 = .ok (.iload_n 1, 1) := by decide +kernel
theorem d_Trk_goTo_1 : decode b_Trk_goTo 1 = .ok (.i2l, 1) := by decide +kernel
theorem d_Trk_goTo_2 : decode b_Trk_goTo 2 = .ok (.aload_n 0, 1) := by decide +kernel
theorem d_Trk_goTo_3 : decode b_Trk_goTo 3 = .ok (.getfield 15, 3) := by decide +kernel
theorem d_Trk_goTo_6 : decode b_Trk_goTo 6 = .ok (.i2l, 1) := by decide +kernel
theorem d_Trk_goTo_7 : decode b_Trk_goTo 7 = .ok (.lsub, 1) := by decide +kernel
theorem d_Trk_goTo_8 : decode b_Trk_goTo 8 = .ok (.lstore_n 3, 1) := by decide +kernel
theorem d_Trk_goTo_9 : decode b_Trk_goTo 9 = .ok (.lload_n 3, 1) := by decide +kernel
theorem d_Trk_goTo_10 : decode b_Trk_goTo 10 = .ok (.lconst 0, 1) := by decide +kernel
theorem d_Trk_goTo_11 : decode b_Trk_goTo 11 = .ok (.lcmp, 1) := by decide +kernel
theorem d_Trk_goTo_12 : decode b_Trk_goTo 12 = .ok (.ifCond .ne 5, 3) := by decide +kernel
theorem d_Trk_goTo_15 : decode b_Trk_goTo 15 = .ok (.iconst 1, 1) := by decide +kernel
theorem d_Trk_goTo_16 : decode b_Trk_goTo 16 = .ok (.ireturn, 1) := by decide +kernel
theorem d_Trk_goTo_17 : decode b_Trk_goTo 17 = .ok (.lload_n 3, 1) := by decide +kernel
theorem d_Trk_goTo_18 : decode b_Trk_goTo 18 = .ok (.invokestatic 28, 3) := by decide +kernel
theorem d_Trk_goTo_21 : decode b_Trk_goTo 21 = .ok (.ifCond .ne 5, 3) := by decide +kernel
theorem d_Trk_goTo_24 : decode b_Trk_goTo 24 = .ok (.iconst 0, 1) := by decide +kernel
theorem d_Trk_goTo_25 : decode b_Trk_goTo 25 = .ok (.ireturn, 1) := by decide +kernel
theorem d_Trk_goTo_26 : decode b_Trk_goTo 26 = .ok (.lload_n 3, 1) := by decide +kernel
theorem d_Trk_goTo_27 : decode b_Trk_goTo 27 = .ok (.aload_n 0, 1) := by decide +kernel
theorem d_Trk_goTo_28 : decode b_Trk_goTo 28 = .ok (.getfield 18, 3) := by decide +kernel
theorem d_Trk_goTo_31 : decode b_Trk_goTo 31 = .ok (.i2l, 1) := by decide +kernel
theorem d_Trk_goTo_32 : decode b_Trk_goTo 32 = .ok (.lcmp, 1) := by decide +kernel
theorem d_Trk_goTo_33 : decode b_Trk_goTo 33 = .ok (.ifCond .eq 24, 3) := by decide +kernel
theorem d_Trk_goTo_36 : decode b_Trk_goTo 36 = .ok (.lload_n 3, 1) := by decide +kernel
theorem d_Trk_goTo_37 : decode b_Trk_goTo 37 = .ok (.aload_n 0, 1) := by decide +kernel
theorem d_Trk_goTo_38 : decode b_Trk_goTo 38 = .ok (.getfield 21, 3) := by decide +kernel
theorem d_Trk_goTo_41 : decode b_Trk_goTo 41 = .ok (.i2l, 1) := by decide +kernel
theorem d_Trk_goTo_42 : decode b_Trk_goTo 42 = .ok (.lcmp, 1) := by decide +kernel
theorem d_Trk_goTo_43 : decode b_Trk_goTo 43 = .ok (.ifCond .eq 10, 3) := by decide +kernel
theorem d_Trk_goTo_46 : decode b_Trk_goTo 46 = .ok (.aload_n 0, 1) := by decide +kernel
theorem d_Trk_goTo_47 : decode b_Trk_goTo 47 = .ok (.getfield 24, 3) := by decide +kernel
theorem d_Trk_goTo_50 : decode b_Trk_goTo 50 = .ok (.ifCond .eq 7, 3) := by decide +kernel
theorem d_Trk_goTo_53 : decode b_Trk_goTo 53 = .ok (.iconst 1, 1) := by decide +kernel
theorem d_Trk_goTo_54 : decode b_Trk_goTo 54 = .ok (.goto 4, 3) := by decide +kernel
theorem d_Trk_goTo_57 : decode b_Trk_goTo 57 = .ok (.iconst 0, 1) := by decide +kernel
theorem d_Trk_goTo_58 : decode b_Trk_goTo 58 = .ok (.istore 5, 2) := by decide +kernel
theorem d_Trk_goTo_60 : decode b_Trk_goTo 60 = .ok (.iload 5, 2) := by decide +kernel
theorem d_Trk_goTo_62 : decode b_Trk_goTo 62 = .ok (.ifCond .eq 10, 3) := by decide +kernel
theorem d_Trk_goTo_65 : decode b_Trk_goTo 65 = .ok (.aload_n 0, 1) := by decide +kernel
theorem d_Trk_goTo_66 : decode b_Trk_goTo 66 = .ok (.getfield 21, 3) := by decide +kernel
theorem d_Trk_goTo_69 : decode b_Trk_goTo 69 = .ok (.goto 7, 3) := by decide +kernel
theorem d_Trk_goTo_72 : decode b_Trk_goTo 72 = .ok (.aload_n 0, 1) := by decide +kernel
theorem d_Trk_goTo_73 : decode b_Trk_goTo 73 = .ok (.getfield 18, 3) := by decide +kernel
theorem d_Trk_goTo_76 : decode b_Trk_goTo 76 = .ok (.istore 6, 2) := by decide +kernel
theorem d_Trk_goTo_78 : decode b_Trk_goTo 78 = .ok (.lload_n 3, 1) := by decide +kernel
theorem d_Trk_goTo_79 : decode b_Trk_goTo 79 = .ok (.iload 6, 2) := by decide +kernel
theorem d_Trk_goTo_81 : decode b_Trk_goTo 81 = .ok (.i2l, 1) := by decide +kernel
theorem d_Trk_goTo_82 : decode b_Trk_goTo 82 = .ok (.lcmp, 1) := by decide +kernel
theorem d_Trk_goTo_83 : decode b_Trk_goTo 83 = .ok (.ifCond .ne 7, 3) := by decide +kernel
theorem d_Trk_goTo_86 : decode b_Trk_goTo 86 = .ok (.iconst 0, 1) := by decide +kernel
theorem d_Trk_goTo_87 : decode b_Trk_goTo 87 = .ok (.goto 7, 3) := by decide +kernel
theorem d_Trk_goTo_90 : decode b_Trk_goTo 90 = .ok (.lload_n 3, 1) := by decide +kernel
theorem d_Trk_goTo_91 : decode b_Trk_goTo 91 = .ok (.invokestatic 32, 3) := by decide +kernel
theorem d_Trk_goTo_94 : decode b_Trk_goTo 94 = .ok (.istore 7, 2) := by decide +kernel
theorem d_Trk_goTo_96 : decode b_Trk_goTo 96 = .ok (.aload_n 2, 1) := by decide +kernel
theorem d_Trk_goTo_97 : decode b_Trk_goTo 97 = .ok (.iload 5, 2) := by decide +kernel
theorem d_Trk_goTo_99 : decode b_Trk_goTo 99 = .ok (.ifCond .eq 12, 3) := by decide +kernel
theorem d_Trk_goTo_102 : decode b_Trk_goTo 102 = .ok (.aload_n 0, 1) := by decide +kernel
theorem d_Trk_goTo_103 : decode b_Trk_goTo 103 = .ok (.getfield 9, 3) := by decide +kernel
theorem d_Trk_goTo_106 : decode b_Trk_goTo 106 = .ok (.iconst 5, 1) := by decide +kernel
theorem d_Trk_goTo_107 : decode b_Trk_goTo 107 = .ok (.iadd, 1) := by decide +kernel
theorem d_Trk_goTo_108 : decode b_Trk_goTo 108 = .ok (.goto 7, 3) := by decide +kernel
theorem d_Trk_goTo_111 : decode b_Trk_goTo 111 = .ok (.aload_n 0, 1) := by decide +kernel
theorem d_Trk_goTo_112 : decode b_Trk_goTo 112 = .ok (.getfield 9, 3) := by decide +kernel
theorem d_Trk_goTo_115 : decode b_Trk_goTo 115 = .ok (.iload 7, 2) := by decide +kernel
theorem d_Trk_goTo_117 : decode b_Trk_goTo 117 = .ok (.iadd, 1) := by decide +kernel
theorem d_Trk_goTo_118 : decode b_Trk_goTo 118 = .ok (.iconst 1, 1) := by decide +kernel
theorem d_Trk_goTo_119 : decode b_Trk_goTo 119 = .ok (.invokevirtual 36, 3) := by decide +kernel
theorem d_Trk_goTo_122 : decode b_Trk_goTo 122 = .ok (.aload_n 2, 1) := by decide +kernel
theorem d_Trk_goTo_123 : decode b_Trk_goTo 123 = .ok (.lload_n 3, 1) := by decide +kernel
theorem d_Trk_goTo_124 : decode b_Trk_goTo 124 = .ok (.l2i, 1) := by decide +kernel
theorem d_Trk_goTo_125 : decode b_Trk_goTo 125 = .ok (.iload 7, 2) := by decide +kernel
theorem d_Trk_goTo_127 : decode b_Trk_goTo 127 = .ok (.invokevirtual 36, 3) := by decide +kernel
theorem d_Trk_goTo_130 : decode b_Trk_goTo 130 = .ok (.iload 5, 2) := by decide +kernel
theorem d_Trk_goTo_132 : decode b_Trk_goTo 132 = .ok (.ifCond .eq 12, 3) := by decide +kernel
theorem d_Trk_goTo_135 : decode b_Trk_goTo 135 = .ok (.aload_n 0, 1) := by decide +kernel
theorem d_Trk_goTo_136 : decode b_Trk_goTo 136 = .ok (.lload_n 3, 1) := by decide +kernel
theorem d_Trk_goTo_137 : decode b_Trk_goTo 137 = .ok (.l2i, 1) := by decide +kernel
theorem d_Trk_goTo_138 : decode b_Trk_goTo 138 = .ok (.putfield 21, 3) := by decide +kernel
theorem d_Trk_goTo_141 : decode b_Trk_goTo 141 = .ok (.goto 9, 3) := by decide +kernel
theorem d_Trk_goTo_144 : decode b_Trk_goTo 144 = .ok (.aload_n 0, 1) := by decide +kernel
theorem d_Trk_goTo_145 : decode b_Trk_goTo 145 = .ok (.lload_n 3, 1) := by decide +kernel
theorem d_Trk_goTo_146 : decode b_Trk_goTo 146 = .ok (.l2i, 1) := by decide +kernel
theorem d_Trk_goTo_147 : decode b_Trk_goTo 147 = .ok (.putfield 18, 3) := by decide +kernel
theorem d_Trk_goTo_150 : decode b_Trk_goTo 150 = .ok (.aload_n 0, 1) := by decide +kernel
theorem d_Trk_goTo_151 : decode b_Trk_goTo 151 = .ok (.iload 5, 2) := by decide +kernel
theorem d_Trk_goTo_153 : decode b_Trk_goTo 153 = .ok (.ifCond .ne 7, 3) := by decide +kernel
theorem d_Trk_goTo_156 : decode b_Trk_goTo 156 = .ok (.iconst 1, 1) := by decide +kernel
theorem d_Trk_goTo_157 : decode b_Trk_goTo 157 = .ok (.goto 4, 3) := by decide +kernel
theorem d_Trk_goTo_160 : decode b_Trk_goTo 160 = .ok (.iconst 0, 1) := by decide +kernel
theorem d_Trk_goTo_161 : decode b_Trk_goTo 161 = .ok (.putfield 24, 3) := by decide +kernel
theorem d_Trk_goTo_164 : decode b_Trk_goTo 164 = .ok (.aload_n 0, 1) := by decide +kernel
theorem d_Trk_goTo_165 : decode b_Trk_goTo 165 = .ok (.iload_n 1, 1) := by decide +kernel
theorem d_Trk_goTo_166 : decode b_Trk_goTo 166 = .ok (.putfield 15, 3) := by decide +kernel
theorem d_Trk_goTo_169 : decode b_Trk_goTo 169 = .ok (.iconst 1, 1) := by decide +kernel
theorem d_Trk_goTo_170 : decode b_Trk_goTo 170 = .ok (.ireturn, 1) := by decide +kernel
theorem d_Trk_fewestBytes_0 : decode b_Trk_fewestBytes 0 = .ok (.lload_n 0, 1) := by decide +kernel
theorem d_Trk_fewestBytes_1 : decode b_Trk_fewestBytes 1 = .ok (.ldc2_w 42, 3) := by decide +kernel
theorem d_Trk_fewestBytes_4 : decode b_Trk_fewestBytes 4 = .ok (.lcmp, 1) := by decide +kernel
theorem d_Trk_fewestBytes_5 : decode b_Trk_fewestBytes 5 = .ok (.ifCond .lt 13, 3) := by decide +kernel
theorem d_Trk_fewestBytes_8 : decode b_Trk_fewestBytes 8 = .ok (.lload_n 0, 1) := by decide +kernel
theorem d_Trk_fewestBytes_9 : decode b_Trk_fewestBytes 9 = .ok (.ldc2_w 44, 3) := by decide +kernel
theorem d_Trk_fewestBytes_12 : decode b_Trk_fewestBytes 12 = .ok (.lcmp, 1) := by decide +kernel
theorem d_Trk_fewestBytes_13 : decode b_Trk_fewestBytes 13 = .ok (.ifCond .ge 5, 3) := by decide +kernel
theorem d_Trk_fewestBytes_16 : decode b_Trk_fewestBytes 16 = .ok (.iconst 1, 1) := by decide +kernel
theorem d_Trk_fewestBytes_17 : decode b_Trk_fewestBytes 17 = .ok (.ireturn, 1) := by decide +kernel
theorem d_Trk_fewestBytes_18 : decode b_Trk_fewestBytes 18 = .ok (.lload_n 0, 1) := by decide +kernel
theorem d_Trk_fewestBytes_19 : decode b_Trk_fewestBytes 19 = .ok (.ldc2_w 46, 3) := by decide +kernel
theorem d_Trk_fewestBytes_22 : decode b_Trk_fewestBytes 22 = .ok (.lcmp, 1) := by decide +kernel
theorem d_Trk_fewestBytes_23 : decode b_Trk_fewestBytes 23 = .ok (.ifCond .lt 13, 3) := by decide +kernel
theorem d_Trk_fewestBytes_26 : decode b_Trk_fewestBytes 26 = .ok (.lload_n 0, 1) := by decide +kernel
theorem d_Trk_fewestBytes_27 : decode b_Trk_fewestBytes 27 = .ok (.ldc2_w 48, 3) := by decide +kernel
theorem d_Trk_fewestBytes_30 : decode b_Trk_fewestBytes 30 = .ok (.lcmp, 1) := by decide +kernel
theorem d_Trk_fewestBytes_31 : decode b_Trk_fewestBytes 31 = .ok (.ifCond .ge 5, 3) := by decide +kernel
theorem d_Trk_fewestBytes_34 : decode b_Trk_fewestBytes 34 = .ok (.iconst 2, 1) := by decide +kernel
theorem d_Trk_fewestBytes_35 : decode b_Trk_fewestBytes 35 = .ok (.ireturn, 1) := by decide +kernel
theorem d_Trk_fewestBytes_36 : decode b_Trk_fewestBytes 36 = .ok (.lload_n 0, 1) := by decide +kernel
theorem d_Trk_fewestBytes_37 : decode b_Trk_fewestBytes 37 = .ok (.ldc2_w 50, 3) := by decide +kernel
theorem d_Trk_fewestBytes_40 : decode b_Trk_fewestBytes 40 = .ok (.lcmp, 1) := by decide +kernel
theorem d_Trk_fewestBytes_41 : decode b_Trk_fewestBytes 41 = .ok (.ifCond .lt 15, 3) := by decide +kernel
theorem d_Trk_fewestBytes_44 : decode b_Trk_fewestBytes 44 = .ok (.lload_n 0, 1) := by decide +kernel
theorem d_Trk_fewestBytes_45 : decode b_Trk_fewestBytes 45 = .ok (.ldc2_w 52, 3) := by decide +kernel
theorem d_Trk_fewestBytes_48 : decode b_Trk_fewestBytes 48 = .ok (.lcmp, 1) := by decide +kernel
theorem d_Trk_fewestBytes_49 : decode b_Trk_fewestBytes 49 = .ok (.ifCond .ge 7, 3) := by decide +kernel
theorem d_Trk_fewestBytes_52 : decode b_Trk_fewestBytes 52 = .ok (.iconst 3, 1) := by decide +kernel
theorem d_Trk_fewestBytes_53 : decode b_Trk_fewestBytes 53 = .ok (.goto 4, 3) := by decide +kernel
theorem d_Trk_fewestBytes_56 : decode b_Trk_fewestBytes 56 = .ok (.iconst 4, 1) := by decide +kernel
theorem d_Trk_fewestBytes_57 : decode b_Trk_fewestBytes 57 = .ok (.ireturn, 1) := by decide +kernel
theorem d_Itm_init_0 : decode b_Itm_init 0 = .ok (.aload_n 0, 1) := by decide +kernel
theorem d_Itm_init_1 : decode b_Itm_init 1 = .ok (.invokespecial 1, 3) := by decide +kernel
theorem d_Itm_init_4 : decode b_Itm_init 4 = .ok (.aload_n 0, 1) := by decide +kernel
theorem d_Itm_init_5 : decode b_Itm_init 5 = .ok (.iload_n 1, 1) := by decide +kernel
theorem d_Itm_init_6 : decode b_Itm_init 6 = .ok (.putfield 7, 3) := by decide +kernel
theorem d_Itm_init_9 : decode b_Itm_init 9 = .ok (.aload_n 0, 1) := by decide +kernel
theorem d_Itm_init_10 : decode b_Itm_init 10 = .ok (.iload_n 2, 1) := by decide +kernel
theorem d_Itm_init_11 : decode b_Itm_init 11 = .ok (.putfield 13, 3) := by decide +kernel
theorem d_Itm_init_14 : decode b_Itm_init 14 = .ok (.aload_n 0, 1) := by decide +kernel
theorem d_Itm_init_15 : decode b_Itm_init 15 = .ok (.iload_n 3, 1) := by decide +kernel
theorem d_Itm_init_16 : decode b_Itm_init 16 = .ok (.putfield 16, 3) := by decide +kernel
theorem d_Itm_init_19 : decode b_Itm_init 19 = .ok (.aload_n 0, 1) := by decide +kernel
theorem d_Itm_init_20 : decode b_Itm_init 20 = .ok (.iload 4, 2) := by decide +kernel
theorem d_Itm_init_22 : decode b_Itm_init 22 = .ok (.putfield 19, 3) := by decide +kernel
theorem d_Itm_init_25 : decode b_Itm_init 25 = .ok (.return_, 1) := by decide +kernel
theorem d_Box_init_0 : decode b_Box_init 0 = .ok (.aload_n 0, 1) := by decide +kernel
theorem d_Box_init_1 : decode b_Box_init 1 = .ok (.invokespecial 1, 3) := by decide +kernel
theorem d_Box_init_4 : decode b_Box_init 4 = .ok (.aload_n 0, 1) := by decide +kernel
theorem d_Box_init_5 : decode b_Box_init 5 = .ok (.aload_n 1, 1) := by decide +kernel
theorem d_Box_init_6 : decode b_Box_init 6 = .ok (.getfield 7, 3) := by decide +kernel
theorem d_Box_init_9 : decode b_Box_init 9 = .ok (.putfield 13, 3) := by decide +kernel
theorem d_Box_init_12 : decode b_Box_init 12 = .ok (.aload_n 0, 1) := by decide +kernel
theorem d_Box_init_13 : decode b_Box_init 13 = .ok (.iload_n 2, 1) := by decide +kernel
theorem d_Box_init_14 : decode b_Box_init 14 = .ok (.putfield 16, 3) := by decide +kernel
theorem d_Box_init_17 : decode b_Box_init 17 = .ok (.aload_n 0, 1) := by decide +kernel
theorem d_Box_init_18 : decode b_Box_init 18 = .ok (.iload_n 3, 1) := by decide +kernel
theorem d_Box_init_19 : decode b_Box_init 19 = .ok (.putfield 20, 3) := by decide +kernel
theorem d_Box_init_22 : decode b_Box_init 22 = .ok (.aload_n 0, 1) := by decide +kernel
theorem d_Box_init_23 : decode b_Box_init 23 = .ok (.iload 4, 2) := by decide +kernel
theorem d_Box_init_25 : decode b_Box_init 25 = .ok (.putfield 23, 3) := by decide +kernel
theorem d_Box_init_28 : decode b_Box_init 28 = .ok (.aload_n 0, 1) := by decide +kernel
theorem d_Box_init_29 : decode b_Box_init 29 = .ok (.aload_n 1, 1) := by decide +kernel
theorem d_Box_init_30 : decode b_Box_init 30 = .ok (.getfield 26, 3) := by decide +kernel
theorem d_Box_init_33 : decode b_Box_init 33 = .ok (.putfield 30, 3) := by decide +kernel
theorem d_Box_init_36 : decode b_Box_init 36 = .ok (.aload_n 0, 1) := by decide +kernel
theorem d_Box_init_37 : decode b_Box_init 37 = .ok (.aload_n 1, 1) := by decide +kernel
theorem d_Box_init_38 : decode b_Box_init 38 = .ok (.getfield 31, 3) := by decide +kernel
theorem d_Box_init_41 : decode b_Box_init 41 = .ok (.iconst 1, 1) := by decide +kernel
theorem d_Box_init_42 : decode b_Box_init 42 = .ok (.iadd, 1) := by decide +kernel
theorem d_Box_init_43 : decode b_Box_init 43 = .ok (.putfield 34, 3) := by decide +kernel
theorem d_Box_init_46 : decode b_Box_init 46 = .ok (.aload_n 0, 1) := by decide +kernel
theorem d_Box_init_47 : decode b_Box_init 47 = .ok (.aload_n 1, 1) := by decide +kernel
theorem d_Box_init_48 : decode b_Box_init 48 = .ok (.getfield 35, 3) := by decide +kernel
theorem d_Box_init_51 : decode b_Box_init 51 = .ok (.iconst 1, 1) := by decide +kernel
theorem d_Box_init_52 : decode b_Box_init 52 = .ok (.iadd, 1) := by decide +kernel
theorem d_Box_init_53 : decode b_Box_init 53 = .ok (.putfield 38, 3) := by decide +kernel
theorem d_Box_init_56 : decode b_Box_init 56 = .ok (.return_, 1) := by decide +kernel
theorem d_OpL_init_0 : decode b_OpL_init 0 = .ok (.aload_n 0, 1) := by decide +kernel
theorem d_OpL_init_1 : decode b_OpL_init 1 = .ok (.invokespecial 3, 3) := by decide +kernel
theorem d_OpL_init_4 : decode b_OpL_init 4 = .ok (.aload_n 0, 1) := by decide +kernel
theorem d_OpL_init_5 : decode b_OpL_init 5 = .ok (.iload_n 1, 1) := by decide +kernel
theorem d_OpL_init_6 : decode b_OpL_init 6 = .ok (.putfield 9, 3) := by decide +kernel
theorem d_OpL_init_9 : decode b_OpL_init 9 = .ok (.aload_n 0, 1) := by decide +kernel
theorem d_OpL_init_10 : decode b_OpL_init 10 = .ok (.aload_n 2, 1) := by decide +kernel
theorem d_OpL_init_11 : decode b_OpL_init 11 = .ok (.putfield 15, 3) := by decide +kernel
theorem d_OpL_init_14 : decode b_OpL_init 14 = .ok (.aload_n 0, 1) := by decide +kernel
theorem d_OpL_init_15 : decode b_OpL_init 15 = .ok (.aload_n 2, 1) := by decide +kernel
theorem d_OpL_init_16 : decode b_OpL_init 16 = .ok (.ifnonnull 7, 3) := by decide +kernel
theorem d_OpL_init_19 : decode b_OpL_init 19 = .ok (.iconst 1, 1) := by decide +kernel
theorem d_OpL_init_20 : decode b_OpL_init 20 = .ok (.goto 9, 3) := by decide +kernel
theorem d_OpL_init_23 : decode b_OpL_init 23 = .ok (.aload_n 2, 1) := by decide +kernel
theorem d_OpL_init_24 : decode b_OpL_init 24 = .ok (.getfield 19, 3) := by decide +kernel
theorem d_OpL_init_27 : decode b_OpL_init 27 = .ok (.iconst 1, 1) := by decide +kernel
theorem d_OpL_init_28 : decode b_OpL_init 28 = .ok (.iadd, 1) := by decide +kernel
theorem d_OpL_init_29 : decode b_OpL_init 29 = .ok (.putfield 19, 3) := by decide +kernel
theorem d_OpL_init_32 : decode b_OpL_init 32 = .ok (.return_, 1) := by decide +kernel
theorem d_OpL_join_0 : decode b_OpL_join 0 = .ok (.aload_n 0, 1) := by decide +kernel
theorem d_OpL_join_1 : decode b_OpL_join 1 = .ok (.getfield 23, 3) := by decide +kernel
theorem d_OpL_join_4 : decode b_OpL_join 4 = .ok (.ifnonnull 11, 3) := by decide +kernel
theorem d_OpL_join_7 : decode b_OpL_join 7 = .ok (.aload_n 0, 1) := by decide +kernel
theorem d_OpL_join_8 : decode b_OpL_join 8 = .ok (.aload_n 1, 1) := by decide +kernel
theorem d_OpL_join_9 : decode b_OpL_join 9 = .ok (.putfield 27, 3) := by decide +kernel
theorem d_OpL_join_12 : decode b_OpL_join 12 = .ok (.goto 11, 3) := by decide +kernel
theorem d_OpL_join_15 : decode b_OpL_join 15 = .ok (.aload_n 0, 1) := by decide +kernel
theorem d_OpL_join_16 : decode b_OpL_join 16 = .ok (.getfield 23, 3) := by decide +kernel
theorem d_OpL_join_19 : decode b_OpL_join 19 = .ok (.aload_n 1, 1) := by decide +kernel
theorem d_OpL_join_20 : decode b_OpL_join 20 = .ok (.putfield 30, 3) := by decide +kernel
theorem d_OpL_join_23 : decode b_OpL_join 23 = .ok (.aload_n 0, 1) := by decide +kernel
theorem d_OpL_join_24 : decode b_OpL_join 24 = .ok (.aload_n 1, 1) := by decide +kernel
theorem d_OpL_join_25 : decode b_OpL_join 25 = .ok (.putfield 23, 3) := by decide +kernel
theorem d_OpL_join_28 : decode b_OpL_join 28 = .ok (.aload_n 0, 1) := by decide +kernel
theorem d_OpL_join_29 : decode b_OpL_join 29 = .ok (.dup, 1) := by decide +kernel
theorem d_OpL_join_30 : decode b_OpL_join 30 = .ok (.getfield 35, 3) := by decide +kernel
theorem d_OpL_join_33 : decode b_OpL_join 33 = .ok (.iconst 1, 1) := by decide +kernel
theorem d_OpL_join_34 : decode b_OpL_join 34 = .ok (.iadd, 1) := by decide +kernel
theorem d_OpL_join_35 : decode b_OpL_join 35 = .ok (.putfield 35, 3) := by decide +kernel
theorem d_OpL_join_38 : decode b_OpL_join 38 = .ok (.aload_n 1, 1) := by decide +kernel
theorem d_OpL_join_39 : decode b_OpL_join 39 = .ok (.getfield 38, 3) := by decide +kernel
theorem d_OpL_join_42 : decode b_OpL_join 42 = .ok (.ifnull 39, 3) := by decide +kernel
theorem d_OpL_join_45 : decode b_OpL_join 45 = .ok (.aload_n 0, 1) := by decide +kernel
theorem d_OpL_join_46 : decode b_OpL_join 46 = .ok (.dup, 1) := by decide +kernel
theorem d_OpL_join_47 : decode b_OpL_join 47 = .ok (.getfield 35, 3) := by decide +kernel
theorem d_OpL_join_50 : decode b_OpL_join 50 = .ok (.aload_n 1, 1) := by decide +kernel
theorem d_OpL_join_51 : decode b_OpL_join 51 = .ok (.getfield 38, 3) := by decide +kernel
theorem d_OpL_join_54 : decode b_OpL_join 54 = .ok (.getfield 42, 3) := by decide +kernel
theorem d_OpL_join_57 : decode b_OpL_join 57 = .ok (.iconst 1, 1) := by decide +kernel
theorem d_OpL_join_58 : decode b_OpL_join 58 = .ok (.isub, 1) := by decide +kernel
theorem d_OpL_join_59 : decode b_OpL_join 59 = .ok (.iadd, 1) := by decide +kernel
theorem d_OpL_join_60 : decode b_OpL_join 60 = .ok (.putfield 35, 3) := by decide +kernel
theorem d_OpL_join_63 : decode b_OpL_join 63 = .ok (.aload_n 0, 1) := by decide +kernel
theorem d_OpL_join_64 : decode b_OpL_join 64 = .ok (.aload_n 0, 1) := by decide +kernel
theorem d_OpL_join_65 : decode b_OpL_join 65 = .ok (.getfield 45, 3) := by decide +kernel
theorem d_OpL_join_68 : decode b_OpL_join 68 = .ok (.aload_n 1, 1) := by decide +kernel
theorem d_OpL_join_69 : decode b_OpL_join 69 = .ok (.getfield 38, 3) := by decide +kernel
theorem d_OpL_join_72 : decode b_OpL_join 72 = .ok (.getfield 48, 3) := by decide +kernel
theorem d_OpL_join_75 : decode b_OpL_join 75 = .ok (.invokestatic 49, 3) := by decide +kernel
theorem d_OpL_join_78 : decode b_OpL_join 78 = .ok (.putfield 45, 3) := by decide +kernel
theorem d_OpL_join_81 : decode b_OpL_join 81 = .ok (.aload_n 0, 1) := by decide +kernel
theorem d_OpL_join_82 : decode b_OpL_join 82 = .ok (.getfield 9, 3) := by decide +kernel
theorem d_OpL_join_85 : decode b_OpL_join 85 = .ok (.ifCond .eq 11, 3) := by decide +kernel
theorem d_OpL_join_88 : decode b_OpL_join 88 = .ok (.aload_n 0, 1) := by decide +kernel
theorem d_OpL_join_89 : decode b_OpL_join 89 = .ok (.aload_n 1, 1) := by decide +kernel
theorem d_OpL_join_90 : decode b_OpL_join 90 = .ok (.invokevirtual 55, 3) := by decide +kernel
theorem d_OpL_join_93 : decode b_OpL_join 93 = .ok (.goto 8, 3) := by decide +kernel
theorem d_OpL_join_96 : decode b_OpL_join 96 = .ok (.aload_n 0, 1) := by decide +kernel
theorem d_OpL_join_97 : decode b_OpL_join 97 = .ok (.aload_n 1, 1) := by decide +kernel
theorem d_OpL_join_98 : decode b_OpL_join 98 = .ok (.invokevirtual 59, 3) := by decide +kernel
theorem d_OpL_join_101 : decode b_OpL_join 101 = .ok (.return_, 1) := by decide +kernel
theorem d_OpL_measureAcross_0 : decode b_OpL_measureAcross 0 = .ok (.aload_n 0, 1) := by decide +kernel
theorem d_OpL_measureAcross_1 : decode b_OpL_measureAcross 1 = .ok (.dup, 1) := by decide +kernel
theorem d_OpL_measureAcross_2 : decode b_OpL_measureAcross 2 = .ok (.getfield 62, 3) := by decide +kernel
theorem d_OpL_measureAcross_5 : decode b_OpL_measureAcross 5 = .ok (.aload_n 1, 1) := by decide +kernel
theorem d_OpL_measureAcross_6 : decode b_OpL_measureAcross 6 = .ok (.getfield 66, 3) := by decide +kernel
theorem d_OpL_measureAcross_9 : decode b_OpL_measureAcross 9 = .ok (.i2l, 1) := by decide +kernel
theorem d_OpL_measureAcross_10 : decode b_OpL_measureAcross 10 = .ok (.ladd, 1) := by decide +kernel
theorem d_OpL_measureAcross_11 : decode b_OpL_measureAcross 11 = .ok (.putfield 62, 3) := by decide +kernel
theorem d_OpL_measureAcross_14 : decode b_OpL_measureAcross 14 = .ok (.aload_n 0, 1) := by decide +kernel
theorem d_OpL_measureAcross_15 : decode b_OpL_measureAcross 15 = .ok (.aload_n 0, 1) := by decide +kernel
theorem d_OpL_measureAcross_16 : decode b_OpL_measureAcross 16 = .ok (.getfield 68, 3) := by decide +kernel
theorem d_OpL_measureAcross_19 : decode b_OpL_measureAcross 19 = .ok (.aload_n 1, 1) := by decide +kernel
theorem d_OpL_measureAcross_20 : decode b_OpL_measureAcross 20 = .ok (.getfield 71, 3) := by decide +kernel
theorem d_OpL_measureAcross_23 : decode b_OpL_measureAcross 23 = .ok (.i2l, 1) := by decide +kernel
theorem d_OpL_measureAcross_24 : decode b_OpL_measureAcross 24 = .ok (.aload_n 1, 1) := by decide +kernel
theorem d_OpL_measureAcross_25 : decode b_OpL_measureAcross 25 = .ok (.getfield 73, 3) := by decide +kernel
theorem d_OpL_measureAcross_28 : decode b_OpL_measureAcross 28 = .ok (.i2l, 1) := by decide +kernel
theorem d_OpL_measureAcross_29 : decode b_OpL_measureAcross 29 = .ok (.lsub, 1) := by decide +kernel
theorem d_OpL_measureAcross_30 : decode b_OpL_measureAcross 30 = .ok (.invokestatic 76, 3) := by decide +kernel
theorem d_OpL_measureAcross_33 : decode b_OpL_measureAcross 33 = .ok (.putfield 68, 3) := by decide +kernel
theorem d_OpL_measureAcross_36 : decode b_OpL_measureAcross 36 = .ok (.aload_n 0, 1) := by decide +kernel
theorem d_OpL_measureAcross_37 : decode b_OpL_measureAcross 37 = .ok (.aload_n 0, 1) := by decide +kernel
theorem d_OpL_measureAcross_38 : decode b_OpL_measureAcross 38 = .ok (.getfield 79, 3) := by decide +kernel
theorem d_OpL_measureAcross_41 : decode b_OpL_measureAcross 41 = .ok (.aload_n 1, 1) := by decide +kernel
theorem d_OpL_measureAcross_42 : decode b_OpL_measureAcross 42 = .ok (.getfield 82, 3) := by decide +kernel
theorem d_OpL_measureAcross_45 : decode b_OpL_measureAcross 45 = .ok (.i2l, 1) := by decide +kernel
theorem d_OpL_measureAcross_46 : decode b_OpL_measureAcross 46 = .ok (.aload_n 1, 1) := by decide +kernel
theorem d_OpL_measureAcross_47 : decode b_OpL_measureAcross 47 = .ok (.getfield 73, 3) := by decide +kernel
theorem d_OpL_measureAcross_50 : decode b_OpL_measureAcross 50 = .ok (.i2l, 1) := by decide +kernel
theorem d_OpL_measureAcross_51 : decode b_OpL_measureAcross 51 = .ok (.ladd, 1) := by decide +kernel
theorem d_OpL_measureAcross_52 : decode b_OpL_measureAcross 52 = .ok (.invokestatic 76, 3) := by decide +kernel
theorem d_OpL_measureAcross_55 : decode b_OpL_measureAcross 55 = .ok (.putfield 79, 3) := by decide +kernel
theorem d_OpL_measureAcross_58 : decode b_OpL_measureAcross 58 = .ok (.return_, 1) := by decide +kernel
theorem d_OpL_measureDown_0 : decode b_OpL_measureDown 0 = .ok (.aload_n 0, 1) := by decide +kernel
theorem d_OpL_measureDown_1 : decode b_OpL_measureDown 1 = .ok (.dup, 1) := by decide +kernel
theorem d_OpL_measureDown_2 : decode b_OpL_measureDown 2 = .ok (.getfield 68, 3) := by decide +kernel
theorem d_OpL_measureDown_5 : decode b_OpL_measureDown 5 = .ok (.aload_n 0, 1) := by decide +kernel
theorem d_OpL_measureDown_6 : decode b_OpL_measureDown 6 = .ok (.getfield 79, 3) := by decide +kernel
theorem d_OpL_measureDown_9 : decode b_OpL_measureDown 9 = .ok (.ladd, 1) := by decide +kernel
theorem d_OpL_measureDown_10 : decode b_OpL_measureDown 10 = .ok (.putfield 68, 3) := by decide +kernel
theorem d_OpL_measureDown_13 : decode b_OpL_measureDown 13 = .ok (.aload_n 1, 1) := by decide +kernel
theorem d_OpL_measureDown_14 : decode b_OpL_measureDown 14 = .ok (.getfield 84, 3) := by decide +kernel
theorem d_OpL_measureDown_17 : decode b_OpL_measureDown 17 = .ok (.iconst 2, 1) := by decide +kernel
theorem d_OpL_measureDown_18 : decode b_OpL_measureDown 18 = .ok (.if_icmp .ne 25, 3) := by decide +kernel
theorem d_OpL_measureDown_21 : decode b_OpL_measureDown 21 = .ok (.aload_n 0, 1) := by decide +kernel
theorem d_OpL_measureDown_22 : decode b_OpL_measureDown 22 = .ok (.dup, 1) := by decide +kernel
theorem d_OpL_measureDown_23 : decode b_OpL_measureDown 23 = .ok (.getfield 68, 3) := by decide +kernel
theorem d_OpL_measureDown_26 : decode b_OpL_measureDown 26 = .ok (.aload_n 1, 1) := by decide +kernel
theorem d_OpL_measureDown_27 : decode b_OpL_measureDown 27 = .ok (.getfield 66, 3) := by decide +kernel
theorem d_OpL_measureDown_30 : decode b_OpL_measureDown 30 = .ok (.i2l, 1) := by decide +kernel
theorem d_OpL_measureDown_31 : decode b_OpL_measureDown 31 = .ok (.ladd, 1) := by decide +kernel
theorem d_OpL_measureDown_32 : decode b_OpL_measureDown 32 = .ok (.putfield 68, 3) := by decide +kernel
theorem d_OpL_measureDown_35 : decode b_OpL_measureDown 35 = .ok (.aload_n 0, 1) := by decide +kernel
theorem d_OpL_measureDown_36 : decode b_OpL_measureDown 36 = .ok (.lconst 0, 1) := by decide +kernel
theorem d_OpL_measureDown_37 : decode b_OpL_measureDown 37 = .ok (.putfield 79, 3) := by decide +kernel
theorem d_OpL_measureDown_40 : decode b_OpL_measureDown 40 = .ok (.goto 48, 3) := by decide +kernel
theorem d_OpL_measureDown_43 : decode b_OpL_measureDown 43 = .ok (.aload_n 0, 1) := by decide +kernel
theorem d_OpL_measureDown_44 : decode b_OpL_measureDown 44 = .ok (.dup, 1) := by decide +kernel
theorem d_OpL_measureDown_45 : decode b_OpL_measureDown 45 = .ok (.getfield 68, 3) := by decide +kernel
theorem d_OpL_measureDown_48 : decode b_OpL_measureDown 48 = .ok (.aload_n 1, 1) := by decide +kernel
theorem d_OpL_measureDown_49 : decode b_OpL_measureDown 49 = .ok (.getfield 71, 3) := by decide +kernel
theorem d_OpL_measureDown_52 : decode b_OpL_measureDown 52 = .ok (.i2l, 1) := by decide +kernel
theorem d_OpL_measureDown_53 : decode b_OpL_measureDown 53 = .ok (.ladd, 1) := by decide +kernel
theorem d_OpL_measureDown_54 : decode b_OpL_measureDown 54 = .ok (.putfield 68, 3) := by decide +kernel
theorem d_OpL_measureDown_57 : decode b_OpL_measureDown 57 = .ok (.aload_n 0, 1) := by decide +kernel
theorem d_OpL_measureDown_58 : decode b_OpL_measureDown 58 = .ok (.aload_n 1, 1) := by decide +kernel
theorem d_OpL_measureDown_59 : decode b_OpL_measureDown 59 = .ok (.getfield 82, 3) := by decide +kernel
theorem d_OpL_measureDown_62 : decode b_OpL_measureDown 62 = .ok (.i2l, 1) := by decide +kernel
theorem d_OpL_measureDown_63 : decode b_OpL_measureDown 63 = .ok (.putfield 79, 3) := by decide +kernel
theorem d_OpL_measureDown_66 : decode b_OpL_measureDown 66 = .ok (.aload_n 0, 1) := by decide +kernel
theorem d_OpL_measureDown_67 : decode b_OpL_measureDown 67 = .ok (.aload_n 0, 1) := by decide +kernel
theorem d_OpL_measureDown_68 : decode b_OpL_measureDown 68 = .ok (.getfield 62, 3) := by decide +kernel
theorem d_OpL_measureDown_71 : decode b_OpL_measureDown 71 = .ok (.aload_n 1, 1) := by decide +kernel
theorem d_OpL_measureDown_72 : decode b_OpL_measureDown 72 = .ok (.getfield 66, 3) := by decide +kernel
theorem d_OpL_measureDown_75 : decode b_OpL_measureDown 75 = .ok (.i2l, 1) := by decide +kernel
theorem d_OpL_measureDown_76 : decode b_OpL_measureDown 76 = .ok (.aload_n 1, 1) := by decide +kernel
theorem d_OpL_measureDown_77 : decode b_OpL_measureDown 77 = .ok (.getfield 73, 3) := by decide +kernel
theorem d_OpL_measureDown_80 : decode b_OpL_measureDown 80 = .ok (.i2l, 1) := by decide +kernel
theorem d_OpL_measureDown_81 : decode b_OpL_measureDown 81 = .ok (.ladd, 1) := by decide +kernel
theorem d_OpL_measureDown_82 : decode b_OpL_measureDown 82 = .ok (.invokestatic 76, 3) := by decide +kernel
theorem d_OpL_measureDown_85 : decode b_OpL_measureDown 85 = .ok (.putfield 62, 3) := by decide +kernel
theorem d_OpL_measureDown_88 : decode b_OpL_measureDown 88 = .ok (.return_, 1) := by decide +kernel
theorem d_OpL_toBox_0 : decode b_OpL_toBox 0 = .ok (.aload_n 0, 1) := by decide +kernel
theorem d_OpL_toBox_1 : decode b_OpL_toBox 1 = .ok (.getfield 45, 3) := by decide +kernel
theorem d_OpL_toBox_4 : decode b_OpL_toBox 4 = .ok (.bipush 100, 2) := by decide +kernel
theorem d_OpL_toBox_6 : decode b_OpL_toBox 6 = .ok (.if_icmp .ge 21, 3) := by decide +kernel
theorem d_OpL_toBox_9 : decode b_OpL_toBox 9 = .ok (.aload_n 0, 1) := by decide +kernel
theorem d_OpL_toBox_10 : decode b_OpL_toBox 10 = .ok (.getfield 62, 3) := by decide +kernel
theorem d_OpL_toBox_13 : decode b_OpL_toBox 13 = .ok (.aload_n 0, 1) := by decide +kernel
theorem d_OpL_toBox_14 : decode b_OpL_toBox 14 = .ok (.getfield 68, 3) := by decide +kernel
theorem d_OpL_toBox_17 : decode b_OpL_toBox 17 = .ok (.aload_n 0, 1) := by decide +kernel
theorem d_OpL_toBox_18 : decode b_OpL_toBox 18 = .ok (.getfield 79, 3) := by decide +kernel
theorem d_OpL_toBox_21 : decode b_OpL_toBox 21 = .ok (.invokestatic 87, 3) := by decide +kernel
theorem d_OpL_toBox_24 : decode b_OpL_toBox 24 = .ok (.ifCond .ne 5, 3) := by decide +kernel
theorem d_OpL_toBox_27 : decode b_OpL_toBox 27 = .ok (.aconst_null, 1) := by decide +kernel
theorem d_OpL_toBox_28 : decode b_OpL_toBox 28 = .ok (.areturn, 1) := by decide +kernel
theorem d_OpL_toBox_29 : decode b_OpL_toBox 29 = .ok (.new 43, 3) := by decide +kernel
theorem d_OpL_toBox_32 : decode b_OpL_toBox 32 = .ok (.dup, 1) := by decide +kernel
theorem d_OpL_toBox_33 : decode b_OpL_toBox 33 = .ok (.aload_n 0, 1) := by decide +kernel
theorem d_OpL_toBox_34 : decode b_OpL_toBox 34 = .ok (.aload_n 0, 1) := by decide +kernel
theorem d_OpL_toBox_35 : decode b_OpL_toBox 35 = .ok (.getfield 62, 3) := by decide +kernel
theorem d_OpL_toBox_38 : decode b_OpL_toBox 38 = .ok (.l2i, 1) := by decide +kernel
theorem d_OpL_toBox_39 : decode b_OpL_toBox 39 = .ok (.aload_n 0, 1) := by decide +kernel
theorem d_OpL_toBox_40 : decode b_OpL_toBox 40 = .ok (.getfield 68, 3) := by decide +kernel
theorem d_OpL_toBox_43 : decode b_OpL_toBox 43 = .ok (.l2i, 1) := by decide +kernel
theorem d_OpL_toBox_44 : decode b_OpL_toBox 44 = .ok (.aload_n 0, 1) := by decide +kernel
theorem d_OpL_toBox_45 : decode b_OpL_toBox 45 = .ok (.getfield 79, 3) := by decide +kernel
theorem d_OpL_toBox_48 : decode b_OpL_toBox 48 = .ok (.l2i, 1) := by decide +kernel
theorem d_OpL_toBox_49 : decode b_OpL_toBox 49 = .ok (.invokespecial 91, 3) := by decide +kernel
theorem d_OpL_toBox_52 : decode b_OpL_toBox 52 = .ok (.areturn, 1) := by decide +kernel
theorem d_Fra_init_0 : decode b_Fra_init 0 = .ok (.aload_n 0, 1) := by decide +kernel
theorem d_Fra_init_1 : decode b_Fra_init 1 = .ok (.invokespecial 3, 3) := by decide +kernel
theorem d_Fra_init_4 : decode b_Fra_init 4 = .ok (.aload_n 0, 1) := by decide +kernel
theorem d_Fra_init_5 : decode b_Fra_init 5 = .ok (.new 9, 3) := by decide +kernel
theorem d_Fra_init_8 : decode b_Fra_init 8 = .ok (.dup, 1) := by decide +kernel
theorem d_Fra_init_9 : decode b_Fra_init 9 = .ok (.sipush 147, 3) := by decide +kernel
theorem d_Fra_init_12 : decode b_Fra_init 12 = .ok (.invokespecial 11, 3) := by decide +kernel
theorem d_Fra_init_15 : decode b_Fra_init 15 = .ok (.putfield 14, 3) := by decide +kernel
theorem d_Fra_init_18 : decode b_Fra_init 18 = .ok (.aload_n 0, 1) := by decide +kernel
theorem d_Fra_init_19 : decode b_Fra_init 19 = .ok (.new 9, 3) := by decide +kernel
theorem d_Fra_init_22 : decode b_Fra_init 22 = .ok (.dup, 1) := by decide +kernel
theorem d_Fra_init_23 : decode b_Fra_init 23 = .ok (.sipush 161, 3) := by decide +kernel
theorem d_Fra_init_26 : decode b_Fra_init 26 = .ok (.invokespecial 11, 3) := by decide +kernel
theorem d_Fra_init_29 : decode b_Fra_init 29 = .ok (.putfield 20, 3) := by decide +kernel
theorem d_Fra_init_32 : decode b_Fra_init 32 = .ok (.aload_n 0, 1) := by decide +kernel
theorem d_Fra_init_33 : decode b_Fra_init 33 = .ok (.aload_n 1, 1) := by decide +kernel
theorem d_Fra_init_34 : decode b_Fra_init 34 = .ok (.putfield 23, 3) := by decide +kernel
theorem d_Fra_init_37 : decode b_Fra_init 37 = .ok (.aload_n 0, 1) := by decide +kernel
theorem d_Fra_init_38 : decode b_Fra_init 38 = .ok (.aload_n 1, 1) := by decide +kernel
theorem d_Fra_init_39 : decode b_Fra_init 39 = .ok (.ifnonnull 7, 3) := by decide +kernel
theorem d_Fra_init_42 : decode b_Fra_init 42 = .ok (.iconst 1, 1) := by decide +kernel
theorem d_Fra_init_43 : decode b_Fra_init 43 = .ok (.goto 9, 3) := by decide +kernel
theorem d_Fra_init_46 : decode b_Fra_init 46 = .ok (.aload_n 1, 1) := by decide +kernel
theorem d_Fra_init_47 : decode b_Fra_init 47 = .ok (.getfield 27, 3) := by decide +kernel
theorem d_Fra_init_50 : decode b_Fra_init 50 = .ok (.iconst 1, 1) := by decide +kernel
theorem d_Fra_init_51 : decode b_Fra_init 51 = .ok (.iadd, 1) := by decide +kernel
theorem d_Fra_init_52 : decode b_Fra_init 52 = .ok (.putfield 27, 3) := by decide +kernel
theorem d_Fra_init_55 : decode b_Fra_init 55 = .ok (.return_, 1) := by decide +kernel
theorem d_Fra_inside_0 : decode b_Fra_inside 0 = .ok (.aload_n 0, 1) := by decide +kernel
theorem d_Fra_inside_1 : decode b_Fra_inside 1 = .ok (.getfield 31, 3) := by decide +kernel
theorem d_Fra_inside_4 : decode b_Fra_inside 4 = .ok (.ifnonnull 15, 3) := by decide +kernel
theorem d_Fra_inside_7 : decode b_Fra_inside 7 = .ok (.aload_n 0, 1) := by decide +kernel
theorem d_Fra_inside_8 : decode b_Fra_inside 8 = .ok (.new 15, 3) := by decide +kernel
theorem d_Fra_inside_11 : decode b_Fra_inside 11 = .ok (.dup, 1) := by decide +kernel
theorem d_Fra_inside_12 : decode b_Fra_inside 12 = .ok (.aload_n 0, 1) := by decide +kernel
theorem d_Fra_inside_13 : decode b_Fra_inside 13 = .ok (.invokespecial 34, 3) := by decide +kernel
theorem d_Fra_inside_16 : decode b_Fra_inside 16 = .ok (.putfield 31, 3) := by decide +kernel
