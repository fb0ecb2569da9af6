theorem d_PF_open_27 : decode b_PF_open 27 = .ok (.aload_n 0, 1) := by decide +kernel
theorem d_PF_open_28 : decode b_PF_open 28 = .ok (.getfield 46, 3) := by decide +kernel
theorem d_PF_open_31 : decode b_PF_open 31 = .ok (.invokespecial 55, 3) := by decide +kernel
theorem d_PF_open_34 : decode b_PF_open 34 = .ok (.putfield 46, 3) := by decide +kernel
theorem d_PF_open_37 : decode b_PF_open 37 = .ok (.iconst 1, 1) := by decide +kernel
theorem d_PF_open_38 : decode b_PF_open 38 = .ok (.ireturn, 1) := by decide +kernel
theorem d_PF_character_0 : decode b_PF_character 0 = .ok (.aload_n 0, 1) := by decide +kernel
theorem d_PF_character_1 : decode b_PF_character 1 = .ok (.getfield 46, 3) := by decide +kernel
theorem d_PF_character_4 : decode b_PF_character 4 = .ok (.ifnull 23, 3) := by decide +kernel
theorem d_PF_character_7 : decode b_PF_character 7 = .ok (.aload_n 0, 1) := by decide +kernel
theorem d_PF_character_8 : decode b_PF_character 8 = .ok (.getfield 46, 3) := by decide +kernel
theorem d_PF_character_11 : decode b_PF_character 11 = .ok (.getfield 58, 3) := by decide +kernel
theorem d_PF_character_14 : decode b_PF_character 14 = .ok (.ifCond .ne 13, 3) := by decide +kernel
theorem d_PF_character_17 : decode b_PF_character 17 = .ok (.aload_n 0, 1) := by decide +kernel
theorem d_PF_character_18 : decode b_PF_character 18 = .ok (.getfield 62, 3) := by decide +kernel
theorem d_PF_character_21 : decode b_PF_character 21 = .ok (.sipush 3000, 3) := by decide +kernel
theorem d_PF_character_24 : decode b_PF_character 24 = .ok (.if_icmp .lt 5, 3) := by decide +kernel
theorem d_PF_character_27 : decode b_PF_character 27 = .ok (.iconst 0, 1) := by decide +kernel
theorem d_PF_character_28 : decode b_PF_character 28 = .ok (.ireturn, 1) := by decide +kernel
theorem d_PF_character_29 : decode b_PF_character 29 = .ok (.iload_n 1, 1) := by decide +kernel
theorem d_PF_character_30 : decode b_PF_character 30 = .ok (.invokestatic 36, 3) := by decide +kernel
theorem d_PF_character_33 : decode b_PF_character 33 = .ok (.ifCond .eq 28, 3) := by decide +kernel
theorem d_PF_character_36 : decode b_PF_character 36 = .ok (.iload_n 2, 1) := by decide +kernel
theorem d_PF_character_37 : decode b_PF_character 37 = .ok (.ifCond .lt 24, 3) := by decide +kernel
theorem d_PF_character_40 : decode b_PF_character 40 = .ok (.iload_n 2, 1) := by decide +kernel
theorem d_PF_character_41 : decode b_PF_character 41 = .ok (.sipush 256, 3) := by decide +kernel
theorem d_PF_character_44 : decode b_PF_character 44 = .ok (.if_icmp .ge 17, 3) := by decide +kernel
theorem d_PF_character_47 : decode b_PF_character 47 = .ok (.iload_n 3, 1) := by decide +kernel
theorem d_PF_character_48 : decode b_PF_character 48 = .ok (.i2l, 1) := by decide +kernel
theorem d_PF_character_49 : decode b_PF_character 49 = .ok (.iload 4, 2) := by decide +kernel
theorem d_PF_character_51 : decode b_PF_character 51 = .ok (.i2l, 1) := by decide +kernel
theorem d_PF_character_52 : decode b_PF_character 52 = .ok (.iload 5, 2) := by decide +kernel
theorem d_PF_character_54 : decode b_PF_character 54 = .ok (.i2l, 1) := by decide +kernel
theorem d_PF_character_55 : decode b_PF_character 55 = .ok (.invokestatic 65, 3) := by decide +kernel
theorem d_PF_character_58 : decode b_PF_character 58 = .ok (.ifCond .ne 5, 3) := by decide +kernel
theorem d_PF_character_61 : decode b_PF_character 61 = .ok (.iconst 0, 1) := by decide +kernel
theorem d_PF_character_62 : decode b_PF_character 62 = .ok (.ireturn, 1) := by decide +kernel
theorem d_PF_character_63 : decode b_PF_character 63 = .ok (.new 69, 3) := by decide +kernel
theorem d_PF_character_66 : decode b_PF_character 66 = .ok (.dup, 1) := by decide +kernel
theorem d_PF_character_67 : decode b_PF_character 67 = .ok (.iconst 0, 1) := by decide +kernel
theorem d_PF_character_68 : decode b_PF_character 68 = .ok (.iload_n 3, 1) := by decide +kernel
theorem d_PF_character_69 : decode b_PF_character 69 = .ok (.iload 4, 2) := by decide +kernel
theorem d_PF_character_71 : decode b_PF_character 71 = .ok (.iload 5, 2) := by decide +kernel
theorem d_PF_character_73 : decode b_PF_character 73 = .ok (.invokespecial 71, 3) := by decide +kernel
theorem d_PF_character_76 : decode b_PF_character 76 = .ok (.astore 6, 2) := by decide +kernel
theorem d_PF_character_78 : decode b_PF_character 78 = .ok (.aload 6, 2) := by decide +kernel
theorem d_PF_character_80 : decode b_PF_character 80 = .ok (.iload_n 1, 1) := by decide +kernel
theorem d_PF_character_81 : decode b_PF_character 81 = .ok (.putfield 74, 3) := by decide +kernel
theorem d_PF_character_84 : decode b_PF_character 84 = .ok (.aload 6, 2) := by decide +kernel
theorem d_PF_character_86 : decode b_PF_character 86 = .ok (.iload_n 2, 1) := by decide +kernel
theorem d_PF_character_87 : decode b_PF_character 87 = .ok (.putfield 77, 3) := by decide +kernel
theorem d_PF_character_90 : decode b_PF_character 90 = .ok (.aload_n 0, 1) := by decide +kernel
theorem d_PF_character_91 : decode b_PF_character 91 = .ok (.getfield 46, 3) := by decide +kernel
theorem d_PF_character_94 : decode b_PF_character 94 = .ok (.aload 6, 2) := by decide +kernel
theorem d_PF_character_96 : decode b_PF_character 96 = .ok (.invokevirtual 80, 3) := by decide +kernel
theorem d_PF_character_99 : decode b_PF_character 99 = .ok (.aload_n 0, 1) := by decide +kernel
theorem d_PF_character_100 : decode b_PF_character 100 = .ok (.dup, 1) := by decide +kernel
theorem d_PF_character_101 : decode b_PF_character 101 = .ok (.getfield 62, 3) := by decide +kernel
theorem d_PF_character_104 : decode b_PF_character 104 = .ok (.iconst 1, 1) := by decide +kernel
theorem d_PF_character_105 : decode b_PF_character 105 = .ok (.iadd, 1) := by decide +kernel
theorem d_PF_character_106 : decode b_PF_character 106 = .ok (.putfield 62, 3) := by decide +kernel
theorem d_PF_character_109 : decode b_PF_character 109 = .ok (.iconst 1, 1) := by decide +kernel
theorem d_PF_character_110 : decode b_PF_character 110 = .ok (.ireturn, 1) := by decide +kernel
theorem d_PF_rule_0 : decode b_PF_rule 0 = .ok (.aload_n 0, 1) := by decide +kernel
theorem d_PF_rule_1 : decode b_PF_rule 1 = .ok (.getfield 46, 3) := by decide +kernel
theorem d_PF_rule_4 : decode b_PF_rule 4 = .ok (.ifnull 25, 3) := by decide +kernel
theorem d_PF_rule_7 : decode b_PF_rule 7 = .ok (.aload_n 0, 1) := by decide +kernel
theorem d_PF_rule_8 : decode b_PF_rule 8 = .ok (.getfield 62, 3) := by decide +kernel
theorem d_PF_rule_11 : decode b_PF_rule 11 = .ok (.sipush 3000, 3) := by decide +kernel
theorem d_PF_rule_14 : decode b_PF_rule 14 = .ok (.if_icmp .ge 15, 3) := by decide +kernel
theorem d_PF_rule_17 : decode b_PF_rule 17 = .ok (.iload_n 1, 1) := by decide +kernel
theorem d_PF_rule_18 : decode b_PF_rule 18 = .ok (.i2l, 1) := by decide +kernel
theorem d_PF_rule_19 : decode b_PF_rule 19 = .ok (.iload_n 2, 1) := by decide +kernel
theorem d_PF_rule_20 : decode b_PF_rule 20 = .ok (.i2l, 1) := by decide +kernel
theorem d_PF_rule_21 : decode b_PF_rule 21 = .ok (.iload_n 3, 1) := by decide +kernel
theorem d_PF_rule_22 : decode b_PF_rule 22 = .ok (.i2l, 1) := by decide +kernel
theorem d_PF_rule_23 : decode b_PF_rule 23 = .ok (.invokestatic 65, 3) := by decide +kernel
theorem d_PF_rule_26 : decode b_PF_rule 26 = .ok (.ifCond .ne 5, 3) := by decide +kernel
theorem d_PF_rule_29 : decode b_PF_rule 29 = .ok (.iconst 0, 1) := by decide +kernel
theorem d_PF_rule_30 : decode b_PF_rule 30 = .ok (.ireturn, 1) := by decide +kernel
theorem d_PF_rule_31 : decode b_PF_rule 31 = .ok (.aload_n 0, 1) := by decide +kernel
theorem d_PF_rule_32 : decode b_PF_rule 32 = .ok (.getfield 46, 3) := by decide +kernel
theorem d_PF_rule_35 : decode b_PF_rule 35 = .ok (.getfield 58, 3) := by decide +kernel
theorem d_PF_rule_38 : decode b_PF_rule 38 = .ok (.ifCond .eq 7, 3) := by decide +kernel
theorem d_PF_rule_41 : decode b_PF_rule 41 = .ok (.iconst 1, 1) := by decide +kernel
theorem d_PF_rule_42 : decode b_PF_rule 42 = .ok (.goto 5, 3) := by decide +kernel
theorem d_PF_rule_45 : decode b_PF_rule 45 = .ok (.bipush 6, 2) := by decide +kernel
theorem d_PF_rule_47 : decode b_PF_rule 47 = .ok (.istore 5, 2) := by decide +kernel
theorem d_PF_rule_49 : decode b_PF_rule 49 = .ok (.iload 4, 2) := by decide +kernel
theorem d_PF_rule_51 : decode b_PF_rule 51 = .ok (.iload 5, 2) := by decide +kernel
theorem d_PF_rule_53 : decode b_PF_rule 53 = .ok (.iconst (-1), 1) := by decide +kernel
theorem d_PF_rule_54 : decode b_PF_rule 54 = .ok (.ixor, 1) := by decide +kernel
theorem d_PF_rule_55 : decode b_PF_rule 55 = .ok (.iand, 1) := by decide +kernel
theorem d_PF_rule_56 : decode b_PF_rule 56 = .ok (.ifCond .eq 5, 3) := by decide +kernel
theorem d_PF_rule_59 : decode b_PF_rule 59 = .ok (.iconst 0, 1) := by decide +kernel
theorem d_PF_rule_60 : decode b_PF_rule 60 = .ok (.ireturn, 1) := by decide +kernel
theorem d_PF_rule_61 : decode b_PF_rule 61 = .ok (.new 69, 3) := by decide +kernel
theorem d_PF_rule_64 : decode b_PF_rule 64 = .ok (.dup, 1) := by decide +kernel
theorem d_PF_rule_65 : decode b_PF_rule 65 = .ok (.iconst 1, 1) := by decide +kernel
theorem d_PF_rule_66 : decode b_PF_rule 66 = .ok (.iload 4, 2) := by decide +kernel
theorem d_PF_rule_68 : decode b_PF_rule 68 = .ok (.iconst 1, 1) := by decide +kernel
theorem d_PF_rule_69 : decode b_PF_rule 69 = .ok (.iand, 1) := by decide +kernel
theorem d_PF_rule_70 : decode b_PF_rule 70 = .ok (.ifCond .eq 7, 3) := by decide +kernel
theorem d_PF_rule_73 : decode b_PF_rule 73 = .ok (.iconst 0, 1) := by decide +kernel
theorem d_PF_rule_74 : decode b_PF_rule 74 = .ok (.goto 4, 3) := by decide +kernel
theorem d_PF_rule_77 : decode b_PF_rule 77 = .ok (.iload_n 1, 1) := by decide +kernel
theorem d_PF_rule_78 : decode b_PF_rule 78 = .ok (.iload 4, 2) := by decide +kernel
theorem d_PF_rule_80 : decode b_PF_rule 80 = .ok (.iconst 2, 1) := by decide +kernel
theorem d_PF_rule_81 : decode b_PF_rule 81 = .ok (.iand, 1) := by decide +kernel
theorem d_PF_rule_82 : decode b_PF_rule 82 = .ok (.ifCond .eq 7, 3) := by decide +kernel
theorem d_PF_rule_85 : decode b_PF_rule 85 = .ok (.iconst 0, 1) := by decide +kernel
theorem d_PF_rule_86 : decode b_PF_rule 86 = .ok (.goto 4, 3) := by decide +kernel
theorem d_PF_rule_89 : decode b_PF_rule 89 = .ok (.iload_n 2, 1) := by decide +kernel
theorem d_PF_rule_90 : decode b_PF_rule 90 = .ok (.iload 4, 2) := by decide +kernel
theorem d_PF_rule_92 : decode b_PF_rule 92 = .ok (.iconst 4, 1) := by decide +kernel
theorem d_PF_rule_93 : decode b_PF_rule 93 = .ok (.iand, 1) := by decide +kernel
theorem d_PF_rule_94 : decode b_PF_rule 94 = .ok (.ifCond .eq 7, 3) := by decide +kernel
theorem d_PF_rule_97 : decode b_PF_rule 97 = .ok (.iconst 0, 1) := by decide +kernel
theorem d_PF_rule_98 : decode b_PF_rule 98 = .ok (.goto 4, 3) := by decide +kernel
theorem d_PF_rule_101 : decode b_PF_rule 101 = .ok (.iload_n 3, 1) := by decide +kernel
theorem d_PF_rule_102 : decode b_PF_rule 102 = .ok (.invokespecial 71, 3) := by decide +kernel
theorem d_PF_rule_105 : decode b_PF_rule 105 = .ok (.astore 6, 2) := by decide +kernel
theorem d_PF_rule_107 : decode b_PF_rule 107 = .ok (.aload 6, 2) := by decide +kernel
theorem d_PF_rule_109 : decode b_PF_rule 109 = .ok (.iload 4, 2) := by decide +kernel
theorem d_PF_rule_111 : decode b_PF_rule 111 = .ok (.putfield 84, 3) := by decide +kernel
theorem d_PF_rule_114 : decode b_PF_rule 114 = .ok (.aload_n 0, 1) := by decide +kernel
theorem d_PF_rule_115 : decode b_PF_rule 115 = .ok (.getfield 46, 3) := by decide +kernel
theorem d_PF_rule_118 : decode b_PF_rule 118 = .ok (.aload 6, 2) := by decide +kernel
theorem d_PF_rule_120 : decode b_PF_rule 120 = .ok (.invokevirtual 80, 3) := by decide +kernel
theorem d_PF_rule_123 : decode b_PF_rule 123 = .ok (.aload_n 0, 1) := by decide +kernel
theorem d_PF_rule_124 : decode b_PF_rule 124 = .ok (.dup, 1) := by decide +kernel
theorem d_PF_rule_125 : decode b_PF_rule 125 = .ok (.getfield 62, 3) := by decide +kernel
theorem d_PF_rule_128 : decode b_PF_rule 128 = .ok (.iconst 1, 1) := by decide +kernel
theorem d_PF_rule_129 : decode b_PF_rule 129 = .ok (.iadd, 1) := by decide +kernel
theorem d_PF_rule_130 : decode b_PF_rule 130 = .ok (.putfield 62, 3) := by decide +kernel
theorem d_PF_rule_133 : decode b_PF_rule 133 = .ok (.iconst 1, 1) := by decide +kernel
theorem d_PF_rule_134 : decode b_PF_rule 134 = .ok (.ireturn, 1) := by decide +kernel
theorem d_PF_space_0 : decode b_PF_space 0 = .ok (.aload_n 0, 1) := by decide +kernel
theorem d_PF_space_1 : decode b_PF_space 1 = .ok (.getfield 46, 3) := by decide +kernel
theorem d_PF_space_4 : decode b_PF_space 4 = .ok (.ifnull 21, 3) := by decide +kernel
theorem d_PF_space_7 : decode b_PF_space 7 = .ok (.aload_n 0, 1) := by decide +kernel
theorem d_PF_space_8 : decode b_PF_space 8 = .ok (.getfield 62, 3) := by decide +kernel
theorem d_PF_space_11 : decode b_PF_space 11 = .ok (.sipush 3000, 3) := by decide +kernel
theorem d_PF_space_14 : decode b_PF_space 14 = .ok (.if_icmp .ge 11, 3) := by decide +kernel
theorem d_PF_space_17 : decode b_PF_space 17 = .ok (.iload_n 1, 1) := by decide +kernel
theorem d_PF_space_18 : decode b_PF_space 18 = .ok (.i2l, 1) := by decide +kernel
theorem d_PF_space_19 : decode b_PF_space 19 = .ok (.invokestatic 87, 3) := by decide +kernel
theorem d_PF_space_22 : decode b_PF_space 22 = .ok (.ifCond .ne 5, 3) := by decide +kernel
theorem d_PF_space_25 : decode b_PF_space 25 = .ok (.iconst 0, 1) := by decide +kernel
theorem d_PF_space_26 : decode b_PF_space 26 = .ok (.ireturn, 1) := by decide +kernel
theorem d_PF_space_27 : decode b_PF_space 27 = .ok (.aload_n 0, 1) := by decide +kernel
theorem d_PF_space_28 : decode b_PF_space 28 = .ok (.getfield 46, 3) := by decide +kernel
theorem d_PF_space_31 : decode b_PF_space 31 = .ok (.new 69, 3) := by decide +kernel
theorem d_PF_space_34 : decode b_PF_space 34 = .ok (.dup, 1) := by decide +kernel
theorem d_PF_space_35 : decode b_PF_space 35 = .ok (.iconst 2, 1) := by decide +kernel
theorem d_PF_space_36 : decode b_PF_space 36 = .ok (.iload_n 1, 1) := by decide +kernel
theorem d_PF_space_37 : decode b_PF_space 37 = .ok (.iconst 0, 1) := by decide +kernel
theorem d_PF_space_38 : decode b_PF_space 38 = .ok (.iconst 0, 1) := by decide +kernel
theorem d_PF_space_39 : decode b_PF_space 39 = .ok (.invokespecial 71, 3) := by decide +kernel
theorem d_PF_space_42 : decode b_PF_space 42 = .ok (.invokevirtual 80, 3) := by decide +kernel
theorem d_PF_space_45 : decode b_PF_space 45 = .ok (.aload_n 0, 1) := by decide +kernel
theorem d_PF_space_46 : decode b_PF_space 46 = .ok (.dup, 1) := by decide +kernel
theorem d_PF_space_47 : decode b_PF_space 47 = .ok (.getfield 62, 3) := by decide +kernel
theorem d_PF_space_50 : decode b_PF_space 50 = .ok (.iconst 1, 1) := by decide +kernel
theorem d_PF_space_51 : decode b_PF_space 51 = .ok (.iadd, 1) := by decide +kernel
theorem d_PF_space_52 : decode b_PF_space 52 = .ok (.putfield 62, 3) := by decide +kernel
theorem d_PF_space_55 : decode b_PF_space 55 = .ok (.iconst 1, 1) := by decide +kernel
theorem d_PF_space_56 : decode b_PF_space 56 = .ok (.ireturn, 1) := by decide +kernel
theorem d_PF_close_0 : decode b_PF_close 0 = .ok (.aload_n 0, 1) := by decide +kernel
theorem d_PF_close_1 : decode b_PF_close 1 = .ok (.getfield 46, 3) := by decide +kernel
theorem d_PF_close_4 : decode b_PF_close 4 = .ok (.ifnull 20, 3) := by decide +kernel
theorem d_PF_close_7 : decode b_PF_close 7 = .ok (.iload_n 1, 1) := by decide +kernel
theorem d_PF_close_8 : decode b_PF_close 8 = .ok (.invokestatic 91, 3) := by decide +kernel
theorem d_PF_close_11 : decode b_PF_close 11 = .ok (.ifCond .eq 13, 3) := by decide +kernel
theorem d_PF_close_14 : decode b_PF_close 14 = .ok (.aload_n 0, 1) := by decide +kernel
theorem d_PF_close_15 : decode b_PF_close 15 = .ok (.getfield 62, 3) := by decide +kernel
theorem d_PF_close_18 : decode b_PF_close 18 = .ok (.sipush 3000, 3) := by decide +kernel
theorem d_PF_close_21 : decode b_PF_close 21 = .ok (.if_icmp .lt 5, 3) := by decide +kernel
theorem d_PF_close_24 : decode b_PF_close 24 = .ok (.iconst 0, 1) := by decide +kernel
theorem d_PF_close_25 : decode b_PF_close 25 = .ok (.ireturn, 1) := by decide +kernel
theorem d_PF_close_26 : decode b_PF_close 26 = .ok (.aload_n 0, 1) := by decide +kernel
theorem d_PF_close_27 : decode b_PF_close 27 = .ok (.getfield 46, 3) := by decide +kernel
theorem d_PF_close_30 : decode b_PF_close 30 = .ok (.invokevirtual 94, 3) := by decide +kernel
theorem d_PF_close_33 : decode b_PF_close 33 = .ok (.astore_n 2, 1) := by decide +kernel
theorem d_PF_close_34 : decode b_PF_close 34 = .ok (.aload_n 2, 1) := by decide +kernel
theorem d_PF_close_35 : decode b_PF_close 35 = .ok (.ifnonnull 5, 3) := by decide +kernel
theorem d_PF_close_38 : decode b_PF_close 38 = .ok (.iconst 0, 1) := by decide +kernel
theorem d_PF_close_39 : decode b_PF_close 39 = .ok (.ireturn, 1) := by decide +kernel
theorem d_PF_close_40 : decode b_PF_close 40 = .ok (.aload_n 0, 1) := by decide +kernel
theorem d_PF_close_41 : decode b_PF_close 41 = .ok (.aload_n 0, 1) := by decide +kernel
theorem d_PF_close_42 : decode b_PF_close 42 = .ok (.getfield 46, 3) := by decide +kernel
theorem d_PF_close_45 : decode b_PF_close 45 = .ok (.getfield 98, 3) := by decide +kernel
theorem d_PF_close_48 : decode b_PF_close 48 = .ok (.putfield 46, 3) := by decide +kernel
theorem d_PF_close_51 : decode b_PF_close 51 = .ok (.aload_n 0, 1) := by decide +kernel
theorem d_PF_close_52 : decode b_PF_close 52 = .ok (.dup, 1) := by decide +kernel
theorem d_PF_close_53 : decode b_PF_close 53 = .ok (.getfield 62, 3) := by decide +kernel
theorem d_PF_close_56 : decode b_PF_close 56 = .ok (.iconst 1, 1) := by decide +kernel
theorem d_PF_close_57 : decode b_PF_close 57 = .ok (.iadd, 1) := by decide +kernel
theorem d_PF_close_58 : decode b_PF_close 58 = .ok (.putfield 62, 3) := by decide +kernel
theorem d_PF_close_61 : decode b_PF_close 61 = .ok (.aload_n 0, 1) := by decide +kernel
theorem d_PF_close_62 : decode b_PF_close 62 = .ok (.iload_n 1, 1) := by decide +kernel
theorem d_PF_close_63 : decode b_PF_close 63 = .ok (.invokevirtual 101, 3) := by decide +kernel
theorem d_PF_close_66 : decode b_PF_close 66 = .ok (.aload_n 0, 1) := by decide +kernel
theorem d_PF_close_67 : decode b_PF_close 67 = .ok (.getfield 11, 3) := by decide +kernel
theorem d_PF_close_70 : decode b_PF_close 70 = .ok (.iload_n 1, 1) := by decide +kernel
theorem d_PF_close_71 : decode b_PF_close 71 = .ok (.aload_n 2, 1) := by decide +kernel
theorem d_PF_close_72 : decode b_PF_close 72 = .ok (.aastore, 1) := by decide +kernel
theorem d_PF_close_73 : decode b_PF_close 73 = .ok (.iconst 1, 1) := by decide +kernel
theorem d_PF_close_74 : decode b_PF_close 74 = .ok (.ireturn, 1) := by decide +kernel
theorem d_PF_put_0 : decode b_PF_put 0 = .ok (.aload_n 0, 1) := by decide +kernel
theorem d_PF_put_1 : decode b_PF_put 1 = .ok (.iload_n 1, 1) := by decide +kernel
theorem d_PF_put_2 : decode b_PF_put 2 = .ok (.invokevirtual 105, 3) := by decide +kernel
theorem d_PF_put_5 : decode b_PF_put 5 = .ok (.astore 4, 2) := by decide +kernel
theorem d_PF_put_7 : decode b_PF_put 7 = .ok (.aload_n 0, 1) := by decide +kernel
theorem d_PF_put_8 : decode b_PF_put 8 = .ok (.getfield 46, 3) := by decide +kernel
theorem d_PF_put_11 : decode b_PF_put 11 = .ok (.ifnull 16, 3) := by decide +kernel
theorem d_PF_put_14 : decode b_PF_put 14 = .ok (.aload 4, 2) := by decide +kernel
theorem d_PF_put_16 : decode b_PF_put 16 = .ok (.ifnull 11, 3) := by decide +kernel
theorem d_PF_put_19 : decode b_PF_put 19 = .ok (.iload_n 2, 1) := by decide +kernel
theorem d_PF_put_20 : decode b_PF_put 20 = .ok (.i2l, 1) := by decide +kernel
theorem d_PF_put_21 : decode b_PF_put 21 = .ok (.invokestatic 87, 3) := by decide +kernel
theorem d_PF_put_24 : decode b_PF_put 24 = .ok (.ifCond .ne 5, 3) := by decide +kernel
theorem d_PF_put_27 : decode b_PF_put 27 = .ok (.iconst 0, 1) := by decide +kernel
theorem d_PF_put_28 : decode b_PF_put 28 = .ok (.ireturn, 1) := by decide +kernel
theorem d_PF_put_29 : decode b_PF_put 29 = .ok (.iload_n 3, 1) := by decide +kernel
theorem d_PF_put_30 : decode b_PF_put 30 = .ok (.ifCond .eq 21, 3) := by decide +kernel
theorem d_PF_put_33 : decode b_PF_put 33 = .ok (.aload_n 0, 1) := by decide +kernel
theorem d_PF_put_34 : decode b_PF_put 34 = .ok (.getfield 62, 3) := by decide +kernel
theorem d_PF_put_37 : decode b_PF_put 37 = .ok (.aload 4, 2) := by decide +kernel
theorem d_PF_put_39 : decode b_PF_put 39 = .ok (.getfield 109, 3) := by decide +kernel
theorem d_PF_put_42 : decode b_PF_put 42 = .ok (.iadd, 1) := by decide +kernel
theorem d_PF_put_43 : decode b_PF_put 43 = .ok (.sipush 3000, 3) := by decide +kernel
theorem d_PF_put_46 : decode b_PF_put 46 = .ok (.if_icmp .le 5, 3) := by decide +kernel
theorem d_PF_put_49 : decode b_PF_put 49 = .ok (.iconst 0, 1) := by decide +kernel
theorem d_PF_put_50 : decode b_PF_put 50 = .ok (.ireturn, 1) := by decide +kernel
theorem d_PF_put_51 : decode b_PF_put 51 = .ok (.iload_n 3, 1) := by decide +kernel
theorem d_PF_put_52 : decode b_PF_put 52 = .ok (.ifCond .ne 8, 3) := by decide +kernel
theorem d_PF_put_55 : decode b_PF_put 55 = .ok (.aload_n 0, 1) := by decide +kernel
theorem d_PF_put_56 : decode b_PF_put 56 = .ok (.iload_n 1, 1) := by decide +kernel
theorem d_PF_put_57 : decode b_PF_put 57 = .ok (.invokevirtual 101, 3) := by decide +kernel
theorem d_PF_put_60 : decode b_PF_put 60 = .ok (.new 69, 3) := by decide +kernel
theorem d_PF_put_63 : decode b_PF_put 63 = .ok (.dup, 1) := by decide +kernel
theorem d_PF_put_64 : decode b_PF_put 64 = .ok (.iconst 3, 1) := by decide +kernel
theorem d_PF_put_65 : decode b_PF_put 65 = .ok (.aload 4, 2) := by decide +kernel
theorem d_PF_put_67 : decode b_PF_put 67 = .ok (.getfield 110, 3) := by decide +kernel
theorem d_PF_put_70 : decode b_PF_put 70 = .ok (.aload 4, 2) := by decide +kernel
theorem d_PF_put_72 : decode b_PF_put 72 = .ok (.getfield 113, 3) := by decide +kernel
theorem d_PF_put_75 : decode b_PF_put 75 = .ok (.aload 4, 2) := by decide +kernel
theorem d_PF_put_77 : decode b_PF_put 77 = .ok (.getfield 116, 3) := by decide +kernel
theorem d_PF_put_80 : decode b_PF_put 80 = .ok (.invokespecial 71, 3) := by decide +kernel
theorem d_PF_put_83 : decode b_PF_put 83 = .ok (.astore 5, 2) := by decide +kernel
theorem d_PF_put_85 : decode b_PF_put 85 = .ok (.aload 5, 2) := by decide +kernel
theorem d_PF_put_87 : decode b_PF_put 87 = .ok (.aload 4, 2) := by decide +kernel
theorem d_PF_put_89 : decode b_PF_put 89 = .ok (.putfield 119, 3) := by decide +kernel
theorem d_PF_put_92 : decode b_PF_put 92 = .ok (.aload 5, 2) := by decide +kernel
theorem d_PF_put_94 : decode b_PF_put 94 = .ok (.iload_n 2, 1) := by decide +kernel
theorem d_PF_put_95 : decode b_PF_put 95 = .ok (.putfield 123, 3) := by decide +kernel
theorem d_PF_put_98 : decode b_PF_put 98 = .ok (.aload_n 0, 1) := by decide +kernel
theorem d_PF_put_99 : decode b_PF_put 99 = .ok (.getfield 46, 3) := by decide +kernel
theorem d_PF_put_102 : decode b_PF_put 102 = .ok (.aload 5, 2) := by decide +kernel
theorem d_PF_put_104 : decode b_PF_put 104 = .ok (.invokevirtual 80, 3) := by decide +kernel
theorem d_PF_put_107 : decode b_PF_put 107 = .ok (.aload_n 0, 1) := by decide +kernel
theorem d_PF_put_108 : decode b_PF_put 108 = .ok (.dup, 1) := by decide +kernel
theorem d_PF_put_109 : decode b_PF_put 109 = .ok (.getfield 62, 3) := by decide +kernel
theorem d_PF_put_112 : decode b_PF_put 112 = .ok (.aload 4, 2) := by decide +kernel
theorem d_PF_put_114 : decode b_PF_put 114 = .ok (.getfield 109, 3) := by decide +kernel
theorem d_PF_put_117 : decode b_PF_put 117 = .ok (.iadd, 1) := by decide +kernel
theorem d_PF_put_118 : decode b_PF_put 118 = .ok (.putfield 62, 3) := by decide +kernel
theorem d_PF_put_121 : decode b_PF_put 121 = .ok (.iconst 1, 1) := by decide +kernel
theorem d_PF_put_122 : decode b_PF_put 122 = .ok (.ireturn, 1) := by decide +kernel
theorem d_PF_ship_0 : decode b_PF_ship 0 = .ok (.aload_n 0, 1) := by decide +kernel
theorem d_PF_ship_1 : decode b_PF_ship 1 = .ok (.iload_n 1, 1) := by decide +kernel
theorem d_PF_ship_2 : decode b_PF_ship 2 = .ok (.invokevirtual 105, 3) := by decide +kernel
theorem d_PF_ship_5 : decode b_PF_ship 5 = .ok (.astore_n 2, 1) := by decide +kernel
theorem d_PF_ship_6 : decode b_PF_ship 6 = .ok (.aload_n 0, 1) := by decide +kernel
theorem d_PF_ship_7 : decode b_PF_ship 7 = .ok (.getfield 126, 3) := by decide +kernel
theorem d_PF_ship_10 : decode b_PF_ship 10 = .ok (.ifCond .ne 7, 3) := by decide +kernel
theorem d_PF_ship_13 : decode b_PF_ship 13 = .ok (.aload_n 2, 1) := by decide +kernel
theorem d_PF_ship_14 : decode b_PF_ship 14 = .ok (.ifnonnull 13, 3) := by decide +kernel
theorem d_PF_ship_17 : decode b_PF_ship 17 = .ok (.new 129, 3) := by decide +kernel
theorem d_PF_ship_20 : decode b_PF_ship 20 = .ok (.dup, 1) := by decide +kernel
theorem d_PF_ship_21 : decode b_PF_ship 21 = .ok (.ldc 131, 2) := by decide +kernel
theorem d_PF_ship_23 : decode b_PF_ship 23 = .ok (.invokespecial 133, 3) := by decide +kernel
theorem d_PF_ship_26 : decode b_PF_ship 26 = .ok (.athrow, 1) := by decide +kernel
theorem d_PF_ship_27 : decode b_PF_ship 27 = .ok (.aload_n 0, 1) := by decide +kernel
theorem d_PF_ship_28 : decode b_PF_ship 28 = .ok (.getfield 26, 3) := by decide +kernel
theorem d_PF_ship_31 : decode b_PF_ship 31 = .ok (.getfield 136, 3) := by decide +kernel
theorem d_PF_ship_34 : decode b_PF_ship 34 = .ok (.ldc 141, 2) := by decide +kernel
theorem d_PF_ship_36 : decode b_PF_ship 36 = .ok (.if_icmp .lt 13, 3) := by decide +kernel
theorem d_PF_ship_39 : decode b_PF_ship 39 = .ok (.new 142, 3) := by decide +kernel
theorem d_PF_ship_42 : decode b_PF_ship 42 = .ok (.dup, 1) := by decide +kernel
theorem d_PF_ship_43 : decode b_PF_ship 43 = .ok (.ldc 144, 2) := by decide +kernel
theorem d_PF_ship_45 : decode b_PF_ship 45 = .ok (.invokespecial 146, 3) := by decide +kernel
theorem d_PF_ship_48 : decode b_PF_ship 48 = .ok (.athrow, 1) := by decide +kernel
theorem d_PF_ship_49 : decode b_PF_ship 49 = .ok (.aload_n 0, 1) := by decide +kernel
theorem d_PF_ship_50 : decode b_PF_ship 50 = .ok (.iload_n 1, 1) := by decide +kernel
theorem d_PF_ship_51 : decode b_PF_ship 51 = .ok (.invokevirtual 101, 3) := by decide +kernel
theorem d_PF_ship_54 : decode b_PF_ship 54 = .ok (.aload_n 0, 1) := by decide +kernel
theorem d_PF_ship_55 : decode b_PF_ship 55 = .ok (.aload_n 2, 1) := by decide +kernel
theorem d_PF_ship_56 : decode b_PF_ship 56 = .ok (.invokevirtual 147, 3) := by decide +kernel
theorem d_PF_ship_59 : decode b_PF_ship 59 = .ok (.ifCond .ne 13, 3) := by decide +kernel
theorem d_PF_ship_62 : decode b_PF_ship 62 = .ok (.new 142, 3) := by decide +kernel
theorem d_PF_ship_65 : decode b_PF_ship 65 = .ok (.dup, 1) := by decide +kernel
theorem d_PF_ship_66 : decode b_PF_ship 66 = .ok (.ldc 151, 2) := by decide +kernel
theorem d_PF_ship_68 : decode b_PF_ship 68 = .ok (.invokespecial 146, 3) := by decide +kernel
theorem d_PF_ship_71 : decode b_PF_ship 71 = .ok (.athrow, 1) := by decide +kernel
theorem d_PF_ship_72 : decode b_PF_ship 72 = .ok (.aload_n 0, 1) := by decide +kernel
theorem d_PF_ship_73 : decode b_PF_ship 73 = .ok (.getfield 26, 3) := by decide +kernel
theorem d_PF_ship_76 : decode b_PF_ship 76 = .ok (.getfield 136, 3) := by decide +kernel
theorem d_PF_ship_79 : decode b_PF_ship 79 = .ok (.ireturn, 1) := by decide +kernel
theorem d_PF_finish_0 : decode b_PF_finish 0 = .ok (.aload_n 0, 1) := by decide +kernel
theorem d_PF_finish_1 : decode b_PF_finish 1 = .ok (.getfield 126, 3) := by decide +kernel
theorem d_PF_finish_4 : decode b_PF_finish 4 = .ok (.ifCond .eq 13, 3) := by decide +kernel
theorem d_PF_finish_7 : decode b_PF_finish 7 = .ok (.new 129, 3) := by decide +kernel
theorem d_PF_finish_10 : decode b_PF_finish 10 = .ok (.dup, 1) := by decide +kernel
theorem d_PF_finish_11 : decode b_PF_finish 11 = .ok (.ldc 153, 2) := by decide +kernel
theorem d_PF_finish_13 : decode b_PF_finish 13 = .ok (.invokespecial 133, 3) := by decide +kernel
theorem d_PF_finish_16 : decode b_PF_finish 16 = .ok (.athrow, 1) := by decide +kernel
theorem d_PF_finish_17 : decode b_PF_finish 17 = .ok (.aload_n 0, 1) := by decide +kernel
theorem d_PF_finish_18 : decode b_PF_finish 18 = .ok (.invokevirtual 155, 3) := by decide +kernel
theorem d_PF_finish_21 : decode b_PF_finish 21 = .ok (.aload_n 0, 1) := by decide +kernel
theorem d_PF_finish_22 : decode b_PF_finish 22 = .ok (.getfield 26, 3) := by decide +kernel
theorem d_PF_finish_25 : decode b_PF_finish 25 = .ok (.getfield 136, 3) := by decide +kernel
theorem d_PF_finish_28 : decode b_PF_finish 28 = .ok (.istore_n 1, 1) := by decide +kernel
theorem d_PF_finish_29 : decode b_PF_finish 29 = .ok (.aload_n 0, 1) := by decide +kernel
theorem d_PF_finish_30 : decode b_PF_finish 30 = .ok (.getfield 26, 3) := by decide +kernel
theorem d_PF_finish_33 : decode b_PF_finish 33 = .ok (.sipush 248, 3) := by decide +kernel
theorem d_PF_finish_36 : decode b_PF_finish 36 = .ok (.iconst 1, 1) := by decide +kernel
theorem d_PF_finish_37 : decode b_PF_finish 37 = .ok (.invokevirtual 158, 3) := by decide +kernel
theorem d_PF_finish_40 : decode b_PF_finish 40 = .ok (.aload_n 0, 1) := by decide +kernel
theorem d_PF_finish_41 : decode b_PF_finish 41 = .ok (.getfield 26, 3) := by decide +kernel
theorem d_PF_finish_44 : decode b_PF_finish 44 = .ok (.aload_n 0, 1) := by decide +kernel
theorem d_PF_finish_45 : decode b_PF_finish 45 = .ok (.getfield 32, 3) := by decide +kernel
theorem d_PF_finish_48 : decode b_PF_finish 48 = .ok (.iconst 4, 1) := by decide +kernel
theorem d_PF_finish_49 : decode b_PF_finish 49 = .ok (.invokevirtual 158, 3) := by decide +kernel
theorem d_PF_finish_52 : decode b_PF_finish 52 = .ok (.aload_n 0, 1) := by decide +kernel
theorem d_PF_finish_53 : decode b_PF_finish 53 = .ok (.invokevirtual 162, 3) := by decide +kernel
theorem d_PF_finish_56 : decode b_PF_finish 56 = .ok (.aload_n 0, 1) := by decide +kernel
theorem d_PF_finish_57 : decode b_PF_finish 57 = .ok (.getfield 26, 3) := by decide +kernel
theorem d_PF_finish_60 : decode b_PF_finish 60 = .ok (.aload_n 0, 1) := by decide +kernel
theorem d_PF_finish_61 : decode b_PF_finish 61 = .ok (.getfield 165, 3) := by decide +kernel
theorem d_PF_finish_64 : decode b_PF_finish 64 = .ok (.iconst 4, 1) := by decide +kernel
theorem d_PF_finish_65 : decode b_PF_finish 65 = .ok (.invokevirtual 158, 3) := by decide +kernel
theorem d_PF_finish_68 : decode b_PF_finish 68 = .ok (.aload_n 0, 1) := by decide +kernel
theorem d_PF_finish_69 : decode b_PF_finish 69 = .ok (.getfield 26, 3) := by decide +kernel
theorem d_PF_finish_72 : decode b_PF_finish 72 = .ok (.aload_n 0, 1) := by decide +kernel
theorem d_PF_finish_73 : decode b_PF_finish 73 = .ok (.getfield 168, 3) := by decide +kernel
theorem d_PF_finish_76 : decode b_PF_finish 76 = .ok (.iconst 4, 1) := by decide +kernel
theorem d_PF_finish_77 : decode b_PF_finish 77 = .ok (.invokevirtual 158, 3) := by decide +kernel
theorem d_PF_finish_80 : decode b_PF_finish 80 = .ok (.aload_n 0, 1) := by decide +kernel
theorem d_PF_finish_81 : decode b_PF_finish 81 = .ok (.getfield 26, 3) := by decide +kernel
theorem d_PF_finish_84 : decode b_PF_finish 84 = .ok (.aload_n 0, 1) := by decide +kernel
theorem d_PF_finish_85 : decode b_PF_finish 85 = .ok (.getfield 171, 3) := by decide +kernel
theorem d_PF_finish_88 : decode b_PF_finish 88 = .ok (.iconst 2, 1) := by decide +kernel
theorem d_PF_finish_89 : decode b_PF_finish 89 = .ok (.invokevirtual 158, 3) := by decide +kernel
theorem d_PF_finish_92 : decode b_PF_finish 92 = .ok (.aload_n 0, 1) := by decide +kernel
theorem d_PF_finish_93 : decode b_PF_finish 93 = .ok (.getfield 26, 3) := by decide +kernel
theorem d_PF_finish_96 : decode b_PF_finish 96 = .ok (.aload_n 0, 1) := by decide +kernel
theorem d_PF_finish_97 : decode b_PF_finish 97 = .ok (.getfield 174, 3) := by decide +kernel
theorem d_PF_finish_100 : decode b_PF_finish 100 = .ok (.iconst 2, 1) := by decide +kernel
theorem d_PF_finish_101 : decode b_PF_finish 101 = .ok (.invokevirtual 158, 3) := by decide +kernel
theorem d_PF_finish_104 : decode b_PF_finish 104 = .ok (.bipush 31, 2) := by decide +kernel
theorem d_PF_finish_106 : decode b_PF_finish 106 = .ok (.istore_n 2, 1) := by decide +kernel
theorem d_PF_finish_107 : decode b_PF_finish 107 = .ok (.iload_n 2, 1) := by decide +kernel
theorem d_PF_finish_108 : decode b_PF_finish 108 = .ok (.ifCond .lt 32, 3) := by decide +kernel
theorem d_PF_finish_111 : decode b_PF_finish 111 = .ok (.aload_n 0, 1) := by decide +kernel
theorem d_PF_finish_112 : decode b_PF_finish 112 = .ok (.getfield 31, 3) := by decide +kernel
theorem d_PF_finish_115 : decode b_PF_finish 115 = .ok (.iload_n 2, 1) := by decide +kernel
theorem d_PF_finish_116 : decode b_PF_finish 116 = .ok (.invokevirtual 177, 3) := by decide +kernel
theorem d_PF_finish_119 : decode b_PF_finish 119 = .ok (.ifCond .eq 15, 3) := by decide +kernel
theorem d_PF_finish_122 : decode b_PF_finish 122 = .ok (.aload_n 0, 1) := by decide +kernel
theorem d_PF_finish_123 : decode b_PF_finish 123 = .ok (.getfield 31, 3) := by decide +kernel
theorem d_PF_finish_126 : decode b_PF_finish 126 = .ok (.iload_n 2, 1) := by decide +kernel
theorem d_PF_finish_127 : decode b_PF_finish 127 = .ok (.aload_n 0, 1) := by decide +kernel
theorem d_PF_finish_128 : decode b_PF_finish 128 = .ok (.getfield 26, 3) := by decide +kernel
theorem d_PF_finish_131 : decode b_PF_finish 131 = .ok (.invokevirtual 180, 3) := by decide +kernel
theorem d_PF_finish_134 : decode b_PF_finish 134 = .ok (.iinc 2 (-1), 3) := by decide +kernel
theorem d_PF_finish_137 : decode b_PF_finish 137 = .ok (.goto (-30), 3) := by decide +kernel
theorem d_PF_finish_140 : decode b_PF_finish 140 = .ok (.aload_n 0, 1) := by decide +kernel
theorem d_PF_finish_141 : decode b_PF_finish 141 = .ok (.getfield 26, 3) := by decide +kernel
theorem d_PF_finish_144 : decode b_PF_finish 144 = .ok (.sipush 249, 3) := by decide +kernel
theorem d_PF_finish_147 : decode b_PF_finish 147 = .ok (.iconst 1, 1) := by decide +kernel
theorem d_PF_finish_148 : decode b_PF_finish 148 = .ok (.invokevirtual 158, 3) := by decide +kernel
theorem d_PF_finish_151 : decode b_PF_finish 151 = .ok (.aload_n 0, 1) := by decide +kernel
theorem d_PF_finish_152 : decode b_PF_finish 152 = .ok (.getfield 26, 3) := by decide +kernel
theorem d_PF_finish_155 : decode b_PF_finish 155 = .ok (.iload_n 1, 1) := by decide +kernel
theorem d_PF_finish_156 : decode b_PF_finish 156 = .ok (.iconst 4, 1) := by decide +kernel
theorem d_PF_finish_157 : decode b_PF_finish 157 = .ok (.invokevirtual 158, 3) := by decide +kernel
theorem d_PF_finish_160 : decode b_PF_finish 160 = .ok (.aload_n 0, 1) := by decide +kernel
theorem d_PF_finish_161 : decode b_PF_finish 161 = .ok (.getfield 26, 3) := by decide +kernel
theorem d_PF_finish_164 : decode b_PF_finish 164 = .ok (.iconst 2, 1) := by decide +kernel
theorem d_PF_finish_165 : decode b_PF_finish 165 = .ok (.iconst 1, 1) := by decide +kernel
theorem d_PF_finish_166 : decode b_PF_finish 166 = .ok (.invokevirtual 158, 3) := by decide +kernel
theorem d_PF_finish_169 : decode b_PF_finish 169 = .ok (.iconst 4, 1) := by decide +kernel
theorem d_PF_finish_170 : decode b_PF_finish 170 = .ok (.iconst 4, 1) := by decide +kernel
theorem d_PF_finish_171 : decode b_PF_finish 171 = .ok (.aload_n 0, 1) := by decide +kernel
theorem d_PF_finish_172 : decode b_PF_finish 172 = .ok (.getfield 26, 3) := by decide +kernel
theorem d_PF_finish_175 : decode b_PF_finish 175 = .ok (.getfield 136, 3) := by decide +kernel
theorem d_PF_finish_178 : decode b_PF_finish 178 = .ok (.iconst 4, 1) := by decide +kernel
theorem d_PF_finish_179 : decode b_PF_finish 179 = .ok (.irem, 1) := by decide +kernel
theorem d_PF_finish_180 : decode b_PF_finish 180 = .ok (.isub, 1) := by decide +kernel
theorem d_PF_finish_181 : decode b_PF_finish 181 = .ok (.iconst 4, 1) := by decide +kernel
theorem d_PF_finish_182 : decode b_PF_finish 182 = .ok (.irem, 1) := by decide +kernel
theorem d_PF_finish_183 : decode b_PF_finish 183 = .ok (.iadd, 1) := by decide +kernel
theorem d_PF_finish_184 : decode b_PF_finish 184 = .ok (.istore_n 2, 1) := by decide +kernel
theorem d_PF_finish_185 : decode b_PF_finish 185 = .ok (.iconst 0, 1) := by decide +kernel
theorem d_PF_finish_186 : decode b_PF_finish 186 = .ok (.istore_n 3, 1) := by decide +kernel
theorem d_PF_finish_187 : decode b_PF_finish 187 = .ok (.iload_n 3, 1) := by decide +kernel
theorem d_PF_finish_188 : decode b_PF_finish 188 = .ok (.iload_n 2, 1) := by decide +kernel
theorem d_PF_finish_189 : decode b_PF_finish 189 = .ok (.if_icmp .ge 20, 3) := by decide +kernel
theorem d_PF_finish_192 : decode b_PF_finish 192 = .ok (.aload_n 0, 1) := by decide +kernel
theorem d_PF_finish_193 : decode b_PF_finish 193 = .ok (.getfield 26, 3) := by decide +kernel
theorem d_PF_finish_196 : decode b_PF_finish 196 = .ok (.sipush 223, 3) := by decide +kernel
theorem d_PF_finish_199 : decode b_PF_finish 199 = .ok (.iconst 1, 1) := by decide +kernel
theorem d_PF_finish_200 : decode b_PF_finish 200 = .ok (.invokevirtual 158, 3) := by decide +kernel
theorem d_PF_finish_203 : decode b_PF_finish 203 = .ok (.iinc 3 1, 3) := by decide +kernel
theorem d_PF_finish_206 : decode b_PF_finish 206 = .ok (.goto (-19), 3) := by decide +kernel
theorem d_PF_finish_209 : decode b_PF_finish 209 = .ok (.aload_n 0, 1) := by decide +kernel
theorem d_PF_finish_210 : decode b_PF_finish 210 = .ok (.iconst 1, 1) := by decide +kernel
theorem d_PF_finish_211 : decode b_PF_finish 211 = .ok (.putfield 126, 3) := by decide +kernel
theorem d_PF_finish_214 : decode b_PF_finish 214 = .ok (.aload_n 0, 1) := by decide +kernel
theorem d_PF_finish_215 : decode b_PF_finish 215 = .ok (.getfield 26, 3) := by decide +kernel
theorem d_PF_finish_218 : decode b_PF_finish 218 = .ok (.getfield 136, 3) := by decide +kernel
theorem d_PF_finish_221 : decode b_PF_finish 221 = .ok (.ireturn, 1) := by decide +kernel
theorem d_PF_byteAt_0 : decode b_PF_byteAt 0 = .ok (.aload_n 0, 1) := by decide +kernel
theorem d_PF_byteAt_1 : decode b_PF_byteAt 1 = .ok (.getfield 26, 3) := by decide +kernel
theorem d_PF_byteAt_4 : decode b_PF_byteAt 4 = .ok (.iload_n 1, 1) := by decide +kernel
theorem d_PF_byteAt_5 : decode b_PF_byteAt 5 = .ok (.invokevirtual 184, 3) := by decide +kernel
theorem d_PF_byteAt_8 : decode b_PF_byteAt 8 = .ok (.ireturn, 1) := by decide +kernel
theorem d_PF_count_0 : decode b_PF_count 0 = .ok (.iload_n 1, 1) := by decide +kernel
theorem d_PF_count_1 : decode b_PF_count 1 = .ok (.tableswitch 85 0 4 #[35, 43, 48, 67, 72], 35) := by decide +kernel
theorem d_PF_count_36 : decode b_PF_count 36 = .ok (.aload_n 0, 1) := by decide +kernel
theorem d_PF_count_37 : decode b_PF_count 37 = .ok (.getfield 26, 3) := by decide +kernel
theorem d_PF_count_40 : decode b_PF_count 40 = .ok (.getfield 136, 3) := by decide +kernel
theorem d_PF_count_43 : decode b_PF_count 43 = .ok (.ireturn, 1) := by decide +kernel
theorem d_PF_count_44 : decode b_PF_count 44 = .ok (.aload_n 0, 1) := by decide +kernel
theorem d_PF_count_45 : decode b_PF_count 45 = .ok (.getfield 174, 3) := by decide +kernel
theorem d_PF_count_48 : decode b_PF_count 48 = .ok (.ireturn, 1) := by decide +kernel
theorem d_PF_count_49 : decode b_PF_count 49 = .ok (.aload_n 0, 1) := by decide +kernel
theorem d_PF_count_50 : decode b_PF_count 50 = .ok (.getfield 46, 3) := by decide +kernel
theorem d_PF_count_53 : decode b_PF_count 53 = .ok (.ifnonnull 7, 3) := by decide +kernel
theorem d_PF_count_56 : decode b_PF_count 56 = .ok (.iconst 0, 1) := by decide +kernel
theorem d_PF_count_57 : decode b_PF_count 57 = .ok (.goto 10, 3) := by decide +kernel
theorem d_PF_count_60 : decode b_PF_count 60 = .ok (.aload_n 0, 1) := by decide +kernel
theorem d_PF_count_61 : decode b_PF_count 61 = .ok (.getfield 46, 3) := by decide +kernel
theorem d_PF_count_64 : decode b_PF_count 64 = .ok (.getfield 50, 3) := by decide +kernel
theorem d_PF_count_67 : decode b_PF_count 67 = .ok (.ireturn, 1) := by decide +kernel
theorem d_PF_count_68 : decode b_PF_count 68 = .ok (.aload_n 0, 1) := by decide +kernel
theorem d_PF_count_69 : decode b_PF_count 69 = .ok (.getfield 62, 3) := by decide +kernel
theorem d_PF_count_72 : decode b_PF_count 72 = .ok (.ireturn, 1) := by decide +kernel
theorem d_PF_count_73 : decode b_PF_count 73 = .ok (.aload_n 0, 1) := by decide +kernel
theorem d_PF_count_74 : decode b_PF_count 74 = .ok (.getfield 126, 3) := by decide +kernel
theorem d_PF_count_77 : decode b_PF_count 77 = .ok (.ifCond .eq 7, 3) := by decide +kernel
theorem d_PF_count_80 : decode b_PF_count 80 = .ok (.iconst 1, 1) := by decide +kernel
theorem d_PF_count_81 : decode b_PF_count 81 = .ok (.goto 4, 3) := by decide +kernel
theorem d_PF_count_84 : decode b_PF_count 84 = .ok (.iconst 0, 1) := by decide +kernel
theorem d_PF_count_85 : decode b_PF_count 85 = .ok (.ireturn, 1) := by decide +kernel
theorem d_PF_count_86 : decode b_PF_count 86 = .ok (.iconst (-1), 1) := by decide +kernel
theorem d_PF_count_87 : decode b_PF_count 87 = .ok (.ireturn, 1) := by decide +kernel
theorem d_PF_size_0 : decode b_PF_size 0 = .ok (.aload_n 0, 1) := by decide +kernel
theorem d_PF_size_1 : decode b_PF_size 1 = .ok (.iload_n 1, 1) := by decide +kernel
theorem d_PF_size_2 : decode b_PF_size 2 = .ok (.invokevirtual 105, 3) := by decide +kernel
theorem d_PF_size_5 : decode b_PF_size 5 = .ok (.astore_n 3, 1) := by decide +kernel
theorem d_PF_size_6 : decode b_PF_size 6 = .ok (.aload_n 3, 1) := by decide +kernel
theorem d_PF_size_7 : decode b_PF_size 7 = .ok (.ifnonnull 5, 3) := by decide +kernel
theorem d_PF_size_10 : decode b_PF_size 10 = .ok (.iconst 0, 1) := by decide +kernel
theorem d_PF_size_11 : decode b_PF_size 11 = .ok (.ireturn, 1) := by decide +kernel
theorem d_PF_size_12 : decode b_PF_size 12 = .ok (.iload_n 2, 1) := by decide +kernel
theorem d_PF_size_13 : decode b_PF_size 13 = .ok (.tableswitch 42 0 2 #[27, 32, 37], 27) := by decide +kernel
theorem d_PF_size_40 : decode b_PF_size 40 = .ok (.aload_n 3, 1) := by decide +kernel
theorem d_PF_size_41 : decode b_PF_size 41 = .ok (.getfield 110, 3) := by decide +kernel
theorem d_PF_size_44 : decode b_PF_size 44 = .ok (.ireturn, 1) := by decide +kernel
theorem d_PF_size_45 : decode b_PF_size 45 = .ok (.aload_n 3, 1) := by decide +kernel
theorem d_PF_size_46 : decode b_PF_size 46 = .ok (.getfield 113, 3) := by decide +kernel
theorem d_PF_size_49 : decode b_PF_size 49 = .ok (.ireturn, 1) := by decide +kernel
theorem d_PF_size_50 : decode b_PF_size 50 = .ok (.aload_n 3, 1) := by decide +kernel
theorem d_PF_size_51 : decode b_PF_size 51 = .ok (.getfield 116, 3) := by decide +kernel
theorem d_PF_size_54 : decode b_PF_size 54 = .ok (.ireturn, 1) := by decide +kernel
theorem d_PF_size_55 : decode b_PF_size 55 = .ok (.iconst 0, 1) := by decide +kernel
theorem d_PF_size_56 : decode b_PF_size 56 = .ok (.ireturn, 1) := by decide +kernel
theorem d_PF_isSize_0 : decode b_PF_isSize 0 = .ok (.lload_n 0, 1) := by decide +kernel
theorem d_PF_isSize_1 : decode b_PF_isSize 1 = .ok (.ldc2_w 188, 3) := by decide +kernel
theorem d_PF_isSize_4 : decode b_PF_isSize 4 = .ok (.lcmp, 1) := by decide +kernel
theorem d_PF_isSize_5 : decode b_PF_isSize 5 = .ok (.ifCond .lt 15, 3) := by decide +kernel
theorem d_PF_isSize_8 : decode b_PF_isSize 8 = .ok (.lload_n 0, 1) := by decide +kernel
theorem d_PF_isSize_9 : decode b_PF_isSize 9 = .ok (.ldc2_w 190, 3) := by decide +kernel
theorem d_PF_isSize_12 : decode b_PF_isSize 12 = .ok (.lcmp, 1) := by decide +kernel
theorem d_PF_isSize_13 : decode b_PF_isSize 13 = .ok (.ifCond .gt 7, 3) := by decide +kernel
theorem d_PF_isSize_16 : decode b_PF_isSize 16 = .ok (.iconst 1, 1) := by decide +kernel
theorem d_PF_isSize_17 : decode b_PF_isSize 17 = .ok (.goto 4, 3) := by decide +kernel
theorem d_PF_isSize_20 : decode b_PF_isSize 20 = .ok (.iconst 0, 1) := by decide +kernel
theorem d_PF_isSize_21 : decode b_PF_isSize 21 = .ok (.ireturn, 1) := by decide +kernel
theorem d_PF_areSizes_0 : decode b_PF_areSizes 0 = .ok (.lload_n 0, 1) := by decide +kernel
theorem d_PF_areSizes_1 : decode b_PF_areSizes 1 = .ok (.invokestatic 87, 3) := by decide +kernel
theorem d_PF_areSizes_4 : decode b_PF_areSizes 4 = .ok (.ifCond .eq 22, 3) := by decide +kernel
theorem d_PF_areSizes_7 : decode b_PF_areSizes 7 = .ok (.lload_n 2, 1) := by decide +kernel
theorem d_PF_areSizes_8 : decode b_PF_areSizes 8 = .ok (.invokestatic 87, 3) := by decide +kernel
theorem d_PF_areSizes_11 : decode b_PF_areSizes 11 = .ok (.ifCond .eq 15, 3) := by decide +kernel
theorem d_PF_areSizes_14 : decode b_PF_areSizes 14 = .ok (.lload 4, 2) := by decide +kernel
theorem d_PF_areSizes_16 : decode b_PF_areSizes 16 = .ok (.invokestatic 87, 3) := by decide +kernel
theorem d_PF_areSizes_19 : decode b_PF_areSizes 19 = .ok (.ifCond .eq 7, 3) := by decide +kernel
theorem d_PF_areSizes_22 : decode b_PF_areSizes 22 = .ok (.iconst 1, 1) := by decide +kernel
theorem d_PF_areSizes_23 : decode b_PF_areSizes 23 = .ok (.goto 4, 3) := by decide +kernel
theorem d_PF_areSizes_26 : decode b_PF_areSizes 26 = .ok (.iconst 0, 1) := by decide +kernel
theorem d_PF_areSizes_27 : decode b_PF_areSizes 27 = .ok (.ireturn, 1) := by decide +kernel
theorem d_PF_isFont_0 : decode b_PF_isFont 0 = .ok (.iload_n 0, 1) := by decide +kernel
theorem d_PF_isFont_1 : decode b_PF_isFont 1 = .ok (.ifCond .lt 13, 3) := by decide +kernel
theorem d_PF_isFont_4 : decode b_PF_isFont 4 = .ok (.iload_n 0, 1) := by decide +kernel
theorem d_PF_isFont_5 : decode b_PF_isFont 5 = .ok (.bipush 32, 2) := by decide +kernel
theorem d_PF_isFont_7 : decode b_PF_isFont 7 = .ok (.if_icmp .ge 7, 3) := by decide +kernel
theorem d_PF_isFont_10 : decode b_PF_isFont 10 = .ok (.iconst 1, 1) := by decide +kernel
theorem d_PF_isFont_11 : decode b_PF_isFont 11 = .ok (.goto 4, 3) := by decide +kernel
theorem d_PF_isFont_14 : decode b_PF_isFont 14 = .ok (.iconst 0, 1) := by decide +kernel
theorem d_PF_isFont_15 : decode b_PF_isFont 15 = .ok (.ireturn, 1) := by decide +kernel
theorem d_PF_isRegister_0 : decode b_PF_isRegister 0 = .ok (.iload_n 0, 1) := by decide +kernel
theorem d_PF_isRegister_1 : decode b_PF_isRegister 1 = .ok (.ifCond .lt 13, 3) := by decide +kernel
theorem d_PF_isRegister_4 : decode b_PF_isRegister 4 = .ok (.iload_n 0, 1) := by decide +kernel
theorem d_PF_isRegister_5 : decode b_PF_isRegister 5 = .ok (.bipush 8, 2) := by decide +kernel
theorem d_PF_isRegister_7 : decode b_PF_isRegister 7 = .ok (.if_icmp .ge 7, 3) := by decide +kernel
theorem d_PF_isRegister_10 : decode b_PF_isRegister 10 = .ok (.iconst 1, 1) := by decide +kernel
theorem d_PF_isRegister_11 : decode b_PF_isRegister 11 = .ok (.goto 4, 3) := by decide +kernel
theorem d_PF_isRegister_14 : decode b_PF_isRegister 14 = .ok (.iconst 0, 1) := by decide +kernel
theorem d_PF_isRegister_15 : decode b_PF_isRegister 15 = .ok (.ireturn, 1) := by decide +kernel
theorem d_PF_boxOf_0 : decode b_PF_boxOf 0 = .ok (.iload_n 1, 1) := by decide +kernel
theorem d_PF_boxOf_1 : decode b_PF_boxOf 1 = .ok (.invokestatic 91, 3) := by decide +kernel
theorem d_PF_boxOf_4 : decode b_PF_boxOf 4 = .ok (.ifCond .eq 12, 3) := by decide +kernel
theorem d_PF_boxOf_7 : decode b_PF_boxOf 7 = .ok (.aload_n 0, 1) := by decide +kernel
theorem d_PF_boxOf_8 : decode b_PF_boxOf 8 = .ok (.getfield 11, 3) := by decide +kernel
theorem d_PF_boxOf_11 : decode b_PF_boxOf 11 = .ok (.iload_n 1, 1) := by decide +kernel
theorem d_PF_boxOf_12 : decode b_PF_boxOf 12 = .ok (.aaload, 1) := by decide +kernel
theorem d_PF_boxOf_13 : decode b_PF_boxOf 13 = .ok (.goto 4, 3) := by decide +kernel
theorem d_PF_boxOf_16 : decode b_PF_boxOf 16 = .ok (.aconst_null, 1) := by decide +kernel
theorem d_PF_boxOf_17 : decode b_PF_boxOf 17 = .ok (.areturn, 1) := by decide +kernel
theorem d_PF_dropBox_0 : decode b_PF_dropBox 0 = .ok (.aload_n 0, 1) := by decide +kernel
theorem d_PF_dropBox_1 : decode b_PF_dropBox 1 = .ok (.iload_n 1, 1) := by decide +kernel
theorem d_PF_dropBox_2 : decode b_PF_dropBox 2 = .ok (.invokevirtual 105, 3) := by decide +kernel
theorem d_PF_dropBox_5 : decode b_PF_dropBox 5 = .ok (.astore_n 2, 1) := by decide +kernel
theorem d_PF_dropBox_6 : decode b_PF_dropBox 6 = .ok (.aload_n 2, 1) := by decide +kernel
theorem d_PF_dropBox_7 : decode b_PF_dropBox 7 = .ok (.ifnull 23, 3) := by decide +kernel
theorem d_PF_dropBox_10 : decode b_PF_dropBox 10 = .ok (.aload_n 0, 1) := by decide +kernel
theorem d_PF_dropBox_11 : decode b_PF_dropBox 11 = .ok (.dup, 1) := by decide +kernel
theorem d_PF_dropBox_12 : decode b_PF_dropBox 12 = .ok (.getfield 62, 3) := by decide +kernel
theorem d_PF_dropBox_15 : decode b_PF_dropBox 15 = .ok (.aload_n 2, 1) := by decide +kernel
theorem d_PF_dropBox_16 : decode b_PF_dropBox 16 = .ok (.getfield 109, 3) := by decide +kernel
theorem d_PF_dropBox_19 : decode b_PF_dropBox 19 = .ok (.isub, 1) := by decide +kernel
theorem d_PF_dropBox_20 : decode b_PF_dropBox 20 = .ok (.putfield 62, 3) := by decide +kernel
theorem d_PF_dropBox_23 : decode b_PF_dropBox 23 = .ok (.aload_n 0, 1) := by decide +kernel
theorem d_PF_dropBox_24 : decode b_PF_dropBox 24 = .ok (.getfield 11, 3) := by decide +kernel
theorem d_PF_dropBox_27 : decode b_PF_dropBox 27 = .ok (.iload_n 1, 1) := by decide +kernel
theorem d_PF_dropBox_28 : decode b_PF_dropBox 28 = .ok (.aconst_null, 1) := by decide +kernel
theorem d_PF_dropBox_29 : decode b_PF_dropBox 29 = .ok (.aastore, 1) := by decide +kernel
theorem d_PF_dropBox_30 : decode b_PF_dropBox 30 = .ok (.return_, 1) := by decide +kernel
theorem d_PF_writePage_0 : decode b_PF_writePage 0 = .ok (.aload_n 0, 1) := by decide +kernel
theorem d_PF_writePage_1 : decode b_PF_writePage 1 = .ok (.getfield 26, 3) := by decide +kernel
theorem d_PF_writePage_4 : decode b_PF_writePage 4 = .ok (.getfield 136, 3) := by decide +kernel
theorem d_PF_writePage_7 : decode b_PF_writePage 7 = .ok (.istore_n 2, 1) := by decide +kernel
theorem d_PF_writePage_8 : decode b_PF_writePage 8 = .ok (.aload_n 0, 1) := by decide +kernel
theorem d_PF_writePage_9 : decode b_PF_writePage 9 = .ok (.getfield 31, 3) := by decide +kernel
theorem d_PF_writePage_12 : decode b_PF_writePage 12 = .ok (.getfield 192, 3) := by decide +kernel
theorem d_PF_writePage_15 : decode b_PF_writePage 15 = .ok (.istore_n 3, 1) := by decide +kernel
theorem d_PF_writePage_16 : decode b_PF_writePage 16 = .ok (.aload_n 0, 1) := by decide +kernel
theorem d_PF_writePage_17 : decode b_PF_writePage 17 = .ok (.invokevirtual 155, 3) := by decide +kernel
theorem d_PF_writePage_20 : decode b_PF_writePage 20 = .ok (.aload_n 0, 1) := by decide +kernel
theorem d_PF_writePage_21 : decode b_PF_writePage 21 = .ok (.getfield 26, 3) := by decide +kernel
theorem d_PF_writePage_24 : decode b_PF_writePage 24 = .ok (.getfield 136, 3) := by decide +kernel
theorem d_PF_writePage_27 : decode b_PF_writePage 27 = .ok (.istore 4, 2) := by decide +kernel
theorem d_PF_writePage_29 : decode b_PF_writePage 29 = .ok (.aload_n 0, 1) := by decide +kernel
theorem d_PF_writePage_30 : decode b_PF_writePage 30 = .ok (.getfield 26, 3) := by decide +kernel
theorem d_PF_writePage_33 : decode b_PF_writePage 33 = .ok (.sipush 139, 3) := by decide +kernel
theorem d_PF_writePage_36 : decode b_PF_writePage 36 = .ok (.iconst 1, 1) := by decide +kernel
theorem d_PF_writePage_37 : decode b_PF_writePage 37 = .ok (.invokevirtual 158, 3) := by decide +kernel
theorem d_PF_writePage_40 : decode b_PF_writePage 40 = .ok (.aload_n 0, 1) := by decide +kernel
theorem d_PF_writePage_41 : decode b_PF_writePage 41 = .ok (.getfield 26, 3) := by decide +kernel
theorem d_PF_writePage_44 : decode b_PF_writePage 44 = .ok (.aload_n 0, 1) := by decide +kernel
theorem d_PF_writePage_45 : decode b_PF_writePage 45 = .ok (.getfield 174, 3) := by decide +kernel
theorem d_PF_writePage_48 : decode b_PF_writePage 48 = .ok (.iconst 1, 1) := by decide +kernel
theorem d_PF_writePage_49 : decode b_PF_writePage 49 = .ok (.iadd, 1) := by decide +kernel
theorem d_PF_writePage_50 : decode b_PF_writePage 50 = .ok (.iconst 4, 1) := by decide +kernel
theorem d_PF_writePage_51 : decode b_PF_writePage 51 = .ok (.invokevirtual 158, 3) := by decide +kernel
theorem d_PF_writePage_54 : decode b_PF_writePage 54 = .ok (.iconst 0, 1) := by decide +kernel
theorem d_PF_writePage_55 : decode b_PF_writePage 55 = .ok (.istore 5, 2) := by decide +kernel
theorem d_PF_writePage_57 : decode b_PF_writePage 57 = .ok (.iload 5, 2) := by decide +kernel
theorem d_PF_writePage_59 : decode b_PF_writePage 59 = .ok (.bipush 9, 2) := by decide +kernel
theorem d_PF_writePage_61 : decode b_PF_writePage 61 = .ok (.if_icmp .ge 18, 3) := by decide +kernel
theorem d_PF_writePage_64 : decode b_PF_writePage 64 = .ok (.aload_n 0, 1) := by decide +kernel
theorem d_PF_writePage_65 : decode b_PF_writePage 65 = .ok (.getfield 26, 3) := by decide +kernel
theorem d_PF_writePage_68 : decode b_PF_writePage 68 = .ok (.iconst 0, 1) := by decide +kernel
theorem d_PF_writePage_69 : decode b_PF_writePage 69 = .ok (.iconst 4, 1) := by decide +kernel
theorem d_PF_writePage_70 : decode b_PF_writePage 70 = .ok (.invokevirtual 158, 3) := by decide +kernel
theorem d_PF_writePage_73 : decode b_PF_writePage 73 = .ok (.iinc 5 1, 3) := by decide +kernel
theorem d_PF_writePage_76 : decode b_PF_writePage 76 = .ok (.goto (-19), 3) := by decide +kernel
theorem d_PF_writePage_79 : decode b_PF_writePage 79 = .ok (.aload_n 0, 1) := by decide +kernel
theorem d_PF_writePage_80 : decode b_PF_writePage 80 = .ok (.getfield 26, 3) := by decide +kernel
theorem d_PF_writePage_83 : decode b_PF_writePage 83 = .ok (.aload_n 0, 1) := by decide +kernel
theorem d_PF_writePage_84 : decode b_PF_writePage 84 = .ok (.getfield 32, 3) := by decide +kernel
theorem d_PF_writePage_87 : decode b_PF_writePage 87 = .ok (.iconst 4, 1) := by decide +kernel
theorem d_PF_writePage_88 : decode b_PF_writePage 88 = .ok (.invokevirtual 158, 3) := by decide +kernel
theorem d_PF_writePage_91 : decode b_PF_writePage 91 = .ok (.aload_n 0, 1) := by decide +kernel
theorem d_PF_writePage_92 : decode b_PF_writePage 92 = .ok (.getfield 18, 3) := by decide +kernel
theorem d_PF_writePage_95 : decode b_PF_writePage 95 = .ok (.aload_n 1, 1) := by decide +kernel
