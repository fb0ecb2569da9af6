theorem d_Mod_size_17 : decode b_Mod_size 17 = .ok (.iload_n 2, 1) := by decide +kernel
theorem d_Mod_size_18 : decode b_Mod_size 18 = .ok (.iconst 2, 1) := by decide +kernel
theorem d_Mod_size_19 : decode b_Mod_size 19 = .ok (.if_icmp .le 5, 3) := by decide +kernel
theorem d_Mod_size_22 : decode b_Mod_size 22 = .ok (.iconst 0, 1) := by decide +kernel
theorem d_Mod_size_23 : decode b_Mod_size 23 = .ok (.ireturn, 1) := by decide +kernel
theorem d_Mod_size_24 : decode b_Mod_size 24 = .ok (.aload_n 0, 1) := by decide +kernel
theorem d_Mod_size_25 : decode b_Mod_size 25 = .ok (.iload_n 1, 1) := by decide +kernel
theorem d_Mod_size_26 : decode b_Mod_size 26 = .ok (.invokevirtual 119, 3) := by decide +kernel
theorem d_Mod_size_29 : decode b_Mod_size 29 = .ok (.istore_n 3, 1) := by decide +kernel
theorem d_Mod_size_30 : decode b_Mod_size 30 = .ok (.iload_n 2, 1) := by decide +kernel
theorem d_Mod_size_31 : decode b_Mod_size 31 = .ok (.ifCond .ne 12, 3) := by decide +kernel
theorem d_Mod_size_34 : decode b_Mod_size 34 = .ok (.aload_n 0, 1) := by decide +kernel
theorem d_Mod_size_35 : decode b_Mod_size 35 = .ok (.getfield 13, 3) := by decide +kernel
theorem d_Mod_size_38 : decode b_Mod_size 38 = .ok (.iload_n 3, 1) := by decide +kernel
theorem d_Mod_size_39 : decode b_Mod_size 39 = .ok (.iaload, 1) := by decide +kernel
theorem d_Mod_size_40 : decode b_Mod_size 40 = .ok (.goto 23, 3) := by decide +kernel
theorem d_Mod_size_43 : decode b_Mod_size 43 = .ok (.iload_n 2, 1) := by decide +kernel
theorem d_Mod_size_44 : decode b_Mod_size 44 = .ok (.iconst 1, 1) := by decide +kernel
theorem d_Mod_size_45 : decode b_Mod_size 45 = .ok (.if_icmp .ne 12, 3) := by decide +kernel
theorem d_Mod_size_48 : decode b_Mod_size 48 = .ok (.aload_n 0, 1) := by decide +kernel
theorem d_Mod_size_49 : decode b_Mod_size 49 = .ok (.getfield 16, 3) := by decide +kernel
theorem d_Mod_size_52 : decode b_Mod_size 52 = .ok (.iload_n 3, 1) := by decide +kernel
theorem d_Mod_size_53 : decode b_Mod_size 53 = .ok (.iaload, 1) := by decide +kernel
theorem d_Mod_size_54 : decode b_Mod_size 54 = .ok (.goto 9, 3) := by decide +kernel
theorem d_Mod_size_57 : decode b_Mod_size 57 = .ok (.aload_n 0, 1) := by decide +kernel
theorem d_Mod_size_58 : decode b_Mod_size 58 = .ok (.getfield 19, 3) := by decide +kernel
theorem d_Mod_size_61 : decode b_Mod_size 61 = .ok (.iload_n 3, 1) := by decide +kernel
theorem d_Mod_size_62 : decode b_Mod_size 62 = .ok (.iaload, 1) := by decide +kernel
theorem d_Mod_size_63 : decode b_Mod_size 63 = .ok (.ireturn, 1) := by decide +kernel
