/-! decode rows, as printed -/
theorem dX8_init_0 : decode cX8_init 0 = .ok (.aload_n 0, 1) := by decide +kernel
theorem dX8_init_1 : decode cX8_init 1 = .ok (.invokespecial 3, 3) := by decide +kernel
theorem dX8_init_4 : decode cX8_init 4 = .ok (.aload_n 0, 1) := by decide +kernel
theorem dX8_init_5 : decode cX8_init 5 = .ok (.sipush 386, 3) := by decide +kernel
theorem dX8_init_8 : decode cX8_init 8 = .ok (.newarray .int, 2) := by decide +kernel
theorem dX8_init_10 : decode cX8_init 10 = .ok (.putfield 9, 3) := by decide +kernel
theorem dX8_init_13 : decode cX8_init 13 = .ok (.aload_n 0, 1) := by decide +kernel
theorem dX8_init_14 : decode cX8_init 14 = .ok (.sipush 386, 3) := by decide +kernel
theorem dX8_init_17 : decode cX8_init 17 = .ok (.newarray .int, 2) := by decide +kernel
theorem dX8_init_19 : decode cX8_init 19 = .ok (.putfield 13, 3) := by decide +kernel
theorem dX8_init_22 : decode cX8_init 22 = .ok (.aload_n 0, 1) := by decide +kernel
theorem dX8_init_23 : decode cX8_init 23 = .ok (.bipush 7, 2) := by decide +kernel
theorem dX8_init_25 : decode cX8_init 25 = .ok (.newarray .int, 2) := by decide +kernel
theorem dX8_init_27 : decode cX8_init 27 = .ok (.putfield 16, 3) := by decide +kernel
theorem dX8_init_30 : decode cX8_init 30 = .ok (.aload_n 0, 1) := by decide +kernel
theorem dX8_init_31 : decode cX8_init 31 = .ok (.iconst 4, 1) := by decide +kernel
theorem dX8_init_32 : decode cX8_init 32 = .ok (.newarray .int, 2) := by decide +kernel
theorem dX8_init_34 : decode cX8_init 34 = .ok (.putfield 19, 3) := by decide +kernel
theorem dX8_init_37 : decode cX8_init 37 = .ok (.aload_n 0, 1) := by decide +kernel
theorem dX8_init_38 : decode cX8_init 38 = .ok (.iconst 4, 1) := by decide +kernel
theorem dX8_init_39 : decode cX8_init 39 = .ok (.newarray .int, 2) := by decide +kernel
theorem dX8_init_41 : decode cX8_init 41 = .ok (.putfield 22, 3) := by decide +kernel
theorem dX8_init_44 : decode cX8_init 44 = .ok (.aload_n 0, 1) := by decide +kernel
theorem dX8_init_45 : decode cX8_init 45 = .ok (.bipush 96, 2) := by decide +kernel
theorem dX8_init_47 : decode cX8_init 47 = .ok (.newarray .int, 2) := by decide +kernel
theorem dX8_init_49 : decode cX8_init 49 = .ok (.putfield 25, 3) := by decide +kernel
theorem dX8_init_52 : decode cX8_init 52 = .ok (.aload_n 0, 1) := by decide +kernel
theorem dX8_init_53 : decode cX8_init 53 = .ok (.bipush 60, 2) := by decide +kernel
theorem dX8_init_55 : decode cX8_init 55 = .ok (.newarray .int, 2) := by decide +kernel
theorem dX8_init_57 : decode cX8_init 57 = .ok (.putfield 28, 3) := by decide +kernel
theorem dX8_init_60 : decode cX8_init 60 = .ok (.aload_n 0, 1) := by decide +kernel
theorem dX8_init_61 : decode cX8_init 61 = .ok (.bipush 60, 2) := by decide +kernel
theorem dX8_init_63 : decode cX8_init 63 = .ok (.newarray .int, 2) := by decide +kernel
theorem dX8_init_65 : decode cX8_init 65 = .ok (.putfield 31, 3) := by decide +kernel
theorem dX8_init_68 : decode cX8_init 68 = .ok (.aload_n 0, 1) := by decide +kernel
theorem dX8_init_69 : decode cX8_init 69 = .ok (.iconst 3, 1) := by decide +kernel
theorem dX8_init_70 : decode cX8_init 70 = .ok (.newarray .int, 2) := by decide +kernel
theorem dX8_init_72 : decode cX8_init 72 = .ok (.putfield 34, 3) := by decide +kernel
theorem dX8_init_75 : decode cX8_init 75 = .ok (.aload_n 0, 1) := by decide +kernel
theorem dX8_init_76 : decode cX8_init 76 = .ok (.bipush 60, 2) := by decide +kernel
theorem dX8_init_78 : decode cX8_init 78 = .ok (.newarray .int, 2) := by decide +kernel
theorem dX8_init_80 : decode cX8_init 80 = .ok (.putfield 37, 3) := by decide +kernel
theorem dX8_init_83 : decode cX8_init 83 = .ok (.aload_n 0, 1) := by decide +kernel
theorem dX8_init_84 : decode cX8_init 84 = .ok (.bipush 30, 2) := by decide +kernel
theorem dX8_init_86 : decode cX8_init 86 = .ok (.newarray .int, 2) := by decide +kernel
theorem dX8_init_88 : decode cX8_init 88 = .ok (.putfield 40, 3) := by decide +kernel
theorem dX8_init_91 : decode cX8_init 91 = .ok (.aload_n 0, 1) := by decide +kernel
theorem dX8_init_92 : decode cX8_init 92 = .ok (.getfield 9, 3) := by decide +kernel
theorem dX8_init_95 : decode cX8_init 95 = .ok (.iconst 0, 1) := by decide +kernel
theorem dX8_init_96 : decode cX8_init 96 = .ok (.bipush 100, 2) := by decide +kernel
theorem dX8_init_98 : decode cX8_init 98 = .ok (.iastore, 1) := by decide +kernel
theorem dX8_init_99 : decode cX8_init 99 = .ok (.aload_n 0, 1) := by decide +kernel
theorem dX8_init_100 : decode cX8_init 100 = .ok (.getfield 9, 3) := by decide +kernel
theorem dX8_init_103 : decode cX8_init 103 = .ok (.iconst 1, 1) := by decide +kernel
theorem dX8_init_104 : decode cX8_init 104 = .ok (.sipush 130, 3) := by decide +kernel
theorem dX8_init_107 : decode cX8_init 107 = .ok (.iastore, 1) := by decide +kernel
theorem dX8_init_108 : decode cX8_init 108 = .ok (.aload_n 0, 1) := by decide +kernel
theorem dX8_init_109 : decode cX8_init 109 = .ok (.getfield 9, 3) := by decide +kernel
theorem dX8_init_112 : decode cX8_init 112 = .ok (.bipush 6, 2) := by decide +kernel
theorem dX8_init_114 : decode cX8_init 114 = .ok (.iconst 1, 1) := by decide +kernel
theorem dX8_init_115 : decode cX8_init 115 = .ok (.iastore, 1) := by decide +kernel
theorem dX8_init_116 : decode cX8_init 116 = .ok (.return_, 1) := by decide +kernel
theorem dX8_error_0 : decode cX8_error 0 = .ok (.aload_n 0, 1) := by decide +kernel
theorem dX8_error_1 : decode cX8_error 1 = .ok (.getfield 16, 3) := by decide +kernel
theorem dX8_error_4 : decode cX8_error 4 = .ok (.ldc 43, 2) := by decide +kernel
theorem dX8_error_6 : decode cX8_error 6 = .ok (.iload_n 1, 1) := by decide +kernel
theorem dX8_error_7 : decode cX8_error 7 = .ok (.isub, 1) := by decide +kernel
theorem dX8_error_8 : decode cX8_error 8 = .ok (.dup2, 1) := by decide +kernel
theorem dX8_error_9 : decode cX8_error 9 = .ok (.iaload, 1) := by decide +kernel
theorem dX8_error_10 : decode cX8_error 10 = .ok (.iconst 1, 1) := by decide +kernel
theorem dX8_error_11 : decode cX8_error 11 = .ok (.iadd, 1) := by decide +kernel
theorem dX8_error_12 : decode cX8_error 12 = .ok (.iastore, 1) := by decide +kernel
theorem dX8_error_13 : decode cX8_error 13 = .ok (.iload_n 1, 1) := by decide +kernel
theorem dX8_error_14 : decode cX8_error 14 = .ok (.ireturn, 1) := by decide +kernel
theorem dX8_in_0 : decode cX8_in 0 = .ok (.iload_n 0, 1) := by decide +kernel
theorem dX8_in_1 : decode cX8_in 1 = .ok (.iload_n 1, 1) := by decide +kernel
theorem dX8_in_2 : decode cX8_in 2 = .ok (.if_icmp .lt 12, 3) := by decide +kernel
theorem dX8_in_5 : decode cX8_in 5 = .ok (.iload_n 0, 1) := by decide +kernel
theorem dX8_in_6 : decode cX8_in 6 = .ok (.iload_n 2, 1) := by decide +kernel
theorem dX8_in_7 : decode cX8_in 7 = .ok (.if_icmp .gt 7, 3) := by decide +kernel
theorem dX8_in_10 : decode cX8_in 10 = .ok (.iconst 1, 1) := by decide +kernel
theorem dX8_in_11 : decode cX8_in 11 = .ok (.goto 4, 3) := by decide +kernel
theorem dX8_in_14 : decode cX8_in 14 = .ok (.iconst 0, 1) := by decide +kernel
theorem dX8_in_15 : decode cX8_in 15 = .ok (.ireturn, 1) := by decide +kernel
theorem dX8_held_0 : decode cX8_held 0 = .ok (.iload_n 0, 1) := by decide +kernel
theorem dX8_held_1 : decode cX8_held 1 = .ok (.iload_n 1, 1) := by decide +kernel
theorem dX8_held_2 : decode cX8_held 2 = .ok (.if_icmp .ge 7, 3) := by decide +kernel
theorem dX8_held_5 : decode cX8_held 5 = .ok (.iload_n 1, 1) := by decide +kernel
theorem dX8_held_6 : decode cX8_held 6 = .ok (.goto 13, 3) := by decide +kernel
theorem dX8_held_9 : decode cX8_held 9 = .ok (.iload_n 0, 1) := by decide +kernel
theorem dX8_held_10 : decode cX8_held 10 = .ok (.iload_n 2, 1) := by decide +kernel
theorem dX8_held_11 : decode cX8_held 11 = .ok (.if_icmp .le 7, 3) := by decide +kernel
theorem dX8_held_14 : decode cX8_held 14 = .ok (.iload_n 2, 1) := by decide +kernel
theorem dX8_held_15 : decode cX8_held 15 = .ok (.goto 4, 3) := by decide +kernel
theorem dX8_held_18 : decode cX8_held 18 = .ok (.iload_n 0, 1) := by decide +kernel
theorem dX8_held_19 : decode cX8_held 19 = .ok (.ireturn, 1) := by decide +kernel
theorem dX8_copyAll_0 : decode cX8_copyAll 0 = .ok (.iconst 0, 1) := by decide +kernel
theorem dX8_copyAll_1 : decode cX8_copyAll 1 = .ok (.istore_n 2, 1) := by decide +kernel
theorem dX8_copyAll_2 : decode cX8_copyAll 2 = .ok (.iload_n 2, 1) := by decide +kernel
theorem dX8_copyAll_3 : decode cX8_copyAll 3 = .ok (.sipush 386, 3) := by decide +kernel
theorem dX8_copyAll_6 : decode cX8_copyAll 6 = .ok (.if_icmp .ge 15, 3) := by decide +kernel
theorem dX8_copyAll_9 : decode cX8_copyAll 9 = .ok (.aload_n 1, 1) := by decide +kernel
theorem dX8_copyAll_10 : decode cX8_copyAll 10 = .ok (.iload_n 2, 1) := by decide +kernel
theorem dX8_copyAll_11 : decode cX8_copyAll 11 = .ok (.aload_n 0, 1) := by decide +kernel
theorem dX8_copyAll_12 : decode cX8_copyAll 12 = .ok (.iload_n 2, 1) := by decide +kernel
theorem dX8_copyAll_13 : decode cX8_copyAll 13 = .ok (.iaload, 1) := by decide +kernel
theorem dX8_copyAll_14 : decode cX8_copyAll 14 = .ok (.iastore, 1) := by decide +kernel
theorem dX8_copyAll_15 : decode cX8_copyAll 15 = .ok (.iinc 2 1, 3) := by decide +kernel
theorem dX8_copyAll_18 : decode cX8_copyAll 18 = .ok (.goto (-16), 3) := by decide +kernel
theorem dX8_copyAll_21 : decode cX8_copyAll 21 = .ok (.return_, 1) := by decide +kernel
theorem dX8_isPitch_0 : decode cX8_isPitch 0 = .ok (.iload_n 1, 1) := by decide +kernel
theorem dX8_isPitch_1 : decode cX8_isPitch 1 = .ok (.iconst 0, 1) := by decide +kernel
theorem dX8_isPitch_2 : decode cX8_isPitch 2 = .ok (.aload_n 0, 1) := by decide +kernel
theorem dX8_isPitch_3 : decode cX8_isPitch 3 = .ok (.getfield 9, 3) := by decide +kernel
theorem dX8_isPitch_6 : decode cX8_isPitch 6 = .ok (.bipush 7, 2) := by decide +kernel
theorem dX8_isPitch_8 : decode cX8_isPitch 8 = .ok (.iaload, 1) := by decide +kernel
theorem dX8_isPitch_9 : decode cX8_isPitch 9 = .ok (.iconst 1, 1) := by decide +kernel
theorem dX8_isPitch_10 : decode cX8_isPitch 10 = .ok (.isub, 1) := by decide +kernel
theorem dX8_isPitch_11 : decode cX8_isPitch 11 = .ok (.invokestatic 44, 3) := by decide +kernel
theorem dX8_isPitch_14 : decode cX8_isPitch 14 = .ok (.ireturn, 1) := by decide +kernel
theorem dX8_isRunner_0 : decode cX8_isRunner 0 = .ok (.iload_n 1, 1) := by decide +kernel
theorem dX8_isRunner_1 : decode cX8_isRunner 1 = .ok (.iconst 0, 1) := by decide +kernel
theorem dX8_isRunner_2 : decode cX8_isRunner 2 = .ok (.aload_n 0, 1) := by decide +kernel
theorem dX8_isRunner_3 : decode cX8_isRunner 3 = .ok (.getfield 9, 3) := by decide +kernel
theorem dX8_isRunner_6 : decode cX8_isRunner 6 = .ok (.bipush 8, 2) := by decide +kernel
theorem dX8_isRunner_8 : decode cX8_isRunner 8 = .ok (.iaload, 1) := by decide +kernel
theorem dX8_isRunner_9 : decode cX8_isRunner 9 = .ok (.iconst 1, 1) := by decide +kernel
theorem dX8_isRunner_10 : decode cX8_isRunner 10 = .ok (.isub, 1) := by decide +kernel
theorem dX8_isRunner_11 : decode cX8_isRunner 11 = .ok (.invokestatic 44, 3) := by decide +kernel
theorem dX8_isRunner_14 : decode cX8_isRunner 14 = .ok (.ireturn, 1) := by decide +kernel
theorem dX8_isLead_0 : decode cX8_isLead 0 = .ok (.iload_n 0, 1) := by decide +kernel
theorem dX8_isLead_1 : decode cX8_isLead 1 = .ok (.iconst 0, 1) := by decide +kernel
theorem dX8_isLead_2 : decode cX8_isLead 2 = .ok (.bipush 20, 2) := by decide +kernel
theorem dX8_isLead_4 : decode cX8_isLead 4 = .ok (.invokestatic 44, 3) := by decide +kernel
theorem dX8_isLead_7 : decode cX8_isLead 7 = .ok (.ireturn, 1) := by decide +kernel
theorem dX8_becomes_0 : decode cX8_becomes 0 = .ok (.aload_n 0, 1) := by decide +kernel
theorem dX8_becomes_1 : decode cX8_becomes 1 = .ok (.getfield 9, 3) := by decide +kernel
theorem dX8_becomes_4 : decode cX8_becomes 4 = .ok (.iload_n 1, 1) := by decide +kernel
theorem dX8_becomes_5 : decode cX8_becomes 5 = .ok (.iaload, 1) := by decide +kernel
theorem dX8_becomes_6 : decode cX8_becomes 6 = .ok (.istore_n 3, 1) := by decide +kernel
theorem dX8_becomes_7 : decode cX8_becomes 7 = .ok (.aload_n 0, 1) := by decide +kernel
theorem dX8_becomes_8 : decode cX8_becomes 8 = .ok (.getfield 9, 3) := by decide +kernel
theorem dX8_becomes_11 : decode cX8_becomes 11 = .ok (.iload_n 1, 1) := by decide +kernel
theorem dX8_becomes_12 : decode cX8_becomes 12 = .ok (.iload_n 2, 1) := by decide +kernel
theorem dX8_becomes_13 : decode cX8_becomes 13 = .ok (.iastore, 1) := by decide +kernel
theorem dX8_becomes_14 : decode cX8_becomes 14 = .ok (.iload_n 3, 1) := by decide +kernel
theorem dX8_becomes_15 : decode cX8_becomes 15 = .ok (.ireturn, 1) := by decide +kernel
theorem dX8_of_0 : decode cX8_of 0 = .ok (.aload_n 0, 1) := by decide +kernel
theorem dX8_of_1 : decode cX8_of 1 = .ok (.getfield 9, 3) := by decide +kernel
theorem dX8_of_4 : decode cX8_of 4 = .ok (.bipush 11, 2) := by decide +kernel
theorem dX8_of_6 : decode cX8_of 6 = .ok (.iconst 4, 1) := by decide +kernel
theorem dX8_of_7 : decode cX8_of 7 = .ok (.iload_n 1, 1) := by decide +kernel
theorem dX8_of_8 : decode cX8_of 8 = .ok (.imul, 1) := by decide +kernel
theorem dX8_of_9 : decode cX8_of 9 = .ok (.iadd, 1) := by decide +kernel
theorem dX8_of_10 : decode cX8_of 10 = .ok (.iload_n 2, 1) := by decide +kernel
theorem dX8_of_11 : decode cX8_of 11 = .ok (.iadd, 1) := by decide +kernel
theorem dX8_of_12 : decode cX8_of 12 = .ok (.iaload, 1) := by decide +kernel
theorem dX8_of_13 : decode cX8_of 13 = .ok (.ireturn, 1) := by decide +kernel
theorem dX8_about_0 : decode cX8_about 0 = .ok (.aload_n 0, 1) := by decide +kernel
theorem dX8_about_1 : decode cX8_about 1 = .ok (.getfield 9, 3) := by decide +kernel
theorem dX8_about_4 : decode cX8_about 4 = .ok (.bipush 35, 2) := by decide +kernel
theorem dX8_about_6 : decode cX8_about 6 = .ok (.iconst 5, 1) := by decide +kernel
theorem dX8_about_7 : decode cX8_about 7 = .ok (.iload_n 1, 1) := by decide +kernel
theorem dX8_about_8 : decode cX8_about 8 = .ok (.imul, 1) := by decide +kernel
theorem dX8_about_9 : decode cX8_about 9 = .ok (.iadd, 1) := by decide +kernel
theorem dX8_about_10 : decode cX8_about 10 = .ok (.iload_n 2, 1) := by decide +kernel
theorem dX8_about_11 : decode cX8_about 11 = .ok (.iadd, 1) := by decide +kernel
theorem dX8_about_12 : decode cX8_about 12 = .ok (.iaload, 1) := by decide +kernel
theorem dX8_about_13 : decode cX8_about 13 = .ok (.ireturn, 1) := by decide +kernel
theorem dX8_lets_0 : decode cX8_lets 0 = .ok (.aload_n 0, 1) := by decide +kernel
theorem dX8_lets_1 : decode cX8_lets 1 = .ok (.getfield 9, 3) := by decide +kernel
theorem dX8_lets_4 : decode cX8_lets 4 = .ok (.bipush 35, 2) := by decide +kernel
theorem dX8_lets_6 : decode cX8_lets 6 = .ok (.iconst 5, 1) := by decide +kernel
theorem dX8_lets_7 : decode cX8_lets 7 = .ok (.iload_n 1, 1) := by decide +kernel
theorem dX8_lets_8 : decode cX8_lets 8 = .ok (.imul, 1) := by decide +kernel
theorem dX8_lets_9 : decode cX8_lets 9 = .ok (.iadd, 1) := by decide +kernel
theorem dX8_lets_10 : decode cX8_lets 10 = .ok (.iload_n 2, 1) := by decide +kernel
theorem dX8_lets_11 : decode cX8_lets 11 = .ok (.iadd, 1) := by decide +kernel
theorem dX8_lets_12 : decode cX8_lets 12 = .ok (.iload_n 3, 1) := by decide +kernel
theorem dX8_lets_13 : decode cX8_lets 13 = .ok (.iastore, 1) := by decide +kernel
theorem dX8_lets_14 : decode cX8_lets 14 = .ok (.return_, 1) := by decide +kernel
theorem dX8_plainAir_0 : decode cX8_plainAir 0 = .ok (.aload_n 0, 1) := by decide +kernel
theorem dX8_plainAir_1 : decode cX8_plainAir 1 = .ok (.iload_n 1, 1) := by decide +kernel
theorem dX8_plainAir_2 : decode cX8_plainAir 2 = .ok (.iconst 1, 1) := by decide +kernel
theorem dX8_plainAir_3 : decode cX8_plainAir 3 = .ok (.invokevirtual 48, 3) := by decide +kernel
theorem dX8_plainAir_6 : decode cX8_plainAir 6 = .ok (.istore_n 2, 1) := by decide +kernel
theorem dX8_plainAir_7 : decode cX8_plainAir 7 = .ok (.bipush 45, 2) := by decide +kernel
theorem dX8_plainAir_9 : decode cX8_plainAir 9 = .ok (.iload_n 2, 1) := by decide +kernel
theorem dX8_plainAir_10 : decode cX8_plainAir 10 = .ok (.iadd, 1) := by decide +kernel
theorem dX8_plainAir_11 : decode cX8_plainAir 11 = .ok (.istore_n 3, 1) := by decide +kernel
theorem dX8_plainAir_12 : decode cX8_plainAir 12 = .ok (.aload_n 0, 1) := by decide +kernel
theorem dX8_plainAir_13 : decode cX8_plainAir 13 = .ok (.iload_n 1, 1) := by decide +kernel
theorem dX8_plainAir_14 : decode cX8_plainAir 14 = .ok (.iconst 0, 1) := by decide +kernel
theorem dX8_plainAir_15 : decode cX8_plainAir 15 = .ok (.invokevirtual 48, 3) := by decide +kernel
theorem dX8_plainAir_18 : decode cX8_plainAir 18 = .ok (.tableswitch 90 1 6 #[38, 43, 47, 54, 68, 79], 38) := by decide +kernel
theorem dX8_plainAir_56 : decode cX8_plainAir 56 = .ok (.iload_n 3, 1) := by decide +kernel
theorem dX8_plainAir_57 : decode cX8_plainAir 57 = .ok (.bipush 15, 2) := by decide +kernel
theorem dX8_plainAir_59 : decode cX8_plainAir 59 = .ok (.iadd, 1) := by decide +kernel
theorem dX8_plainAir_60 : decode cX8_plainAir 60 = .ok (.ireturn, 1) := by decide +kernel
theorem dX8_plainAir_61 : decode cX8_plainAir 61 = .ok (.iload_n 3, 1) := by decide +kernel
theorem dX8_plainAir_62 : decode cX8_plainAir 62 = .ok (.iconst 5, 1) := by decide +kernel
theorem dX8_plainAir_63 : decode cX8_plainAir 63 = .ok (.isub, 1) := by decide +kernel
theorem dX8_plainAir_64 : decode cX8_plainAir 64 = .ok (.ireturn, 1) := by decide +kernel
theorem dX8_plainAir_65 : decode cX8_plainAir 65 = .ok (.iload_n 3, 1) := by decide +kernel
theorem dX8_plainAir_66 : decode cX8_plainAir 66 = .ok (.bipush 12, 2) := by decide +kernel
theorem dX8_plainAir_68 : decode cX8_plainAir 68 = .ok (.isub, 1) := by decide +kernel
theorem dX8_plainAir_69 : decode cX8_plainAir 69 = .ok (.iload_n 2, 1) := by decide +kernel
theorem dX8_plainAir_70 : decode cX8_plainAir 70 = .ok (.isub, 1) := by decide +kernel
theorem dX8_plainAir_71 : decode cX8_plainAir 71 = .ok (.ireturn, 1) := by decide +kernel
theorem dX8_plainAir_72 : decode cX8_plainAir 72 = .ok (.iload_n 3, 1) := by decide +kernel
theorem dX8_plainAir_73 : decode cX8_plainAir 73 = .ok (.bipush 15, 2) := by decide +kernel
theorem dX8_plainAir_75 : decode cX8_plainAir 75 = .ok (.iadd, 1) := by decide +kernel
theorem dX8_plainAir_76 : decode cX8_plainAir 76 = .ok (.iconst 2, 1) := by decide +kernel
theorem dX8_plainAir_77 : decode cX8_plainAir 77 = .ok (.aload_n 0, 1) := by decide +kernel
theorem dX8_plainAir_78 : decode cX8_plainAir 78 = .ok (.getfield 9, 3) := by decide +kernel
theorem dX8_plainAir_81 : decode cX8_plainAir 81 = .ok (.iconst 2, 1) := by decide +kernel
theorem dX8_plainAir_82 : decode cX8_plainAir 82 = .ok (.iaload, 1) := by decide +kernel
theorem dX8_plainAir_83 : decode cX8_plainAir 83 = .ok (.imul, 1) := by decide +kernel
theorem dX8_plainAir_84 : decode cX8_plainAir 84 = .ok (.iadd, 1) := by decide +kernel
theorem dX8_plainAir_85 : decode cX8_plainAir 85 = .ok (.ireturn, 1) := by decide +kernel
theorem dX8_plainAir_86 : decode cX8_plainAir 86 = .ok (.iload_n 3, 1) := by decide +kernel
theorem dX8_plainAir_87 : decode cX8_plainAir 87 = .ok (.iconst 5, 1) := by decide +kernel
theorem dX8_plainAir_88 : decode cX8_plainAir 88 = .ok (.isub, 1) := by decide +kernel
theorem dX8_plainAir_89 : decode cX8_plainAir 89 = .ok (.aload_n 0, 1) := by decide +kernel
theorem dX8_plainAir_90 : decode cX8_plainAir 90 = .ok (.getfield 9, 3) := by decide +kernel
theorem dX8_plainAir_93 : decode cX8_plainAir 93 = .ok (.iconst 3, 1) := by decide +kernel
theorem dX8_plainAir_94 : decode cX8_plainAir 94 = .ok (.iaload, 1) := by decide +kernel
theorem dX8_plainAir_95 : decode cX8_plainAir 95 = .ok (.iadd, 1) := by decide +kernel
theorem dX8_plainAir_96 : decode cX8_plainAir 96 = .ok (.ireturn, 1) := by decide +kernel
theorem dX8_plainAir_97 : decode cX8_plainAir 97 = .ok (.iload_n 3, 1) := by decide +kernel
theorem dX8_plainAir_98 : decode cX8_plainAir 98 = .ok (.aload_n 0, 1) := by decide +kernel
theorem dX8_plainAir_99 : decode cX8_plainAir 99 = .ok (.iload_n 1, 1) := by decide +kernel
theorem dX8_plainAir_100 : decode cX8_plainAir 100 = .ok (.iconst 3, 1) := by decide +kernel
theorem dX8_plainAir_101 : decode cX8_plainAir 101 = .ok (.invokevirtual 48, 3) := by decide +kernel
theorem dX8_plainAir_104 : decode cX8_plainAir 104 = .ok (.iconst 5, 1) := by decide +kernel
theorem dX8_plainAir_105 : decode cX8_plainAir 105 = .ok (.irem, 1) := by decide +kernel
theorem dX8_plainAir_106 : decode cX8_plainAir 106 = .ok (.iadd, 1) := by decide +kernel
theorem dX8_plainAir_107 : decode cX8_plainAir 107 = .ok (.ireturn, 1) := by decide +kernel
theorem dX8_plainAir_108 : decode cX8_plainAir 108 = .ok (.iload_n 3, 1) := by decide +kernel
theorem dX8_plainAir_109 : decode cX8_plainAir 109 = .ok (.ireturn, 1) := by decide +kernel
theorem dX8_airOf_0 : decode cX8_airOf 0 = .ok (.aload_n 0, 1) := by decide +kernel
theorem dX8_airOf_1 : decode cX8_airOf 1 = .ok (.iconst 0, 1) := by decide +kernel
theorem dX8_airOf_2 : decode cX8_airOf 2 = .ok (.aload_n 0, 1) := by decide +kernel
theorem dX8_airOf_3 : decode cX8_airOf 3 = .ok (.iload_n 1, 1) := by decide +kernel
theorem dX8_airOf_4 : decode cX8_airOf 4 = .ok (.invokevirtual 52, 3) := by decide +kernel
theorem dX8_airOf_7 : decode cX8_airOf 7 = .ok (.aload_n 0, 1) := by decide +kernel
theorem dX8_airOf_8 : decode cX8_airOf 8 = .ok (.getfield 9, 3) := by decide +kernel
theorem dX8_airOf_11 : decode cX8_airOf 11 = .ok (.iconst 2, 1) := by decide +kernel
theorem dX8_airOf_12 : decode cX8_airOf 12 = .ok (.iaload, 1) := by decide +kernel
theorem dX8_airOf_13 : decode cX8_airOf 13 = .ok (.aload_n 0, 1) := by decide +kernel
theorem dX8_airOf_14 : decode cX8_airOf 14 = .ok (.getfield 9, 3) := by decide +kernel
theorem dX8_airOf_17 : decode cX8_airOf 17 = .ok (.iconst 3, 1) := by decide +kernel
theorem dX8_airOf_18 : decode cX8_airOf 18 = .ok (.iaload, 1) := by decide +kernel
theorem dX8_airOf_19 : decode cX8_airOf 19 = .ok (.invokevirtual 56, 3) := by decide +kernel
theorem dX8_airOf_22 : decode cX8_airOf 22 = .ok (.ireturn, 1) := by decide +kernel
theorem dX8_costsOf_0 : decode cX8_costsOf 0 = .ok (.aload_n 0, 1) := by decide +kernel
theorem dX8_costsOf_1 : decode cX8_costsOf 1 = .ok (.iload_n 1, 1) := by decide +kernel
theorem dX8_costsOf_2 : decode cX8_costsOf 2 = .ok (.iconst 0, 1) := by decide +kernel
theorem dX8_costsOf_3 : decode cX8_costsOf 3 = .ok (.invokevirtual 48, 3) := by decide +kernel
theorem dX8_costsOf_6 : decode cX8_costsOf 6 = .ok (.tableswitch 70 1 6 #[38, 70, 45, 54, 70, 63], 38) := by decide +kernel
theorem dX8_costsOf_44 : decode cX8_costsOf 44 = .ok (.aload_n 0, 1) := by decide +kernel
theorem dX8_costsOf_45 : decode cX8_costsOf 45 = .ok (.getfield 9, 3) := by decide +kernel
theorem dX8_costsOf_48 : decode cX8_costsOf 48 = .ok (.iconst 3, 1) := by decide +kernel
theorem dX8_costsOf_49 : decode cX8_costsOf 49 = .ok (.iaload, 1) := by decide +kernel
theorem dX8_costsOf_50 : decode cX8_costsOf 50 = .ok (.ireturn, 1) := by decide +kernel
theorem dX8_costsOf_51 : decode cX8_costsOf 51 = .ok (.iconst 5, 1) := by decide +kernel
theorem dX8_costsOf_52 : decode cX8_costsOf 52 = .ok (.aload_n 0, 1) := by decide +kernel
theorem dX8_costsOf_53 : decode cX8_costsOf 53 = .ok (.iload_n 1, 1) := by decide +kernel
theorem dX8_costsOf_54 : decode cX8_costsOf 54 = .ok (.iconst 1, 1) := by decide +kernel
theorem dX8_costsOf_55 : decode cX8_costsOf 55 = .ok (.invokevirtual 48, 3) := by decide +kernel
theorem dX8_costsOf_58 : decode cX8_costsOf 58 = .ok (.iadd, 1) := by decide +kernel
theorem dX8_costsOf_59 : decode cX8_costsOf 59 = .ok (.ireturn, 1) := by decide +kernel
theorem dX8_costsOf_60 : decode cX8_costsOf 60 = .ok (.aload_n 0, 1) := by decide +kernel
theorem dX8_costsOf_61 : decode cX8_costsOf 61 = .ok (.getfield 9, 3) := by decide +kernel
theorem dX8_costsOf_64 : decode cX8_costsOf 64 = .ok (.iconst 3, 1) := by decide +kernel
theorem dX8_costsOf_65 : decode cX8_costsOf 65 = .ok (.iaload, 1) := by decide +kernel
theorem dX8_costsOf_66 : decode cX8_costsOf 66 = .ok (.iconst 1, 1) := by decide +kernel
theorem dX8_costsOf_67 : decode cX8_costsOf 67 = .ok (.iadd, 1) := by decide +kernel
theorem dX8_costsOf_68 : decode cX8_costsOf 68 = .ok (.ireturn, 1) := by decide +kernel
theorem dX8_costsOf_69 : decode cX8_costsOf 69 = .ok (.aload_n 0, 1) := by decide +kernel
theorem dX8_costsOf_70 : decode cX8_costsOf 70 = .ok (.getfield 9, 3) := by decide +kernel
theorem dX8_costsOf_73 : decode cX8_costsOf 73 = .ok (.iconst 2, 1) := by decide +kernel
theorem dX8_costsOf_74 : decode cX8_costsOf 74 = .ok (.iaload, 1) := by decide +kernel
theorem dX8_costsOf_75 : decode cX8_costsOf 75 = .ok (.ireturn, 1) := by decide +kernel
theorem dX8_costsOf_76 : decode cX8_costsOf 76 = .ok (.iconst 0, 1) := by decide +kernel
theorem dX8_costsOf_77 : decode cX8_costsOf 77 = .ok (.ireturn, 1) := by decide +kernel
theorem dX8_runFrom_0 : decode cX8_runFrom 0 = .ok (.aload_n 0, 1) := by decide +kernel
theorem dX8_runFrom_1 : decode cX8_runFrom 1 = .ok (.iload_n 1, 1) := by decide +kernel
theorem dX8_runFrom_2 : decode cX8_runFrom 2 = .ok (.iconst 0, 1) := by decide +kernel
theorem dX8_runFrom_3 : decode cX8_runFrom 3 = .ok (.invokevirtual 60, 3) := by decide +kernel
theorem dX8_runFrom_6 : decode cX8_runFrom 6 = .ok (.aload_n 0, 1) := by decide +kernel
theorem dX8_runFrom_7 : decode cX8_runFrom 7 = .ok (.iload_n 1, 1) := by decide +kernel
theorem dX8_runFrom_8 : decode cX8_runFrom 8 = .ok (.iconst 1, 1) := by decide +kernel
theorem dX8_runFrom_9 : decode cX8_runFrom 9 = .ok (.invokevirtual 60, 3) := by decide +kernel
theorem dX8_runFrom_12 : decode cX8_runFrom 12 = .ok (.bipush 90, 2) := by decide +kernel
theorem dX8_runFrom_14 : decode cX8_runFrom 14 = .ok (.iload_n 2, 1) := by decide +kernel
theorem dX8_runFrom_15 : decode cX8_runFrom 15 = .ok (.isub, 1) := by decide +kernel
theorem dX8_runFrom_16 : decode cX8_runFrom 16 = .ok (.imul, 1) := by decide +kernel
theorem dX8_runFrom_17 : decode cX8_runFrom 17 = .ok (.bipush 10, 2) := by decide +kernel
theorem dX8_runFrom_19 : decode cX8_runFrom 19 = .ok (.idiv, 1) := by decide +kernel
theorem dX8_runFrom_20 : decode cX8_runFrom 20 = .ok (.iadd, 1) := by decide +kernel
theorem dX8_runFrom_21 : decode cX8_runFrom 21 = .ok (.ireturn, 1) := by decide +kernel
theorem dX8_isPickedAt_0 : decode cX8_isPickedAt 0 = .ok (.aload_n 0, 1) := by decide +kernel
theorem dX8_isPickedAt_1 : decode cX8_isPickedAt 1 = .ok (.iload_n 1, 1) := by decide +kernel
theorem dX8_isPickedAt_2 : decode cX8_isPickedAt 2 = .ok (.iconst 0, 1) := by decide +kernel
theorem dX8_isPickedAt_3 : decode cX8_isPickedAt 3 = .ok (.invokevirtual 60, 3) := by decide +kernel
theorem dX8_isPickedAt_6 : decode cX8_isPickedAt 6 = .ok (.aload_n 0, 1) := by decide +kernel
theorem dX8_isPickedAt_7 : decode cX8_isPickedAt 7 = .ok (.iload_n 1, 1) := by decide +kernel
theorem dX8_isPickedAt_8 : decode cX8_isPickedAt 8 = .ok (.iconst 1, 1) := by decide +kernel
theorem dX8_isPickedAt_9 : decode cX8_isPickedAt 9 = .ok (.invokevirtual 60, 3) := by decide +kernel
theorem dX8_isPickedAt_12 : decode cX8_isPickedAt 12 = .ok (.iload_n 2, 1) := by decide +kernel
theorem dX8_isPickedAt_13 : decode cX8_isPickedAt 13 = .ok (.imul, 1) := by decide +kernel
theorem dX8_isPickedAt_14 : decode cX8_isPickedAt 14 = .ok (.bipush 10, 2) := by decide +kernel
theorem dX8_isPickedAt_16 : decode cX8_isPickedAt 16 = .ok (.idiv, 1) := by decide +kernel
theorem dX8_isPickedAt_17 : decode cX8_isPickedAt 17 = .ok (.iadd, 1) := by decide +kernel
theorem dX8_isPickedAt_18 : decode cX8_isPickedAt 18 = .ok (.aload_n 0, 1) := by decide +kernel
theorem dX8_isPickedAt_19 : decode cX8_isPickedAt 19 = .ok (.getfield 9, 3) := by decide +kernel
theorem dX8_isPickedAt_22 : decode cX8_isPickedAt 22 = .ok (.iconst 0, 1) := by decide +kernel
theorem dX8_isPickedAt_23 : decode cX8_isPickedAt 23 = .ok (.iaload, 1) := by decide +kernel
theorem dX8_isPickedAt_24 : decode cX8_isPickedAt 24 = .ok (.iconst 2, 1) := by decide +kernel
theorem dX8_isPickedAt_25 : decode cX8_isPickedAt 25 = .ok (.idiv, 1) := by decide +kernel
theorem dX8_isPickedAt_26 : decode cX8_isPickedAt 26 = .ok (.bipush 30, 2) := by decide +kernel
theorem dX8_isPickedAt_28 : decode cX8_isPickedAt 28 = .ok (.iadd, 1) := by decide +kernel
theorem dX8_isPickedAt_29 : decode cX8_isPickedAt 29 = .ok (.if_icmp .le 7, 3) := by decide +kernel
theorem dX8_isPickedAt_32 : decode cX8_isPickedAt 32 = .ok (.iconst 1, 1) := by decide +kernel
theorem dX8_isPickedAt_33 : decode cX8_isPickedAt 33 = .ok (.goto 4, 3) := by decide +kernel
theorem dX8_isPickedAt_36 : decode cX8_isPickedAt 36 = .ok (.iconst 0, 1) := by decide +kernel
theorem dX8_isPickedAt_37 : decode cX8_isPickedAt 37 = .ok (.ireturn, 1) := by decide +kernel
theorem dX8_marginOf_0 : decode cX8_marginOf 0 = .ok (.aload_n 0, 1) := by decide +kernel
theorem dX8_marginOf_1 : decode cX8_marginOf 1 = .ok (.getfield 9, 3) := by decide +kernel
theorem dX8_marginOf_4 : decode cX8_marginOf 4 = .ok (.iconst 0, 1) := by decide +kernel
theorem dX8_marginOf_5 : decode cX8_marginOf 5 = .ok (.iaload, 1) := by decide +kernel
theorem dX8_marginOf_6 : decode cX8_marginOf 6 = .ok (.aload_n 0, 1) := by decide +kernel
theorem dX8_marginOf_7 : decode cX8_marginOf 7 = .ok (.iload_n 2, 1) := by decide +kernel
theorem dX8_marginOf_8 : decode cX8_marginOf 8 = .ok (.invokevirtual 63, 3) := by decide +kernel
theorem dX8_marginOf_11 : decode cX8_marginOf 11 = .ok (.iadd, 1) := by decide +kernel
theorem dX8_marginOf_12 : decode cX8_marginOf 12 = .ok (.aload_n 0, 1) := by decide +kernel
theorem dX8_marginOf_13 : decode cX8_marginOf 13 = .ok (.getfield 9, 3) := by decide +kernel
theorem dX8_marginOf_16 : decode cX8_marginOf 16 = .ok (.iconst 1, 1) := by decide +kernel
theorem dX8_marginOf_17 : decode cX8_marginOf 17 = .ok (.iaload, 1) := by decide +kernel
theorem dX8_marginOf_18 : decode cX8_marginOf 18 = .ok (.iadd, 1) := by decide +kernel
theorem dX8_marginOf_19 : decode cX8_marginOf 19 = .ok (.aload_n 0, 1) := by decide +kernel
theorem dX8_marginOf_20 : decode cX8_marginOf 20 = .ok (.iload_n 1, 1) := by decide +kernel
theorem dX8_marginOf_21 : decode cX8_marginOf 21 = .ok (.iload_n 3, 1) := by decide +kernel
theorem dX8_marginOf_22 : decode cX8_marginOf 22 = .ok (.invokevirtual 66, 3) := by decide +kernel
theorem dX8_marginOf_25 : decode cX8_marginOf 25 = .ok (.isub, 1) := by decide +kernel
theorem dX8_marginOf_26 : decode cX8_marginOf 26 = .ok (.ireturn, 1) := by decide +kernel
theorem dX8_isSafe_0 : decode cX8_isSafe 0 = .ok (.aload_n 0, 1) := by decide +kernel
theorem dX8_isSafe_1 : decode cX8_isSafe 1 = .ok (.iload_n 1, 1) := by decide +kernel
theorem dX8_isSafe_2 : decode cX8_isSafe 2 = .ok (.iload_n 2, 1) := by decide +kernel
theorem dX8_isSafe_3 : decode cX8_isSafe 3 = .ok (.iload_n 3, 1) := by decide +kernel
theorem dX8_isSafe_4 : decode cX8_isSafe 4 = .ok (.invokevirtual 69, 3) := by decide +kernel
theorem dX8_isSafe_7 : decode cX8_isSafe 7 = .ok (.ifCond .lt 7, 3) := by decide +kernel
theorem dX8_isSafe_10 : decode cX8_isSafe 10 = .ok (.iconst 1, 1) := by decide +kernel
theorem dX8_isSafe_11 : decode cX8_isSafe 11 = .ok (.goto 4, 3) := by decide +kernel
theorem dX8_isSafe_14 : decode cX8_isSafe 14 = .ok (.iconst 0, 1) := by decide +kernel
theorem dX8_isSafe_15 : decode cX8_isSafe 15 = .ok (.ireturn, 1) := by decide +kernel
theorem dX8_gainOf_0 : decode cX8_gainOf 0 = .ok (.aload_n 0, 1) := by decide +kernel
theorem dX8_gainOf_1 : decode cX8_gainOf 1 = .ok (.iload_n 1, 1) := by decide +kernel
theorem dX8_gainOf_2 : decode cX8_gainOf 2 = .ok (.iload_n 2, 1) := by decide +kernel
theorem dX8_gainOf_3 : decode cX8_gainOf 3 = .ok (.iload_n 3, 1) := by decide +kernel
theorem dX8_gainOf_4 : decode cX8_gainOf 4 = .ok (.invokevirtual 69, 3) := by decide +kernel
theorem dX8_gainOf_7 : decode cX8_gainOf 7 = .ok (.istore 4, 2) := by decide +kernel
theorem dX8_gainOf_9 : decode cX8_gainOf 9 = .ok (.aload_n 0, 1) := by decide +kernel
theorem dX8_gainOf_10 : decode cX8_gainOf 10 = .ok (.iconst 1, 1) := by decide +kernel
theorem dX8_gainOf_11 : decode cX8_gainOf 11 = .ok (.iload 4, 2) := by decide +kernel
theorem dX8_gainOf_13 : decode cX8_gainOf 13 = .ok (.ifCond .lt 7, 3) := by decide +kernel
theorem dX8_gainOf_16 : decode cX8_gainOf 16 = .ok (.iconst 1, 1) := by decide +kernel
theorem dX8_gainOf_17 : decode cX8_gainOf 17 = .ok (.goto 4, 3) := by decide +kernel
theorem dX8_gainOf_20 : decode cX8_gainOf 20 = .ok (.iconst 0, 1) := by decide +kernel
theorem dX8_gainOf_21 : decode cX8_gainOf 21 = .ok (.iload 4, 2) := by decide +kernel
theorem dX8_gainOf_23 : decode cX8_gainOf 23 = .ok (.aload_n 0, 1) := by decide +kernel
theorem dX8_gainOf_24 : decode cX8_gainOf 24 = .ok (.getfield 9, 3) := by decide +kernel
theorem dX8_gainOf_27 : decode cX8_gainOf 27 = .ok (.iconst 3, 1) := by decide +kernel
theorem dX8_gainOf_28 : decode cX8_gainOf 28 = .ok (.iaload, 1) := by decide +kernel
theorem dX8_gainOf_29 : decode cX8_gainOf 29 = .ok (.invokevirtual 56, 3) := by decide +kernel
theorem dX8_gainOf_32 : decode cX8_gainOf 32 = .ok (.ireturn, 1) := by decide +kernel
theorem dX8_isKm_0 : decode cX8_isKm 0 = .ok (.iload_n 0, 1) := by decide +kernel
theorem dX8_isKm_1 : decode cX8_isKm 1 = .ok (.iconst 0, 1) := by decide +kernel
theorem dX8_isKm_2 : decode cX8_isKm 2 = .ok (.bipush 69, 2) := by decide +kernel
theorem dX8_isKm_4 : decode cX8_isKm 4 = .ok (.invokestatic 44, 3) := by decide +kernel
theorem dX8_isKm_7 : decode cX8_isKm 7 = .ok (.ireturn, 1) := by decide +kernel
theorem dX8_pitch_0 : decode cX8_pitch 0 = .ok (.iload_n 1, 1) := by decide +kernel
theorem dX8_pitch_1 : decode cX8_pitch 1 = .ok (.invokestatic 73, 3) := by decide +kernel
theorem dX8_pitch_4 : decode cX8_pitch 4 = .ok (.ifCond .eq 13, 3) := by decide +kernel
theorem dX8_pitch_7 : decode cX8_pitch 7 = .ok (.iload_n 2, 1) := by decide +kernel
theorem dX8_pitch_8 : decode cX8_pitch 8 = .ok (.iconst 0, 1) := by decide +kernel
theorem dX8_pitch_9 : decode cX8_pitch 9 = .ok (.bipush 9, 2) := by decide +kernel
theorem dX8_pitch_11 : decode cX8_pitch 11 = .ok (.invokestatic 44, 3) := by decide +kernel
theorem dX8_pitch_14 : decode cX8_pitch 14 = .ok (.ifCond .ne 10, 3) := by decide +kernel
theorem dX8_pitch_17 : decode cX8_pitch 17 = .ok (.aload_n 0, 1) := by decide +kernel
theorem dX8_pitch_18 : decode cX8_pitch 18 = .ok (.ldc 77, 2) := by decide +kernel
theorem dX8_pitch_20 : decode cX8_pitch 20 = .ok (.invokevirtual 78, 3) := by decide +kernel
theorem dX8_pitch_23 : decode cX8_pitch 23 = .ok (.ireturn, 1) := by decide +kernel
theorem dX8_pitch_24 : decode cX8_pitch 24 = .ok (.aload_n 0, 1) := by decide +kernel
theorem dX8_pitch_25 : decode cX8_pitch 25 = .ok (.getfield 9, 3) := by decide +kernel
theorem dX8_pitch_28 : decode cX8_pitch 28 = .ok (.bipush 7, 2) := by decide +kernel
theorem dX8_pitch_30 : decode cX8_pitch 30 = .ok (.iaload, 1) := by decide +kernel
theorem dX8_pitch_31 : decode cX8_pitch 31 = .ok (.istore_n 3, 1) := by decide +kernel
theorem dX8_pitch_32 : decode cX8_pitch 32 = .ok (.iload_n 3, 1) := by decide +kernel
theorem dX8_pitch_33 : decode cX8_pitch 33 = .ok (.bipush 6, 2) := by decide +kernel
theorem dX8_pitch_35 : decode cX8_pitch 35 = .ok (.if_icmp .ne 10, 3) := by decide +kernel
theorem dX8_pitch_38 : decode cX8_pitch 38 = .ok (.aload_n 0, 1) := by decide +kernel
theorem dX8_pitch_39 : decode cX8_pitch 39 = .ok (.ldc 81, 2) := by decide +kernel
theorem dX8_pitch_41 : decode cX8_pitch 41 = .ok (.invokevirtual 78, 3) := by decide +kernel
theorem dX8_pitch_44 : decode cX8_pitch 44 = .ok (.ireturn, 1) := by decide +kernel
theorem dX8_pitch_45 : decode cX8_pitch 45 = .ok (.aload_n 0, 1) := by decide +kernel
theorem dX8_pitch_46 : decode cX8_pitch 46 = .ok (.getfield 9, 3) := by decide +kernel
theorem dX8_pitch_49 : decode cX8_pitch 49 = .ok (.bipush 7, 2) := by decide +kernel
theorem dX8_pitch_51 : decode cX8_pitch 51 = .ok (.dup2, 1) := by decide +kernel
theorem dX8_pitch_52 : decode cX8_pitch 52 = .ok (.iaload, 1) := by decide +kernel
theorem dX8_pitch_53 : decode cX8_pitch 53 = .ok (.iconst 1, 1) := by decide +kernel
theorem dX8_pitch_54 : decode cX8_pitch 54 = .ok (.iadd, 1) := by decide +kernel
theorem dX8_pitch_55 : decode cX8_pitch 55 = .ok (.iastore, 1) := by decide +kernel
theorem dX8_pitch_56 : decode cX8_pitch 56 = .ok (.aload_n 0, 1) := by decide +kernel
theorem dX8_pitch_57 : decode cX8_pitch 57 = .ok (.getfield 9, 3) := by decide +kernel
theorem dX8_pitch_60 : decode cX8_pitch 60 = .ok (.bipush 11, 2) := by decide +kernel
theorem dX8_pitch_62 : decode cX8_pitch 62 = .ok (.iconst 4, 1) := by decide +kernel
theorem dX8_pitch_63 : decode cX8_pitch 63 = .ok (.iload_n 3, 1) := by decide +kernel
theorem dX8_pitch_64 : decode cX8_pitch 64 = .ok (.imul, 1) := by decide +kernel
theorem dX8_pitch_65 : decode cX8_pitch 65 = .ok (.iadd, 1) := by decide +kernel
theorem dX8_pitch_66 : decode cX8_pitch 66 = .ok (.iload_n 1, 1) := by decide +kernel
theorem dX8_pitch_67 : decode cX8_pitch 67 = .ok (.bipush 10, 2) := by decide +kernel
theorem dX8_pitch_69 : decode cX8_pitch 69 = .ok (.idiv, 1) := by decide +kernel
theorem dX8_pitch_70 : decode cX8_pitch 70 = .ok (.iastore, 1) := by decide +kernel
theorem dX8_pitch_71 : decode cX8_pitch 71 = .ok (.aload_n 0, 1) := by decide +kernel
theorem dX8_pitch_72 : decode cX8_pitch 72 = .ok (.getfield 9, 3) := by decide +kernel
theorem dX8_pitch_75 : decode cX8_pitch 75 = .ok (.bipush 11, 2) := by decide +kernel
theorem dX8_pitch_77 : decode cX8_pitch 77 = .ok (.iconst 4, 1) := by decide +kernel
theorem dX8_pitch_78 : decode cX8_pitch 78 = .ok (.iload_n 3, 1) := by decide +kernel
theorem dX8_pitch_79 : decode cX8_pitch 79 = .ok (.imul, 1) := by decide +kernel
theorem dX8_pitch_80 : decode cX8_pitch 80 = .ok (.iadd, 1) := by decide +kernel
theorem dX8_pitch_81 : decode cX8_pitch 81 = .ok (.iconst 1, 1) := by decide +kernel
theorem dX8_pitch_82 : decode cX8_pitch 82 = .ok (.iadd, 1) := by decide +kernel
theorem dX8_pitch_83 : decode cX8_pitch 83 = .ok (.iload_n 1, 1) := by decide +kernel
theorem dX8_pitch_84 : decode cX8_pitch 84 = .ok (.bipush 10, 2) := by decide +kernel
theorem dX8_pitch_86 : decode cX8_pitch 86 = .ok (.irem, 1) := by decide +kernel
theorem dX8_pitch_87 : decode cX8_pitch 87 = .ok (.iastore, 1) := by decide +kernel
theorem dX8_pitch_88 : decode cX8_pitch 88 = .ok (.aload_n 0, 1) := by decide +kernel
theorem dX8_pitch_89 : decode cX8_pitch 89 = .ok (.getfield 9, 3) := by decide +kernel
theorem dX8_pitch_92 : decode cX8_pitch 92 = .ok (.bipush 11, 2) := by decide +kernel
theorem dX8_pitch_94 : decode cX8_pitch 94 = .ok (.iconst 4, 1) := by decide +kernel
theorem dX8_pitch_95 : decode cX8_pitch 95 = .ok (.iload_n 3, 1) := by decide +kernel
theorem dX8_pitch_96 : decode cX8_pitch 96 = .ok (.imul, 1) := by decide +kernel
theorem dX8_pitch_97 : decode cX8_pitch 97 = .ok (.iadd, 1) := by decide +kernel
theorem dX8_pitch_98 : decode cX8_pitch 98 = .ok (.iconst 2, 1) := by decide +kernel
theorem dX8_pitch_99 : decode cX8_pitch 99 = .ok (.iadd, 1) := by decide +kernel
theorem dX8_pitch_100 : decode cX8_pitch 100 = .ok (.iload_n 2, 1) := by decide +kernel
theorem dX8_pitch_101 : decode cX8_pitch 101 = .ok (.iastore, 1) := by decide +kernel
theorem dX8_pitch_102 : decode cX8_pitch 102 = .ok (.aload_n 0, 1) := by decide +kernel
theorem dX8_pitch_103 : decode cX8_pitch 103 = .ok (.getfield 9, 3) := by decide +kernel
theorem dX8_pitch_106 : decode cX8_pitch 106 = .ok (.bipush 11, 2) := by decide +kernel
theorem dX8_pitch_108 : decode cX8_pitch 108 = .ok (.iconst 4, 1) := by decide +kernel
theorem dX8_pitch_109 : decode cX8_pitch 109 = .ok (.iload_n 3, 1) := by decide +kernel
theorem dX8_pitch_110 : decode cX8_pitch 110 = .ok (.imul, 1) := by decide +kernel
theorem dX8_pitch_111 : decode cX8_pitch 111 = .ok (.iadd, 1) := by decide +kernel
theorem dX8_pitch_112 : decode cX8_pitch 112 = .ok (.iconst 3, 1) := by decide +kernel
theorem dX8_pitch_113 : decode cX8_pitch 113 = .ok (.iadd, 1) := by decide +kernel
theorem dX8_pitch_114 : decode cX8_pitch 114 = .ok (.iconst 0, 1) := by decide +kernel
theorem dX8_pitch_115 : decode cX8_pitch 115 = .ok (.iastore, 1) := by decide +kernel
theorem dX8_pitch_116 : decode cX8_pitch 116 = .ok (.iload_n 3, 1) := by decide +kernel
theorem dX8_pitch_117 : decode cX8_pitch 117 = .ok (.ireturn, 1) := by decide +kernel
theorem dX8_pitchIs_0 : decode cX8_pitchIs 0 = .ok (.aload_n 0, 1) := by decide +kernel
theorem dX8_pitchIs_1 : decode cX8_pitchIs 1 = .ok (.iload_n 1, 1) := by decide +kernel
theorem dX8_pitchIs_2 : decode cX8_pitchIs 2 = .ok (.invokevirtual 82, 3) := by decide +kernel
theorem dX8_pitchIs_5 : decode cX8_pitchIs 5 = .ok (.ifCond .eq 12, 3) := by decide +kernel
theorem dX8_pitchIs_8 : decode cX8_pitchIs 8 = .ok (.iload_n 2, 1) := by decide +kernel
theorem dX8_pitchIs_9 : decode cX8_pitchIs 9 = .ok (.iconst 0, 1) := by decide +kernel
theorem dX8_pitchIs_10 : decode cX8_pitchIs 10 = .ok (.iconst 5, 1) := by decide +kernel
theorem dX8_pitchIs_11 : decode cX8_pitchIs 11 = .ok (.invokestatic 44, 3) := by decide +kernel
theorem dX8_pitchIs_14 : decode cX8_pitchIs 14 = .ok (.ifCond .ne 10, 3) := by decide +kernel
theorem dX8_pitchIs_17 : decode cX8_pitchIs 17 = .ok (.aload_n 0, 1) := by decide +kernel
theorem dX8_pitchIs_18 : decode cX8_pitchIs 18 = .ok (.ldc 77, 2) := by decide +kernel
theorem dX8_pitchIs_20 : decode cX8_pitchIs 20 = .ok (.invokevirtual 78, 3) := by decide +kernel
theorem dX8_pitchIs_23 : decode cX8_pitchIs 23 = .ok (.ireturn, 1) := by decide +kernel
theorem dX8_pitchIs_24 : decode cX8_pitchIs 24 = .ok (.iload_n 2, 1) := by decide +kernel
theorem dX8_pitchIs_25 : decode cX8_pitchIs 25 = .ok (.iconst 4, 1) := by decide +kernel
theorem dX8_pitchIs_26 : decode cX8_pitchIs 26 = .ok (.if_icmp .ge 12, 3) := by decide +kernel
theorem dX8_pitchIs_29 : decode cX8_pitchIs 29 = .ok (.aload_n 0, 1) := by decide +kernel
theorem dX8_pitchIs_30 : decode cX8_pitchIs 30 = .ok (.iload_n 1, 1) := by decide +kernel
theorem dX8_pitchIs_31 : decode cX8_pitchIs 31 = .ok (.iload_n 2, 1) := by decide +kernel
theorem dX8_pitchIs_32 : decode cX8_pitchIs 32 = .ok (.invokevirtual 48, 3) := by decide +kernel
theorem dX8_pitchIs_35 : decode cX8_pitchIs 35 = .ok (.goto 21, 3) := by decide +kernel
theorem dX8_pitchIs_38 : decode cX8_pitchIs 38 = .ok (.iload_n 2, 1) := by decide +kernel
theorem dX8_pitchIs_39 : decode cX8_pitchIs 39 = .ok (.iconst 4, 1) := by decide +kernel
theorem dX8_pitchIs_40 : decode cX8_pitchIs 40 = .ok (.if_icmp .ne 11, 3) := by decide +kernel
theorem dX8_pitchIs_43 : decode cX8_pitchIs 43 = .ok (.aload_n 0, 1) := by decide +kernel
theorem dX8_pitchIs_44 : decode cX8_pitchIs 44 = .ok (.iload_n 1, 1) := by decide +kernel
theorem dX8_pitchIs_45 : decode cX8_pitchIs 45 = .ok (.invokevirtual 63, 3) := by decide +kernel
theorem dX8_pitchIs_48 : decode cX8_pitchIs 48 = .ok (.goto 8, 3) := by decide +kernel
theorem dX8_pitchIs_51 : decode cX8_pitchIs 51 = .ok (.aload_n 0, 1) := by decide +kernel
theorem dX8_pitchIs_52 : decode cX8_pitchIs 52 = .ok (.iload_n 1, 1) := by decide +kernel
theorem dX8_pitchIs_53 : decode cX8_pitchIs 53 = .ok (.invokevirtual 85, 3) := by decide +kernel
theorem dX8_pitchIs_56 : decode cX8_pitchIs 56 = .ok (.ireturn, 1) := by decide +kernel
theorem dX8_become_0 : decode cX8_become 0 = .ok (.aload_n 0, 1) := by decide +kernel
theorem dX8_become_1 : decode cX8_become 1 = .ok (.iload_n 1, 1) := by decide +kernel
theorem dX8_become_2 : decode cX8_become 2 = .ok (.invokevirtual 82, 3) := by decide +kernel
theorem dX8_become_5 : decode cX8_become 5 = .ok (.ifCond .eq 10, 3) := by decide +kernel
theorem dX8_become_8 : decode cX8_become 8 = .ok (.iload_n 2, 1) := by decide +kernel
theorem dX8_become_9 : decode cX8_become 9 = .ok (.invokestatic 73, 3) := by decide +kernel
theorem dX8_become_12 : decode cX8_become 12 = .ok (.ifCond .ne 10, 3) := by decide +kernel
theorem dX8_become_15 : decode cX8_become 15 = .ok (.aload_n 0, 1) := by decide +kernel
theorem dX8_become_16 : decode cX8_become 16 = .ok (.ldc 77, 2) := by decide +kernel
theorem dX8_become_18 : decode cX8_become 18 = .ok (.invokevirtual 78, 3) := by decide +kernel
theorem dX8_become_21 : decode cX8_become 21 = .ok (.ireturn, 1) := by decide +kernel
theorem dX8_become_22 : decode cX8_become 22 = .ok (.aload_n 0, 1) := by decide +kernel
theorem dX8_become_23 : decode cX8_become 23 = .ok (.getfield 9, 3) := by decide +kernel
theorem dX8_become_26 : decode cX8_become 26 = .ok (.bipush 11, 2) := by decide +kernel
theorem dX8_become_28 : decode cX8_become 28 = .ok (.iconst 4, 1) := by decide +kernel
theorem dX8_become_29 : decode cX8_become 29 = .ok (.iload_n 1, 1) := by decide +kernel
theorem dX8_become_30 : decode cX8_become 30 = .ok (.imul, 1) := by decide +kernel
theorem dX8_become_31 : decode cX8_become 31 = .ok (.iadd, 1) := by decide +kernel
theorem dX8_become_32 : decode cX8_become 32 = .ok (.iconst 1, 1) := by decide +kernel
theorem dX8_become_33 : decode cX8_become 33 = .ok (.iadd, 1) := by decide +kernel
theorem dX8_become_34 : decode cX8_become 34 = .ok (.iload_n 2, 1) := by decide +kernel
theorem dX8_become_35 : decode cX8_become 35 = .ok (.bipush 10, 2) := by decide +kernel
theorem dX8_become_37 : decode cX8_become 37 = .ok (.irem, 1) := by decide +kernel
theorem dX8_become_38 : decode cX8_become 38 = .ok (.iastore, 1) := by decide +kernel
theorem dX8_become_39 : decode cX8_become 39 = .ok (.aload_n 0, 1) := by decide +kernel
theorem dX8_become_40 : decode cX8_become 40 = .ok (.bipush 11, 2) := by decide +kernel
theorem dX8_become_42 : decode cX8_become 42 = .ok (.iconst 4, 1) := by decide +kernel
theorem dX8_become_43 : decode cX8_become 43 = .ok (.iload_n 1, 1) := by decide +kernel
theorem dX8_become_44 : decode cX8_become 44 = .ok (.imul, 1) := by decide +kernel
theorem dX8_become_45 : decode cX8_become 45 = .ok (.iadd, 1) := by decide +kernel
theorem dX8_become_46 : decode cX8_become 46 = .ok (.iload_n 2, 1) := by decide +kernel
theorem dX8_become_47 : decode cX8_become 47 = .ok (.bipush 10, 2) := by decide +kernel
theorem dX8_become_49 : decode cX8_become 49 = .ok (.idiv, 1) := by decide +kernel
theorem dX8_become_50 : decode cX8_become 50 = .ok (.invokevirtual 88, 3) := by decide +kernel
theorem dX8_become_53 : decode cX8_become 53 = .ok (.ireturn, 1) := by decide +kernel
theorem dX8_as_0 : decode cX8_as 0 = .ok (.aload_n 0, 1) := by decide +kernel
theorem dX8_as_1 : decode cX8_as 1 = .ok (.iload_n 1, 1) := by decide +kernel
theorem dX8_as_2 : decode cX8_as 2 = .ok (.invokevirtual 82, 3) := by decide +kernel
theorem dX8_as_5 : decode cX8_as 5 = .ok (.ifCond .eq 13, 3) := by decide +kernel
theorem dX8_as_8 : decode cX8_as 8 = .ok (.iload_n 2, 1) := by decide +kernel
theorem dX8_as_9 : decode cX8_as 9 = .ok (.iconst 0, 1) := by decide +kernel
theorem dX8_as_10 : decode cX8_as 10 = .ok (.bipush 6, 2) := by decide +kernel
theorem dX8_as_12 : decode cX8_as 12 = .ok (.invokestatic 44, 3) := by decide +kernel
theorem dX8_as_15 : decode cX8_as 15 = .ok (.ifCond .ne 10, 3) := by decide +kernel
theorem dX8_as_18 : decode cX8_as 18 = .ok (.aload_n 0, 1) := by decide +kernel
theorem dX8_as_19 : decode cX8_as 19 = .ok (.ldc 77, 2) := by decide +kernel
theorem dX8_as_21 : decode cX8_as 21 = .ok (.invokevirtual 78, 3) := by decide +kernel
theorem dX8_as_24 : decode cX8_as 24 = .ok (.ireturn, 1) := by decide +kernel
theorem dX8_as_25 : decode cX8_as 25 = .ok (.aload_n 0, 1) := by decide +kernel
theorem dX8_as_26 : decode cX8_as 26 = .ok (.iload_n 1, 1) := by decide +kernel
theorem dX8_as_27 : decode cX8_as 27 = .ok (.iconst 0, 1) := by decide +kernel
theorem dX8_as_28 : decode cX8_as 28 = .ok (.invokevirtual 48, 3) := by decide +kernel
theorem dX8_as_31 : decode cX8_as 31 = .ok (.istore_n 3, 1) := by decide +kernel
theorem dX8_as_32 : decode cX8_as 32 = .ok (.iload_n 2, 1) := by decide +kernel
theorem dX8_as_33 : decode cX8_as 33 = .ok (.ifCond .eq 28, 3) := by decide +kernel
theorem dX8_as_36 : decode cX8_as 36 = .ok (.iload_n 2, 1) := by decide +kernel
theorem dX8_as_37 : decode cX8_as 37 = .ok (.iload_n 3, 1) := by decide +kernel
theorem dX8_as_38 : decode cX8_as 38 = .ok (.if_icmp .eq 23, 3) := by decide +kernel
theorem dX8_as_41 : decode cX8_as 41 = .ok (.iload_n 2, 1) := by decide +kernel
theorem dX8_as_42 : decode cX8_as 42 = .ok (.iconst 1, 1) := by decide +kernel
theorem dX8_as_43 : decode cX8_as 43 = .ok (.if_icmp .ne 8, 3) := by decide +kernel
theorem dX8_as_46 : decode cX8_as 46 = .ok (.iload_n 3, 1) := by decide +kernel
theorem dX8_as_47 : decode cX8_as 47 = .ok (.iconst 4, 1) := by decide +kernel
theorem dX8_as_48 : decode cX8_as 48 = .ok (.if_icmp .eq 13, 3) := by decide +kernel
theorem dX8_as_51 : decode cX8_as 51 = .ok (.iload_n 2, 1) := by decide +kernel
theorem dX8_as_52 : decode cX8_as 52 = .ok (.iconst 2, 1) := by decide +kernel
theorem dX8_as_53 : decode cX8_as 53 = .ok (.if_icmp .ne 12, 3) := by decide +kernel
theorem dX8_as_56 : decode cX8_as 56 = .ok (.iload_n 3, 1) := by decide +kernel
theorem dX8_as_57 : decode cX8_as 57 = .ok (.iconst 5, 1) := by decide +kernel
theorem dX8_as_58 : decode cX8_as 58 = .ok (.if_icmp .ne 7, 3) := by decide +kernel
theorem dX8_as_61 : decode cX8_as 61 = .ok (.iconst 1, 1) := by decide +kernel
theorem dX8_as_62 : decode cX8_as 62 = .ok (.goto 4, 3) := by decide +kernel
theorem dX8_as_65 : decode cX8_as 65 = .ok (.iconst 0, 1) := by decide +kernel
theorem dX8_as_66 : decode cX8_as 66 = .ok (.istore 4, 2) := by decide +kernel
theorem dX8_as_68 : decode cX8_as 68 = .ok (.iload 4, 2) := by decide +kernel
theorem dX8_as_70 : decode cX8_as 70 = .ok (.ifCond .eq 12, 3) := by decide +kernel
theorem dX8_as_73 : decode cX8_as 73 = .ok (.aload_n 0, 1) := by decide +kernel
theorem dX8_as_74 : decode cX8_as 74 = .ok (.iload_n 1, 1) := by decide +kernel
theorem dX8_as_75 : decode cX8_as 75 = .ok (.iconst 1, 1) := by decide +kernel
theorem dX8_as_76 : decode cX8_as 76 = .ok (.invokevirtual 48, 3) := by decide +kernel
theorem dX8_as_79 : decode cX8_as 79 = .ok (.goto 9, 3) := by decide +kernel
theorem dX8_as_82 : decode cX8_as 82 = .ok (.aload_n 0, 1) := by decide +kernel
theorem dX8_as_83 : decode cX8_as 83 = .ok (.ldc 91, 2) := by decide +kernel
theorem dX8_as_85 : decode cX8_as 85 = .ok (.invokevirtual 78, 3) := by decide +kernel
theorem dX8_as_88 : decode cX8_as 88 = .ok (.ireturn, 1) := by decide +kernel
theorem dX8_weighs_0 : decode cX8_weighs 0 = .ok (.aload_n 0, 1) := by decide +kernel
theorem dX8_weighs_1 : decode cX8_weighs 1 = .ok (.iload_n 1, 1) := by decide +kernel
theorem dX8_weighs_2 : decode cX8_weighs 2 = .ok (.invokevirtual 82, 3) := by decide +kernel
theorem dX8_weighs_5 : decode cX8_weighs 5 = .ok (.ifCond .eq 29, 3) := by decide +kernel
theorem dX8_weighs_8 : decode cX8_weighs 8 = .ok (.iload_n 2, 1) := by decide +kernel
theorem dX8_weighs_9 : decode cX8_weighs 9 = .ok (.iconst 0, 1) := by decide +kernel
theorem dX8_weighs_10 : decode cX8_weighs 10 = .ok (.bipush 9, 2) := by decide +kernel
theorem dX8_weighs_12 : decode cX8_weighs 12 = .ok (.invokestatic 44, 3) := by decide +kernel
theorem dX8_weighs_15 : decode cX8_weighs 15 = .ok (.ifCond .eq 19, 3) := by decide +kernel
theorem dX8_weighs_18 : decode cX8_weighs 18 = .ok (.aload_n 0, 1) := by decide +kernel
theorem dX8_weighs_19 : decode cX8_weighs 19 = .ok (.bipush 11, 2) := by decide +kernel
theorem dX8_weighs_21 : decode cX8_weighs 21 = .ok (.iconst 4, 1) := by decide +kernel
theorem dX8_weighs_22 : decode cX8_weighs 22 = .ok (.iload_n 1, 1) := by decide +kernel
theorem dX8_weighs_23 : decode cX8_weighs 23 = .ok (.imul, 1) := by decide +kernel
theorem dX8_weighs_24 : decode cX8_weighs 24 = .ok (.iadd, 1) := by decide +kernel
theorem dX8_weighs_25 : decode cX8_weighs 25 = .ok (.iconst 2, 1) := by decide +kernel
theorem dX8_weighs_26 : decode cX8_weighs 26 = .ok (.iadd, 1) := by decide +kernel
theorem dX8_weighs_27 : decode cX8_weighs 27 = .ok (.iload_n 2, 1) := by decide +kernel
theorem dX8_weighs_28 : decode cX8_weighs 28 = .ok (.invokevirtual 88, 3) := by decide +kernel
theorem dX8_weighs_31 : decode cX8_weighs 31 = .ok (.goto 9, 3) := by decide +kernel
theorem dX8_weighs_34 : decode cX8_weighs 34 = .ok (.aload_n 0, 1) := by decide +kernel
theorem dX8_weighs_35 : decode cX8_weighs 35 = .ok (.ldc 77, 2) := by decide +kernel
theorem dX8_weighs_37 : decode cX8_weighs 37 = .ok (.invokevirtual 78, 3) := by decide +kernel
theorem dX8_weighs_40 : decode cX8_weighs 40 = .ok (.ireturn, 1) := by decide +kernel
theorem dX8_runner_0 : decode cX8_runner 0 = .ok (.iload_n 1, 1) := by decide +kernel
theorem dX8_runner_1 : decode cX8_runner 1 = .ok (.iconst 0, 1) := by decide +kernel
theorem dX8_runner_2 : decode cX8_runner 2 = .ok (.bipush 99, 2) := by decide +kernel
theorem dX8_runner_4 : decode cX8_runner 4 = .ok (.invokestatic 44, 3) := by decide +kernel
theorem dX8_runner_7 : decode cX8_runner 7 = .ok (.ifCond .eq 13, 3) := by decide +kernel
theorem dX8_runner_10 : decode cX8_runner 10 = .ok (.iload_n 2, 1) := by decide +kernel
theorem dX8_runner_11 : decode cX8_runner 11 = .ok (.iconst 1, 1) := by decide +kernel
theorem dX8_runner_12 : decode cX8_runner 12 = .ok (.bipush 60, 2) := by decide +kernel
theorem dX8_runner_14 : decode cX8_runner 14 = .ok (.invokestatic 44, 3) := by decide +kernel
theorem dX8_runner_17 : decode cX8_runner 17 = .ok (.ifCond .ne 10, 3) := by decide +kernel
theorem dX8_runner_20 : decode cX8_runner 20 = .ok (.aload_n 0, 1) := by decide +kernel
theorem dX8_runner_21 : decode cX8_runner 21 = .ok (.ldc 77, 2) := by decide +kernel
theorem dX8_runner_23 : decode cX8_runner 23 = .ok (.invokevirtual 78, 3) := by decide +kernel
theorem dX8_runner_26 : decode cX8_runner 26 = .ok (.ireturn, 1) := by decide +kernel
theorem dX8_runner_27 : decode cX8_runner 27 = .ok (.aload_n 0, 1) := by decide +kernel
theorem dX8_runner_28 : decode cX8_runner 28 = .ok (.getfield 9, 3) := by decide +kernel
theorem dX8_runner_31 : decode cX8_runner 31 = .ok (.bipush 8, 2) := by decide +kernel
theorem dX8_runner_33 : decode cX8_runner 33 = .ok (.iaload, 1) := by decide +kernel
theorem dX8_runner_34 : decode cX8_runner 34 = .ok (.istore_n 3, 1) := by decide +kernel
theorem dX8_runner_35 : decode cX8_runner 35 = .ok (.iload_n 3, 1) := by decide +kernel
theorem dX8_runner_36 : decode cX8_runner 36 = .ok (.iconst 5, 1) := by decide +kernel
theorem dX8_runner_37 : decode cX8_runner 37 = .ok (.if_icmp .ne 10, 3) := by decide +kernel
theorem dX8_runner_40 : decode cX8_runner 40 = .ok (.aload_n 0, 1) := by decide +kernel
theorem dX8_runner_41 : decode cX8_runner 41 = .ok (.ldc 81, 2) := by decide +kernel
theorem dX8_runner_43 : decode cX8_runner 43 = .ok (.invokevirtual 78, 3) := by decide +kernel
theorem dX8_runner_46 : decode cX8_runner 46 = .ok (.ireturn, 1) := by decide +kernel
theorem dX8_runner_47 : decode cX8_runner 47 = .ok (.aload_n 0, 1) := by decide +kernel
theorem dX8_runner_48 : decode cX8_runner 48 = .ok (.getfield 9, 3) := by decide +kernel
theorem dX8_runner_51 : decode cX8_runner 51 = .ok (.bipush 8, 2) := by decide +kernel
theorem dX8_runner_53 : decode cX8_runner 53 = .ok (.dup2, 1) := by decide +kernel
theorem dX8_runner_54 : decode cX8_runner 54 = .ok (.iaload, 1) := by decide +kernel
theorem dX8_runner_55 : decode cX8_runner 55 = .ok (.iconst 1, 1) := by decide +kernel
theorem dX8_runner_56 : decode cX8_runner 56 = .ok (.iadd, 1) := by decide +kernel
theorem dX8_runner_57 : decode cX8_runner 57 = .ok (.iastore, 1) := by decide +kernel
theorem dX8_runner_58 : decode cX8_runner 58 = .ok (.aload_n 0, 1) := by decide +kernel
theorem dX8_runner_59 : decode cX8_runner 59 = .ok (.iload_n 3, 1) := by decide +kernel
theorem dX8_runner_60 : decode cX8_runner 60 = .ok (.iconst 0, 1) := by decide +kernel
theorem dX8_runner_61 : decode cX8_runner 61 = .ok (.iload_n 1, 1) := by decide +kernel
theorem dX8_runner_62 : decode cX8_runner 62 = .ok (.invokevirtual 92, 3) := by decide +kernel
theorem dX8_runner_65 : decode cX8_runner 65 = .ok (.aload_n 0, 1) := by decide +kernel
theorem dX8_runner_66 : decode cX8_runner 66 = .ok (.iload_n 3, 1) := by decide +kernel
theorem dX8_runner_67 : decode cX8_runner 67 = .ok (.iconst 1, 1) := by decide +kernel
theorem dX8_runner_68 : decode cX8_runner 68 = .ok (.iload_n 2, 1) := by decide +kernel
theorem dX8_runner_69 : decode cX8_runner 69 = .ok (.invokevirtual 92, 3) := by decide +kernel
theorem dX8_runner_72 : decode cX8_runner 72 = .ok (.aload_n 0, 1) := by decide +kernel
theorem dX8_runner_73 : decode cX8_runner 73 = .ok (.iload_n 3, 1) := by decide +kernel
theorem dX8_runner_74 : decode cX8_runner 74 = .ok (.iconst 2, 1) := by decide +kernel
theorem dX8_runner_75 : decode cX8_runner 75 = .ok (.iconst 0, 1) := by decide +kernel
theorem dX8_runner_76 : decode cX8_runner 76 = .ok (.invokevirtual 92, 3) := by decide +kernel
theorem dX8_runner_79 : decode cX8_runner 79 = .ok (.aload_n 0, 1) := by decide +kernel
theorem dX8_runner_80 : decode cX8_runner 80 = .ok (.iload_n 3, 1) := by decide +kernel
theorem dX8_runner_81 : decode cX8_runner 81 = .ok (.iconst 3, 1) := by decide +kernel
theorem dX8_runner_82 : decode cX8_runner 82 = .ok (.iconst 0, 1) := by decide +kernel
theorem dX8_runner_83 : decode cX8_runner 83 = .ok (.invokevirtual 92, 3) := by decide +kernel
theorem dX8_runner_86 : decode cX8_runner 86 = .ok (.aload_n 0, 1) := by decide +kernel
theorem dX8_runner_87 : decode cX8_runner 87 = .ok (.iload_n 3, 1) := by decide +kernel
theorem dX8_runner_88 : decode cX8_runner 88 = .ok (.iconst 4, 1) := by decide +kernel
theorem dX8_runner_89 : decode cX8_runner 89 = .ok (.iconst 0, 1) := by decide +kernel
theorem dX8_runner_90 : decode cX8_runner 90 = .ok (.invokevirtual 92, 3) := by decide +kernel
theorem dX8_runner_93 : decode cX8_runner 93 = .ok (.iload_n 3, 1) := by decide +kernel
theorem dX8_runner_94 : decode cX8_runner 94 = .ok (.ireturn, 1) := by decide +kernel
theorem dX8_runnerIs_0 : decode cX8_runnerIs 0 = .ok (.aload_n 0, 1) := by decide +kernel
theorem dX8_runnerIs_1 : decode cX8_runnerIs 1 = .ok (.iload_n 1, 1) := by decide +kernel
theorem dX8_runnerIs_2 : decode cX8_runnerIs 2 = .ok (.invokevirtual 96, 3) := by decide +kernel
theorem dX8_runnerIs_5 : decode cX8_runnerIs 5 = .ok (.ifCond .eq 13, 3) := by decide +kernel
theorem dX8_runnerIs_8 : decode cX8_runnerIs 8 = .ok (.iload_n 2, 1) := by decide +kernel
theorem dX8_runnerIs_9 : decode cX8_runnerIs 9 = .ok (.iconst 0, 1) := by decide +kernel
theorem dX8_runnerIs_10 : decode cX8_runnerIs 10 = .ok (.bipush 6, 2) := by decide +kernel
theorem dX8_runnerIs_12 : decode cX8_runnerIs 12 = .ok (.invokestatic 44, 3) := by decide +kernel
theorem dX8_runnerIs_15 : decode cX8_runnerIs 15 = .ok (.ifCond .ne 10, 3) := by decide +kernel
theorem dX8_runnerIs_18 : decode cX8_runnerIs 18 = .ok (.aload_n 0, 1) := by decide +kernel
theorem dX8_runnerIs_19 : decode cX8_runnerIs 19 = .ok (.ldc 77, 2) := by decide +kernel
theorem dX8_runnerIs_21 : decode cX8_runnerIs 21 = .ok (.invokevirtual 78, 3) := by decide +kernel
theorem dX8_runnerIs_24 : decode cX8_runnerIs 24 = .ok (.ireturn, 1) := by decide +kernel
theorem dX8_runnerIs_25 : decode cX8_runnerIs 25 = .ok (.aload_n 0, 1) := by decide +kernel
theorem dX8_runnerIs_26 : decode cX8_runnerIs 26 = .ok (.iload_n 1, 1) := by decide +kernel
theorem dX8_runnerIs_27 : decode cX8_runnerIs 27 = .ok (.iconst 2, 1) := by decide +kernel
theorem dX8_runnerIs_28 : decode cX8_runnerIs 28 = .ok (.invokevirtual 60, 3) := by decide +kernel
theorem dX8_runnerIs_31 : decode cX8_runnerIs 31 = .ok (.istore_n 3, 1) := by decide +kernel
theorem dX8_runnerIs_32 : decode cX8_runnerIs 32 = .ok (.iload_n 2, 1) := by decide +kernel
theorem dX8_runnerIs_33 : decode cX8_runnerIs 33 = .ok (.iconst 5, 1) := by decide +kernel
theorem dX8_runnerIs_34 : decode cX8_runnerIs 34 = .ok (.if_icmp .ge 12, 3) := by decide +kernel
theorem dX8_runnerIs_37 : decode cX8_runnerIs 37 = .ok (.aload_n 0, 1) := by decide +kernel
theorem dX8_runnerIs_38 : decode cX8_runnerIs 38 = .ok (.iload_n 1, 1) := by decide +kernel
theorem dX8_runnerIs_39 : decode cX8_runnerIs 39 = .ok (.iload_n 2, 1) := by decide +kernel
theorem dX8_runnerIs_40 : decode cX8_runnerIs 40 = .ok (.invokevirtual 60, 3) := by decide +kernel
theorem dX8_runnerIs_43 : decode cX8_runnerIs 43 = .ok (.goto 31, 3) := by decide +kernel
theorem dX8_runnerIs_46 : decode cX8_runnerIs 46 = .ok (.iload_n 2, 1) := by decide +kernel
theorem dX8_runnerIs_47 : decode cX8_runnerIs 47 = .ok (.iconst 5, 1) := by decide +kernel
theorem dX8_runnerIs_48 : decode cX8_runnerIs 48 = .ok (.if_icmp .ne 12, 3) := by decide +kernel
theorem dX8_runnerIs_51 : decode cX8_runnerIs 51 = .ok (.aload_n 0, 1) := by decide +kernel
theorem dX8_runnerIs_52 : decode cX8_runnerIs 52 = .ok (.iload_n 1, 1) := by decide +kernel
theorem dX8_runnerIs_53 : decode cX8_runnerIs 53 = .ok (.iload_n 3, 1) := by decide +kernel
theorem dX8_runnerIs_54 : decode cX8_runnerIs 54 = .ok (.invokevirtual 66, 3) := by decide +kernel
theorem dX8_runnerIs_57 : decode cX8_runnerIs 57 = .ok (.goto 17, 3) := by decide +kernel
theorem dX8_runnerIs_60 : decode cX8_runnerIs 60 = .ok (.aload_n 0, 1) := by decide +kernel
theorem dX8_runnerIs_61 : decode cX8_runnerIs 61 = .ok (.iload_n 1, 1) := by decide +kernel
theorem dX8_runnerIs_62 : decode cX8_runnerIs 62 = .ok (.iload_n 3, 1) := by decide +kernel
theorem dX8_runnerIs_63 : decode cX8_runnerIs 63 = .ok (.invokevirtual 99, 3) := by decide +kernel
theorem dX8_runnerIs_66 : decode cX8_runnerIs 66 = .ok (.ifCond .eq 7, 3) := by decide +kernel
theorem dX8_runnerIs_69 : decode cX8_runnerIs 69 = .ok (.iconst 1, 1) := by decide +kernel
theorem dX8_runnerIs_70 : decode cX8_runnerIs 70 = .ok (.goto 4, 3) := by decide +kernel
theorem dX8_runnerIs_73 : decode cX8_runnerIs 73 = .ok (.iconst 0, 1) := by decide +kernel
theorem dX8_runnerIs_74 : decode cX8_runnerIs 74 = .ok (.ireturn, 1) := by decide +kernel
theorem dX8_leads_0 : decode cX8_leads 0 = .ok (.aload_n 0, 1) := by decide +kernel
theorem dX8_leads_1 : decode cX8_leads 1 = .ok (.iload_n 1, 1) := by decide +kernel
theorem dX8_leads_2 : decode cX8_leads 2 = .ok (.invokevirtual 96, 3) := by decide +kernel
theorem dX8_leads_5 : decode cX8_leads 5 = .ok (.ifCond .eq 26, 3) := by decide +kernel
theorem dX8_leads_8 : decode cX8_leads 8 = .ok (.iload_n 2, 1) := by decide +kernel
theorem dX8_leads_9 : decode cX8_leads 9 = .ok (.invokestatic 103, 3) := by decide +kernel
theorem dX8_leads_12 : decode cX8_leads 12 = .ok (.ifCond .eq 19, 3) := by decide +kernel
theorem dX8_leads_15 : decode cX8_leads 15 = .ok (.aload_n 0, 1) := by decide +kernel
theorem dX8_leads_16 : decode cX8_leads 16 = .ok (.bipush 35, 2) := by decide +kernel
theorem dX8_leads_18 : decode cX8_leads 18 = .ok (.iconst 5, 1) := by decide +kernel
theorem dX8_leads_19 : decode cX8_leads 19 = .ok (.iload_n 1, 1) := by decide +kernel
theorem dX8_leads_20 : decode cX8_leads 20 = .ok (.imul, 1) := by decide +kernel
theorem dX8_leads_21 : decode cX8_leads 21 = .ok (.iadd, 1) := by decide +kernel
theorem dX8_leads_22 : decode cX8_leads 22 = .ok (.iconst 2, 1) := by decide +kernel
theorem dX8_leads_23 : decode cX8_leads 23 = .ok (.iadd, 1) := by decide +kernel
theorem dX8_leads_24 : decode cX8_leads 24 = .ok (.iload_n 2, 1) := by decide +kernel
theorem dX8_leads_25 : decode cX8_leads 25 = .ok (.invokevirtual 88, 3) := by decide +kernel
theorem dX8_leads_28 : decode cX8_leads 28 = .ok (.goto 9, 3) := by decide +kernel
theorem dX8_leads_31 : decode cX8_leads 31 = .ok (.aload_n 0, 1) := by decide +kernel
theorem dX8_leads_32 : decode cX8_leads 32 = .ok (.ldc 77, 2) := by decide +kernel
theorem dX8_leads_34 : decode cX8_leads 34 = .ok (.invokevirtual 78, 3) := by decide +kernel
theorem dX8_leads_37 : decode cX8_leads 37 = .ok (.ireturn, 1) := by decide +kernel
theorem dX8_set_0 : decode cX8_set 0 = .ok (.iload_n 1, 1) := by decide +kernel
theorem dX8_set_1 : decode cX8_set 1 = .ok (.iconst 0, 1) := by decide +kernel
theorem dX8_set_2 : decode cX8_set 2 = .ok (.iconst 3, 1) := by decide +kernel
theorem dX8_set_3 : decode cX8_set 3 = .ok (.invokestatic 44, 3) := by decide +kernel
theorem dX8_set_6 : decode cX8_set 6 = .ok (.ifCond .eq 37, 3) := by decide +kernel
theorem dX8_set_9 : decode cX8_set 9 = .ok (.iload_n 2, 1) := by decide +kernel
theorem dX8_set_10 : decode cX8_set 10 = .ok (.iconst 0, 1) := by decide +kernel
theorem dX8_set_11 : decode cX8_set 11 = .ok (.iload_n 1, 1) := by decide +kernel
theorem dX8_set_12 : decode cX8_set 12 = .ok (.iconst 2, 1) := by decide +kernel
theorem dX8_set_13 : decode cX8_set 13 = .ok (.if_icmp .ge 9, 3) := by decide +kernel
theorem dX8_set_16 : decode cX8_set 16 = .ok (.sipush 200, 3) := by decide +kernel
theorem dX8_set_19 : decode cX8_set 19 = .ok (.goto 14, 3) := by decide +kernel
theorem dX8_set_22 : decode cX8_set 22 = .ok (.iload_n 1, 1) := by decide +kernel
theorem dX8_set_23 : decode cX8_set 23 = .ok (.iconst 2, 1) := by decide +kernel
theorem dX8_set_24 : decode cX8_set 24 = .ok (.if_icmp .ne 8, 3) := by decide +kernel
theorem dX8_set_27 : decode cX8_set 27 = .ok (.bipush 9, 2) := by decide +kernel
theorem dX8_set_29 : decode cX8_set 29 = .ok (.goto 4, 3) := by decide +kernel
theorem dX8_set_32 : decode cX8_set 32 = .ok (.iconst 2, 1) := by decide +kernel
theorem dX8_set_33 : decode cX8_set 33 = .ok (.invokestatic 44, 3) := by decide +kernel
theorem dX8_set_36 : decode cX8_set 36 = .ok (.ifCond .eq 7, 3) := by decide +kernel
theorem dX8_set_39 : decode cX8_set 39 = .ok (.iconst 1, 1) := by decide +kernel
theorem dX8_set_40 : decode cX8_set 40 = .ok (.goto 4, 3) := by decide +kernel
theorem dX8_set_43 : decode cX8_set 43 = .ok (.iconst 0, 1) := by decide +kernel
theorem dX8_set_44 : decode cX8_set 44 = .ok (.istore_n 3, 1) := by decide +kernel
theorem dX8_set_45 : decode cX8_set 45 = .ok (.iload_n 3, 1) := by decide +kernel
theorem dX8_set_46 : decode cX8_set 46 = .ok (.ifCond .eq 14, 3) := by decide +kernel
theorem dX8_set_49 : decode cX8_set 49 = .ok (.aload_n 0, 1) := by decide +kernel
theorem dX8_set_50 : decode cX8_set 50 = .ok (.iconst 0, 1) := by decide +kernel
theorem dX8_set_51 : decode cX8_set 51 = .ok (.iload_n 1, 1) := by decide +kernel
theorem dX8_set_52 : decode cX8_set 52 = .ok (.iadd, 1) := by decide +kernel
theorem dX8_set_53 : decode cX8_set 53 = .ok (.iload_n 2, 1) := by decide +kernel
theorem dX8_set_54 : decode cX8_set 54 = .ok (.invokevirtual 88, 3) := by decide +kernel
theorem dX8_set_57 : decode cX8_set 57 = .ok (.goto 9, 3) := by decide +kernel
theorem dX8_set_60 : decode cX8_set 60 = .ok (.aload_n 0, 1) := by decide +kernel
theorem dX8_set_61 : decode cX8_set 61 = .ok (.ldc 77, 2) := by decide +kernel
theorem dX8_set_63 : decode cX8_set 63 = .ok (.invokevirtual 78, 3) := by decide +kernel
theorem dX8_set_66 : decode cX8_set 66 = .ok (.ireturn, 1) := by decide +kernel
theorem dX8_more_0 : decode cX8_more 0 = .ok (.aload_n 0, 1) := by decide +kernel
theorem dX8_more_1 : decode cX8_more 1 = .ok (.getfield 9, 3) := by decide +kernel
theorem dX8_more_4 : decode cX8_more 4 = .ok (.iload_n 1, 1) := by decide +kernel
theorem dX8_more_5 : decode cX8_more 5 = .ok (.aload_n 0, 1) := by decide +kernel
theorem dX8_more_6 : decode cX8_more 6 = .ok (.getfield 9, 3) := by decide +kernel
theorem dX8_more_9 : decode cX8_more 9 = .ok (.iload_n 1, 1) := by decide +kernel
theorem dX8_more_10 : decode cX8_more 10 = .ok (.iaload, 1) := by decide +kernel
theorem dX8_more_11 : decode cX8_more 11 = .ok (.iconst 1, 1) := by decide +kernel
theorem dX8_more_12 : decode cX8_more 12 = .ok (.iadd, 1) := by decide +kernel
theorem dX8_more_13 : decode cX8_more 13 = .ok (.iconst 0, 1) := by decide +kernel
theorem dX8_more_14 : decode cX8_more 14 = .ok (.sipush 9999, 3) := by decide +kernel
theorem dX8_more_17 : decode cX8_more 17 = .ok (.invokestatic 106, 3) := by decide +kernel
theorem dX8_more_20 : decode cX8_more 20 = .ok (.iastore, 1) := by decide +kernel
theorem dX8_more_21 : decode cX8_more 21 = .ok (.return_, 1) := by decide +kernel
theorem dX8_isOut_0 : decode cX8_isOut 0 = .ok (.aload_n 0, 1) := by decide +kernel
theorem dX8_isOut_1 : decode cX8_isOut 1 = .ok (.bipush 35, 2) := by decide +kernel
theorem dX8_isOut_3 : decode cX8_isOut 3 = .ok (.iconst 5, 1) := by decide +kernel
theorem dX8_isOut_4 : decode cX8_isOut 4 = .ok (.iload_n 1, 1) := by decide +kernel
theorem dX8_isOut_5 : decode cX8_isOut 5 = .ok (.imul, 1) := by decide +kernel
theorem dX8_isOut_6 : decode cX8_isOut 6 = .ok (.iadd, 1) := by decide +kernel
theorem dX8_isOut_7 : decode cX8_isOut 7 = .ok (.iconst 4, 1) := by decide +kernel
theorem dX8_isOut_8 : decode cX8_isOut 8 = .ok (.iadd, 1) := by decide +kernel
theorem dX8_isOut_9 : decode cX8_isOut 9 = .ok (.invokevirtual 109, 3) := by decide +kernel
theorem dX8_isOut_12 : decode cX8_isOut 12 = .ok (.aload_n 0, 1) := by decide +kernel
theorem dX8_isOut_13 : decode cX8_isOut 13 = .ok (.iload_n 1, 1) := by decide +kernel
theorem dX8_isOut_14 : decode cX8_isOut 14 = .ok (.iconst 2, 1) := by decide +kernel
theorem dX8_isOut_15 : decode cX8_isOut 15 = .ok (.iconst 0, 1) := by decide +kernel
theorem dX8_isOut_16 : decode cX8_isOut 16 = .ok (.invokevirtual 92, 3) := by decide +kernel
theorem dX8_isOut_19 : decode cX8_isOut 19 = .ok (.aload_n 0, 1) := by decide +kernel
theorem dX8_isOut_20 : decode cX8_isOut 20 = .ok (.getfield 9, 3) := by decide +kernel
theorem dX8_isOut_23 : decode cX8_isOut 23 = .ok (.iconst 3, 1) := by decide +kernel
theorem dX8_isOut_24 : decode cX8_isOut 24 = .ok (.dup2, 1) := by decide +kernel
theorem dX8_isOut_25 : decode cX8_isOut 25 = .ok (.iaload, 1) := by decide +kernel
theorem dX8_isOut_26 : decode cX8_isOut 26 = .ok (.iconst 1, 1) := by decide +kernel
theorem dX8_isOut_27 : decode cX8_isOut 27 = .ok (.iadd, 1) := by decide +kernel
theorem dX8_isOut_28 : decode cX8_isOut 28 = .ok (.iastore, 1) := by decide +kernel
theorem dX8_isOut_29 : decode cX8_isOut 29 = .ok (.aload_n 0, 1) := by decide +kernel
theorem dX8_isOut_30 : decode cX8_isOut 30 = .ok (.getfield 9, 3) := by decide +kernel
theorem dX8_isOut_33 : decode cX8_isOut 33 = .ok (.iconst 3, 1) := by decide +kernel
theorem dX8_isOut_34 : decode cX8_isOut 34 = .ok (.iaload, 1) := by decide +kernel
theorem dX8_isOut_35 : decode cX8_isOut 35 = .ok (.iconst 3, 1) := by decide +kernel
theorem dX8_isOut_36 : decode cX8_isOut 36 = .ok (.if_icmp .ne 15, 3) := by decide +kernel
theorem dX8_isOut_39 : decode cX8_isOut 39 = .ok (.aload_n 0, 1) := by decide +kernel
theorem dX8_isOut_40 : decode cX8_isOut 40 = .ok (.getfield 9, 3) := by decide +kernel
theorem dX8_isOut_43 : decode cX8_isOut 43 = .ok (.iconst 3, 1) := by decide +kernel
theorem dX8_isOut_44 : decode cX8_isOut 44 = .ok (.iconst 0, 1) := by decide +kernel
theorem dX8_isOut_45 : decode cX8_isOut 45 = .ok (.iastore, 1) := by decide +kernel
theorem dX8_isOut_46 : decode cX8_isOut 46 = .ok (.aload_n 0, 1) := by decide +kernel
theorem dX8_isOut_47 : decode cX8_isOut 47 = .ok (.iconst 4, 1) := by decide +kernel
theorem dX8_isOut_48 : decode cX8_isOut 48 = .ok (.invokevirtual 109, 3) := by decide +kernel
theorem dX8_isOut_51 : decode cX8_isOut 51 = .ok (.return_, 1) := by decide +kernel
theorem dX8_goes_0 : decode cX8_goes 0 = .ok (.aload_n 0, 1) := by decide +kernel
theorem dX8_goes_1 : decode cX8_goes 1 = .ok (.iload_n 1, 1) := by decide +kernel
theorem dX8_goes_2 : decode cX8_goes 2 = .ok (.iconst 2, 1) := by decide +kernel
theorem dX8_goes_3 : decode cX8_goes 3 = .ok (.invokevirtual 60, 3) := by decide +kernel
theorem dX8_goes_6 : decode cX8_goes 6 = .ok (.istore_n 3, 1) := by decide +kernel
theorem dX8_goes_7 : decode cX8_goes 7 = .ok (.aload_n 0, 1) := by decide +kernel
theorem dX8_goes_8 : decode cX8_goes 8 = .ok (.iload_n 1, 1) := by decide +kernel
theorem dX8_goes_9 : decode cX8_goes 9 = .ok (.iload_n 2, 1) := by decide +kernel
theorem dX8_goes_10 : decode cX8_goes 10 = .ok (.iload_n 3, 1) := by decide +kernel
theorem dX8_goes_11 : decode cX8_goes 11 = .ok (.invokevirtual 113, 3) := by decide +kernel
theorem dX8_goes_14 : decode cX8_goes 14 = .ok (.istore 4, 2) := by decide +kernel
theorem dX8_goes_16 : decode cX8_goes 16 = .ok (.aload_n 0, 1) := by decide +kernel
theorem dX8_goes_17 : decode cX8_goes 17 = .ok (.getfield 9, 3) := by decide +kernel
theorem dX8_goes_20 : decode cX8_goes 20 = .ok (.iconst 5, 1) := by decide +kernel
theorem dX8_goes_21 : decode cX8_goes 21 = .ok (.aload_n 0, 1) := by decide +kernel
theorem dX8_goes_22 : decode cX8_goes 22 = .ok (.getfield 9, 3) := by decide +kernel
theorem dX8_goes_25 : decode cX8_goes 25 = .ok (.iconst 5, 1) := by decide +kernel
theorem dX8_goes_26 : decode cX8_goes 26 = .ok (.iaload, 1) := by decide +kernel
theorem dX8_goes_27 : decode cX8_goes 27 = .ok (.aload_n 0, 1) := by decide +kernel
theorem dX8_goes_28 : decode cX8_goes 28 = .ok (.iload_n 1, 1) := by decide +kernel
theorem dX8_goes_29 : decode cX8_goes 29 = .ok (.iload_n 2, 1) := by decide +kernel
theorem dX8_goes_30 : decode cX8_goes 30 = .ok (.iload_n 3, 1) := by decide +kernel
theorem dX8_goes_31 : decode cX8_goes 31 = .ok (.invokevirtual 116, 3) := by decide +kernel
theorem dX8_goes_34 : decode cX8_goes 34 = .ok (.iadd, 1) := by decide +kernel
theorem dX8_goes_35 : decode cX8_goes 35 = .ok (.sipush (-9999), 3) := by decide +kernel
theorem dX8_goes_38 : decode cX8_goes 38 = .ok (.sipush 9999, 3) := by decide +kernel
theorem dX8_goes_41 : decode cX8_goes 41 = .ok (.invokestatic 106, 3) := by decide +kernel
theorem dX8_goes_44 : decode cX8_goes 44 = .ok (.iastore, 1) := by decide +kernel
theorem dX8_goes_45 : decode cX8_goes 45 = .ok (.aload_n 0, 1) := by decide +kernel
theorem dX8_goes_46 : decode cX8_goes 46 = .ok (.bipush 11, 2) := by decide +kernel
theorem dX8_goes_48 : decode cX8_goes 48 = .ok (.iconst 4, 1) := by decide +kernel
theorem dX8_goes_49 : decode cX8_goes 49 = .ok (.iload_n 2, 1) := by decide +kernel
theorem dX8_goes_50 : decode cX8_goes 50 = .ok (.imul, 1) := by decide +kernel
theorem dX8_goes_51 : decode cX8_goes 51 = .ok (.iadd, 1) := by decide +kernel
theorem dX8_goes_52 : decode cX8_goes 52 = .ok (.iconst 3, 1) := by decide +kernel
theorem dX8_goes_53 : decode cX8_goes 53 = .ok (.iadd, 1) := by decide +kernel
theorem dX8_goes_54 : decode cX8_goes 54 = .ok (.invokevirtual 109, 3) := by decide +kernel
theorem dX8_goes_57 : decode cX8_goes 57 = .ok (.iload 4, 2) := by decide +kernel
theorem dX8_goes_59 : decode cX8_goes 59 = .ok (.ifCond .eq 25, 3) := by decide +kernel
theorem dX8_goes_62 : decode cX8_goes 62 = .ok (.aload_n 0, 1) := by decide +kernel
theorem dX8_goes_63 : decode cX8_goes 63 = .ok (.bipush 35, 2) := by decide +kernel
theorem dX8_goes_65 : decode cX8_goes 65 = .ok (.iconst 5, 1) := by decide +kernel
theorem dX8_goes_66 : decode cX8_goes 66 = .ok (.iload_n 1, 1) := by decide +kernel
theorem dX8_goes_67 : decode cX8_goes 67 = .ok (.imul, 1) := by decide +kernel
theorem dX8_goes_68 : decode cX8_goes 68 = .ok (.iadd, 1) := by decide +kernel
theorem dX8_goes_69 : decode cX8_goes 69 = .ok (.iconst 3, 1) := by decide +kernel
theorem dX8_goes_70 : decode cX8_goes 70 = .ok (.iadd, 1) := by decide +kernel
theorem dX8_goes_71 : decode cX8_goes 71 = .ok (.invokevirtual 109, 3) := by decide +kernel
theorem dX8_goes_74 : decode cX8_goes 74 = .ok (.aload_n 0, 1) := by decide +kernel
theorem dX8_goes_75 : decode cX8_goes 75 = .ok (.iload_n 1, 1) := by decide +kernel
theorem dX8_goes_76 : decode cX8_goes 76 = .ok (.iconst 2, 1) := by decide +kernel
theorem dX8_goes_77 : decode cX8_goes 77 = .ok (.iconst 0, 1) := by decide +kernel
theorem dX8_goes_78 : decode cX8_goes 78 = .ok (.invokevirtual 92, 3) := by decide +kernel
theorem dX8_goes_81 : decode cX8_goes 81 = .ok (.goto 8, 3) := by decide +kernel
theorem dX8_goes_84 : decode cX8_goes 84 = .ok (.aload_n 0, 1) := by decide +kernel
theorem dX8_goes_85 : decode cX8_goes 85 = .ok (.iload_n 1, 1) := by decide +kernel
theorem dX8_goes_86 : decode cX8_goes 86 = .ok (.invokevirtual 119, 3) := by decide +kernel
theorem dX8_goes_89 : decode cX8_goes 89 = .ok (.iload 4, 2) := by decide +kernel
theorem dX8_goes_91 : decode cX8_goes 91 = .ok (.ireturn, 1) := by decide +kernel
theorem dX8_steal_0 : decode cX8_steal 0 = .ok (.aload_n 0, 1) := by decide +kernel
theorem dX8_steal_1 : decode cX8_steal 1 = .ok (.iload_n 1, 1) := by decide +kernel
theorem dX8_steal_2 : decode cX8_steal 2 = .ok (.invokevirtual 96, 3) := by decide +kernel
theorem dX8_steal_5 : decode cX8_steal 5 = .ok (.ifCond .eq 11, 3) := by decide +kernel
theorem dX8_steal_8 : decode cX8_steal 8 = .ok (.aload_n 0, 1) := by decide +kernel
theorem dX8_steal_9 : decode cX8_steal 9 = .ok (.iload_n 2, 1) := by decide +kernel
theorem dX8_steal_10 : decode cX8_steal 10 = .ok (.invokevirtual 82, 3) := by decide +kernel
theorem dX8_steal_13 : decode cX8_steal 13 = .ok (.ifCond .ne 10, 3) := by decide +kernel
theorem dX8_steal_16 : decode cX8_steal 16 = .ok (.aload_n 0, 1) := by decide +kernel
theorem dX8_steal_17 : decode cX8_steal 17 = .ok (.ldc 77, 2) := by decide +kernel
theorem dX8_steal_19 : decode cX8_steal 19 = .ok (.invokevirtual 78, 3) := by decide +kernel
theorem dX8_steal_22 : decode cX8_steal 22 = .ok (.ireturn, 1) := by decide +kernel
theorem dX8_steal_23 : decode cX8_steal 23 = .ok (.aload_n 0, 1) := by decide +kernel
theorem dX8_steal_24 : decode cX8_steal 24 = .ok (.iload_n 1, 1) := by decide +kernel
theorem dX8_steal_25 : decode cX8_steal 25 = .ok (.iload_n 2, 1) := by decide +kernel
theorem dX8_steal_26 : decode cX8_steal 26 = .ok (.invokevirtual 122, 3) := by decide +kernel
theorem dX8_steal_29 : decode cX8_steal 29 = .ok (.ifCond .eq 7, 3) := by decide +kernel
theorem dX8_steal_32 : decode cX8_steal 32 = .ok (.iconst 1, 1) := by decide +kernel
theorem dX8_steal_33 : decode cX8_steal 33 = .ok (.goto 4, 3) := by decide +kernel
theorem dX8_steal_36 : decode cX8_steal 36 = .ok (.iconst 0, 1) := by decide +kernel
theorem dX8_steal_37 : decode cX8_steal 37 = .ok (.ireturn, 1) := by decide +kernel
theorem dX8_over_0 : decode cX8_over 0 = .ok (.aload_n 0, 1) := by decide +kernel
theorem dX8_over_1 : decode cX8_over 1 = .ok (.iload_n 1, 1) := by decide +kernel
theorem dX8_over_2 : decode cX8_over 2 = .ok (.invokevirtual 96, 3) := by decide +kernel
theorem dX8_over_5 : decode cX8_over 5 = .ok (.ifCond .ne 10, 3) := by decide +kernel
theorem dX8_over_8 : decode cX8_over 8 = .ok (.aload_n 0, 1) := by decide +kernel
theorem dX8_over_9 : decode cX8_over 9 = .ok (.ldc 77, 2) := by decide +kernel
theorem dX8_over_11 : decode cX8_over 11 = .ok (.invokevirtual 78, 3) := by decide +kernel
theorem dX8_over_14 : decode cX8_over 14 = .ok (.ireturn, 1) := by decide +kernel
theorem dX8_over_15 : decode cX8_over 15 = .ok (.aload_n 0, 1) := by decide +kernel
theorem dX8_over_16 : decode cX8_over 16 = .ok (.iload_n 1, 1) := by decide +kernel
theorem dX8_over_17 : decode cX8_over 17 = .ok (.aload_n 0, 1) := by decide +kernel
theorem dX8_over_18 : decode cX8_over 18 = .ok (.iload_n 1, 1) := by decide +kernel
theorem dX8_over_19 : decode cX8_over 19 = .ok (.iconst 2, 1) := by decide +kernel
theorem dX8_over_20 : decode cX8_over 20 = .ok (.invokevirtual 60, 3) := by decide +kernel
theorem dX8_over_23 : decode cX8_over 23 = .ok (.invokevirtual 99, 3) := by decide +kernel
theorem dX8_over_26 : decode cX8_over 26 = .ok (.istore_n 2, 1) := by decide +kernel
theorem dX8_over_27 : decode cX8_over 27 = .ok (.iload_n 2, 1) := by decide +kernel
theorem dX8_over_28 : decode cX8_over 28 = .ok (.ifCond .eq 8, 3) := by decide +kernel
theorem dX8_over_31 : decode cX8_over 31 = .ok (.aload_n 0, 1) := by decide +kernel
theorem dX8_over_32 : decode cX8_over 32 = .ok (.iload_n 1, 1) := by decide +kernel
theorem dX8_over_33 : decode cX8_over 33 = .ok (.invokevirtual 119, 3) := by decide +kernel
theorem dX8_over_36 : decode cX8_over 36 = .ok (.iload_n 2, 1) := by decide +kernel
theorem dX8_over_37 : decode cX8_over 37 = .ok (.ifCond .eq 7, 3) := by decide +kernel
theorem dX8_over_40 : decode cX8_over 40 = .ok (.iconst 1, 1) := by decide +kernel
theorem dX8_over_41 : decode cX8_over 41 = .ok (.goto 4, 3) := by decide +kernel
theorem dX8_over_44 : decode cX8_over 44 = .ok (.iconst 0, 1) := by decide +kernel
theorem dX8_over_45 : decode cX8_over 45 = .ok (.ireturn, 1) := by decide +kernel
theorem dX8_feed_0 : decode cX8_feed 0 = .ok (.iload_n 3, 1) := by decide +kernel
theorem dX8_feed_1 : decode cX8_feed 1 = .ok (.iconst 1, 1) := by decide +kernel
theorem dX8_feed_2 : decode cX8_feed 2 = .ok (.bipush 8, 2) := by decide +kernel
theorem dX8_feed_4 : decode cX8_feed 4 = .ok (.invokestatic 44, 3) := by decide +kernel
theorem dX8_feed_7 : decode cX8_feed 7 = .ok (.ifCond .ne 10, 3) := by decide +kernel
theorem dX8_feed_10 : decode cX8_feed 10 = .ok (.aload_n 0, 1) := by decide +kernel
theorem dX8_feed_11 : decode cX8_feed 11 = .ok (.ldc 77, 2) := by decide +kernel
theorem dX8_feed_13 : decode cX8_feed 13 = .ok (.invokevirtual 78, 3) := by decide +kernel
theorem dX8_feed_16 : decode cX8_feed 16 = .ok (.ireturn, 1) := by decide +kernel
theorem dX8_feed_17 : decode cX8_feed 17 = .ok (.aload_n 0, 1) := by decide +kernel
theorem dX8_feed_18 : decode cX8_feed 18 = .ok (.getfield 9, 3) := by decide +kernel
theorem dX8_feed_21 : decode cX8_feed 21 = .ok (.bipush 9, 2) := by decide +kernel
theorem dX8_feed_23 : decode cX8_feed 23 = .ok (.iaload, 1) := by decide +kernel
theorem dX8_feed_24 : decode cX8_feed 24 = .ok (.iload_n 3, 1) := by decide +kernel
theorem dX8_feed_25 : decode cX8_feed 25 = .ok (.iadd, 1) := by decide +kernel
theorem dX8_feed_26 : decode cX8_feed 26 = .ok (.bipush 60, 2) := by decide +kernel
theorem dX8_feed_28 : decode cX8_feed 28 = .ok (.if_icmp .le 10, 3) := by decide +kernel
theorem dX8_feed_31 : decode cX8_feed 31 = .ok (.aload_n 0, 1) := by decide +kernel
theorem dX8_feed_32 : decode cX8_feed 32 = .ok (.ldc 81, 2) := by decide +kernel
theorem dX8_feed_34 : decode cX8_feed 34 = .ok (.invokevirtual 78, 3) := by decide +kernel
theorem dX8_feed_37 : decode cX8_feed 37 = .ok (.ireturn, 1) := by decide +kernel
theorem dX8_feed_38 : decode cX8_feed 38 = .ok (.iconst 0, 1) := by decide +kernel
theorem dX8_feed_39 : decode cX8_feed 39 = .ok (.istore 4, 2) := by decide +kernel
theorem dX8_feed_41 : decode cX8_feed 41 = .ok (.iload 4, 2) := by decide +kernel
theorem dX8_feed_43 : decode cX8_feed 43 = .ok (.iload_n 3, 1) := by decide +kernel
theorem dX8_feed_44 : decode cX8_feed 44 = .ok (.if_icmp .ge 47, 3) := by decide +kernel
theorem dX8_feed_47 : decode cX8_feed 47 = .ok (.aload_n 0, 1) := by decide +kernel
theorem dX8_feed_48 : decode cX8_feed 48 = .ok (.getfield 9, 3) := by decide +kernel
theorem dX8_feed_51 : decode cX8_feed 51 = .ok (.bipush 60, 2) := by decide +kernel
theorem dX8_feed_53 : decode cX8_feed 53 = .ok (.aload_n 0, 1) := by decide +kernel
theorem dX8_feed_54 : decode cX8_feed 54 = .ok (.getfield 9, 3) := by decide +kernel
theorem dX8_feed_57 : decode cX8_feed 57 = .ok (.bipush 9, 2) := by decide +kernel
theorem dX8_feed_59 : decode cX8_feed 59 = .ok (.iaload, 1) := by decide +kernel
theorem dX8_feed_60 : decode cX8_feed 60 = .ok (.iadd, 1) := by decide +kernel
theorem dX8_feed_61 : decode cX8_feed 61 = .ok (.lload_n 1, 1) := by decide +kernel
theorem dX8_feed_62 : decode cX8_feed 62 = .ok (.bipush 8, 2) := by decide +kernel
theorem dX8_feed_64 : decode cX8_feed 64 = .ok (.iload 4, 2) := by decide +kernel
theorem dX8_feed_66 : decode cX8_feed 66 = .ok (.imul, 1) := by decide +kernel
theorem dX8_feed_67 : decode cX8_feed 67 = .ok (.lshr, 1) := by decide +kernel
theorem dX8_feed_68 : decode cX8_feed 68 = .ok (.ldc2_w 125, 3) := by decide +kernel
theorem dX8_feed_71 : decode cX8_feed 71 = .ok (.land, 1) := by decide +kernel
theorem dX8_feed_72 : decode cX8_feed 72 = .ok (.l2i, 1) := by decide +kernel
theorem dX8_feed_73 : decode cX8_feed 73 = .ok (.iastore, 1) := by decide +kernel
theorem dX8_feed_74 : decode cX8_feed 74 = .ok (.aload_n 0, 1) := by decide +kernel
theorem dX8_feed_75 : decode cX8_feed 75 = .ok (.getfield 9, 3) := by decide +kernel
theorem dX8_feed_78 : decode cX8_feed 78 = .ok (.bipush 9, 2) := by decide +kernel
theorem dX8_feed_80 : decode cX8_feed 80 = .ok (.dup2, 1) := by decide +kernel
theorem dX8_feed_81 : decode cX8_feed 81 = .ok (.iaload, 1) := by decide +kernel
theorem dX8_feed_82 : decode cX8_feed 82 = .ok (.iconst 1, 1) := by decide +kernel
theorem dX8_feed_83 : decode cX8_feed 83 = .ok (.iadd, 1) := by decide +kernel
theorem dX8_feed_84 : decode cX8_feed 84 = .ok (.iastore, 1) := by decide +kernel
theorem dX8_feed_85 : decode cX8_feed 85 = .ok (.iinc 4 1, 3) := by decide +kernel
theorem dX8_feed_88 : decode cX8_feed 88 = .ok (.goto (-47), 3) := by decide +kernel
theorem dX8_feed_91 : decode cX8_feed 91 = .ok (.aload_n 0, 1) := by decide +kernel
theorem dX8_feed_92 : decode cX8_feed 92 = .ok (.getfield 9, 3) := by decide +kernel
theorem dX8_feed_95 : decode cX8_feed 95 = .ok (.bipush 9, 2) := by decide +kernel
theorem dX8_feed_97 : decode cX8_feed 97 = .ok (.iaload, 1) := by decide +kernel
theorem dX8_feed_98 : decode cX8_feed 98 = .ok (.ireturn, 1) := by decide +kernel
theorem dX8_look_0 : decode cX8_look 0 = .ok (.aload_n 0, 1) := by decide +kernel
theorem dX8_look_1 : decode cX8_look 1 = .ok (.getfield 127, 3) := by decide +kernel
theorem dX8_look_4 : decode cX8_look 4 = .ok (.aload_n 0, 1) := by decide +kernel
theorem dX8_look_5 : decode cX8_look 5 = .ok (.getfield 9, 3) := by decide +kernel
theorem dX8_look_8 : decode cX8_look 8 = .ok (.bipush 9, 2) := by decide +kernel
theorem dX8_look_10 : decode cX8_look 10 = .ok (.iaload, 1) := by decide +kernel
theorem dX8_look_11 : decode cX8_look 11 = .ok (.if_icmp .ge 18, 3) := by decide +kernel
theorem dX8_look_14 : decode cX8_look 14 = .ok (.aload_n 0, 1) := by decide +kernel
theorem dX8_look_15 : decode cX8_look 15 = .ok (.getfield 9, 3) := by decide +kernel
theorem dX8_look_18 : decode cX8_look 18 = .ok (.bipush 60, 2) := by decide +kernel
theorem dX8_look_20 : decode cX8_look 20 = .ok (.aload_n 0, 1) := by decide +kernel
theorem dX8_look_21 : decode cX8_look 21 = .ok (.getfield 127, 3) := by decide +kernel
theorem dX8_look_24 : decode cX8_look 24 = .ok (.iadd, 1) := by decide +kernel
theorem dX8_look_25 : decode cX8_look 25 = .ok (.iaload, 1) := by decide +kernel
theorem dX8_look_26 : decode cX8_look 26 = .ok (.goto 4, 3) := by decide +kernel
theorem dX8_look_29 : decode cX8_look 29 = .ok (.iconst (-1), 1) := by decide +kernel
theorem dX8_look_30 : decode cX8_look 30 = .ok (.ireturn, 1) := by decide +kernel
theorem dX8_lays_0 : decode cX8_lays 0 = .ok (.aload_n 0, 1) := by decide +kernel
theorem dX8_lays_1 : decode cX8_lays 1 = .ok (.getfield 131, 3) := by decide +kernel
theorem dX8_lays_4 : decode cX8_lays 4 = .ok (.aload_n 0, 1) := by decide +kernel
theorem dX8_lays_5 : decode cX8_lays 5 = .ok (.getfield 28, 3) := by decide +kernel
theorem dX8_lays_8 : decode cX8_lays 8 = .ok (.arraylength, 1) := by decide +kernel
theorem dX8_lays_9 : decode cX8_lays 9 = .ok (.if_icmp .ge 33, 3) := by decide +kernel
theorem dX8_lays_12 : decode cX8_lays 12 = .ok (.aload_n 0, 1) := by decide +kernel
theorem dX8_lays_13 : decode cX8_lays 13 = .ok (.getfield 28, 3) := by decide +kernel
theorem dX8_lays_16 : decode cX8_lays 16 = .ok (.aload_n 0, 1) := by decide +kernel
theorem dX8_lays_17 : decode cX8_lays 17 = .ok (.getfield 131, 3) := by decide +kernel
theorem dX8_lays_20 : decode cX8_lays 20 = .ok (.iload_n 1, 1) := by decide +kernel
theorem dX8_lays_21 : decode cX8_lays 21 = .ok (.iastore, 1) := by decide +kernel
theorem dX8_lays_22 : decode cX8_lays 22 = .ok (.aload_n 0, 1) := by decide +kernel
theorem dX8_lays_23 : decode cX8_lays 23 = .ok (.getfield 31, 3) := by decide +kernel
theorem dX8_lays_26 : decode cX8_lays 26 = .ok (.aload_n 0, 1) := by decide +kernel
theorem dX8_lays_27 : decode cX8_lays 27 = .ok (.getfield 131, 3) := by decide +kernel
theorem dX8_lays_30 : decode cX8_lays 30 = .ok (.iload_n 2, 1) := by decide +kernel
theorem dX8_lays_31 : decode cX8_lays 31 = .ok (.iastore, 1) := by decide +kernel
theorem dX8_lays_32 : decode cX8_lays 32 = .ok (.aload_n 0, 1) := by decide +kernel
theorem dX8_lays_33 : decode cX8_lays 33 = .ok (.dup, 1) := by decide +kernel
theorem dX8_lays_34 : decode cX8_lays 34 = .ok (.getfield 131, 3) := by decide +kernel
theorem dX8_lays_37 : decode cX8_lays 37 = .ok (.iconst 1, 1) := by decide +kernel
theorem dX8_lays_38 : decode cX8_lays 38 = .ok (.iadd, 1) := by decide +kernel
theorem dX8_lays_39 : decode cX8_lays 39 = .ok (.putfield 131, 3) := by decide +kernel
theorem dX8_lays_42 : decode cX8_lays 42 = .ok (.return_, 1) := by decide +kernel
theorem dX8_nameOf_0 : decode cX8_nameOf 0 = .ok (.iload_n 1, 1) := by decide +kernel
theorem dX8_nameOf_1 : decode cX8_nameOf 1 = .ok (.lookupswitch 100 #[(97, 53), (109, 76), (111, 51), (115, 76), (119, 53)], 51) := by decide +kernel
theorem dX8_nameOf_52 : decode cX8_nameOf 52 = .ok (.iconst 2, 1) := by decide +kernel
theorem dX8_nameOf_53 : decode cX8_nameOf 53 = .ok (.ireturn, 1) := by decide +kernel
theorem dX8_nameOf_54 : decode cX8_nameOf 54 = .ok (.aload_n 0, 1) := by decide +kernel
theorem dX8_nameOf_55 : decode cX8_nameOf 55 = .ok (.getfield 134, 3) := by decide +kernel
theorem dX8_nameOf_58 : decode cX8_nameOf 58 = .ok (.ifCond .eq 7, 3) := by decide +kernel
theorem dX8_nameOf_61 : decode cX8_nameOf 61 = .ok (.iconst (-1), 1) := by decide +kernel
theorem dX8_nameOf_62 : decode cX8_nameOf 62 = .ok (.goto 14, 3) := by decide +kernel
theorem dX8_nameOf_65 : decode cX8_nameOf 65 = .ok (.iload_n 1, 1) := by decide +kernel
theorem dX8_nameOf_66 : decode cX8_nameOf 66 = .ok (.bipush 97, 2) := by decide +kernel
theorem dX8_nameOf_68 : decode cX8_nameOf 68 = .ok (.if_icmp .ne 7, 3) := by decide +kernel
theorem dX8_nameOf_71 : decode cX8_nameOf 71 = .ok (.iconst 0, 1) := by decide +kernel
theorem dX8_nameOf_72 : decode cX8_nameOf 72 = .ok (.goto 4, 3) := by decide +kernel
theorem dX8_nameOf_75 : decode cX8_nameOf 75 = .ok (.iconst 1, 1) := by decide +kernel
theorem dX8_nameOf_76 : decode cX8_nameOf 76 = .ok (.ireturn, 1) := by decide +kernel
theorem dX8_nameOf_77 : decode cX8_nameOf 77 = .ok (.aload_n 0, 1) := by decide +kernel
theorem dX8_nameOf_78 : decode cX8_nameOf 78 = .ok (.getfield 134, 3) := by decide +kernel
theorem dX8_nameOf_81 : decode cX8_nameOf 81 = .ok (.iconst 1, 1) := by decide +kernel
theorem dX8_nameOf_82 : decode cX8_nameOf 82 = .ok (.if_icmp .eq 7, 3) := by decide +kernel
theorem dX8_nameOf_85 : decode cX8_nameOf 85 = .ok (.iconst (-1), 1) := by decide +kernel
theorem dX8_nameOf_86 : decode cX8_nameOf 86 = .ok (.goto 14, 3) := by decide +kernel
theorem dX8_nameOf_89 : decode cX8_nameOf 89 = .ok (.iload_n 1, 1) := by decide +kernel
theorem dX8_nameOf_90 : decode cX8_nameOf 90 = .ok (.bipush 115, 2) := by decide +kernel
theorem dX8_nameOf_92 : decode cX8_nameOf 92 = .ok (.if_icmp .ne 7, 3) := by decide +kernel
theorem dX8_nameOf_95 : decode cX8_nameOf 95 = .ok (.iconst 0, 1) := by decide +kernel
theorem dX8_nameOf_96 : decode cX8_nameOf 96 = .ok (.goto 4, 3) := by decide +kernel
theorem dX8_nameOf_99 : decode cX8_nameOf 99 = .ok (.iconst 1, 1) := by decide +kernel
theorem dX8_nameOf_100 : decode cX8_nameOf 100 = .ok (.ireturn, 1) := by decide +kernel
theorem dX8_nameOf_101 : decode cX8_nameOf 101 = .ok (.iconst (-1), 1) := by decide +kernel
theorem dX8_nameOf_102 : decode cX8_nameOf 102 = .ok (.ireturn, 1) := by decide +kernel
theorem dX8_number_0 : decode cX8_number 0 = .ok (.iconst 0, 1) := by decide +kernel
theorem dX8_number_1 : decode cX8_number 1 = .ok (.istore_n 1, 1) := by decide +kernel
theorem dX8_number_2 : decode cX8_number 2 = .ok (.iconst 0, 1) := by decide +kernel
theorem dX8_number_3 : decode cX8_number 3 = .ok (.istore_n 2, 1) := by decide +kernel
theorem dX8_number_4 : decode cX8_number 4 = .ok (.iload_n 2, 1) := by decide +kernel
theorem dX8_number_5 : decode cX8_number 5 = .ok (.iconst 4, 1) := by decide +kernel
theorem dX8_number_6 : decode cX8_number 6 = .ok (.if_icmp .ge 46, 3) := by decide +kernel
theorem dX8_number_9 : decode cX8_number 9 = .ok (.aload_n 0, 1) := by decide +kernel
theorem dX8_number_10 : decode cX8_number 10 = .ok (.invokevirtual 137, 3) := by decide +kernel
theorem dX8_number_13 : decode cX8_number 13 = .ok (.bipush 48, 2) := by decide +kernel
theorem dX8_number_15 : decode cX8_number 15 = .ok (.bipush 57, 2) := by decide +kernel
theorem dX8_number_17 : decode cX8_number 17 = .ok (.invokestatic 44, 3) := by decide +kernel
theorem dX8_number_20 : decode cX8_number 20 = .ok (.ifCond .eq 32, 3) := by decide +kernel
theorem dX8_number_23 : decode cX8_number 23 = .ok (.bipush 10, 2) := by decide +kernel
theorem dX8_number_25 : decode cX8_number 25 = .ok (.iload_n 1, 1) := by decide +kernel
theorem dX8_number_26 : decode cX8_number 26 = .ok (.imul, 1) := by decide +kernel
theorem dX8_number_27 : decode cX8_number 27 = .ok (.aload_n 0, 1) := by decide +kernel
theorem dX8_number_28 : decode cX8_number 28 = .ok (.invokevirtual 137, 3) := by decide +kernel
theorem dX8_number_31 : decode cX8_number 31 = .ok (.iadd, 1) := by decide +kernel
theorem dX8_number_32 : decode cX8_number 32 = .ok (.bipush 48, 2) := by decide +kernel
theorem dX8_number_34 : decode cX8_number 34 = .ok (.isub, 1) := by decide +kernel
theorem dX8_number_35 : decode cX8_number 35 = .ok (.istore_n 1, 1) := by decide +kernel
theorem dX8_number_36 : decode cX8_number 36 = .ok (.aload_n 0, 1) := by decide +kernel
theorem dX8_number_37 : decode cX8_number 37 = .ok (.dup, 1) := by decide +kernel
theorem dX8_number_38 : decode cX8_number 38 = .ok (.getfield 127, 3) := by decide +kernel
theorem dX8_number_41 : decode cX8_number 41 = .ok (.iconst 1, 1) := by decide +kernel
theorem dX8_number_42 : decode cX8_number 42 = .ok (.iadd, 1) := by decide +kernel
theorem dX8_number_43 : decode cX8_number 43 = .ok (.putfield 127, 3) := by decide +kernel
theorem dX8_number_46 : decode cX8_number 46 = .ok (.iinc 2 1, 3) := by decide +kernel
theorem dX8_number_49 : decode cX8_number 49 = .ok (.goto (-45), 3) := by decide +kernel
theorem dX8_number_52 : decode cX8_number 52 = .ok (.aload_n 0, 1) := by decide +kernel
theorem dX8_number_53 : decode cX8_number 53 = .ok (.iload_n 2, 1) := by decide +kernel
theorem dX8_number_54 : decode cX8_number 54 = .ok (.ifCond .ne 7, 3) := by decide +kernel
theorem dX8_number_57 : decode cX8_number 57 = .ok (.iconst 1, 1) := by decide +kernel
theorem dX8_number_58 : decode cX8_number 58 = .ok (.goto 4, 3) := by decide +kernel
theorem dX8_number_61 : decode cX8_number 61 = .ok (.iconst 0, 1) := by decide +kernel
theorem dX8_number_62 : decode cX8_number 62 = .ok (.putfield 141, 3) := by decide +kernel
theorem dX8_number_65 : decode cX8_number 65 = .ok (.aload_n 0, 1) := by decide +kernel
theorem dX8_number_66 : decode cX8_number 66 = .ok (.iconst 1, 1) := by decide +kernel
theorem dX8_number_67 : decode cX8_number 67 = .ok (.iload_n 1, 1) := by decide +kernel
theorem dX8_number_68 : decode cX8_number 68 = .ok (.invokevirtual 145, 3) := by decide +kernel
theorem dX8_number_71 : decode cX8_number 71 = .ok (.return_, 1) := by decide +kernel
theorem dX8_opens_0 : decode cX8_opens 0 = .ok (.aload_n 0, 1) := by decide +kernel
theorem dX8_opens_1 : decode cX8_opens 1 = .ok (.getfield 149, 3) := by decide +kernel
theorem dX8_opens_4 : decode cX8_opens 4 = .ok (.iconst 5, 1) := by decide +kernel
theorem dX8_opens_5 : decode cX8_opens 5 = .ok (.if_icmp .ne 9, 3) := by decide +kernel
theorem dX8_opens_8 : decode cX8_opens 8 = .ok (.aload_n 0, 1) := by decide +kernel
theorem dX8_opens_9 : decode cX8_opens 9 = .ok (.iconst 1, 1) := by decide +kernel
theorem dX8_opens_10 : decode cX8_opens 10 = .ok (.putfield 141, 3) := by decide +kernel
theorem dX8_opens_13 : decode cX8_opens 13 = .ok (.return_, 1) := by decide +kernel
theorem dX8_opens_14 : decode cX8_opens 14 = .ok (.aload_n 0, 1) := by decide +kernel
theorem dX8_opens_15 : decode cX8_opens 15 = .ok (.dup, 1) := by decide +kernel
theorem dX8_opens_16 : decode cX8_opens 16 = .ok (.getfield 149, 3) := by decide +kernel
theorem dX8_opens_19 : decode cX8_opens 19 = .ok (.iconst 1, 1) := by decide +kernel
theorem dX8_opens_20 : decode cX8_opens 20 = .ok (.iadd, 1) := by decide +kernel
theorem dX8_opens_21 : decode cX8_opens 21 = .ok (.putfield 149, 3) := by decide +kernel
theorem dX8_opens_24 : decode cX8_opens 24 = .ok (.aload_n 0, 1) := by decide +kernel
theorem dX8_opens_25 : decode cX8_opens 25 = .ok (.dup, 1) := by decide +kernel
theorem dX8_opens_26 : decode cX8_opens 26 = .ok (.getfield 127, 3) := by decide +kernel
theorem dX8_opens_29 : decode cX8_opens 29 = .ok (.iconst 1, 1) := by decide +kernel
theorem dX8_opens_30 : decode cX8_opens 30 = .ok (.iadd, 1) := by decide +kernel
theorem dX8_opens_31 : decode cX8_opens 31 = .ok (.putfield 127, 3) := by decide +kernel
theorem dX8_opens_34 : decode cX8_opens 34 = .ok (.iload_n 1, 1) := by decide +kernel
theorem dX8_opens_35 : decode cX8_opens 35 = .ok (.bipush 33, 2) := by decide +kernel
theorem dX8_opens_37 : decode cX8_opens 37 = .ok (.if_icmp .ne 16, 3) := by decide +kernel
theorem dX8_opens_40 : decode cX8_opens 40 = .ok (.aload_n 0, 1) := by decide +kernel
theorem dX8_opens_41 : decode cX8_opens 41 = .ok (.invokevirtual 152, 3) := by decide +kernel
theorem dX8_opens_44 : decode cX8_opens 44 = .ok (.aload_n 0, 1) := by decide +kernel
theorem dX8_opens_45 : decode cX8_opens 45 = .ok (.iconst 3, 1) := by decide +kernel
theorem dX8_opens_46 : decode cX8_opens 46 = .ok (.iconst 0, 1) := by decide +kernel
theorem dX8_opens_47 : decode cX8_opens 47 = .ok (.invokevirtual 145, 3) := by decide +kernel
theorem dX8_opens_50 : decode cX8_opens 50 = .ok (.goto 53, 3) := by decide +kernel
theorem dX8_opens_53 : decode cX8_opens 53 = .ok (.aload_n 0, 1) := by decide +kernel
theorem dX8_opens_54 : decode cX8_opens 54 = .ok (.invokevirtual 155, 3) := by decide +kernel
theorem dX8_opens_57 : decode cX8_opens 57 = .ok (.aload_n 0, 1) := by decide +kernel
theorem dX8_opens_58 : decode cX8_opens 58 = .ok (.aload_n 0, 1) := by decide +kernel
theorem dX8_opens_59 : decode cX8_opens 59 = .ok (.getfield 141, 3) := by decide +kernel
theorem dX8_opens_62 : decode cX8_opens 62 = .ok (.ifCond .ne 12, 3) := by decide +kernel
theorem dX8_opens_65 : decode cX8_opens 65 = .ok (.aload_n 0, 1) := by decide +kernel
theorem dX8_opens_66 : decode cX8_opens 66 = .ok (.invokevirtual 137, 3) := by decide +kernel
theorem dX8_opens_69 : decode cX8_opens 69 = .ok (.bipush 41, 2) := by decide +kernel
theorem dX8_opens_71 : decode cX8_opens 71 = .ok (.if_icmp .eq 7, 3) := by decide +kernel
theorem dX8_opens_74 : decode cX8_opens 74 = .ok (.iconst 1, 1) := by decide +kernel
theorem dX8_opens_75 : decode cX8_opens 75 = .ok (.goto 4, 3) := by decide +kernel
theorem dX8_opens_78 : decode cX8_opens 78 = .ok (.iconst 0, 1) := by decide +kernel
theorem dX8_opens_79 : decode cX8_opens 79 = .ok (.putfield 141, 3) := by decide +kernel
theorem dX8_opens_82 : decode cX8_opens 82 = .ok (.aload_n 0, 1) := by decide +kernel
theorem dX8_opens_83 : decode cX8_opens 83 = .ok (.dup, 1) := by decide +kernel
theorem dX8_opens_84 : decode cX8_opens 84 = .ok (.getfield 127, 3) := by decide +kernel
theorem dX8_opens_87 : decode cX8_opens 87 = .ok (.aload_n 0, 1) := by decide +kernel
theorem dX8_opens_88 : decode cX8_opens 88 = .ok (.getfield 141, 3) := by decide +kernel
theorem dX8_opens_91 : decode cX8_opens 91 = .ok (.ifCond .eq 7, 3) := by decide +kernel
theorem dX8_opens_94 : decode cX8_opens 94 = .ok (.iconst 0, 1) := by decide +kernel
theorem dX8_opens_95 : decode cX8_opens 95 = .ok (.goto 4, 3) := by decide +kernel
theorem dX8_opens_98 : decode cX8_opens 98 = .ok (.iconst 1, 1) := by decide +kernel
theorem dX8_opens_99 : decode cX8_opens 99 = .ok (.iadd, 1) := by decide +kernel
theorem dX8_opens_100 : decode cX8_opens 100 = .ok (.putfield 127, 3) := by decide +kernel
theorem dX8_opens_103 : decode cX8_opens 103 = .ok (.aload_n 0, 1) := by decide +kernel
theorem dX8_opens_104 : decode cX8_opens 104 = .ok (.dup, 1) := by decide +kernel
theorem dX8_opens_105 : decode cX8_opens 105 = .ok (.getfield 149, 3) := by decide +kernel
theorem dX8_opens_108 : decode cX8_opens 108 = .ok (.iconst 1, 1) := by decide +kernel
theorem dX8_opens_109 : decode cX8_opens 109 = .ok (.isub, 1) := by decide +kernel
theorem dX8_opens_110 : decode cX8_opens 110 = .ok (.putfield 149, 3) := by decide +kernel
theorem dX8_opens_113 : decode cX8_opens 113 = .ok (.return_, 1) := by decide +kernel
theorem dX8_one_0 : decode cX8_one 0 = .ok (.aload_n 0, 1) := by decide +kernel
theorem dX8_one_1 : decode cX8_one 1 = .ok (.invokevirtual 137, 3) := by decide +kernel
theorem dX8_one_4 : decode cX8_one 4 = .ok (.istore_n 1, 1) := by decide +kernel
theorem dX8_one_5 : decode cX8_one 5 = .ok (.aload_n 0, 1) := by decide +kernel
theorem dX8_one_6 : decode cX8_one 6 = .ok (.iload_n 1, 1) := by decide +kernel
theorem dX8_one_7 : decode cX8_one 7 = .ok (.invokevirtual 158, 3) := by decide +kernel
theorem dX8_one_10 : decode cX8_one 10 = .ok (.istore_n 2, 1) := by decide +kernel
theorem dX8_one_11 : decode cX8_one 11 = .ok (.iload_n 2, 1) := by decide +kernel
theorem dX8_one_12 : decode cX8_one 12 = .ok (.ifCond .lt 22, 3) := by decide +kernel
theorem dX8_one_15 : decode cX8_one 15 = .ok (.aload_n 0, 1) := by decide +kernel
theorem dX8_one_16 : decode cX8_one 16 = .ok (.dup, 1) := by decide +kernel
theorem dX8_one_17 : decode cX8_one 17 = .ok (.getfield 127, 3) := by decide +kernel
theorem dX8_one_20 : decode cX8_one 20 = .ok (.iconst 1, 1) := by decide +kernel
theorem dX8_one_21 : decode cX8_one 21 = .ok (.iadd, 1) := by decide +kernel
theorem dX8_one_22 : decode cX8_one 22 = .ok (.putfield 127, 3) := by decide +kernel
theorem dX8_one_25 : decode cX8_one 25 = .ok (.aload_n 0, 1) := by decide +kernel
theorem dX8_one_26 : decode cX8_one 26 = .ok (.iconst 2, 1) := by decide +kernel
theorem dX8_one_27 : decode cX8_one 27 = .ok (.iload_n 2, 1) := by decide +kernel
theorem dX8_one_28 : decode cX8_one 28 = .ok (.invokevirtual 145, 3) := by decide +kernel
theorem dX8_one_31 : decode cX8_one 31 = .ok (.goto 27, 3) := by decide +kernel
theorem dX8_one_34 : decode cX8_one 34 = .ok (.iload_n 1, 1) := by decide +kernel
theorem dX8_one_35 : decode cX8_one 35 = .ok (.bipush 33, 2) := by decide +kernel
theorem dX8_one_37 : decode cX8_one 37 = .ok (.if_icmp .eq 9, 3) := by decide +kernel
theorem dX8_one_40 : decode cX8_one 40 = .ok (.iload_n 1, 1) := by decide +kernel
theorem dX8_one_41 : decode cX8_one 41 = .ok (.bipush 40, 2) := by decide +kernel
theorem dX8_one_43 : decode cX8_one 43 = .ok (.if_icmp .ne 11, 3) := by decide +kernel
theorem dX8_one_46 : decode cX8_one 46 = .ok (.aload_n 0, 1) := by decide +kernel
theorem dX8_one_47 : decode cX8_one 47 = .ok (.iload_n 1, 1) := by decide +kernel
theorem dX8_one_48 : decode cX8_one 48 = .ok (.invokevirtual 161, 3) := by decide +kernel
theorem dX8_one_51 : decode cX8_one 51 = .ok (.goto 7, 3) := by decide +kernel
theorem dX8_one_54 : decode cX8_one 54 = .ok (.aload_n 0, 1) := by decide +kernel
theorem dX8_one_55 : decode cX8_one 55 = .ok (.invokevirtual 164, 3) := by decide +kernel
theorem dX8_one_58 : decode cX8_one 58 = .ok (.return_, 1) := by decide +kernel
theorem dX8_times_0 : decode cX8_times 0 = .ok (.aload_n 0, 1) := by decide +kernel
theorem dX8_times_1 : decode cX8_times 1 = .ok (.invokevirtual 152, 3) := by decide +kernel
theorem dX8_times_4 : decode cX8_times 4 = .ok (.aload_n 0, 1) := by decide +kernel
theorem dX8_times_5 : decode cX8_times 5 = .ok (.getfield 141, 3) := by decide +kernel
theorem dX8_times_8 : decode cX8_times 8 = .ok (.ifCond .ne 58, 3) := by decide +kernel
theorem dX8_times_11 : decode cX8_times 11 = .ok (.aload_n 0, 1) := by decide +kernel
theorem dX8_times_12 : decode cX8_times 12 = .ok (.invokevirtual 137, 3) := by decide +kernel
theorem dX8_times_15 : decode cX8_times 15 = .ok (.bipush 42, 2) := by decide +kernel
theorem dX8_times_17 : decode cX8_times 17 = .ok (.if_icmp .eq 21, 3) := by decide +kernel
theorem dX8_times_20 : decode cX8_times 20 = .ok (.aload_n 0, 1) := by decide +kernel
theorem dX8_times_21 : decode cX8_times 21 = .ok (.invokevirtual 137, 3) := by decide +kernel
theorem dX8_times_24 : decode cX8_times 24 = .ok (.bipush 47, 2) := by decide +kernel
theorem dX8_times_26 : decode cX8_times 26 = .ok (.if_icmp .eq 12, 3) := by decide +kernel
theorem dX8_times_29 : decode cX8_times 29 = .ok (.aload_n 0, 1) := by decide +kernel
theorem dX8_times_30 : decode cX8_times 30 = .ok (.invokevirtual 137, 3) := by decide +kernel
theorem dX8_times_33 : decode cX8_times 33 = .ok (.bipush 37, 2) := by decide +kernel
theorem dX8_times_35 : decode cX8_times 35 = .ok (.if_icmp .ne 31, 3) := by decide +kernel
theorem dX8_times_38 : decode cX8_times 38 = .ok (.aload_n 0, 1) := by decide +kernel
theorem dX8_times_39 : decode cX8_times 39 = .ok (.invokevirtual 137, 3) := by decide +kernel
theorem dX8_times_42 : decode cX8_times 42 = .ok (.istore_n 1, 1) := by decide +kernel
theorem dX8_times_43 : decode cX8_times 43 = .ok (.aload_n 0, 1) := by decide +kernel
theorem dX8_times_44 : decode cX8_times 44 = .ok (.dup, 1) := by decide +kernel
theorem dX8_times_45 : decode cX8_times 45 = .ok (.getfield 127, 3) := by decide +kernel
theorem dX8_times_48 : decode cX8_times 48 = .ok (.iconst 1, 1) := by decide +kernel
theorem dX8_times_49 : decode cX8_times 49 = .ok (.iadd, 1) := by decide +kernel
theorem dX8_times_50 : decode cX8_times 50 = .ok (.putfield 127, 3) := by decide +kernel
theorem dX8_times_53 : decode cX8_times 53 = .ok (.aload_n 0, 1) := by decide +kernel
theorem dX8_times_54 : decode cX8_times 54 = .ok (.invokevirtual 152, 3) := by decide +kernel
theorem dX8_times_57 : decode cX8_times 57 = .ok (.aload_n 0, 1) := by decide +kernel
theorem dX8_times_58 : decode cX8_times 58 = .ok (.iload_n 1, 1) := by decide +kernel
theorem dX8_times_59 : decode cX8_times 59 = .ok (.iconst 0, 1) := by decide +kernel
theorem dX8_times_60 : decode cX8_times 60 = .ok (.invokevirtual 145, 3) := by decide +kernel
theorem dX8_times_63 : decode cX8_times 63 = .ok (.goto (-59), 3) := by decide +kernel
theorem dX8_times_66 : decode cX8_times 66 = .ok (.return_, 1) := by decide +kernel
theorem dX8_sum_0 : decode cX8_sum 0 = .ok (.aload_n 0, 1) := by decide +kernel
theorem dX8_sum_1 : decode cX8_sum 1 = .ok (.invokevirtual 167, 3) := by decide +kernel
theorem dX8_sum_4 : decode cX8_sum 4 = .ok (.aload_n 0, 1) := by decide +kernel
theorem dX8_sum_5 : decode cX8_sum 5 = .ok (.getfield 141, 3) := by decide +kernel
theorem dX8_sum_8 : decode cX8_sum 8 = .ok (.ifCond .ne 49, 3) := by decide +kernel
theorem dX8_sum_11 : decode cX8_sum 11 = .ok (.aload_n 0, 1) := by decide +kernel
theorem dX8_sum_12 : decode cX8_sum 12 = .ok (.invokevirtual 137, 3) := by decide +kernel
theorem dX8_sum_15 : decode cX8_sum 15 = .ok (.bipush 43, 2) := by decide +kernel
theorem dX8_sum_17 : decode cX8_sum 17 = .ok (.if_icmp .eq 12, 3) := by decide +kernel
theorem dX8_sum_20 : decode cX8_sum 20 = .ok (.aload_n 0, 1) := by decide +kernel
theorem dX8_sum_21 : decode cX8_sum 21 = .ok (.invokevirtual 137, 3) := by decide +kernel
theorem dX8_sum_24 : decode cX8_sum 24 = .ok (.bipush 45, 2) := by decide +kernel
theorem dX8_sum_26 : decode cX8_sum 26 = .ok (.if_icmp .ne 31, 3) := by decide +kernel
theorem dX8_sum_29 : decode cX8_sum 29 = .ok (.aload_n 0, 1) := by decide +kernel
theorem dX8_sum_30 : decode cX8_sum 30 = .ok (.invokevirtual 137, 3) := by decide +kernel
theorem dX8_sum_33 : decode cX8_sum 33 = .ok (.istore_n 1, 1) := by decide +kernel
theorem dX8_sum_34 : decode cX8_sum 34 = .ok (.aload_n 0, 1) := by decide +kernel
theorem dX8_sum_35 : decode cX8_sum 35 = .ok (.dup, 1) := by decide +kernel
theorem dX8_sum_36 : decode cX8_sum 36 = .ok (.getfield 127, 3) := by decide +kernel
theorem dX8_sum_39 : decode cX8_sum 39 = .ok (.iconst 1, 1) := by decide +kernel
theorem dX8_sum_40 : decode cX8_sum 40 = .ok (.iadd, 1) := by decide +kernel
theorem dX8_sum_41 : decode cX8_sum 41 = .ok (.putfield 127, 3) := by decide +kernel
theorem dX8_sum_44 : decode cX8_sum 44 = .ok (.aload_n 0, 1) := by decide +kernel
theorem dX8_sum_45 : decode cX8_sum 45 = .ok (.invokevirtual 167, 3) := by decide +kernel
theorem dX8_sum_48 : decode cX8_sum 48 = .ok (.aload_n 0, 1) := by decide +kernel
theorem dX8_sum_49 : decode cX8_sum 49 = .ok (.iload_n 1, 1) := by decide +kernel
theorem dX8_sum_50 : decode cX8_sum 50 = .ok (.iconst 0, 1) := by decide +kernel
theorem dX8_sum_51 : decode cX8_sum 51 = .ok (.invokevirtual 145, 3) := by decide +kernel
theorem dX8_sum_54 : decode cX8_sum 54 = .ok (.goto (-50), 3) := by decide +kernel
theorem dX8_sum_57 : decode cX8_sum 57 = .ok (.return_, 1) := by decide +kernel
theorem dX8_compares_0 : decode cX8_compares 0 = .ok (.aload_n 0, 1) := by decide +kernel
theorem dX8_compares_1 : decode cX8_compares 1 = .ok (.invokevirtual 170, 3) := by decide +kernel
theorem dX8_compares_4 : decode cX8_compares 4 = .ok (.aload_n 0, 1) := by decide +kernel
theorem dX8_compares_5 : decode cX8_compares 5 = .ok (.invokevirtual 137, 3) := by decide +kernel
theorem dX8_compares_8 : decode cX8_compares 8 = .ok (.istore_n 1, 1) := by decide +kernel
theorem dX8_compares_9 : decode cX8_compares 9 = .ok (.aload_n 0, 1) := by decide +kernel
theorem dX8_compares_10 : decode cX8_compares 10 = .ok (.getfield 141, 3) := by decide +kernel
theorem dX8_compares_13 : decode cX8_compares 13 = .ok (.ifCond .ne 41, 3) := by decide +kernel
theorem dX8_compares_16 : decode cX8_compares 16 = .ok (.iload_n 1, 1) := by decide +kernel
theorem dX8_compares_17 : decode cX8_compares 17 = .ok (.bipush 60, 2) := by decide +kernel
theorem dX8_compares_19 : decode cX8_compares 19 = .ok (.if_icmp .eq 15, 3) := by decide +kernel
theorem dX8_compares_22 : decode cX8_compares 22 = .ok (.iload_n 1, 1) := by decide +kernel
theorem dX8_compares_23 : decode cX8_compares 23 = .ok (.bipush 61, 2) := by decide +kernel
theorem dX8_compares_25 : decode cX8_compares 25 = .ok (.if_icmp .eq 9, 3) := by decide +kernel
theorem dX8_compares_28 : decode cX8_compares 28 = .ok (.iload_n 1, 1) := by decide +kernel
theorem dX8_compares_29 : decode cX8_compares 29 = .ok (.bipush 62, 2) := by decide +kernel
theorem dX8_compares_31 : decode cX8_compares 31 = .ok (.if_icmp .ne 23, 3) := by decide +kernel
theorem dX8_compares_34 : decode cX8_compares 34 = .ok (.aload_n 0, 1) := by decide +kernel
theorem dX8_compares_35 : decode cX8_compares 35 = .ok (.dup, 1) := by decide +kernel
theorem dX8_compares_36 : decode cX8_compares 36 = .ok (.getfield 127, 3) := by decide +kernel
theorem dX8_compares_39 : decode cX8_compares 39 = .ok (.iconst 1, 1) := by decide +kernel
theorem dX8_compares_40 : decode cX8_compares 40 = .ok (.iadd, 1) := by decide +kernel
theorem dX8_compares_41 : decode cX8_compares 41 = .ok (.putfield 127, 3) := by decide +kernel
theorem dX8_compares_44 : decode cX8_compares 44 = .ok (.aload_n 0, 1) := by decide +kernel
theorem dX8_compares_45 : decode cX8_compares 45 = .ok (.invokevirtual 170, 3) := by decide +kernel
theorem dX8_compares_48 : decode cX8_compares 48 = .ok (.aload_n 0, 1) := by decide +kernel
theorem dX8_compares_49 : decode cX8_compares 49 = .ok (.iload_n 1, 1) := by decide +kernel
theorem dX8_compares_50 : decode cX8_compares 50 = .ok (.iconst 0, 1) := by decide +kernel
theorem dX8_compares_51 : decode cX8_compares 51 = .ok (.invokevirtual 145, 3) := by decide +kernel
theorem dX8_compares_54 : decode cX8_compares 54 = .ok (.return_, 1) := by decide +kernel
theorem dX8_all_0 : decode cX8_all 0 = .ok (.aload_n 0, 1) := by decide +kernel
theorem dX8_all_1 : decode cX8_all 1 = .ok (.invokevirtual 173, 3) := by decide +kernel
theorem dX8_all_4 : decode cX8_all 4 = .ok (.aload_n 0, 1) := by decide +kernel
theorem dX8_all_5 : decode cX8_all 5 = .ok (.getfield 141, 3) := by decide +kernel
theorem dX8_all_8 : decode cX8_all 8 = .ok (.ifCond .ne 36, 3) := by decide +kernel
theorem dX8_all_11 : decode cX8_all 11 = .ok (.aload_n 0, 1) := by decide +kernel
theorem dX8_all_12 : decode cX8_all 12 = .ok (.invokevirtual 137, 3) := by decide +kernel
theorem dX8_all_15 : decode cX8_all 15 = .ok (.bipush 38, 2) := by decide +kernel
theorem dX8_all_17 : decode cX8_all 17 = .ok (.if_icmp .ne 27, 3) := by decide +kernel
theorem dX8_all_20 : decode cX8_all 20 = .ok (.aload_n 0, 1) := by decide +kernel
theorem dX8_all_21 : decode cX8_all 21 = .ok (.dup, 1) := by decide +kernel
theorem dX8_all_22 : decode cX8_all 22 = .ok (.getfield 127, 3) := by decide +kernel
theorem dX8_all_25 : decode cX8_all 25 = .ok (.iconst 1, 1) := by decide +kernel
theorem dX8_all_26 : decode cX8_all 26 = .ok (.iadd, 1) := by decide +kernel
theorem dX8_all_27 : decode cX8_all 27 = .ok (.putfield 127, 3) := by decide +kernel
theorem dX8_all_30 : decode cX8_all 30 = .ok (.aload_n 0, 1) := by decide +kernel
theorem dX8_all_31 : decode cX8_all 31 = .ok (.invokevirtual 173, 3) := by decide +kernel
theorem dX8_all_34 : decode cX8_all 34 = .ok (.aload_n 0, 1) := by decide +kernel
theorem dX8_all_35 : decode cX8_all 35 = .ok (.bipush 38, 2) := by decide +kernel
theorem dX8_all_37 : decode cX8_all 37 = .ok (.iconst 0, 1) := by decide +kernel
theorem dX8_all_38 : decode cX8_all 38 = .ok (.invokevirtual 145, 3) := by decide +kernel
theorem dX8_all_41 : decode cX8_all 41 = .ok (.goto (-37), 3) := by decide +kernel
theorem dX8_all_44 : decode cX8_all 44 = .ok (.return_, 1) := by decide +kernel
theorem dX8_any_0 : decode cX8_any 0 = .ok (.aload_n 0, 1) := by decide +kernel
theorem dX8_any_1 : decode cX8_any 1 = .ok (.invokevirtual 176, 3) := by decide +kernel
theorem dX8_any_4 : decode cX8_any 4 = .ok (.aload_n 0, 1) := by decide +kernel
theorem dX8_any_5 : decode cX8_any 5 = .ok (.getfield 141, 3) := by decide +kernel
theorem dX8_any_8 : decode cX8_any 8 = .ok (.ifCond .ne 36, 3) := by decide +kernel
theorem dX8_any_11 : decode cX8_any 11 = .ok (.aload_n 0, 1) := by decide +kernel
theorem dX8_any_12 : decode cX8_any 12 = .ok (.invokevirtual 137, 3) := by decide +kernel
theorem dX8_any_15 : decode cX8_any 15 = .ok (.bipush 124, 2) := by decide +kernel
theorem dX8_any_17 : decode cX8_any 17 = .ok (.if_icmp .ne 27, 3) := by decide +kernel
theorem dX8_any_20 : decode cX8_any 20 = .ok (.aload_n 0, 1) := by decide +kernel
theorem dX8_any_21 : decode cX8_any 21 = .ok (.dup, 1) := by decide +kernel
theorem dX8_any_22 : decode cX8_any 22 = .ok (.getfield 127, 3) := by decide +kernel
theorem dX8_any_25 : decode cX8_any 25 = .ok (.iconst 1, 1) := by decide +kernel
theorem dX8_any_26 : decode cX8_any 26 = .ok (.iadd, 1) := by decide +kernel
theorem dX8_any_27 : decode cX8_any 27 = .ok (.putfield 127, 3) := by decide +kernel
theorem dX8_any_30 : decode cX8_any 30 = .ok (.aload_n 0, 1) := by decide +kernel
theorem dX8_any_31 : decode cX8_any 31 = .ok (.invokevirtual 176, 3) := by decide +kernel
theorem dX8_any_34 : decode cX8_any 34 = .ok (.aload_n 0, 1) := by decide +kernel
theorem dX8_any_35 : decode cX8_any 35 = .ok (.bipush 124, 2) := by decide +kernel
theorem dX8_any_37 : decode cX8_any 37 = .ok (.iconst 0, 1) := by decide +kernel
theorem dX8_any_38 : decode cX8_any 38 = .ok (.invokevirtual 145, 3) := by decide +kernel
theorem dX8_any_41 : decode cX8_any 41 = .ok (.goto (-37), 3) := by decide +kernel
theorem dX8_any_44 : decode cX8_any 44 = .ok (.return_, 1) := by decide +kernel
theorem dX8_text_0 : decode cX8_text 0 = .ok (.iload_n 1, 1) := by decide +kernel
theorem dX8_text_1 : decode cX8_text 1 = .ok (.iconst 0, 1) := by decide +kernel
theorem dX8_text_2 : decode cX8_text 2 = .ok (.iconst 1, 1) := by decide +kernel
theorem dX8_text_3 : decode cX8_text 3 = .ok (.invokestatic 44, 3) := by decide +kernel
theorem dX8_text_6 : decode cX8_text 6 = .ok (.ifCond .ne 10, 3) := by decide +kernel
theorem dX8_text_9 : decode cX8_text 9 = .ok (.aload_n 0, 1) := by decide +kernel
theorem dX8_text_10 : decode cX8_text 10 = .ok (.ldc 77, 2) := by decide +kernel
theorem dX8_text_12 : decode cX8_text 12 = .ok (.invokevirtual 78, 3) := by decide +kernel
theorem dX8_text_15 : decode cX8_text 15 = .ok (.ireturn, 1) := by decide +kernel
theorem dX8_text_16 : decode cX8_text 16 = .ok (.aload_n 0, 1) := by decide +kernel
theorem dX8_text_17 : decode cX8_text 17 = .ok (.iload_n 1, 1) := by decide +kernel
theorem dX8_text_18 : decode cX8_text 18 = .ok (.putfield 134, 3) := by decide +kernel
theorem dX8_text_21 : decode cX8_text 21 = .ok (.aload_n 0, 1) := by decide +kernel
theorem dX8_text_22 : decode cX8_text 22 = .ok (.iconst 0, 1) := by decide +kernel
theorem dX8_text_23 : decode cX8_text 23 = .ok (.putfield 131, 3) := by decide +kernel
theorem dX8_text_26 : decode cX8_text 26 = .ok (.aload_n 0, 1) := by decide +kernel
theorem dX8_text_27 : decode cX8_text 27 = .ok (.iconst 0, 1) := by decide +kernel
theorem dX8_text_28 : decode cX8_text 28 = .ok (.putfield 127, 3) := by decide +kernel
theorem dX8_text_31 : decode cX8_text 31 = .ok (.aload_n 0, 1) := by decide +kernel
theorem dX8_text_32 : decode cX8_text 32 = .ok (.iconst 0, 1) := by decide +kernel
theorem dX8_text_33 : decode cX8_text 33 = .ok (.putfield 149, 3) := by decide +kernel
theorem dX8_text_36 : decode cX8_text 36 = .ok (.aload_n 0, 1) := by decide +kernel
theorem dX8_text_37 : decode cX8_text 37 = .ok (.iconst 0, 1) := by decide +kernel
theorem dX8_text_38 : decode cX8_text 38 = .ok (.putfield 141, 3) := by decide +kernel
theorem dX8_text_41 : decode cX8_text 41 = .ok (.aload_n 0, 1) := by decide +kernel
theorem dX8_text_42 : decode cX8_text 42 = .ok (.invokevirtual 155, 3) := by decide +kernel
theorem dX8_text_45 : decode cX8_text 45 = .ok (.aload_n 0, 1) := by decide +kernel
theorem dX8_text_46 : decode cX8_text 46 = .ok (.aload_n 0, 1) := by decide +kernel
theorem dX8_text_47 : decode cX8_text 47 = .ok (.getfield 141, 3) := by decide +kernel
theorem dX8_text_50 : decode cX8_text 50 = .ok (.ifCond .ne 17, 3) := by decide +kernel
theorem dX8_text_53 : decode cX8_text 53 = .ok (.aload_n 0, 1) := by decide +kernel
theorem dX8_text_54 : decode cX8_text 54 = .ok (.getfield 127, 3) := by decide +kernel
theorem dX8_text_57 : decode cX8_text 57 = .ok (.aload_n 0, 1) := by decide +kernel
theorem dX8_text_58 : decode cX8_text 58 = .ok (.getfield 9, 3) := by decide +kernel
theorem dX8_text_61 : decode cX8_text 61 = .ok (.bipush 9, 2) := by decide +kernel
theorem dX8_text_63 : decode cX8_text 63 = .ok (.iaload, 1) := by decide +kernel
theorem dX8_text_64 : decode cX8_text 64 = .ok (.if_icmp .ge 7, 3) := by decide +kernel
theorem dX8_text_67 : decode cX8_text 67 = .ok (.iconst 1, 1) := by decide +kernel
theorem dX8_text_68 : decode cX8_text 68 = .ok (.goto 4, 3) := by decide +kernel
theorem dX8_text_71 : decode cX8_text 71 = .ok (.iconst 0, 1) := by decide +kernel
theorem dX8_text_72 : decode cX8_text 72 = .ok (.putfield 141, 3) := by decide +kernel
theorem dX8_text_75 : decode cX8_text 75 = .ok (.aload_n 0, 1) := by decide +kernel
theorem dX8_text_76 : decode cX8_text 76 = .ok (.getfield 9, 3) := by decide +kernel
theorem dX8_text_79 : decode cX8_text 79 = .ok (.bipush 9, 2) := by decide +kernel
theorem dX8_text_81 : decode cX8_text 81 = .ok (.iconst 0, 1) := by decide +kernel
theorem dX8_text_82 : decode cX8_text 82 = .ok (.iastore, 1) := by decide +kernel
theorem dX8_text_83 : decode cX8_text 83 = .ok (.aload_n 0, 1) := by decide +kernel
theorem dX8_text_84 : decode cX8_text 84 = .ok (.getfield 141, 3) := by decide +kernel
theorem dX8_text_87 : decode cX8_text 87 = .ok (.ifCond .eq 11, 3) := by decide +kernel
theorem dX8_text_90 : decode cX8_text 90 = .ok (.bipush (-10), 2) := by decide +kernel
theorem dX8_text_92 : decode cX8_text 92 = .ok (.aload_n 0, 1) := by decide +kernel
theorem dX8_text_93 : decode cX8_text 93 = .ok (.getfield 127, 3) := by decide +kernel
theorem dX8_text_96 : decode cX8_text 96 = .ok (.isub, 1) := by decide +kernel
theorem dX8_text_97 : decode cX8_text 97 = .ok (.ireturn, 1) := by decide +kernel
theorem dX8_text_98 : decode cX8_text 98 = .ok (.sipush 144, 3) := by decide +kernel
theorem dX8_text_101 : decode cX8_text 101 = .ok (.bipush 121, 2) := by decide +kernel
theorem dX8_text_103 : decode cX8_text 103 = .ok (.iload_n 1, 1) := by decide +kernel
theorem dX8_text_104 : decode cX8_text 104 = .ok (.imul, 1) := by decide +kernel
theorem dX8_text_105 : decode cX8_text 105 = .ok (.iadd, 1) := by decide +kernel
theorem dX8_text_106 : decode cX8_text 106 = .ok (.istore_n 2, 1) := by decide +kernel
theorem dX8_text_107 : decode cX8_text 107 = .ok (.aload_n 0, 1) := by decide +kernel
theorem dX8_text_108 : decode cX8_text 108 = .ok (.getfield 9, 3) := by decide +kernel
theorem dX8_text_111 : decode cX8_text 111 = .ok (.iload_n 2, 1) := by decide +kernel
theorem dX8_text_112 : decode cX8_text 112 = .ok (.aload_n 0, 1) := by decide +kernel
theorem dX8_text_113 : decode cX8_text 113 = .ok (.getfield 131, 3) := by decide +kernel
theorem dX8_text_116 : decode cX8_text 116 = .ok (.iastore, 1) := by decide +kernel
theorem dX8_text_117 : decode cX8_text 117 = .ok (.iconst 0, 1) := by decide +kernel
theorem dX8_text_118 : decode cX8_text 118 = .ok (.istore_n 3, 1) := by decide +kernel
theorem dX8_text_119 : decode cX8_text 119 = .ok (.iload_n 3, 1) := by decide +kernel
theorem dX8_text_120 : decode cX8_text 120 = .ok (.aload_n 0, 1) := by decide +kernel
theorem dX8_text_121 : decode cX8_text 121 = .ok (.getfield 131, 3) := by decide +kernel
theorem dX8_text_124 : decode cX8_text 124 = .ok (.if_icmp .ge 42, 3) := by decide +kernel
theorem dX8_text_127 : decode cX8_text 127 = .ok (.aload_n 0, 1) := by decide +kernel
theorem dX8_text_128 : decode cX8_text 128 = .ok (.getfield 9, 3) := by decide +kernel
theorem dX8_text_131 : decode cX8_text 131 = .ok (.iload_n 2, 1) := by decide +kernel
theorem dX8_text_132 : decode cX8_text 132 = .ok (.iconst 1, 1) := by decide +kernel
theorem dX8_text_133 : decode cX8_text 133 = .ok (.iadd, 1) := by decide +kernel
theorem dX8_text_134 : decode cX8_text 134 = .ok (.iload_n 3, 1) := by decide +kernel
theorem dX8_text_135 : decode cX8_text 135 = .ok (.iadd, 1) := by decide +kernel
theorem dX8_text_136 : decode cX8_text 136 = .ok (.aload_n 0, 1) := by decide +kernel
theorem dX8_text_137 : decode cX8_text 137 = .ok (.getfield 28, 3) := by decide +kernel
theorem dX8_text_140 : decode cX8_text 140 = .ok (.iload_n 3, 1) := by decide +kernel
theorem dX8_text_141 : decode cX8_text 141 = .ok (.iaload, 1) := by decide +kernel
theorem dX8_text_142 : decode cX8_text 142 = .ok (.iastore, 1) := by decide +kernel
theorem dX8_text_143 : decode cX8_text 143 = .ok (.aload_n 0, 1) := by decide +kernel
theorem dX8_text_144 : decode cX8_text 144 = .ok (.getfield 9, 3) := by decide +kernel
theorem dX8_text_147 : decode cX8_text 147 = .ok (.iload_n 2, 1) := by decide +kernel
theorem dX8_text_148 : decode cX8_text 148 = .ok (.bipush 61, 2) := by decide +kernel
theorem dX8_text_150 : decode cX8_text 150 = .ok (.iadd, 1) := by decide +kernel
theorem dX8_text_151 : decode cX8_text 151 = .ok (.iload_n 3, 1) := by decide +kernel
theorem dX8_text_152 : decode cX8_text 152 = .ok (.iadd, 1) := by decide +kernel
theorem dX8_text_153 : decode cX8_text 153 = .ok (.aload_n 0, 1) := by decide +kernel
theorem dX8_text_154 : decode cX8_text 154 = .ok (.getfield 31, 3) := by decide +kernel
theorem dX8_text_157 : decode cX8_text 157 = .ok (.iload_n 3, 1) := by decide +kernel
theorem dX8_text_158 : decode cX8_text 158 = .ok (.iaload, 1) := by decide +kernel
theorem dX8_text_159 : decode cX8_text 159 = .ok (.iastore, 1) := by decide +kernel
theorem dX8_text_160 : decode cX8_text 160 = .ok (.iinc 3 1, 3) := by decide +kernel
theorem dX8_text_163 : decode cX8_text 163 = .ok (.goto (-44), 3) := by decide +kernel
theorem dX8_text_166 : decode cX8_text 166 = .ok (.iconst 1, 1) := by decide +kernel
theorem dX8_text_167 : decode cX8_text 167 = .ok (.ireturn, 1) := by decide +kernel
theorem dX8_untell_0 : decode cX8_untell 0 = .ok (.iload_n 1, 1) := by decide +kernel
theorem dX8_untell_1 : decode cX8_untell 1 = .ok (.iconst 0, 1) := by decide +kernel
theorem dX8_untell_2 : decode cX8_untell 2 = .ok (.iconst 1, 1) := by decide +kernel
theorem dX8_untell_3 : decode cX8_untell 3 = .ok (.invokestatic 44, 3) := by decide +kernel
theorem dX8_untell_6 : decode cX8_untell 6 = .ok (.ifCond .ne 10, 3) := by decide +kernel
theorem dX8_untell_9 : decode cX8_untell 9 = .ok (.aload_n 0, 1) := by decide +kernel
theorem dX8_untell_10 : decode cX8_untell 10 = .ok (.ldc 77, 2) := by decide +kernel
theorem dX8_untell_12 : decode cX8_untell 12 = .ok (.invokevirtual 78, 3) := by decide +kernel
theorem dX8_untell_15 : decode cX8_untell 15 = .ok (.ireturn, 1) := by decide +kernel
theorem dX8_untell_16 : decode cX8_untell 16 = .ok (.aload_n 0, 1) := by decide +kernel
theorem dX8_untell_17 : decode cX8_untell 17 = .ok (.sipush 144, 3) := by decide +kernel
theorem dX8_untell_20 : decode cX8_untell 20 = .ok (.bipush 121, 2) := by decide +kernel
theorem dX8_untell_22 : decode cX8_untell 22 = .ok (.iload_n 1, 1) := by decide +kernel
theorem dX8_untell_23 : decode cX8_untell 23 = .ok (.imul, 1) := by decide +kernel
theorem dX8_untell_24 : decode cX8_untell 24 = .ok (.iadd, 1) := by decide +kernel
theorem dX8_untell_25 : decode cX8_untell 25 = .ok (.iconst 0, 1) := by decide +kernel
theorem dX8_untell_26 : decode cX8_untell 26 = .ok (.invokevirtual 88, 3) := by decide +kernel
theorem dX8_untell_29 : decode cX8_untell 29 = .ok (.ifCond .le 7, 3) := by decide +kernel
theorem dX8_untell_32 : decode cX8_untell 32 = .ok (.iconst 1, 1) := by decide +kernel
theorem dX8_untell_33 : decode cX8_untell 33 = .ok (.goto 4, 3) := by decide +kernel
theorem dX8_untell_36 : decode cX8_untell 36 = .ok (.iconst 0, 1) := by decide +kernel
theorem dX8_untell_37 : decode cX8_untell 37 = .ok (.ireturn, 1) := by decide +kernel
theorem dX8_twoOf_0 : decode cX8_twoOf 0 = .ok (.iload_n 0, 1) := by decide +kernel
theorem dX8_twoOf_1 : decode cX8_twoOf 1 = .ok (.tableswitch 202 37 62 #[143, 188, 202, 202, 202, 127, 119, 202, 123, 202, 131, 202, 202, 202, 202, 202, 202, 202, 202, 202, 202, 202, 202, 155, 166, 177], 119) := by decide +kernel
theorem dX8_twoOf_120 : decode cX8_twoOf 120 = .ok (.iload_n 1, 1) := by decide +kernel
theorem dX8_twoOf_121 : decode cX8_twoOf 121 = .ok (.iload_n 2, 1) := by decide +kernel
theorem dX8_twoOf_122 : decode cX8_twoOf 122 = .ok (.iadd, 1) := by decide +kernel
theorem dX8_twoOf_123 : decode cX8_twoOf 123 = .ok (.ireturn, 1) := by decide +kernel
theorem dX8_twoOf_124 : decode cX8_twoOf 124 = .ok (.iload_n 1, 1) := by decide +kernel
theorem dX8_twoOf_125 : decode cX8_twoOf 125 = .ok (.iload_n 2, 1) := by decide +kernel
theorem dX8_twoOf_126 : decode cX8_twoOf 126 = .ok (.isub, 1) := by decide +kernel
theorem dX8_twoOf_127 : decode cX8_twoOf 127 = .ok (.ireturn, 1) := by decide +kernel
theorem dX8_twoOf_128 : decode cX8_twoOf 128 = .ok (.iload_n 1, 1) := by decide +kernel
theorem dX8_twoOf_129 : decode cX8_twoOf 129 = .ok (.iload_n 2, 1) := by decide +kernel
theorem dX8_twoOf_130 : decode cX8_twoOf 130 = .ok (.imul, 1) := by decide +kernel
theorem dX8_twoOf_131 : decode cX8_twoOf 131 = .ok (.ireturn, 1) := by decide +kernel
theorem dX8_twoOf_132 : decode cX8_twoOf 132 = .ok (.iload_n 2, 1) := by decide +kernel
theorem dX8_twoOf_133 : decode cX8_twoOf 133 = .ok (.ifCond .ne 7, 3) := by decide +kernel
theorem dX8_twoOf_136 : decode cX8_twoOf 136 = .ok (.iconst 0, 1) := by decide +kernel
theorem dX8_twoOf_137 : decode cX8_twoOf 137 = .ok (.goto 6, 3) := by decide +kernel
theorem dX8_twoOf_140 : decode cX8_twoOf 140 = .ok (.iload_n 1, 1) := by decide +kernel
theorem dX8_twoOf_141 : decode cX8_twoOf 141 = .ok (.iload_n 2, 1) := by decide +kernel
theorem dX8_twoOf_142 : decode cX8_twoOf 142 = .ok (.idiv, 1) := by decide +kernel
theorem dX8_twoOf_143 : decode cX8_twoOf 143 = .ok (.ireturn, 1) := by decide +kernel
theorem dX8_twoOf_144 : decode cX8_twoOf 144 = .ok (.iload_n 2, 1) := by decide +kernel
theorem dX8_twoOf_145 : decode cX8_twoOf 145 = .ok (.ifCond .ne 7, 3) := by decide +kernel
theorem dX8_twoOf_148 : decode cX8_twoOf 148 = .ok (.iconst 0, 1) := by decide +kernel
theorem dX8_twoOf_149 : decode cX8_twoOf 149 = .ok (.goto 6, 3) := by decide +kernel
theorem dX8_twoOf_152 : decode cX8_twoOf 152 = .ok (.iload_n 1, 1) := by decide +kernel
theorem dX8_twoOf_153 : decode cX8_twoOf 153 = .ok (.iload_n 2, 1) := by decide +kernel
theorem dX8_twoOf_154 : decode cX8_twoOf 154 = .ok (.irem, 1) := by decide +kernel
theorem dX8_twoOf_155 : decode cX8_twoOf 155 = .ok (.ireturn, 1) := by decide +kernel
theorem dX8_twoOf_156 : decode cX8_twoOf 156 = .ok (.iload_n 1, 1) := by decide +kernel
theorem dX8_twoOf_157 : decode cX8_twoOf 157 = .ok (.iload_n 2, 1) := by decide +kernel
theorem dX8_twoOf_158 : decode cX8_twoOf 158 = .ok (.if_icmp .ge 7, 3) := by decide +kernel
theorem dX8_twoOf_161 : decode cX8_twoOf 161 = .ok (.iconst 1, 1) := by decide +kernel
theorem dX8_twoOf_162 : decode cX8_twoOf 162 = .ok (.goto 4, 3) := by decide +kernel
theorem dX8_twoOf_165 : decode cX8_twoOf 165 = .ok (.iconst 0, 1) := by decide +kernel
theorem dX8_twoOf_166 : decode cX8_twoOf 166 = .ok (.ireturn, 1) := by decide +kernel
theorem dX8_twoOf_167 : decode cX8_twoOf 167 = .ok (.iload_n 1, 1) := by decide +kernel
theorem dX8_twoOf_168 : decode cX8_twoOf 168 = .ok (.iload_n 2, 1) := by decide +kernel
theorem dX8_twoOf_169 : decode cX8_twoOf 169 = .ok (.if_icmp .ne 7, 3) := by decide +kernel
theorem dX8_twoOf_172 : decode cX8_twoOf 172 = .ok (.iconst 1, 1) := by decide +kernel
theorem dX8_twoOf_173 : decode cX8_twoOf 173 = .ok (.goto 4, 3) := by decide +kernel
theorem dX8_twoOf_176 : decode cX8_twoOf 176 = .ok (.iconst 0, 1) := by decide +kernel
theorem dX8_twoOf_177 : decode cX8_twoOf 177 = .ok (.ireturn, 1) := by decide +kernel
theorem dX8_twoOf_178 : decode cX8_twoOf 178 = .ok (.iload_n 1, 1) := by decide +kernel
theorem dX8_twoOf_179 : decode cX8_twoOf 179 = .ok (.iload_n 2, 1) := by decide +kernel
theorem dX8_twoOf_180 : decode cX8_twoOf 180 = .ok (.if_icmp .le 7, 3) := by decide +kernel
theorem dX8_twoOf_183 : decode cX8_twoOf 183 = .ok (.iconst 1, 1) := by decide +kernel
theorem dX8_twoOf_184 : decode cX8_twoOf 184 = .ok (.goto 4, 3) := by decide +kernel
theorem dX8_twoOf_187 : decode cX8_twoOf 187 = .ok (.iconst 0, 1) := by decide +kernel
theorem dX8_twoOf_188 : decode cX8_twoOf 188 = .ok (.ireturn, 1) := by decide +kernel
theorem dX8_twoOf_189 : decode cX8_twoOf 189 = .ok (.iload_n 1, 1) := by decide +kernel
theorem dX8_twoOf_190 : decode cX8_twoOf 190 = .ok (.ifCond .eq 11, 3) := by decide +kernel
theorem dX8_twoOf_193 : decode cX8_twoOf 193 = .ok (.iload_n 2, 1) := by decide +kernel
theorem dX8_twoOf_194 : decode cX8_twoOf 194 = .ok (.ifCond .eq 7, 3) := by decide +kernel
theorem dX8_twoOf_197 : decode cX8_twoOf 197 = .ok (.iconst 1, 1) := by decide +kernel
theorem dX8_twoOf_198 : decode cX8_twoOf 198 = .ok (.goto 4, 3) := by decide +kernel
theorem dX8_twoOf_201 : decode cX8_twoOf 201 = .ok (.iconst 0, 1) := by decide +kernel
theorem dX8_twoOf_202 : decode cX8_twoOf 202 = .ok (.ireturn, 1) := by decide +kernel
theorem dX8_twoOf_203 : decode cX8_twoOf 203 = .ok (.iload_n 1, 1) := by decide +kernel
theorem dX8_twoOf_204 : decode cX8_twoOf 204 = .ok (.ifCond .ne 7, 3) := by decide +kernel
theorem dX8_twoOf_207 : decode cX8_twoOf 207 = .ok (.iload_n 2, 1) := by decide +kernel
theorem dX8_twoOf_208 : decode cX8_twoOf 208 = .ok (.ifCond .eq 7, 3) := by decide +kernel
theorem dX8_twoOf_211 : decode cX8_twoOf 211 = .ok (.iconst 1, 1) := by decide +kernel
theorem dX8_twoOf_212 : decode cX8_twoOf 212 = .ok (.goto 4, 3) := by decide +kernel
theorem dX8_twoOf_215 : decode cX8_twoOf 215 = .ok (.iconst 0, 1) := by decide +kernel
theorem dX8_twoOf_216 : decode cX8_twoOf 216 = .ok (.ireturn, 1) := by decide +kernel
theorem dX8_works_0 : decode cX8_works 0 = .ok (.iconst 0, 1) := by decide +kernel
theorem dX8_works_1 : decode cX8_works 1 = .ok (.istore_n 2, 1) := by decide +kernel
theorem dX8_works_2 : decode cX8_works 2 = .ok (.iconst 0, 1) := by decide +kernel
theorem dX8_works_3 : decode cX8_works 3 = .ok (.istore_n 3, 1) := by decide +kernel
theorem dX8_works_4 : decode cX8_works 4 = .ok (.iload_n 3, 1) := by decide +kernel
theorem dX8_works_5 : decode cX8_works 5 = .ok (.aload_n 0, 1) := by decide +kernel
theorem dX8_works_6 : decode cX8_works 6 = .ok (.getfield 9, 3) := by decide +kernel
theorem dX8_works_9 : decode cX8_works 9 = .ok (.iload_n 1, 1) := by decide +kernel
theorem dX8_works_10 : decode cX8_works 10 = .ok (.iaload, 1) := by decide +kernel
theorem dX8_works_11 : decode cX8_works 11 = .ok (.if_icmp .ge 144, 3) := by decide +kernel
theorem dX8_works_14 : decode cX8_works 14 = .ok (.aload_n 0, 1) := by decide +kernel
theorem dX8_works_15 : decode cX8_works 15 = .ok (.getfield 9, 3) := by decide +kernel
theorem dX8_works_18 : decode cX8_works 18 = .ok (.iload_n 1, 1) := by decide +kernel
theorem dX8_works_19 : decode cX8_works 19 = .ok (.iconst 1, 1) := by decide +kernel
theorem dX8_works_20 : decode cX8_works 20 = .ok (.iadd, 1) := by decide +kernel
theorem dX8_works_21 : decode cX8_works 21 = .ok (.iload_n 3, 1) := by decide +kernel
theorem dX8_works_22 : decode cX8_works 22 = .ok (.iadd, 1) := by decide +kernel
theorem dX8_works_23 : decode cX8_works 23 = .ok (.iaload, 1) := by decide +kernel
theorem dX8_works_24 : decode cX8_works 24 = .ok (.istore 4, 2) := by decide +kernel
theorem dX8_works_26 : decode cX8_works 26 = .ok (.iload 4, 2) := by decide +kernel
theorem dX8_works_28 : decode cX8_works 28 = .ok (.iconst 1, 1) := by decide +kernel
theorem dX8_works_29 : decode cX8_works 29 = .ok (.if_icmp .eq 9, 3) := by decide +kernel
theorem dX8_works_32 : decode cX8_works 32 = .ok (.iload 4, 2) := by decide +kernel
theorem dX8_works_34 : decode cX8_works 34 = .ok (.iconst 2, 1) := by decide +kernel
theorem dX8_works_35 : decode cX8_works 35 = .ok (.if_icmp .ne 51, 3) := by decide +kernel
theorem dX8_works_38 : decode cX8_works 38 = .ok (.aload_n 0, 1) := by decide +kernel
theorem dX8_works_39 : decode cX8_works 39 = .ok (.getfield 37, 3) := by decide +kernel
theorem dX8_works_42 : decode cX8_works 42 = .ok (.iload_n 2, 1) := by decide +kernel
theorem dX8_works_43 : decode cX8_works 43 = .ok (.iload 4, 2) := by decide +kernel
theorem dX8_works_45 : decode cX8_works 45 = .ok (.iconst 1, 1) := by decide +kernel
theorem dX8_works_46 : decode cX8_works 46 = .ok (.if_icmp .ne 17, 3) := by decide +kernel
theorem dX8_works_49 : decode cX8_works 49 = .ok (.aload_n 0, 1) := by decide +kernel
theorem dX8_works_50 : decode cX8_works 50 = .ok (.getfield 9, 3) := by decide +kernel
theorem dX8_works_53 : decode cX8_works 53 = .ok (.iload_n 1, 1) := by decide +kernel
theorem dX8_works_54 : decode cX8_works 54 = .ok (.bipush 61, 2) := by decide +kernel
theorem dX8_works_56 : decode cX8_works 56 = .ok (.iadd, 1) := by decide +kernel
theorem dX8_works_57 : decode cX8_works 57 = .ok (.iload_n 3, 1) := by decide +kernel
theorem dX8_works_58 : decode cX8_works 58 = .ok (.iadd, 1) := by decide +kernel
theorem dX8_works_59 : decode cX8_works 59 = .ok (.iaload, 1) := by decide +kernel
theorem dX8_works_60 : decode cX8_works 60 = .ok (.goto 19, 3) := by decide +kernel
theorem dX8_works_63 : decode cX8_works 63 = .ok (.aload_n 0, 1) := by decide +kernel
theorem dX8_works_64 : decode cX8_works 64 = .ok (.getfield 34, 3) := by decide +kernel
theorem dX8_works_67 : decode cX8_works 67 = .ok (.aload_n 0, 1) := by decide +kernel
theorem dX8_works_68 : decode cX8_works 68 = .ok (.getfield 9, 3) := by decide +kernel
theorem dX8_works_71 : decode cX8_works 71 = .ok (.iload_n 1, 1) := by decide +kernel
theorem dX8_works_72 : decode cX8_works 72 = .ok (.bipush 61, 2) := by decide +kernel
theorem dX8_works_74 : decode cX8_works 74 = .ok (.iadd, 1) := by decide +kernel
theorem dX8_works_75 : decode cX8_works 75 = .ok (.iload_n 3, 1) := by decide +kernel
theorem dX8_works_76 : decode cX8_works 76 = .ok (.iadd, 1) := by decide +kernel
theorem dX8_works_77 : decode cX8_works 77 = .ok (.iaload, 1) := by decide +kernel
theorem dX8_works_78 : decode cX8_works 78 = .ok (.iaload, 1) := by decide +kernel
theorem dX8_works_79 : decode cX8_works 79 = .ok (.iastore, 1) := by decide +kernel
theorem dX8_works_80 : decode cX8_works 80 = .ok (.iinc 2 1, 3) := by decide +kernel
theorem dX8_works_83 : decode cX8_works 83 = .ok (.goto 66, 3) := by decide +kernel
theorem dX8_works_86 : decode cX8_works 86 = .ok (.iload 4, 2) := by decide +kernel
theorem dX8_works_88 : decode cX8_works 88 = .ok (.iconst 3, 1) := by decide +kernel
theorem dX8_works_89 : decode cX8_works 89 = .ok (.if_icmp .ne 30, 3) := by decide +kernel
theorem dX8_works_92 : decode cX8_works 92 = .ok (.aload_n 0, 1) := by decide +kernel
theorem dX8_works_93 : decode cX8_works 93 = .ok (.getfield 37, 3) := by decide +kernel
theorem dX8_works_96 : decode cX8_works 96 = .ok (.iload_n 2, 1) := by decide +kernel
theorem dX8_works_97 : decode cX8_works 97 = .ok (.iconst 1, 1) := by decide +kernel
theorem dX8_works_98 : decode cX8_works 98 = .ok (.isub, 1) := by decide +kernel
theorem dX8_works_99 : decode cX8_works 99 = .ok (.aload_n 0, 1) := by decide +kernel
theorem dX8_works_100 : decode cX8_works 100 = .ok (.getfield 37, 3) := by decide +kernel
theorem dX8_works_103 : decode cX8_works 103 = .ok (.iload_n 2, 1) := by decide +kernel
theorem dX8_works_104 : decode cX8_works 104 = .ok (.iconst 1, 1) := by decide +kernel
theorem dX8_works_105 : decode cX8_works 105 = .ok (.isub, 1) := by decide +kernel
theorem dX8_works_106 : decode cX8_works 106 = .ok (.iaload, 1) := by decide +kernel
theorem dX8_works_107 : decode cX8_works 107 = .ok (.ifCond .ne 7, 3) := by decide +kernel
theorem dX8_works_110 : decode cX8_works 110 = .ok (.iconst 1, 1) := by decide +kernel
theorem dX8_works_111 : decode cX8_works 111 = .ok (.goto 4, 3) := by decide +kernel
theorem dX8_works_114 : decode cX8_works 114 = .ok (.iconst 0, 1) := by decide +kernel
theorem dX8_works_115 : decode cX8_works 115 = .ok (.iastore, 1) := by decide +kernel
theorem dX8_works_116 : decode cX8_works 116 = .ok (.goto 33, 3) := by decide +kernel
theorem dX8_works_119 : decode cX8_works 119 = .ok (.iinc 2 (-1), 3) := by decide +kernel
theorem dX8_works_122 : decode cX8_works 122 = .ok (.aload_n 0, 1) := by decide +kernel
theorem dX8_works_123 : decode cX8_works 123 = .ok (.getfield 37, 3) := by decide +kernel
theorem dX8_works_126 : decode cX8_works 126 = .ok (.iload_n 2, 1) := by decide +kernel
theorem dX8_works_127 : decode cX8_works 127 = .ok (.iconst 1, 1) := by decide +kernel
theorem dX8_works_128 : decode cX8_works 128 = .ok (.isub, 1) := by decide +kernel
theorem dX8_works_129 : decode cX8_works 129 = .ok (.iload 4, 2) := by decide +kernel
theorem dX8_works_131 : decode cX8_works 131 = .ok (.aload_n 0, 1) := by decide +kernel
theorem dX8_works_132 : decode cX8_works 132 = .ok (.getfield 37, 3) := by decide +kernel
theorem dX8_works_135 : decode cX8_works 135 = .ok (.iload_n 2, 1) := by decide +kernel
theorem dX8_works_136 : decode cX8_works 136 = .ok (.iconst 1, 1) := by decide +kernel
theorem dX8_works_137 : decode cX8_works 137 = .ok (.isub, 1) := by decide +kernel
theorem dX8_works_138 : decode cX8_works 138 = .ok (.iaload, 1) := by decide +kernel
theorem dX8_works_139 : decode cX8_works 139 = .ok (.aload_n 0, 1) := by decide +kernel
theorem dX8_works_140 : decode cX8_works 140 = .ok (.getfield 37, 3) := by decide +kernel
theorem dX8_works_143 : decode cX8_works 143 = .ok (.iload_n 2, 1) := by decide +kernel
theorem dX8_works_144 : decode cX8_works 144 = .ok (.iaload, 1) := by decide +kernel
theorem dX8_works_145 : decode cX8_works 145 = .ok (.invokestatic 179, 3) := by decide +kernel
theorem dX8_works_148 : decode cX8_works 148 = .ok (.iastore, 1) := by decide +kernel
theorem dX8_works_149 : decode cX8_works 149 = .ok (.iinc 3 1, 3) := by decide +kernel
theorem dX8_works_152 : decode cX8_works 152 = .ok (.goto (-148), 3) := by decide +kernel
theorem dX8_works_155 : decode cX8_works 155 = .ok (.aload_n 0, 1) := by decide +kernel
theorem dX8_works_156 : decode cX8_works 156 = .ok (.getfield 37, 3) := by decide +kernel
theorem dX8_works_159 : decode cX8_works 159 = .ok (.iconst 0, 1) := by decide +kernel
theorem dX8_works_160 : decode cX8_works 160 = .ok (.iaload, 1) := by decide +kernel
theorem dX8_works_161 : decode cX8_works 161 = .ok (.ireturn, 1) := by decide +kernel
theorem dX8_gives_0 : decode cX8_gives 0 = .ok (.sipush 144, 3) := by decide +kernel
theorem dX8_gives_3 : decode cX8_gives 3 = .ok (.bipush 121, 2) := by decide +kernel
theorem dX8_gives_5 : decode cX8_gives 5 = .ok (.iload_n 1, 1) := by decide +kernel
theorem dX8_gives_6 : decode cX8_gives 6 = .ok (.imul, 1) := by decide +kernel
theorem dX8_gives_7 : decode cX8_gives 7 = .ok (.iadd, 1) := by decide +kernel
theorem dX8_gives_8 : decode cX8_gives 8 = .ok (.istore 5, 2) := by decide +kernel
theorem dX8_gives_10 : decode cX8_gives 10 = .ok (.aload_n 0, 1) := by decide +kernel
theorem dX8_gives_11 : decode cX8_gives 11 = .ok (.getfield 34, 3) := by decide +kernel
theorem dX8_gives_14 : decode cX8_gives 14 = .ok (.iconst 0, 1) := by decide +kernel
theorem dX8_gives_15 : decode cX8_gives 15 = .ok (.iload_n 2, 1) := by decide +kernel
theorem dX8_gives_16 : decode cX8_gives 16 = .ok (.iastore, 1) := by decide +kernel
theorem dX8_gives_17 : decode cX8_gives 17 = .ok (.aload_n 0, 1) := by decide +kernel
theorem dX8_gives_18 : decode cX8_gives 18 = .ok (.getfield 34, 3) := by decide +kernel
theorem dX8_gives_21 : decode cX8_gives 21 = .ok (.iconst 1, 1) := by decide +kernel
theorem dX8_gives_22 : decode cX8_gives 22 = .ok (.iload_n 3, 1) := by decide +kernel
theorem dX8_gives_23 : decode cX8_gives 23 = .ok (.iastore, 1) := by decide +kernel
theorem dX8_gives_24 : decode cX8_gives 24 = .ok (.aload_n 0, 1) := by decide +kernel
theorem dX8_gives_25 : decode cX8_gives 25 = .ok (.getfield 34, 3) := by decide +kernel
theorem dX8_gives_28 : decode cX8_gives 28 = .ok (.iconst 2, 1) := by decide +kernel
theorem dX8_gives_29 : decode cX8_gives 29 = .ok (.iload 4, 2) := by decide +kernel
theorem dX8_gives_31 : decode cX8_gives 31 = .ok (.iastore, 1) := by decide +kernel
theorem dX8_gives_32 : decode cX8_gives 32 = .ok (.aload_n 0, 1) := by decide +kernel
theorem dX8_gives_33 : decode cX8_gives 33 = .ok (.getfield 9, 3) := by decide +kernel
theorem dX8_gives_36 : decode cX8_gives 36 = .ok (.iload 5, 2) := by decide +kernel
theorem dX8_gives_38 : decode cX8_gives 38 = .ok (.iaload, 1) := by decide +kernel
theorem dX8_gives_39 : decode cX8_gives 39 = .ok (.ifCond .le 12, 3) := by decide +kernel
theorem dX8_gives_42 : decode cX8_gives 42 = .ok (.aload_n 0, 1) := by decide +kernel
theorem dX8_gives_43 : decode cX8_gives 43 = .ok (.iload 5, 2) := by decide +kernel
theorem dX8_gives_45 : decode cX8_gives 45 = .ok (.invokevirtual 182, 3) := by decide +kernel
theorem dX8_gives_48 : decode cX8_gives 48 = .ok (.goto 23, 3) := by decide +kernel
theorem dX8_gives_51 : decode cX8_gives 51 = .ok (.iload_n 1, 1) := by decide +kernel
theorem dX8_gives_52 : decode cX8_gives 52 = .ok (.ifCond .ne 7, 3) := by decide +kernel
theorem dX8_gives_55 : decode cX8_gives 55 = .ok (.iload_n 2, 1) := by decide +kernel
theorem dX8_gives_56 : decode cX8_gives 56 = .ok (.goto 15, 3) := by decide +kernel
theorem dX8_gives_59 : decode cX8_gives 59 = .ok (.iload_n 2, 1) := by decide +kernel
theorem dX8_gives_60 : decode cX8_gives 60 = .ok (.iconst 1, 1) := by decide +kernel
theorem dX8_gives_61 : decode cX8_gives 61 = .ok (.if_icmp .ne 8, 3) := by decide +kernel
theorem dX8_gives_64 : decode cX8_gives 64 = .ok (.bipush 25, 2) := by decide +kernel
theorem dX8_gives_66 : decode cX8_gives 66 = .ok (.goto 5, 3) := by decide +kernel
theorem dX8_gives_69 : decode cX8_gives 69 = .ok (.bipush (-50), 2) := by decide +kernel
theorem dX8_gives_71 : decode cX8_gives 71 = .ok (.istore 6, 2) := by decide +kernel
theorem dX8_gives_73 : decode cX8_gives 73 = .ok (.iload_n 1, 1) := by decide +kernel
theorem dX8_gives_74 : decode cX8_gives 74 = .ok (.ifCond .ne 15, 3) := by decide +kernel
theorem dX8_gives_77 : decode cX8_gives 77 = .ok (.iload 6, 2) := by decide +kernel
theorem dX8_gives_79 : decode cX8_gives 79 = .ok (.iconst 0, 1) := by decide +kernel
theorem dX8_gives_80 : decode cX8_gives 80 = .ok (.sipush 199, 3) := by decide +kernel
theorem dX8_gives_83 : decode cX8_gives 83 = .ok (.invokestatic 106, 3) := by decide +kernel
theorem dX8_gives_86 : decode cX8_gives 86 = .ok (.goto 12, 3) := by decide +kernel
theorem dX8_gives_89 : decode cX8_gives 89 = .ok (.iload 6, 2) := by decide +kernel
theorem dX8_gives_91 : decode cX8_gives 91 = .ok (.bipush (-99), 2) := by decide +kernel
theorem dX8_gives_93 : decode cX8_gives 93 = .ok (.bipush 99, 2) := by decide +kernel
theorem dX8_gives_95 : decode cX8_gives 95 = .ok (.invokestatic 106, 3) := by decide +kernel
theorem dX8_gives_98 : decode cX8_gives 98 = .ok (.ireturn, 1) := by decide +kernel
theorem dX8_law_0 : decode cX8_law 0 = .ok (.iload_n 1, 1) := by decide +kernel
theorem dX8_law_1 : decode cX8_law 1 = .ok (.iconst 0, 1) := by decide +kernel
theorem dX8_law_2 : decode cX8_law 2 = .ok (.iconst 1, 1) := by decide +kernel
theorem dX8_law_3 : decode cX8_law 3 = .ok (.invokestatic 44, 3) := by decide +kernel
theorem dX8_law_6 : decode cX8_law 6 = .ok (.ifCond .eq 15, 3) := by decide +kernel
theorem dX8_law_9 : decode cX8_law 9 = .ok (.aload_n 0, 1) := by decide +kernel
theorem dX8_law_10 : decode cX8_law 10 = .ok (.iload_n 1, 1) := by decide +kernel
theorem dX8_law_11 : decode cX8_law 11 = .ok (.iload_n 2, 1) := by decide +kernel
theorem dX8_law_12 : decode cX8_law 12 = .ok (.iload_n 3, 1) := by decide +kernel
theorem dX8_law_13 : decode cX8_law 13 = .ok (.iload 4, 2) := by decide +kernel
theorem dX8_law_15 : decode cX8_law 15 = .ok (.invokevirtual 56, 3) := by decide +kernel
theorem dX8_law_18 : decode cX8_law 18 = .ok (.goto 9, 3) := by decide +kernel
theorem dX8_law_21 : decode cX8_law 21 = .ok (.aload_n 0, 1) := by decide +kernel
theorem dX8_law_22 : decode cX8_law 22 = .ok (.ldc 77, 2) := by decide +kernel
theorem dX8_law_24 : decode cX8_law 24 = .ok (.invokevirtual 78, 3) := by decide +kernel
theorem dX8_law_27 : decode cX8_law 27 = .ok (.ireturn, 1) := by decide +kernel
theorem dX8_margin_0 : decode cX8_margin 0 = .ok (.aload_n 0, 1) := by decide +kernel
theorem dX8_margin_1 : decode cX8_margin 1 = .ok (.iload_n 1, 1) := by decide +kernel
theorem dX8_margin_2 : decode cX8_margin 2 = .ok (.invokevirtual 96, 3) := by decide +kernel
theorem dX8_margin_5 : decode cX8_margin 5 = .ok (.ifCond .eq 28, 3) := by decide +kernel
theorem dX8_margin_8 : decode cX8_margin 8 = .ok (.aload_n 0, 1) := by decide +kernel
theorem dX8_margin_9 : decode cX8_margin 9 = .ok (.iload_n 2, 1) := by decide +kernel
theorem dX8_margin_10 : decode cX8_margin 10 = .ok (.invokevirtual 82, 3) := by decide +kernel
theorem dX8_margin_13 : decode cX8_margin 13 = .ok (.ifCond .eq 20, 3) := by decide +kernel
theorem dX8_margin_16 : decode cX8_margin 16 = .ok (.iload_n 3, 1) := by decide +kernel
theorem dX8_margin_17 : decode cX8_margin 17 = .ok (.invokestatic 103, 3) := by decide +kernel
theorem dX8_margin_20 : decode cX8_margin 20 = .ok (.ifCond .eq 13, 3) := by decide +kernel
theorem dX8_margin_23 : decode cX8_margin 23 = .ok (.aload_n 0, 1) := by decide +kernel
theorem dX8_margin_24 : decode cX8_margin 24 = .ok (.iload_n 1, 1) := by decide +kernel
theorem dX8_margin_25 : decode cX8_margin 25 = .ok (.iload_n 2, 1) := by decide +kernel
theorem dX8_margin_26 : decode cX8_margin 26 = .ok (.iload_n 3, 1) := by decide +kernel
theorem dX8_margin_27 : decode cX8_margin 27 = .ok (.invokevirtual 69, 3) := by decide +kernel
theorem dX8_margin_30 : decode cX8_margin 30 = .ok (.goto 9, 3) := by decide +kernel
theorem dX8_margin_33 : decode cX8_margin 33 = .ok (.aload_n 0, 1) := by decide +kernel
theorem dX8_margin_34 : decode cX8_margin 34 = .ok (.ldc 77, 2) := by decide +kernel
theorem dX8_margin_36 : decode cX8_margin 36 = .ok (.invokevirtual 78, 3) := by decide +kernel
theorem dX8_margin_39 : decode cX8_margin 39 = .ok (.ireturn, 1) := by decide +kernel
theorem dX8_leadFor_0 : decode cX8_leadFor 0 = .ok (.aload_n 0, 1) := by decide +kernel
theorem dX8_leadFor_1 : decode cX8_leadFor 1 = .ok (.iload_n 1, 1) := by decide +kernel
theorem dX8_leadFor_2 : decode cX8_leadFor 2 = .ok (.invokevirtual 96, 3) := by decide +kernel
theorem dX8_leadFor_5 : decode cX8_leadFor 5 = .ok (.ifCond .eq 11, 3) := by decide +kernel
theorem dX8_leadFor_8 : decode cX8_leadFor 8 = .ok (.aload_n 0, 1) := by decide +kernel
theorem dX8_leadFor_9 : decode cX8_leadFor 9 = .ok (.iload_n 2, 1) := by decide +kernel
theorem dX8_leadFor_10 : decode cX8_leadFor 10 = .ok (.invokevirtual 82, 3) := by decide +kernel
theorem dX8_leadFor_13 : decode cX8_leadFor 13 = .ok (.ifCond .ne 10, 3) := by decide +kernel
theorem dX8_leadFor_16 : decode cX8_leadFor 16 = .ok (.aload_n 0, 1) := by decide +kernel
theorem dX8_leadFor_17 : decode cX8_leadFor 17 = .ok (.ldc 77, 2) := by decide +kernel
theorem dX8_leadFor_19 : decode cX8_leadFor 19 = .ok (.invokevirtual 78, 3) := by decide +kernel
theorem dX8_leadFor_22 : decode cX8_leadFor 22 = .ok (.ireturn, 1) := by decide +kernel
theorem dX8_leadFor_23 : decode cX8_leadFor 23 = .ok (.iconst 0, 1) := by decide +kernel
theorem dX8_leadFor_24 : decode cX8_leadFor 24 = .ok (.istore_n 3, 1) := by decide +kernel
theorem dX8_leadFor_25 : decode cX8_leadFor 25 = .ok (.iload_n 3, 1) := by decide +kernel
theorem dX8_leadFor_26 : decode cX8_leadFor 26 = .ok (.bipush 20, 2) := by decide +kernel
theorem dX8_leadFor_28 : decode cX8_leadFor 28 = .ok (.if_icmp .gt 21, 3) := by decide +kernel
theorem dX8_leadFor_31 : decode cX8_leadFor 31 = .ok (.aload_n 0, 1) := by decide +kernel
theorem dX8_leadFor_32 : decode cX8_leadFor 32 = .ok (.iload_n 1, 1) := by decide +kernel
theorem dX8_leadFor_33 : decode cX8_leadFor 33 = .ok (.iload_n 2, 1) := by decide +kernel
theorem dX8_leadFor_34 : decode cX8_leadFor 34 = .ok (.iload_n 3, 1) := by decide +kernel
theorem dX8_leadFor_35 : decode cX8_leadFor 35 = .ok (.invokevirtual 113, 3) := by decide +kernel
theorem dX8_leadFor_38 : decode cX8_leadFor 38 = .ok (.ifCond .eq 5, 3) := by decide +kernel
theorem dX8_leadFor_41 : decode cX8_leadFor 41 = .ok (.iload_n 3, 1) := by decide +kernel
theorem dX8_leadFor_42 : decode cX8_leadFor 42 = .ok (.ireturn, 1) := by decide +kernel
theorem dX8_leadFor_43 : decode cX8_leadFor 43 = .ok (.iinc 3 1, 3) := by decide +kernel
theorem dX8_leadFor_46 : decode cX8_leadFor 46 = .ok (.goto (-21), 3) := by decide +kernel
theorem dX8_leadFor_49 : decode cX8_leadFor 49 = .ok (.aload_n 0, 1) := by decide +kernel
theorem dX8_leadFor_50 : decode cX8_leadFor 50 = .ok (.ldc 185, 2) := by decide +kernel
theorem dX8_leadFor_52 : decode cX8_leadFor 52 = .ok (.invokevirtual 78, 3) := by decide +kernel
theorem dX8_leadFor_55 : decode cX8_leadFor 55 = .ok (.ireturn, 1) := by decide +kernel
theorem dX8_gainsFrom_0 : decode cX8_gainsFrom 0 = .ok (.iconst 0, 1) := by decide +kernel
theorem dX8_gainsFrom_1 : decode cX8_gainsFrom 1 = .ok (.istore_n 3, 1) := by decide +kernel
theorem dX8_gainsFrom_2 : decode cX8_gainsFrom 2 = .ok (.iconst 0, 1) := by decide +kernel
theorem dX8_gainsFrom_3 : decode cX8_gainsFrom 3 = .ok (.istore 4, 2) := by decide +kernel
theorem dX8_gainsFrom_5 : decode cX8_gainsFrom 5 = .ok (.iload 4, 2) := by decide +kernel
theorem dX8_gainsFrom_7 : decode cX8_gainsFrom 7 = .ok (.aload_n 0, 1) := by decide +kernel
theorem dX8_gainsFrom_8 : decode cX8_gainsFrom 8 = .ok (.getfield 9, 3) := by decide +kernel
theorem dX8_gainsFrom_11 : decode cX8_gainsFrom 11 = .ok (.bipush 7, 2) := by decide +kernel
theorem dX8_gainsFrom_13 : decode cX8_gainsFrom 13 = .ok (.iaload, 1) := by decide +kernel
theorem dX8_gainsFrom_14 : decode cX8_gainsFrom 14 = .ok (.if_icmp .ge 28, 3) := by decide +kernel
theorem dX8_gainsFrom_17 : decode cX8_gainsFrom 17 = .ok (.iload_n 3, 1) := by decide +kernel
theorem dX8_gainsFrom_18 : decode cX8_gainsFrom 18 = .ok (.aload_n 0, 1) := by decide +kernel
theorem dX8_gainsFrom_19 : decode cX8_gainsFrom 19 = .ok (.iload 4, 2) := by decide +kernel
theorem dX8_gainsFrom_21 : decode cX8_gainsFrom 21 = .ok (.iconst 2, 1) := by decide +kernel
theorem dX8_gainsFrom_22 : decode cX8_gainsFrom 22 = .ok (.invokevirtual 48, 3) := by decide +kernel
theorem dX8_gainsFrom_25 : decode cX8_gainsFrom 25 = .ok (.aload_n 0, 1) := by decide +kernel
theorem dX8_gainsFrom_26 : decode cX8_gainsFrom 26 = .ok (.iload_n 1, 1) := by decide +kernel
theorem dX8_gainsFrom_27 : decode cX8_gainsFrom 27 = .ok (.iload 4, 2) := by decide +kernel
theorem dX8_gainsFrom_29 : decode cX8_gainsFrom 29 = .ok (.iload_n 2, 1) := by decide +kernel
theorem dX8_gainsFrom_30 : decode cX8_gainsFrom 30 = .ok (.invokevirtual 116, 3) := by decide +kernel
theorem dX8_gainsFrom_33 : decode cX8_gainsFrom 33 = .ok (.imul, 1) := by decide +kernel
theorem dX8_gainsFrom_34 : decode cX8_gainsFrom 34 = .ok (.iadd, 1) := by decide +kernel
theorem dX8_gainsFrom_35 : decode cX8_gainsFrom 35 = .ok (.istore_n 3, 1) := by decide +kernel
theorem dX8_gainsFrom_36 : decode cX8_gainsFrom 36 = .ok (.iinc 4 1, 3) := by decide +kernel
theorem dX8_gainsFrom_39 : decode cX8_gainsFrom 39 = .ok (.goto (-34), 3) := by decide +kernel
theorem dX8_gainsFrom_42 : decode cX8_gainsFrom 42 = .ok (.iload_n 3, 1) := by decide +kernel
theorem dX8_gainsFrom_43 : decode cX8_gainsFrom 43 = .ok (.ireturn, 1) := by decide +kernel
theorem dX8_bestLead_0 : decode cX8_bestLead 0 = .ok (.aload_n 0, 1) := by decide +kernel
theorem dX8_bestLead_1 : decode cX8_bestLead 1 = .ok (.iload_n 1, 1) := by decide +kernel
theorem dX8_bestLead_2 : decode cX8_bestLead 2 = .ok (.invokevirtual 96, 3) := by decide +kernel
theorem dX8_bestLead_5 : decode cX8_bestLead 5 = .ok (.ifCond .eq 12, 3) := by decide +kernel
theorem dX8_bestLead_8 : decode cX8_bestLead 8 = .ok (.iload_n 2, 1) := by decide +kernel
theorem dX8_bestLead_9 : decode cX8_bestLead 9 = .ok (.iconst 0, 1) := by decide +kernel
theorem dX8_bestLead_10 : decode cX8_bestLead 10 = .ok (.iconst 1, 1) := by decide +kernel
theorem dX8_bestLead_11 : decode cX8_bestLead 11 = .ok (.invokestatic 44, 3) := by decide +kernel
theorem dX8_bestLead_14 : decode cX8_bestLead 14 = .ok (.ifCond .ne 10, 3) := by decide +kernel
theorem dX8_bestLead_17 : decode cX8_bestLead 17 = .ok (.aload_n 0, 1) := by decide +kernel
theorem dX8_bestLead_18 : decode cX8_bestLead 18 = .ok (.ldc 77, 2) := by decide +kernel
theorem dX8_bestLead_20 : decode cX8_bestLead 20 = .ok (.invokevirtual 78, 3) := by decide +kernel
theorem dX8_bestLead_23 : decode cX8_bestLead 23 = .ok (.ireturn, 1) := by decide +kernel
theorem dX8_bestLead_24 : decode cX8_bestLead 24 = .ok (.iconst (-1), 1) := by decide +kernel
theorem dX8_bestLead_25 : decode cX8_bestLead 25 = .ok (.istore_n 3, 1) := by decide +kernel
theorem dX8_bestLead_26 : decode cX8_bestLead 26 = .ok (.iconst 0, 1) := by decide +kernel
theorem dX8_bestLead_27 : decode cX8_bestLead 27 = .ok (.istore 4, 2) := by decide +kernel
theorem dX8_bestLead_29 : decode cX8_bestLead 29 = .ok (.iconst 0, 1) := by decide +kernel
theorem dX8_bestLead_30 : decode cX8_bestLead 30 = .ok (.istore 5, 2) := by decide +kernel
theorem dX8_bestLead_32 : decode cX8_bestLead 32 = .ok (.iload 5, 2) := by decide +kernel
theorem dX8_bestLead_34 : decode cX8_bestLead 34 = .ok (.bipush 20, 2) := by decide +kernel
theorem dX8_bestLead_36 : decode cX8_bestLead 36 = .ok (.if_icmp .gt 72, 3) := by decide +kernel
theorem dX8_bestLead_39 : decode cX8_bestLead 39 = .ok (.aload_n 0, 1) := by decide +kernel
theorem dX8_bestLead_40 : decode cX8_bestLead 40 = .ok (.iload_n 1, 1) := by decide +kernel
theorem dX8_bestLead_41 : decode cX8_bestLead 41 = .ok (.iload 5, 2) := by decide +kernel
theorem dX8_bestLead_43 : decode cX8_bestLead 43 = .ok (.invokevirtual 99, 3) := by decide +kernel
theorem dX8_bestLead_46 : decode cX8_bestLead 46 = .ok (.ifCond .ne 56, 3) := by decide +kernel
theorem dX8_bestLead_49 : decode cX8_bestLead 49 = .ok (.aload_n 0, 1) := by decide +kernel
theorem dX8_bestLead_50 : decode cX8_bestLead 50 = .ok (.iload_n 1, 1) := by decide +kernel
theorem dX8_bestLead_51 : decode cX8_bestLead 51 = .ok (.iload 5, 2) := by decide +kernel
theorem dX8_bestLead_53 : decode cX8_bestLead 53 = .ok (.invokevirtual 186, 3) := by decide +kernel
theorem dX8_bestLead_56 : decode cX8_bestLead 56 = .ok (.istore 6, 2) := by decide +kernel
theorem dX8_bestLead_58 : decode cX8_bestLead 58 = .ok (.iload_n 3, 1) := by decide +kernel
theorem dX8_bestLead_59 : decode cX8_bestLead 59 = .ok (.ifCond .lt 10, 3) := by decide +kernel
theorem dX8_bestLead_62 : decode cX8_bestLead 62 = .ok (.iload 6, 2) := by decide +kernel
theorem dX8_bestLead_64 : decode cX8_bestLead 64 = .ok (.iload 4, 2) := by decide +kernel
theorem dX8_bestLead_66 : decode cX8_bestLead 66 = .ok (.if_icmp .le 7, 3) := by decide +kernel
theorem dX8_bestLead_69 : decode cX8_bestLead 69 = .ok (.iconst 1, 1) := by decide +kernel
theorem dX8_bestLead_70 : decode cX8_bestLead 70 = .ok (.goto 4, 3) := by decide +kernel
theorem dX8_bestLead_73 : decode cX8_bestLead 73 = .ok (.iconst 0, 1) := by decide +kernel
theorem dX8_bestLead_74 : decode cX8_bestLead 74 = .ok (.istore 7, 2) := by decide +kernel
theorem dX8_bestLead_76 : decode cX8_bestLead 76 = .ok (.iload 7, 2) := by decide +kernel
theorem dX8_bestLead_78 : decode cX8_bestLead 78 = .ok (.ifCond .eq 8, 3) := by decide +kernel
theorem dX8_bestLead_81 : decode cX8_bestLead 81 = .ok (.iload 5, 2) := by decide +kernel
theorem dX8_bestLead_83 : decode cX8_bestLead 83 = .ok (.goto 4, 3) := by decide +kernel
theorem dX8_bestLead_86 : decode cX8_bestLead 86 = .ok (.iload_n 3, 1) := by decide +kernel
theorem dX8_bestLead_87 : decode cX8_bestLead 87 = .ok (.istore_n 3, 1) := by decide +kernel
theorem dX8_bestLead_88 : decode cX8_bestLead 88 = .ok (.iload 7, 2) := by decide +kernel
theorem dX8_bestLead_90 : decode cX8_bestLead 90 = .ok (.ifCond .eq 8, 3) := by decide +kernel
theorem dX8_bestLead_93 : decode cX8_bestLead 93 = .ok (.iload 6, 2) := by decide +kernel
theorem dX8_bestLead_95 : decode cX8_bestLead 95 = .ok (.goto 5, 3) := by decide +kernel
theorem dX8_bestLead_98 : decode cX8_bestLead 98 = .ok (.iload 4, 2) := by decide +kernel
theorem dX8_bestLead_100 : decode cX8_bestLead 100 = .ok (.istore 4, 2) := by decide +kernel
theorem dX8_bestLead_102 : decode cX8_bestLead 102 = .ok (.iinc 5 1, 3) := by decide +kernel
theorem dX8_bestLead_105 : decode cX8_bestLead 105 = .ok (.goto (-73), 3) := by decide +kernel
theorem dX8_bestLead_108 : decode cX8_bestLead 108 = .ok (.iload_n 3, 1) := by decide +kernel
theorem dX8_bestLead_109 : decode cX8_bestLead 109 = .ok (.ifCond .ge 12, 3) := by decide +kernel
theorem dX8_bestLead_112 : decode cX8_bestLead 112 = .ok (.aload_n 0, 1) := by decide +kernel
theorem dX8_bestLead_113 : decode cX8_bestLead 113 = .ok (.ldc 185, 2) := by decide +kernel
theorem dX8_bestLead_115 : decode cX8_bestLead 115 = .ok (.invokevirtual 78, 3) := by decide +kernel
theorem dX8_bestLead_118 : decode cX8_bestLead 118 = .ok (.goto 13, 3) := by decide +kernel
theorem dX8_bestLead_121 : decode cX8_bestLead 121 = .ok (.iload_n 2, 1) := by decide +kernel
theorem dX8_bestLead_122 : decode cX8_bestLead 122 = .ok (.ifCond .ne 7, 3) := by decide +kernel
theorem dX8_bestLead_125 : decode cX8_bestLead 125 = .ok (.iload_n 3, 1) := by decide +kernel
theorem dX8_bestLead_126 : decode cX8_bestLead 126 = .ok (.goto 5, 3) := by decide +kernel
theorem dX8_bestLead_129 : decode cX8_bestLead 129 = .ok (.iload 4, 2) := by decide +kernel
theorem dX8_bestLead_131 : decode cX8_bestLead 131 = .ok (.ireturn, 1) := by decide +kernel
theorem dX8_weights_0 : decode cX8_weights 0 = .ok (.iconst 0, 1) := by decide +kernel
theorem dX8_weights_1 : decode cX8_weights 1 = .ok (.istore_n 1, 1) := by decide +kernel
theorem dX8_weights_2 : decode cX8_weights 2 = .ok (.iconst 0, 1) := by decide +kernel
theorem dX8_weights_3 : decode cX8_weights 3 = .ok (.istore_n 2, 1) := by decide +kernel
theorem dX8_weights_4 : decode cX8_weights 4 = .ok (.iload_n 2, 1) := by decide +kernel
theorem dX8_weights_5 : decode cX8_weights 5 = .ok (.aload_n 0, 1) := by decide +kernel
theorem dX8_weights_6 : decode cX8_weights 6 = .ok (.getfield 9, 3) := by decide +kernel
theorem dX8_weights_9 : decode cX8_weights 9 = .ok (.bipush 7, 2) := by decide +kernel
theorem dX8_weights_11 : decode cX8_weights 11 = .ok (.iaload, 1) := by decide +kernel
theorem dX8_weights_12 : decode cX8_weights 12 = .ok (.if_icmp .ge 18, 3) := by decide +kernel
theorem dX8_weights_15 : decode cX8_weights 15 = .ok (.iload_n 1, 1) := by decide +kernel
theorem dX8_weights_16 : decode cX8_weights 16 = .ok (.aload_n 0, 1) := by decide +kernel
theorem dX8_weights_17 : decode cX8_weights 17 = .ok (.iload_n 2, 1) := by decide +kernel
theorem dX8_weights_18 : decode cX8_weights 18 = .ok (.iconst 2, 1) := by decide +kernel
theorem dX8_weights_19 : decode cX8_weights 19 = .ok (.invokevirtual 48, 3) := by decide +kernel
theorem dX8_weights_22 : decode cX8_weights 22 = .ok (.iadd, 1) := by decide +kernel
theorem dX8_weights_23 : decode cX8_weights 23 = .ok (.istore_n 1, 1) := by decide +kernel
theorem dX8_weights_24 : decode cX8_weights 24 = .ok (.iinc 2 1, 3) := by decide +kernel
theorem dX8_weights_27 : decode cX8_weights 27 = .ok (.goto (-23), 3) := by decide +kernel
theorem dX8_weights_30 : decode cX8_weights 30 = .ok (.iload_n 1, 1) := by decide +kernel
theorem dX8_weights_31 : decode cX8_weights 31 = .ok (.ireturn, 1) := by decide +kernel
theorem dX8_partOf_0 : decode cX8_partOf 0 = .ok (.iload_n 0, 1) := by decide +kernel
theorem dX8_partOf_1 : decode cX8_partOf 1 = .ok (.ifCond .ge 8, 3) := by decide +kernel
theorem dX8_partOf_4 : decode cX8_partOf 4 = .ok (.iload_n 0, 1) := by decide +kernel
theorem dX8_partOf_5 : decode cX8_partOf 5 = .ok (.ineg, 1) := by decide +kernel
theorem dX8_partOf_6 : decode cX8_partOf 6 = .ok (.goto 4, 3) := by decide +kernel
theorem dX8_partOf_9 : decode cX8_partOf 9 = .ok (.iload_n 0, 1) := by decide +kernel
theorem dX8_partOf_10 : decode cX8_partOf 10 = .ok (.istore_n 3, 1) := by decide +kernel
theorem dX8_partOf_11 : decode cX8_partOf 11 = .ok (.iload_n 1, 1) := by decide +kernel
theorem dX8_partOf_12 : decode cX8_partOf 12 = .ok (.ifCond .ge 8, 3) := by decide +kernel
theorem dX8_partOf_15 : decode cX8_partOf 15 = .ok (.iload_n 1, 1) := by decide +kernel
theorem dX8_partOf_16 : decode cX8_partOf 16 = .ok (.ineg, 1) := by decide +kernel
theorem dX8_partOf_17 : decode cX8_partOf 17 = .ok (.goto 4, 3) := by decide +kernel
theorem dX8_partOf_20 : decode cX8_partOf 20 = .ok (.iload_n 1, 1) := by decide +kernel
theorem dX8_partOf_21 : decode cX8_partOf 21 = .ok (.istore 4, 2) := by decide +kernel
theorem dX8_partOf_23 : decode cX8_partOf 23 = .ok (.iload_n 3, 1) := by decide +kernel
theorem dX8_partOf_24 : decode cX8_partOf 24 = .ok (.ifCond .eq 18, 3) := by decide +kernel
theorem dX8_partOf_27 : decode cX8_partOf 27 = .ok (.iload 4, 2) := by decide +kernel
theorem dX8_partOf_29 : decode cX8_partOf 29 = .ok (.iload_n 3, 1) := by decide +kernel
theorem dX8_partOf_30 : decode cX8_partOf 30 = .ok (.irem, 1) := by decide +kernel
theorem dX8_partOf_31 : decode cX8_partOf 31 = .ok (.istore 5, 2) := by decide +kernel
theorem dX8_partOf_33 : decode cX8_partOf 33 = .ok (.iload_n 3, 1) := by decide +kernel
theorem dX8_partOf_34 : decode cX8_partOf 34 = .ok (.istore 4, 2) := by decide +kernel
theorem dX8_partOf_36 : decode cX8_partOf 36 = .ok (.iload 5, 2) := by decide +kernel
theorem dX8_partOf_38 : decode cX8_partOf 38 = .ok (.istore_n 3, 1) := by decide +kernel
theorem dX8_partOf_39 : decode cX8_partOf 39 = .ok (.goto (-16), 3) := by decide +kernel
theorem dX8_partOf_42 : decode cX8_partOf 42 = .ok (.iload_n 1, 1) := by decide +kernel
theorem dX8_partOf_43 : decode cX8_partOf 43 = .ok (.ifCond .ge 9, 3) := by decide +kernel
theorem dX8_partOf_46 : decode cX8_partOf 46 = .ok (.iload 4, 2) := by decide +kernel
theorem dX8_partOf_48 : decode cX8_partOf 48 = .ok (.ineg, 1) := by decide +kernel
theorem dX8_partOf_49 : decode cX8_partOf 49 = .ok (.goto 5, 3) := by decide +kernel
theorem dX8_partOf_52 : decode cX8_partOf 52 = .ok (.iload 4, 2) := by decide +kernel
theorem dX8_partOf_54 : decode cX8_partOf 54 = .ok (.istore 5, 2) := by decide +kernel
theorem dX8_partOf_56 : decode cX8_partOf 56 = .ok (.iload_n 2, 1) := by decide +kernel
theorem dX8_partOf_57 : decode cX8_partOf 57 = .ok (.ifCond .ne 10, 3) := by decide +kernel
theorem dX8_partOf_60 : decode cX8_partOf 60 = .ok (.iload_n 0, 1) := by decide +kernel
theorem dX8_partOf_61 : decode cX8_partOf 61 = .ok (.iload 5, 2) := by decide +kernel
theorem dX8_partOf_63 : decode cX8_partOf 63 = .ok (.idiv, 1) := by decide +kernel
theorem dX8_partOf_64 : decode cX8_partOf 64 = .ok (.goto 7, 3) := by decide +kernel
theorem dX8_partOf_67 : decode cX8_partOf 67 = .ok (.iload_n 1, 1) := by decide +kernel
theorem dX8_partOf_68 : decode cX8_partOf 68 = .ok (.iload 5, 2) := by decide +kernel
theorem dX8_partOf_70 : decode cX8_partOf 70 = .ok (.idiv, 1) := by decide +kernel
theorem dX8_partOf_71 : decode cX8_partOf 71 = .ok (.ireturn, 1) := by decide +kernel
theorem dX8_odds_0 : decode cX8_odds 0 = .ok (.aload_n 0, 1) := by decide +kernel
theorem dX8_odds_1 : decode cX8_odds 1 = .ok (.iload_n 1, 1) := by decide +kernel
theorem dX8_odds_2 : decode cX8_odds 2 = .ok (.invokevirtual 96, 3) := by decide +kernel
theorem dX8_odds_5 : decode cX8_odds 5 = .ok (.ifCond .eq 12, 3) := by decide +kernel
theorem dX8_odds_8 : decode cX8_odds 8 = .ok (.iload_n 2, 1) := by decide +kernel
theorem dX8_odds_9 : decode cX8_odds 9 = .ok (.iconst 0, 1) := by decide +kernel
theorem dX8_odds_10 : decode cX8_odds 10 = .ok (.iconst 1, 1) := by decide +kernel
theorem dX8_odds_11 : decode cX8_odds 11 = .ok (.invokestatic 44, 3) := by decide +kernel
theorem dX8_odds_14 : decode cX8_odds 14 = .ok (.ifCond .ne 10, 3) := by decide +kernel
theorem dX8_odds_17 : decode cX8_odds 17 = .ok (.aload_n 0, 1) := by decide +kernel
theorem dX8_odds_18 : decode cX8_odds 18 = .ok (.ldc 77, 2) := by decide +kernel
theorem dX8_odds_20 : decode cX8_odds 20 = .ok (.invokevirtual 78, 3) := by decide +kernel
theorem dX8_odds_23 : decode cX8_odds 23 = .ok (.ireturn, 1) := by decide +kernel
theorem dX8_odds_24 : decode cX8_odds 24 = .ok (.aload_n 0, 1) := by decide +kernel
theorem dX8_odds_25 : decode cX8_odds 25 = .ok (.invokevirtual 189, 3) := by decide +kernel
theorem dX8_odds_28 : decode cX8_odds 28 = .ok (.istore_n 3, 1) := by decide +kernel
theorem dX8_odds_29 : decode cX8_odds 29 = .ok (.iload_n 3, 1) := by decide +kernel
theorem dX8_odds_30 : decode cX8_odds 30 = .ok (.ifCond .ne 10, 3) := by decide +kernel
theorem dX8_odds_33 : decode cX8_odds 33 = .ok (.aload_n 0, 1) := by decide +kernel
theorem dX8_odds_34 : decode cX8_odds 34 = .ok (.ldc 192, 2) := by decide +kernel
theorem dX8_odds_36 : decode cX8_odds 36 = .ok (.invokevirtual 78, 3) := by decide +kernel
theorem dX8_odds_39 : decode cX8_odds 39 = .ok (.ireturn, 1) := by decide +kernel
theorem dX8_odds_40 : decode cX8_odds 40 = .ok (.iconst 0, 1) := by decide +kernel
theorem dX8_odds_41 : decode cX8_odds 41 = .ok (.istore 4, 2) := by decide +kernel
theorem dX8_odds_43 : decode cX8_odds 43 = .ok (.iconst 0, 1) := by decide +kernel
theorem dX8_odds_44 : decode cX8_odds 44 = .ok (.istore 5, 2) := by decide +kernel
theorem dX8_odds_46 : decode cX8_odds 46 = .ok (.iload 5, 2) := by decide +kernel
theorem dX8_odds_48 : decode cX8_odds 48 = .ok (.aload_n 0, 1) := by decide +kernel
theorem dX8_odds_49 : decode cX8_odds 49 = .ok (.getfield 9, 3) := by decide +kernel
theorem dX8_odds_52 : decode cX8_odds 52 = .ok (.bipush 7, 2) := by decide +kernel
theorem dX8_odds_54 : decode cX8_odds 54 = .ok (.iaload, 1) := by decide +kernel
theorem dX8_odds_55 : decode cX8_odds 55 = .ok (.if_icmp .ge 41, 3) := by decide +kernel
theorem dX8_odds_58 : decode cX8_odds 58 = .ok (.iload 4, 2) := by decide +kernel
theorem dX8_odds_60 : decode cX8_odds 60 = .ok (.aload_n 0, 1) := by decide +kernel
theorem dX8_odds_61 : decode cX8_odds 61 = .ok (.iload_n 1, 1) := by decide +kernel
theorem dX8_odds_62 : decode cX8_odds 62 = .ok (.iload 5, 2) := by decide +kernel
theorem dX8_odds_64 : decode cX8_odds 64 = .ok (.aload_n 0, 1) := by decide +kernel
theorem dX8_odds_65 : decode cX8_odds 65 = .ok (.iload_n 1, 1) := by decide +kernel
theorem dX8_odds_66 : decode cX8_odds 66 = .ok (.iconst 2, 1) := by decide +kernel
theorem dX8_odds_67 : decode cX8_odds 67 = .ok (.invokevirtual 60, 3) := by decide +kernel
theorem dX8_odds_70 : decode cX8_odds 70 = .ok (.invokevirtual 113, 3) := by decide +kernel
theorem dX8_odds_73 : decode cX8_odds 73 = .ok (.ifCond .eq 13, 3) := by decide +kernel
theorem dX8_odds_76 : decode cX8_odds 76 = .ok (.aload_n 0, 1) := by decide +kernel
theorem dX8_odds_77 : decode cX8_odds 77 = .ok (.iload 5, 2) := by decide +kernel
theorem dX8_odds_79 : decode cX8_odds 79 = .ok (.iconst 2, 1) := by decide +kernel
theorem dX8_odds_80 : decode cX8_odds 80 = .ok (.invokevirtual 48, 3) := by decide +kernel
theorem dX8_odds_83 : decode cX8_odds 83 = .ok (.goto 4, 3) := by decide +kernel
theorem dX8_odds_86 : decode cX8_odds 86 = .ok (.iconst 0, 1) := by decide +kernel
theorem dX8_odds_87 : decode cX8_odds 87 = .ok (.iadd, 1) := by decide +kernel
theorem dX8_odds_88 : decode cX8_odds 88 = .ok (.istore 4, 2) := by decide +kernel
theorem dX8_odds_90 : decode cX8_odds 90 = .ok (.iinc 5 1, 3) := by decide +kernel
theorem dX8_odds_93 : decode cX8_odds 93 = .ok (.goto (-47), 3) := by decide +kernel
theorem dX8_odds_96 : decode cX8_odds 96 = .ok (.iload 4, 2) := by decide +kernel
theorem dX8_odds_98 : decode cX8_odds 98 = .ok (.iload_n 3, 1) := by decide +kernel
theorem dX8_odds_99 : decode cX8_odds 99 = .ok (.iload_n 2, 1) := by decide +kernel
theorem dX8_odds_100 : decode cX8_odds 100 = .ok (.invokestatic 193, 3) := by decide +kernel
theorem dX8_odds_103 : decode cX8_odds 103 = .ok (.ireturn, 1) := by decide +kernel
theorem dX8_go_0 : decode cX8_go 0 = .ok (.aload_n 0, 1) := by decide +kernel
theorem dX8_go_1 : decode cX8_go 1 = .ok (.iload_n 1, 1) := by decide +kernel
theorem dX8_go_2 : decode cX8_go 2 = .ok (.invokevirtual 96, 3) := by decide +kernel
theorem dX8_go_5 : decode cX8_go 5 = .ok (.ifCond .eq 12, 3) := by decide +kernel
theorem dX8_go_8 : decode cX8_go 8 = .ok (.iload_n 2, 1) := by decide +kernel
theorem dX8_go_9 : decode cX8_go 9 = .ok (.iconst 0, 1) := by decide +kernel
theorem dX8_go_10 : decode cX8_go 10 = .ok (.iconst 1, 1) := by decide +kernel
theorem dX8_go_11 : decode cX8_go 11 = .ok (.invokestatic 44, 3) := by decide +kernel
theorem dX8_go_14 : decode cX8_go 14 = .ok (.ifCond .ne 10, 3) := by decide +kernel
theorem dX8_go_17 : decode cX8_go 17 = .ok (.aload_n 0, 1) := by decide +kernel
theorem dX8_go_18 : decode cX8_go 18 = .ok (.ldc 77, 2) := by decide +kernel
theorem dX8_go_20 : decode cX8_go 20 = .ok (.invokevirtual 78, 3) := by decide +kernel
theorem dX8_go_23 : decode cX8_go 23 = .ok (.ireturn, 1) := by decide +kernel
theorem dX8_go_24 : decode cX8_go 24 = .ok (.aload_n 0, 1) := by decide +kernel
theorem dX8_go_25 : decode cX8_go 25 = .ok (.invokevirtual 189, 3) := by decide +kernel
theorem dX8_go_28 : decode cX8_go 28 = .ok (.istore_n 3, 1) := by decide +kernel
theorem dX8_go_29 : decode cX8_go 29 = .ok (.iload_n 3, 1) := by decide +kernel
theorem dX8_go_30 : decode cX8_go 30 = .ok (.ifCond .ne 12, 3) := by decide +kernel
theorem dX8_go_33 : decode cX8_go 33 = .ok (.aload_n 0, 1) := by decide +kernel
theorem dX8_go_34 : decode cX8_go 34 = .ok (.ldc 192, 2) := by decide +kernel
theorem dX8_go_36 : decode cX8_go 36 = .ok (.invokevirtual 78, 3) := by decide +kernel
theorem dX8_go_39 : decode cX8_go 39 = .ok (.goto 19, 3) := by decide +kernel
theorem dX8_go_42 : decode cX8_go 42 = .ok (.aload_n 0, 1) := by decide +kernel
theorem dX8_go_43 : decode cX8_go 43 = .ok (.iload_n 1, 1) := by decide +kernel
theorem dX8_go_44 : decode cX8_go 44 = .ok (.aload_n 0, 1) := by decide +kernel
theorem dX8_go_45 : decode cX8_go 45 = .ok (.iload_n 1, 1) := by decide +kernel
theorem dX8_go_46 : decode cX8_go 46 = .ok (.iconst 2, 1) := by decide +kernel
theorem dX8_go_47 : decode cX8_go 47 = .ok (.invokevirtual 60, 3) := by decide +kernel
theorem dX8_go_50 : decode cX8_go 50 = .ok (.invokevirtual 186, 3) := by decide +kernel
theorem dX8_go_53 : decode cX8_go 53 = .ok (.iload_n 3, 1) := by decide +kernel
theorem dX8_go_54 : decode cX8_go 54 = .ok (.iload_n 2, 1) := by decide +kernel
theorem dX8_go_55 : decode cX8_go 55 = .ok (.invokestatic 193, 3) := by decide +kernel
theorem dX8_go_58 : decode cX8_go 58 = .ok (.ireturn, 1) := by decide +kernel
theorem dX8_lesser_0 : decode cX8_lesser 0 = .ok (.iload_n 0, 1) := by decide +kernel
theorem dX8_lesser_1 : decode cX8_lesser 1 = .ok (.iload_n 1, 1) := by decide +kernel
theorem dX8_lesser_2 : decode cX8_lesser 2 = .ok (.if_icmp .ge 7, 3) := by decide +kernel
theorem dX8_lesser_5 : decode cX8_lesser 5 = .ok (.iload_n 0, 1) := by decide +kernel
theorem dX8_lesser_6 : decode cX8_lesser 6 = .ok (.goto 4, 3) := by decide +kernel
theorem dX8_lesser_9 : decode cX8_lesser 9 = .ok (.iload_n 1, 1) := by decide +kernel
theorem dX8_lesser_10 : decode cX8_lesser 10 = .ok (.ireturn, 1) := by decide +kernel
theorem dX8_greater_0 : decode cX8_greater 0 = .ok (.iload_n 0, 1) := by decide +kernel
theorem dX8_greater_1 : decode cX8_greater 1 = .ok (.iload_n 1, 1) := by decide +kernel
theorem dX8_greater_2 : decode cX8_greater 2 = .ok (.if_icmp .le 7, 3) := by decide +kernel
theorem dX8_greater_5 : decode cX8_greater 5 = .ok (.iload_n 0, 1) := by decide +kernel
theorem dX8_greater_6 : decode cX8_greater 6 = .ok (.goto 4, 3) := by decide +kernel
theorem dX8_greater_9 : decode cX8_greater 9 = .ok (.iload_n 1, 1) := by decide +kernel
theorem dX8_greater_10 : decode cX8_greater 10 = .ok (.ireturn, 1) := by decide +kernel
theorem dX8_duel_0 : decode cX8_duel 0 = .ok (.aload_n 0, 1) := by decide +kernel
theorem dX8_duel_1 : decode cX8_duel 1 = .ok (.iload_n 1, 1) := by decide +kernel
theorem dX8_duel_2 : decode cX8_duel 2 = .ok (.invokevirtual 96, 3) := by decide +kernel
theorem dX8_duel_5 : decode cX8_duel 5 = .ok (.ifCond .eq 29, 3) := by decide +kernel
theorem dX8_duel_8 : decode cX8_duel 8 = .ok (.aload_n 0, 1) := by decide +kernel
theorem dX8_duel_9 : decode cX8_duel 9 = .ok (.iload_n 2, 1) := by decide +kernel
theorem dX8_duel_10 : decode cX8_duel 10 = .ok (.invokevirtual 82, 3) := by decide +kernel
theorem dX8_duel_13 : decode cX8_duel 13 = .ok (.ifCond .eq 21, 3) := by decide +kernel
theorem dX8_duel_16 : decode cX8_duel 16 = .ok (.aload_n 0, 1) := by decide +kernel
theorem dX8_duel_17 : decode cX8_duel 17 = .ok (.iload_n 3, 1) := by decide +kernel
theorem dX8_duel_18 : decode cX8_duel 18 = .ok (.invokevirtual 82, 3) := by decide +kernel
theorem dX8_duel_21 : decode cX8_duel 21 = .ok (.ifCond .eq 13, 3) := by decide +kernel
theorem dX8_duel_24 : decode cX8_duel 24 = .ok (.iload 4, 2) := by decide +kernel
theorem dX8_duel_26 : decode cX8_duel 26 = .ok (.iconst 0, 1) := by decide +kernel
theorem dX8_duel_27 : decode cX8_duel 27 = .ok (.iconst 1, 1) := by decide +kernel
theorem dX8_duel_28 : decode cX8_duel 28 = .ok (.invokestatic 44, 3) := by decide +kernel
theorem dX8_duel_31 : decode cX8_duel 31 = .ok (.ifCond .ne 10, 3) := by decide +kernel
theorem dX8_duel_34 : decode cX8_duel 34 = .ok (.aload_n 0, 1) := by decide +kernel
theorem dX8_duel_35 : decode cX8_duel 35 = .ok (.ldc 77, 2) := by decide +kernel
theorem dX8_duel_37 : decode cX8_duel 37 = .ok (.invokevirtual 78, 3) := by decide +kernel
theorem dX8_duel_40 : decode cX8_duel 40 = .ok (.ireturn, 1) := by decide +kernel
theorem dX8_duel_41 : decode cX8_duel 41 = .ok (.aload_n 0, 1) := by decide +kernel
theorem dX8_duel_42 : decode cX8_duel 42 = .ok (.iload_n 1, 1) := by decide +kernel
theorem dX8_duel_43 : decode cX8_duel 43 = .ok (.iload_n 2, 1) := by decide +kernel
theorem dX8_duel_44 : decode cX8_duel 44 = .ok (.aload_n 0, 1) := by decide +kernel
theorem dX8_duel_45 : decode cX8_duel 45 = .ok (.iload_n 1, 1) := by decide +kernel
theorem dX8_duel_46 : decode cX8_duel 46 = .ok (.iconst 2, 1) := by decide +kernel
theorem dX8_duel_47 : decode cX8_duel 47 = .ok (.invokevirtual 60, 3) := by decide +kernel
theorem dX8_duel_50 : decode cX8_duel 50 = .ok (.invokevirtual 116, 3) := by decide +kernel
theorem dX8_duel_53 : decode cX8_duel 53 = .ok (.istore 5, 2) := by decide +kernel
theorem dX8_duel_55 : decode cX8_duel 55 = .ok (.aload_n 0, 1) := by decide +kernel
theorem dX8_duel_56 : decode cX8_duel 56 = .ok (.iload_n 1, 1) := by decide +kernel
theorem dX8_duel_57 : decode cX8_duel 57 = .ok (.iload_n 3, 1) := by decide +kernel
theorem dX8_duel_58 : decode cX8_duel 58 = .ok (.aload_n 0, 1) := by decide +kernel
theorem dX8_duel_59 : decode cX8_duel 59 = .ok (.iload_n 1, 1) := by decide +kernel
theorem dX8_duel_60 : decode cX8_duel 60 = .ok (.iconst 2, 1) := by decide +kernel
theorem dX8_duel_61 : decode cX8_duel 61 = .ok (.invokevirtual 60, 3) := by decide +kernel
theorem dX8_duel_64 : decode cX8_duel 64 = .ok (.invokevirtual 116, 3) := by decide +kernel
theorem dX8_duel_67 : decode cX8_duel 67 = .ok (.istore 6, 2) := by decide +kernel
theorem dX8_duel_69 : decode cX8_duel 69 = .ok (.aload_n 0, 1) := by decide +kernel
theorem dX8_duel_70 : decode cX8_duel 70 = .ok (.iload_n 2, 1) := by decide +kernel
theorem dX8_duel_71 : decode cX8_duel 71 = .ok (.invokevirtual 85, 3) := by decide +kernel
theorem dX8_duel_74 : decode cX8_duel 74 = .ok (.istore 7, 2) := by decide +kernel
theorem dX8_duel_76 : decode cX8_duel 76 = .ok (.aload_n 0, 1) := by decide +kernel
theorem dX8_duel_77 : decode cX8_duel 77 = .ok (.iload_n 3, 1) := by decide +kernel
theorem dX8_duel_78 : decode cX8_duel 78 = .ok (.invokevirtual 85, 3) := by decide +kernel
theorem dX8_duel_81 : decode cX8_duel 81 = .ok (.istore 8, 2) := by decide +kernel
theorem dX8_duel_83 : decode cX8_duel 83 = .ok (.iload 5, 2) := by decide +kernel
theorem dX8_duel_85 : decode cX8_duel 85 = .ok (.iload 6, 2) := by decide +kernel
theorem dX8_duel_87 : decode cX8_duel 87 = .ok (.invokestatic 196, 3) := by decide +kernel
theorem dX8_duel_90 : decode cX8_duel 90 = .ok (.iload 7, 2) := by decide +kernel
theorem dX8_duel_92 : decode cX8_duel 92 = .ok (.iload 8, 2) := by decide +kernel
theorem dX8_duel_94 : decode cX8_duel 94 = .ok (.invokestatic 196, 3) := by decide +kernel
theorem dX8_duel_97 : decode cX8_duel 97 = .ok (.invokestatic 199, 3) := by decide +kernel
theorem dX8_duel_100 : decode cX8_duel 100 = .ok (.istore 9, 2) := by decide +kernel
theorem dX8_duel_102 : decode cX8_duel 102 = .ok (.iload 5, 2) := by decide +kernel
theorem dX8_duel_104 : decode cX8_duel 104 = .ok (.iload 7, 2) := by decide +kernel
theorem dX8_duel_106 : decode cX8_duel 106 = .ok (.invokestatic 199, 3) := by decide +kernel
theorem dX8_duel_109 : decode cX8_duel 109 = .ok (.iload 6, 2) := by decide +kernel
theorem dX8_duel_111 : decode cX8_duel 111 = .ok (.iload 8, 2) := by decide +kernel
theorem dX8_duel_113 : decode cX8_duel 113 = .ok (.invokestatic 199, 3) := by decide +kernel
theorem dX8_duel_116 : decode cX8_duel 116 = .ok (.invokestatic 196, 3) := by decide +kernel
theorem dX8_duel_119 : decode cX8_duel 119 = .ok (.istore 10, 2) := by decide +kernel
theorem dX8_duel_121 : decode cX8_duel 121 = .ok (.iload 9, 2) := by decide +kernel
theorem dX8_duel_123 : decode cX8_duel 123 = .ok (.iload 10, 2) := by decide +kernel
theorem dX8_duel_125 : decode cX8_duel 125 = .ok (.if_icmp .ne 14, 3) := by decide +kernel
theorem dX8_duel_128 : decode cX8_duel 128 = .ok (.iload 9, 2) := by decide +kernel
theorem dX8_duel_130 : decode cX8_duel 130 = .ok (.iconst 1, 1) := by decide +kernel
theorem dX8_duel_131 : decode cX8_duel 131 = .ok (.iload 4, 2) := by decide +kernel
theorem dX8_duel_133 : decode cX8_duel 133 = .ok (.invokestatic 193, 3) := by decide +kernel
theorem dX8_duel_136 : decode cX8_duel 136 = .ok (.goto 30, 3) := by decide +kernel
theorem dX8_duel_139 : decode cX8_duel 139 = .ok (.iload 5, 2) := by decide +kernel
theorem dX8_duel_141 : decode cX8_duel 141 = .ok (.iload 8, 2) := by decide +kernel
theorem dX8_duel_143 : decode cX8_duel 143 = .ok (.imul, 1) := by decide +kernel
theorem dX8_duel_144 : decode cX8_duel 144 = .ok (.iload 6, 2) := by decide +kernel
theorem dX8_duel_146 : decode cX8_duel 146 = .ok (.iload 7, 2) := by decide +kernel
theorem dX8_duel_148 : decode cX8_duel 148 = .ok (.imul, 1) := by decide +kernel
theorem dX8_duel_149 : decode cX8_duel 149 = .ok (.isub, 1) := by decide +kernel
theorem dX8_duel_150 : decode cX8_duel 150 = .ok (.iload 5, 2) := by decide +kernel
theorem dX8_duel_152 : decode cX8_duel 152 = .ok (.iload 8, 2) := by decide +kernel
theorem dX8_duel_154 : decode cX8_duel 154 = .ok (.iadd, 1) := by decide +kernel
theorem dX8_duel_155 : decode cX8_duel 155 = .ok (.iload 6, 2) := by decide +kernel
theorem dX8_duel_157 : decode cX8_duel 157 = .ok (.isub, 1) := by decide +kernel
theorem dX8_duel_158 : decode cX8_duel 158 = .ok (.iload 7, 2) := by decide +kernel
theorem dX8_duel_160 : decode cX8_duel 160 = .ok (.isub, 1) := by decide +kernel
theorem dX8_duel_161 : decode cX8_duel 161 = .ok (.iload 4, 2) := by decide +kernel
theorem dX8_duel_163 : decode cX8_duel 163 = .ok (.invokestatic 193, 3) := by decide +kernel
theorem dX8_duel_166 : decode cX8_duel 166 = .ok (.ireturn, 1) := by decide +kernel
theorem dX8_surely_0 : decode cX8_surely 0 = .ok (.aload_n 0, 1) := by decide +kernel
theorem dX8_surely_1 : decode cX8_surely 1 = .ok (.iload_n 1, 1) := by decide +kernel
theorem dX8_surely_2 : decode cX8_surely 2 = .ok (.invokevirtual 96, 3) := by decide +kernel
theorem dX8_surely_5 : decode cX8_surely 5 = .ok (.ifCond .eq 12, 3) := by decide +kernel
theorem dX8_surely_8 : decode cX8_surely 8 = .ok (.iload_n 2, 1) := by decide +kernel
theorem dX8_surely_9 : decode cX8_surely 9 = .ok (.iconst 0, 1) := by decide +kernel
theorem dX8_surely_10 : decode cX8_surely 10 = .ok (.iconst 1, 1) := by decide +kernel
theorem dX8_surely_11 : decode cX8_surely 11 = .ok (.invokestatic 44, 3) := by decide +kernel
theorem dX8_surely_14 : decode cX8_surely 14 = .ok (.ifCond .ne 10, 3) := by decide +kernel
theorem dX8_surely_17 : decode cX8_surely 17 = .ok (.aload_n 0, 1) := by decide +kernel
theorem dX8_surely_18 : decode cX8_surely 18 = .ok (.ldc 77, 2) := by decide +kernel
theorem dX8_surely_20 : decode cX8_surely 20 = .ok (.invokevirtual 78, 3) := by decide +kernel
theorem dX8_surely_23 : decode cX8_surely 23 = .ok (.ireturn, 1) := by decide +kernel
theorem dX8_surely_24 : decode cX8_surely 24 = .ok (.iconst 0, 1) := by decide +kernel
theorem dX8_surely_25 : decode cX8_surely 25 = .ok (.istore_n 3, 1) := by decide +kernel
theorem dX8_surely_26 : decode cX8_surely 26 = .ok (.iconst 0, 1) := by decide +kernel
theorem dX8_surely_27 : decode cX8_surely 27 = .ok (.istore 4, 2) := by decide +kernel
theorem dX8_surely_29 : decode cX8_surely 29 = .ok (.iconst 0, 1) := by decide +kernel
theorem dX8_surely_30 : decode cX8_surely 30 = .ok (.istore 5, 2) := by decide +kernel
theorem dX8_surely_32 : decode cX8_surely 32 = .ok (.iload 5, 2) := by decide +kernel
theorem dX8_surely_34 : decode cX8_surely 34 = .ok (.aload_n 0, 1) := by decide +kernel
theorem dX8_surely_35 : decode cX8_surely 35 = .ok (.getfield 9, 3) := by decide +kernel
theorem dX8_surely_38 : decode cX8_surely 38 = .ok (.bipush 7, 2) := by decide +kernel
theorem dX8_surely_40 : decode cX8_surely 40 = .ok (.iaload, 1) := by decide +kernel
theorem dX8_surely_41 : decode cX8_surely 41 = .ok (.if_icmp .ge 55, 3) := by decide +kernel
theorem dX8_surely_44 : decode cX8_surely 44 = .ok (.aload_n 0, 1) := by decide +kernel
theorem dX8_surely_45 : decode cX8_surely 45 = .ok (.iload_n 1, 1) := by decide +kernel
theorem dX8_surely_46 : decode cX8_surely 46 = .ok (.iload 5, 2) := by decide +kernel
theorem dX8_surely_48 : decode cX8_surely 48 = .ok (.aload_n 0, 1) := by decide +kernel
theorem dX8_surely_49 : decode cX8_surely 49 = .ok (.iload_n 1, 1) := by decide +kernel
theorem dX8_surely_50 : decode cX8_surely 50 = .ok (.iconst 2, 1) := by decide +kernel
theorem dX8_surely_51 : decode cX8_surely 51 = .ok (.invokevirtual 60, 3) := by decide +kernel
theorem dX8_surely_54 : decode cX8_surely 54 = .ok (.invokevirtual 113, 3) := by decide +kernel
theorem dX8_surely_57 : decode cX8_surely 57 = .ok (.istore 6, 2) := by decide +kernel
theorem dX8_surely_59 : decode cX8_surely 59 = .ok (.iload_n 3, 1) := by decide +kernel
theorem dX8_surely_60 : decode cX8_surely 60 = .ok (.iload 6, 2) := by decide +kernel
theorem dX8_surely_62 : decode cX8_surely 62 = .ok (.ifCond .eq 10, 3) := by decide +kernel
theorem dX8_surely_65 : decode cX8_surely 65 = .ok (.iconst 1, 1) := by decide +kernel
theorem dX8_surely_66 : decode cX8_surely 66 = .ok (.iload 5, 2) := by decide +kernel
theorem dX8_surely_68 : decode cX8_surely 68 = .ok (.ishl, 1) := by decide +kernel
theorem dX8_surely_69 : decode cX8_surely 69 = .ok (.goto 4, 3) := by decide +kernel
theorem dX8_surely_72 : decode cX8_surely 72 = .ok (.iconst 0, 1) := by decide +kernel
theorem dX8_surely_73 : decode cX8_surely 73 = .ok (.ior, 1) := by decide +kernel
theorem dX8_surely_74 : decode cX8_surely 74 = .ok (.istore_n 3, 1) := by decide +kernel
theorem dX8_surely_75 : decode cX8_surely 75 = .ok (.iload 4, 2) := by decide +kernel
theorem dX8_surely_77 : decode cX8_surely 77 = .ok (.iload 6, 2) := by decide +kernel
theorem dX8_surely_79 : decode cX8_surely 79 = .ok (.ifCond .eq 7, 3) := by decide +kernel
theorem dX8_surely_82 : decode cX8_surely 82 = .ok (.iconst 1, 1) := by decide +kernel
theorem dX8_surely_83 : decode cX8_surely 83 = .ok (.goto 4, 3) := by decide +kernel
theorem dX8_surely_86 : decode cX8_surely 86 = .ok (.iconst 0, 1) := by decide +kernel
theorem dX8_surely_87 : decode cX8_surely 87 = .ok (.iadd, 1) := by decide +kernel
theorem dX8_surely_88 : decode cX8_surely 88 = .ok (.istore 4, 2) := by decide +kernel
theorem dX8_surely_90 : decode cX8_surely 90 = .ok (.iinc 5 1, 3) := by decide +kernel
theorem dX8_surely_93 : decode cX8_surely 93 = .ok (.goto (-61), 3) := by decide +kernel
theorem dX8_surely_96 : decode cX8_surely 96 = .ok (.iload_n 2, 1) := by decide +kernel
theorem dX8_surely_97 : decode cX8_surely 97 = .ok (.ifCond .ne 7, 3) := by decide +kernel
theorem dX8_surely_100 : decode cX8_surely 100 = .ok (.iload_n 3, 1) := by decide +kernel
theorem dX8_surely_101 : decode cX8_surely 101 = .ok (.goto 5, 3) := by decide +kernel
theorem dX8_surely_104 : decode cX8_surely 104 = .ok (.iload 4, 2) := by decide +kernel
theorem dX8_surely_106 : decode cX8_surely 106 = .ok (.ireturn, 1) := by decide +kernel
theorem dX8_isSo_0 : decode cX8_isSo 0 = .ok (.aload_n 0, 1) := by decide +kernel
theorem dX8_isSo_1 : decode cX8_isSo 1 = .ok (.getfield 22, 3) := by decide +kernel
theorem dX8_isSo_4 : decode cX8_isSo 4 = .ok (.iload_n 1, 1) := by decide +kernel
theorem dX8_isSo_5 : decode cX8_isSo 5 = .ok (.iaload, 1) := by decide +kernel
theorem dX8_isSo_6 : decode cX8_isSo 6 = .ok (.aload_n 0, 1) := by decide +kernel
theorem dX8_isSo_7 : decode cX8_isSo 7 = .ok (.getfield 9, 3) := by decide +kernel
theorem dX8_isSo_10 : decode cX8_isSo 10 = .ok (.bipush 7, 2) := by decide +kernel
theorem dX8_isSo_12 : decode cX8_isSo 12 = .ok (.iaload, 1) := by decide +kernel
theorem dX8_isSo_13 : decode cX8_isSo 13 = .ok (.if_icmp .gt 7, 3) := by decide +kernel
theorem dX8_isSo_16 : decode cX8_isSo 16 = .ok (.iconst 1, 1) := by decide +kernel
theorem dX8_isSo_17 : decode cX8_isSo 17 = .ok (.goto 4, 3) := by decide +kernel
theorem dX8_isSo_20 : decode cX8_isSo 20 = .ok (.iconst 0, 1) := by decide +kernel
theorem dX8_isSo_21 : decode cX8_isSo 21 = .ok (.istore 4, 2) := by decide +kernel
theorem dX8_isSo_23 : decode cX8_isSo 23 = .ok (.iconst 0, 1) := by decide +kernel
theorem dX8_isSo_24 : decode cX8_isSo 24 = .ok (.istore 5, 2) := by decide +kernel
theorem dX8_isSo_26 : decode cX8_isSo 26 = .ok (.iload 5, 2) := by decide +kernel
theorem dX8_isSo_28 : decode cX8_isSo 28 = .ok (.aload_n 0, 1) := by decide +kernel
theorem dX8_isSo_29 : decode cX8_isSo 29 = .ok (.getfield 22, 3) := by decide +kernel
theorem dX8_isSo_32 : decode cX8_isSo 32 = .ok (.iload_n 1, 1) := by decide +kernel
theorem dX8_isSo_33 : decode cX8_isSo 33 = .ok (.iaload, 1) := by decide +kernel
theorem dX8_isSo_34 : decode cX8_isSo 34 = .ok (.if_icmp .ge 52, 3) := by decide +kernel
theorem dX8_isSo_37 : decode cX8_isSo 37 = .ok (.iload 4, 2) := by decide +kernel
theorem dX8_isSo_39 : decode cX8_isSo 39 = .ok (.ifCond .eq 47, 3) := by decide +kernel
theorem dX8_isSo_42 : decode cX8_isSo 42 = .ok (.aload_n 0, 1) := by decide +kernel
theorem dX8_isSo_43 : decode cX8_isSo 43 = .ok (.getfield 25, 3) := by decide +kernel
theorem dX8_isSo_46 : decode cX8_isSo 46 = .ok (.bipush 24, 2) := by decide +kernel
theorem dX8_isSo_48 : decode cX8_isSo 48 = .ok (.iload_n 1, 1) := by decide +kernel
theorem dX8_isSo_49 : decode cX8_isSo 49 = .ok (.imul, 1) := by decide +kernel
theorem dX8_isSo_50 : decode cX8_isSo 50 = .ok (.iload 5, 2) := by decide +kernel
theorem dX8_isSo_52 : decode cX8_isSo 52 = .ok (.iadd, 1) := by decide +kernel
theorem dX8_isSo_53 : decode cX8_isSo 53 = .ok (.iaload, 1) := by decide +kernel
theorem dX8_isSo_54 : decode cX8_isSo 54 = .ok (.aload_n 0, 1) := by decide +kernel
theorem dX8_isSo_55 : decode cX8_isSo 55 = .ok (.iload_n 2, 1) := by decide +kernel
theorem dX8_isSo_56 : decode cX8_isSo 56 = .ok (.iload 5, 2) := by decide +kernel
theorem dX8_isSo_58 : decode cX8_isSo 58 = .ok (.iload_n 3, 1) := by decide +kernel
theorem dX8_isSo_59 : decode cX8_isSo 59 = .ok (.invokevirtual 113, 3) := by decide +kernel
theorem dX8_isSo_62 : decode cX8_isSo 62 = .ok (.ifCond .eq 7, 3) := by decide +kernel
theorem dX8_isSo_65 : decode cX8_isSo 65 = .ok (.iconst 1, 1) := by decide +kernel
theorem dX8_isSo_66 : decode cX8_isSo 66 = .ok (.goto 4, 3) := by decide +kernel
theorem dX8_isSo_69 : decode cX8_isSo 69 = .ok (.iconst 0, 1) := by decide +kernel
theorem dX8_isSo_70 : decode cX8_isSo 70 = .ok (.if_icmp .ne 7, 3) := by decide +kernel
theorem dX8_isSo_73 : decode cX8_isSo 73 = .ok (.iconst 1, 1) := by decide +kernel
theorem dX8_isSo_74 : decode cX8_isSo 74 = .ok (.goto 4, 3) := by decide +kernel
theorem dX8_isSo_77 : decode cX8_isSo 77 = .ok (.iconst 0, 1) := by decide +kernel
theorem dX8_isSo_78 : decode cX8_isSo 78 = .ok (.istore 4, 2) := by decide +kernel
theorem dX8_isSo_80 : decode cX8_isSo 80 = .ok (.iinc 5 1, 3) := by decide +kernel
theorem dX8_isSo_83 : decode cX8_isSo 83 = .ok (.goto (-57), 3) := by decide +kernel
theorem dX8_isSo_86 : decode cX8_isSo 86 = .ok (.iload 4, 2) := by decide +kernel
theorem dX8_isSo_88 : decode cX8_isSo 88 = .ok (.ireturn, 1) := by decide +kernel
theorem dX8_fits_0 : decode cX8_fits 0 = .ok (.iload_n 1, 1) := by decide +kernel
theorem dX8_fits_1 : decode cX8_fits 1 = .ok (.invokestatic 202, 3) := by decide +kernel
theorem dX8_fits_4 : decode cX8_fits 4 = .ok (.ifCond .eq 20, 3) := by decide +kernel
theorem dX8_fits_7 : decode cX8_fits 7 = .ok (.aload_n 0, 1) := by decide +kernel
theorem dX8_fits_8 : decode cX8_fits 8 = .ok (.iload_n 2, 1) := by decide +kernel
theorem dX8_fits_9 : decode cX8_fits 9 = .ok (.invokevirtual 96, 3) := by decide +kernel
theorem dX8_fits_12 : decode cX8_fits 12 = .ok (.ifCond .eq 12, 3) := by decide +kernel
theorem dX8_fits_15 : decode cX8_fits 15 = .ok (.iload_n 3, 1) := by decide +kernel
theorem dX8_fits_16 : decode cX8_fits 16 = .ok (.iconst 0, 1) := by decide +kernel
theorem dX8_fits_17 : decode cX8_fits 17 = .ok (.iconst 1, 1) := by decide +kernel
theorem dX8_fits_18 : decode cX8_fits 18 = .ok (.invokestatic 44, 3) := by decide +kernel
theorem dX8_fits_21 : decode cX8_fits 21 = .ok (.ifCond .ne 10, 3) := by decide +kernel
theorem dX8_fits_24 : decode cX8_fits 24 = .ok (.aload_n 0, 1) := by decide +kernel
theorem dX8_fits_25 : decode cX8_fits 25 = .ok (.ldc 77, 2) := by decide +kernel
theorem dX8_fits_27 : decode cX8_fits 27 = .ok (.invokevirtual 78, 3) := by decide +kernel
theorem dX8_fits_30 : decode cX8_fits 30 = .ok (.ireturn, 1) := by decide +kernel
theorem dX8_fits_31 : decode cX8_fits 31 = .ok (.aload_n 0, 1) := by decide +kernel
theorem dX8_fits_32 : decode cX8_fits 32 = .ok (.getfield 19, 3) := by decide +kernel
theorem dX8_fits_35 : decode cX8_fits 35 = .ok (.iload_n 1, 1) := by decide +kernel
theorem dX8_fits_36 : decode cX8_fits 36 = .ok (.iaload, 1) := by decide +kernel
theorem dX8_fits_37 : decode cX8_fits 37 = .ok (.ifCond .ne 10, 3) := by decide +kernel
theorem dX8_fits_40 : decode cX8_fits 40 = .ok (.aload_n 0, 1) := by decide +kernel
theorem dX8_fits_41 : decode cX8_fits 41 = .ok (.ldc 185, 2) := by decide +kernel
theorem dX8_fits_43 : decode cX8_fits 43 = .ok (.invokevirtual 78, 3) := by decide +kernel
theorem dX8_fits_46 : decode cX8_fits 46 = .ok (.ireturn, 1) := by decide +kernel
theorem dX8_fits_47 : decode cX8_fits 47 = .ok (.iconst 0, 1) := by decide +kernel
theorem dX8_fits_48 : decode cX8_fits 48 = .ok (.istore 4, 2) := by decide +kernel
theorem dX8_fits_50 : decode cX8_fits 50 = .ok (.iconst (-1), 1) := by decide +kernel
theorem dX8_fits_51 : decode cX8_fits 51 = .ok (.istore 5, 2) := by decide +kernel
theorem dX8_fits_53 : decode cX8_fits 53 = .ok (.bipush 20, 2) := by decide +kernel
theorem dX8_fits_55 : decode cX8_fits 55 = .ok (.istore 6, 2) := by decide +kernel
theorem dX8_fits_57 : decode cX8_fits 57 = .ok (.iload 6, 2) := by decide +kernel
theorem dX8_fits_59 : decode cX8_fits 59 = .ok (.ifCond .lt 48, 3) := by decide +kernel
theorem dX8_fits_62 : decode cX8_fits 62 = .ok (.aload_n 0, 1) := by decide +kernel
theorem dX8_fits_63 : decode cX8_fits 63 = .ok (.iload_n 1, 1) := by decide +kernel
theorem dX8_fits_64 : decode cX8_fits 64 = .ok (.iload_n 2, 1) := by decide +kernel
theorem dX8_fits_65 : decode cX8_fits 65 = .ok (.iload 6, 2) := by decide +kernel
theorem dX8_fits_67 : decode cX8_fits 67 = .ok (.invokevirtual 205, 3) := by decide +kernel
theorem dX8_fits_70 : decode cX8_fits 70 = .ok (.istore 7, 2) := by decide +kernel
theorem dX8_fits_72 : decode cX8_fits 72 = .ok (.iload 4, 2) := by decide +kernel
theorem dX8_fits_74 : decode cX8_fits 74 = .ok (.iload 7, 2) := by decide +kernel
theorem dX8_fits_76 : decode cX8_fits 76 = .ok (.ifCond .eq 7, 3) := by decide +kernel
theorem dX8_fits_79 : decode cX8_fits 79 = .ok (.iconst 1, 1) := by decide +kernel
theorem dX8_fits_80 : decode cX8_fits 80 = .ok (.goto 4, 3) := by decide +kernel
theorem dX8_fits_83 : decode cX8_fits 83 = .ok (.iconst 0, 1) := by decide +kernel
theorem dX8_fits_84 : decode cX8_fits 84 = .ok (.iadd, 1) := by decide +kernel
theorem dX8_fits_85 : decode cX8_fits 85 = .ok (.istore 4, 2) := by decide +kernel
theorem dX8_fits_87 : decode cX8_fits 87 = .ok (.iload 7, 2) := by decide +kernel
theorem dX8_fits_89 : decode cX8_fits 89 = .ok (.ifCond .eq 8, 3) := by decide +kernel
theorem dX8_fits_92 : decode cX8_fits 92 = .ok (.iload 6, 2) := by decide +kernel
theorem dX8_fits_94 : decode cX8_fits 94 = .ok (.goto 5, 3) := by decide +kernel
theorem dX8_fits_97 : decode cX8_fits 97 = .ok (.iload 5, 2) := by decide +kernel
theorem dX8_fits_99 : decode cX8_fits 99 = .ok (.istore 5, 2) := by decide +kernel
theorem dX8_fits_101 : decode cX8_fits 101 = .ok (.iinc 6 (-1), 3) := by decide +kernel
theorem dX8_fits_104 : decode cX8_fits 104 = .ok (.goto (-47), 3) := by decide +kernel
theorem dX8_fits_107 : decode cX8_fits 107 = .ok (.iload_n 3, 1) := by decide +kernel
theorem dX8_fits_108 : decode cX8_fits 108 = .ok (.ifCond .ne 8, 3) := by decide +kernel
theorem dX8_fits_111 : decode cX8_fits 111 = .ok (.iload 4, 2) := by decide +kernel
theorem dX8_fits_113 : decode cX8_fits 113 = .ok (.goto 19, 3) := by decide +kernel
theorem dX8_fits_116 : decode cX8_fits 116 = .ok (.iload 5, 2) := by decide +kernel
theorem dX8_fits_118 : decode cX8_fits 118 = .ok (.ifCond .ge 12, 3) := by decide +kernel
theorem dX8_fits_121 : decode cX8_fits 121 = .ok (.aload_n 0, 1) := by decide +kernel
theorem dX8_fits_122 : decode cX8_fits 122 = .ok (.ldc 185, 2) := by decide +kernel
theorem dX8_fits_124 : decode cX8_fits 124 = .ok (.invokevirtual 78, 3) := by decide +kernel
theorem dX8_fits_127 : decode cX8_fits 127 = .ok (.goto 5, 3) := by decide +kernel
theorem dX8_fits_130 : decode cX8_fits 130 = .ok (.iload 5, 2) := by decide +kernel
theorem dX8_fits_132 : decode cX8_fits 132 = .ok (.ireturn, 1) := by decide +kernel
theorem dX8_draw_0 : decode cX8_draw 0 = .ok (.aload_n 0, 1) := by decide +kernel
theorem dX8_draw_1 : decode cX8_draw 1 = .ok (.getfield 9, 3) := by decide +kernel
theorem dX8_draw_4 : decode cX8_draw 4 = .ok (.bipush 6, 2) := by decide +kernel
theorem dX8_draw_6 : decode cX8_draw 6 = .ok (.aload_n 0, 1) := by decide +kernel
theorem dX8_draw_7 : decode cX8_draw 7 = .ok (.getfield 9, 3) := by decide +kernel
theorem dX8_draw_10 : decode cX8_draw 10 = .ok (.bipush 6, 2) := by decide +kernel
theorem dX8_draw_12 : decode cX8_draw 12 = .ok (.iaload, 1) := by decide +kernel
theorem dX8_draw_13 : decode cX8_draw 13 = .ok (.ldc 208, 2) := by decide +kernel
theorem dX8_draw_15 : decode cX8_draw 15 = .ok (.imul, 1) := by decide +kernel
theorem dX8_draw_16 : decode cX8_draw 16 = .ok (.sipush 12345, 3) := by decide +kernel
theorem dX8_draw_19 : decode cX8_draw 19 = .ok (.iadd, 1) := by decide +kernel
theorem dX8_draw_20 : decode cX8_draw 20 = .ok (.iastore, 1) := by decide +kernel
theorem dX8_draw_21 : decode cX8_draw 21 = .ok (.aload_n 0, 1) := by decide +kernel
theorem dX8_draw_22 : decode cX8_draw 22 = .ok (.getfield 9, 3) := by decide +kernel
theorem dX8_draw_25 : decode cX8_draw 25 = .ok (.bipush 6, 2) := by decide +kernel
theorem dX8_draw_27 : decode cX8_draw 27 = .ok (.iaload, 1) := by decide +kernel
theorem dX8_draw_28 : decode cX8_draw 28 = .ok (.bipush 8, 2) := by decide +kernel
theorem dX8_draw_30 : decode cX8_draw 30 = .ok (.iushr, 1) := by decide +kernel
theorem dX8_draw_31 : decode cX8_draw 31 = .ok (.ireturn, 1) := by decide +kernel
theorem dX8_drawn_0 : decode cX8_drawn 0 = .ok (.aload_n 0, 1) := by decide +kernel
theorem dX8_drawn_1 : decode cX8_drawn 1 = .ok (.invokevirtual 189, 3) := by decide +kernel
theorem dX8_drawn_4 : decode cX8_drawn 4 = .ok (.istore_n 1, 1) := by decide +kernel
theorem dX8_drawn_5 : decode cX8_drawn 5 = .ok (.aload_n 0, 1) := by decide +kernel
theorem dX8_drawn_6 : decode cX8_drawn 6 = .ok (.getfield 9, 3) := by decide +kernel
theorem dX8_drawn_9 : decode cX8_drawn 9 = .ok (.bipush 8, 2) := by decide +kernel
theorem dX8_drawn_11 : decode cX8_drawn 11 = .ok (.iaload, 1) := by decide +kernel
theorem dX8_drawn_12 : decode cX8_drawn 12 = .ok (.ifCond .eq 7, 3) := by decide +kernel
theorem dX8_drawn_15 : decode cX8_drawn 15 = .ok (.iload_n 1, 1) := by decide +kernel
theorem dX8_drawn_16 : decode cX8_drawn 16 = .ok (.ifCond .ne 5, 3) := by decide +kernel
theorem dX8_drawn_19 : decode cX8_drawn 19 = .ok (.iconst 0, 1) := by decide +kernel
theorem dX8_drawn_20 : decode cX8_drawn 20 = .ok (.ireturn, 1) := by decide +kernel
theorem dX8_drawn_21 : decode cX8_drawn 21 = .ok (.aload_n 0, 1) := by decide +kernel
theorem dX8_drawn_22 : decode cX8_drawn 22 = .ok (.invokevirtual 209, 3) := by decide +kernel
theorem dX8_drawn_25 : decode cX8_drawn 25 = .ok (.aload_n 0, 1) := by decide +kernel
theorem dX8_drawn_26 : decode cX8_drawn 26 = .ok (.getfield 9, 3) := by decide +kernel
theorem dX8_drawn_29 : decode cX8_drawn 29 = .ok (.bipush 8, 2) := by decide +kernel
theorem dX8_drawn_31 : decode cX8_drawn 31 = .ok (.iaload, 1) := by decide +kernel
theorem dX8_drawn_32 : decode cX8_drawn 32 = .ok (.irem, 1) := by decide +kernel
theorem dX8_drawn_33 : decode cX8_drawn 33 = .ok (.istore_n 2, 1) := by decide +kernel
theorem dX8_drawn_34 : decode cX8_drawn 34 = .ok (.aload_n 0, 1) := by decide +kernel
theorem dX8_drawn_35 : decode cX8_drawn 35 = .ok (.iload_n 2, 1) := by decide +kernel
theorem dX8_drawn_36 : decode cX8_drawn 36 = .ok (.iconst 2, 1) := by decide +kernel
theorem dX8_drawn_37 : decode cX8_drawn 37 = .ok (.aload_n 0, 1) := by decide +kernel
theorem dX8_drawn_38 : decode cX8_drawn 38 = .ok (.invokevirtual 209, 3) := by decide +kernel
theorem dX8_drawn_41 : decode cX8_drawn 41 = .ok (.bipush 21, 2) := by decide +kernel
theorem dX8_drawn_43 : decode cX8_drawn 43 = .ok (.irem, 1) := by decide +kernel
theorem dX8_drawn_44 : decode cX8_drawn 44 = .ok (.invokevirtual 92, 3) := by decide +kernel
theorem dX8_drawn_47 : decode cX8_drawn 47 = .ok (.aload_n 0, 1) := by decide +kernel
theorem dX8_drawn_48 : decode cX8_drawn 48 = .ok (.invokevirtual 209, 3) := by decide +kernel
theorem dX8_drawn_51 : decode cX8_drawn 51 = .ok (.iload_n 1, 1) := by decide +kernel
theorem dX8_drawn_52 : decode cX8_drawn 52 = .ok (.irem, 1) := by decide +kernel
theorem dX8_drawn_53 : decode cX8_drawn 53 = .ok (.istore_n 3, 1) := by decide +kernel
theorem dX8_drawn_54 : decode cX8_drawn 54 = .ok (.iconst 0, 1) := by decide +kernel
theorem dX8_drawn_55 : decode cX8_drawn 55 = .ok (.istore 4, 2) := by decide +kernel
theorem dX8_drawn_57 : decode cX8_drawn 57 = .ok (.iload_n 3, 1) := by decide +kernel
theorem dX8_drawn_58 : decode cX8_drawn 58 = .ok (.aload_n 0, 1) := by decide +kernel
theorem dX8_drawn_59 : decode cX8_drawn 59 = .ok (.iload 4, 2) := by decide +kernel
theorem dX8_drawn_61 : decode cX8_drawn 61 = .ok (.iconst 2, 1) := by decide +kernel
theorem dX8_drawn_62 : decode cX8_drawn 62 = .ok (.invokevirtual 48, 3) := by decide +kernel
theorem dX8_drawn_65 : decode cX8_drawn 65 = .ok (.if_icmp .lt 19, 3) := by decide +kernel
theorem dX8_drawn_68 : decode cX8_drawn 68 = .ok (.iload_n 3, 1) := by decide +kernel
theorem dX8_drawn_69 : decode cX8_drawn 69 = .ok (.aload_n 0, 1) := by decide +kernel
theorem dX8_drawn_70 : decode cX8_drawn 70 = .ok (.iload 4, 2) := by decide +kernel
theorem dX8_drawn_72 : decode cX8_drawn 72 = .ok (.iconst 2, 1) := by decide +kernel
theorem dX8_drawn_73 : decode cX8_drawn 73 = .ok (.invokevirtual 48, 3) := by decide +kernel
theorem dX8_drawn_76 : decode cX8_drawn 76 = .ok (.isub, 1) := by decide +kernel
theorem dX8_drawn_77 : decode cX8_drawn 77 = .ok (.istore_n 3, 1) := by decide +kernel
theorem dX8_drawn_78 : decode cX8_drawn 78 = .ok (.iinc 4 1, 3) := by decide +kernel
theorem dX8_drawn_81 : decode cX8_drawn 81 = .ok (.goto (-24), 3) := by decide +kernel
theorem dX8_drawn_84 : decode cX8_drawn 84 = .ok (.aload_n 0, 1) := by decide +kernel
theorem dX8_drawn_85 : decode cX8_drawn 85 = .ok (.invokevirtual 209, 3) := by decide +kernel
theorem dX8_drawn_88 : decode cX8_drawn 88 = .ok (.iconst 4, 1) := by decide +kernel
theorem dX8_drawn_89 : decode cX8_drawn 89 = .ok (.irem, 1) := by decide +kernel
theorem dX8_drawn_90 : decode cX8_drawn 90 = .ok (.ifCond .ne 7, 3) := by decide +kernel
theorem dX8_drawn_93 : decode cX8_drawn 93 = .ok (.iconst 1, 1) := by decide +kernel
theorem dX8_drawn_94 : decode cX8_drawn 94 = .ok (.goto 4, 3) := by decide +kernel
theorem dX8_drawn_97 : decode cX8_drawn 97 = .ok (.iconst 0, 1) := by decide +kernel
theorem dX8_drawn_98 : decode cX8_drawn 98 = .ok (.istore 5, 2) := by decide +kernel
theorem dX8_drawn_100 : decode cX8_drawn 100 = .ok (.iload 5, 2) := by decide +kernel
theorem dX8_drawn_102 : decode cX8_drawn 102 = .ok (.ifCond .eq 24, 3) := by decide +kernel
theorem dX8_drawn_105 : decode cX8_drawn 105 = .ok (.aload_n 0, 1) := by decide +kernel
theorem dX8_drawn_106 : decode cX8_drawn 106 = .ok (.iload_n 2, 1) := by decide +kernel
theorem dX8_drawn_107 : decode cX8_drawn 107 = .ok (.aload_n 0, 1) := by decide +kernel
theorem dX8_drawn_108 : decode cX8_drawn 108 = .ok (.iload_n 2, 1) := by decide +kernel
theorem dX8_drawn_109 : decode cX8_drawn 109 = .ok (.iconst 2, 1) := by decide +kernel
theorem dX8_drawn_110 : decode cX8_drawn 110 = .ok (.invokevirtual 60, 3) := by decide +kernel
theorem dX8_drawn_113 : decode cX8_drawn 113 = .ok (.invokevirtual 99, 3) := by decide +kernel
theorem dX8_drawn_116 : decode cX8_drawn 116 = .ok (.ifCond .eq 10, 3) := by decide +kernel
theorem dX8_drawn_119 : decode cX8_drawn 119 = .ok (.aload_n 0, 1) := by decide +kernel
theorem dX8_drawn_120 : decode cX8_drawn 120 = .ok (.iload_n 2, 1) := by decide +kernel
theorem dX8_drawn_121 : decode cX8_drawn 121 = .ok (.invokevirtual 119, 3) := by decide +kernel
theorem dX8_drawn_124 : decode cX8_drawn 124 = .ok (.iconst 0, 1) := by decide +kernel
theorem dX8_drawn_125 : decode cX8_drawn 125 = .ok (.ireturn, 1) := by decide +kernel
theorem dX8_drawn_126 : decode cX8_drawn 126 = .ok (.aload_n 0, 1) := by decide +kernel
theorem dX8_drawn_127 : decode cX8_drawn 127 = .ok (.iload_n 2, 1) := by decide +kernel
theorem dX8_drawn_128 : decode cX8_drawn 128 = .ok (.iload 4, 2) := by decide +kernel
theorem dX8_drawn_130 : decode cX8_drawn 130 = .ok (.invokevirtual 122, 3) := by decide +kernel
theorem dX8_drawn_133 : decode cX8_drawn 133 = .ok (.ireturn, 1) := by decide +kernel
theorem dX8_loose_0 : decode cX8_loose 0 = .ok (.iload_n 1, 1) := by decide +kernel
theorem dX8_loose_1 : decode cX8_loose 1 = .ok (.iconst 1, 1) := by decide +kernel
theorem dX8_loose_2 : decode cX8_loose 2 = .ok (.bipush 30, 2) := by decide +kernel
theorem dX8_loose_4 : decode cX8_loose 4 = .ok (.invokestatic 44, 3) := by decide +kernel
theorem dX8_loose_7 : decode cX8_loose 7 = .ok (.ifCond .ne 10, 3) := by decide +kernel
theorem dX8_loose_10 : decode cX8_loose 10 = .ok (.aload_n 0, 1) := by decide +kernel
theorem dX8_loose_11 : decode cX8_loose 11 = .ok (.ldc 77, 2) := by decide +kernel
theorem dX8_loose_13 : decode cX8_loose 13 = .ok (.invokevirtual 78, 3) := by decide +kernel
theorem dX8_loose_16 : decode cX8_loose 16 = .ok (.ireturn, 1) := by decide +kernel
theorem dX8_loose_17 : decode cX8_loose 17 = .ok (.iconst 0, 1) := by decide +kernel
theorem dX8_loose_18 : decode cX8_loose 18 = .ok (.istore_n 2, 1) := by decide +kernel
theorem dX8_loose_19 : decode cX8_loose 19 = .ok (.iconst 0, 1) := by decide +kernel
theorem dX8_loose_20 : decode cX8_loose 20 = .ok (.istore_n 3, 1) := by decide +kernel
theorem dX8_loose_21 : decode cX8_loose 21 = .ok (.iload_n 3, 1) := by decide +kernel
theorem dX8_loose_22 : decode cX8_loose 22 = .ok (.iload_n 1, 1) := by decide +kernel
theorem dX8_loose_23 : decode cX8_loose 23 = .ok (.if_icmp .ge 24, 3) := by decide +kernel
theorem dX8_loose_26 : decode cX8_loose 26 = .ok (.iload_n 2, 1) := by decide +kernel
theorem dX8_loose_27 : decode cX8_loose 27 = .ok (.aload_n 0, 1) := by decide +kernel
theorem dX8_loose_28 : decode cX8_loose 28 = .ok (.invokevirtual 212, 3) := by decide +kernel
theorem dX8_loose_31 : decode cX8_loose 31 = .ok (.ifCond .eq 7, 3) := by decide +kernel
theorem dX8_loose_34 : decode cX8_loose 34 = .ok (.iconst 1, 1) := by decide +kernel
theorem dX8_loose_35 : decode cX8_loose 35 = .ok (.goto 4, 3) := by decide +kernel
theorem dX8_loose_38 : decode cX8_loose 38 = .ok (.iconst 0, 1) := by decide +kernel
theorem dX8_loose_39 : decode cX8_loose 39 = .ok (.iadd, 1) := by decide +kernel
theorem dX8_loose_40 : decode cX8_loose 40 = .ok (.istore_n 2, 1) := by decide +kernel
theorem dX8_loose_41 : decode cX8_loose 41 = .ok (.iinc 3 1, 3) := by decide +kernel
theorem dX8_loose_44 : decode cX8_loose 44 = .ok (.goto (-23), 3) := by decide +kernel
theorem dX8_loose_47 : decode cX8_loose 47 = .ok (.iload_n 2, 1) := by decide +kernel
theorem dX8_loose_48 : decode cX8_loose 48 = .ok (.ireturn, 1) := by decide +kernel
theorem dX8_seed_0 : decode cX8_seed 0 = .ok (.aload_n 0, 1) := by decide +kernel
theorem dX8_seed_1 : decode cX8_seed 1 = .ok (.bipush 6, 2) := by decide +kernel
theorem dX8_seed_3 : decode cX8_seed 3 = .ok (.iload_n 1, 1) := by decide +kernel
theorem dX8_seed_4 : decode cX8_seed 4 = .ok (.invokevirtual 88, 3) := by decide +kernel
theorem dX8_seed_7 : decode cX8_seed 7 = .ok (.ireturn, 1) := by decide +kernel
theorem dX8_begins_0 : decode cX8_begins 0 = .ok (.aload_n 0, 1) := by decide +kernel
theorem dX8_begins_1 : decode cX8_begins 1 = .ok (.getfield 216, 3) := by decide +kernel
theorem dX8_begins_4 : decode cX8_begins 4 = .ok (.bipush 30, 2) := by decide +kernel
theorem dX8_begins_6 : decode cX8_begins 6 = .ok (.if_icmp .ge 23, 3) := by decide +kernel
theorem dX8_begins_9 : decode cX8_begins 9 = .ok (.aload_n 0, 1) := by decide +kernel
theorem dX8_begins_10 : decode cX8_begins 10 = .ok (.getfield 40, 3) := by decide +kernel
theorem dX8_begins_13 : decode cX8_begins 13 = .ok (.aload_n 0, 1) := by decide +kernel
theorem dX8_begins_14 : decode cX8_begins 14 = .ok (.getfield 216, 3) := by decide +kernel
theorem dX8_begins_17 : decode cX8_begins 17 = .ok (.iload_n 1, 1) := by decide +kernel
theorem dX8_begins_18 : decode cX8_begins 18 = .ok (.iastore, 1) := by decide +kernel
theorem dX8_begins_19 : decode cX8_begins 19 = .ok (.aload_n 0, 1) := by decide +kernel
theorem dX8_begins_20 : decode cX8_begins 20 = .ok (.dup, 1) := by decide +kernel
theorem dX8_begins_21 : decode cX8_begins 21 = .ok (.getfield 216, 3) := by decide +kernel
theorem dX8_begins_24 : decode cX8_begins 24 = .ok (.iconst 1, 1) := by decide +kernel
theorem dX8_begins_25 : decode cX8_begins 25 = .ok (.iadd, 1) := by decide +kernel
theorem dX8_begins_26 : decode cX8_begins 26 = .ok (.putfield 216, 3) := by decide +kernel
theorem dX8_begins_29 : decode cX8_begins 29 = .ok (.return_, 1) := by decide +kernel
theorem dX8_plainHisses_0 : decode cX8_plainHisses 0 = .ok (.aload_n 0, 1) := by decide +kernel
theorem dX8_plainHisses_1 : decode cX8_plainHisses 1 = .ok (.bipush 10, 2) := by decide +kernel
theorem dX8_plainHisses_3 : decode cX8_plainHisses 3 = .ok (.invokevirtual 219, 3) := by decide +kernel
theorem dX8_plainHisses_6 : decode cX8_plainHisses 6 = .ok (.iload_n 2, 1) := by decide +kernel
theorem dX8_plainHisses_7 : decode cX8_plainHisses 7 = .ok (.iload_n 1, 1) := by decide +kernel
theorem dX8_plainHisses_8 : decode cX8_plainHisses 8 = .ok (.iadd, 1) := by decide +kernel
theorem dX8_plainHisses_9 : decode cX8_plainHisses 9 = .ok (.ireturn, 1) := by decide +kernel
theorem dX8_curveHisses_0 : decode cX8_curveHisses 0 = .ok (.aload_n 0, 1) := by decide +kernel
theorem dX8_curveHisses_1 : decode cX8_curveHisses 1 = .ok (.bipush 20, 2) := by decide +kernel
theorem dX8_curveHisses_3 : decode cX8_curveHisses 3 = .ok (.invokevirtual 219, 3) := by decide +kernel
theorem dX8_curveHisses_6 : decode cX8_curveHisses 6 = .ok (.aload_n 0, 1) := by decide +kernel
theorem dX8_curveHisses_7 : decode cX8_curveHisses 7 = .ok (.iload_n 1, 1) := by decide +kernel
theorem dX8_curveHisses_8 : decode cX8_curveHisses 8 = .ok (.iload_n 2, 1) := by decide +kernel
theorem dX8_curveHisses_9 : decode cX8_curveHisses 9 = .ok (.invokevirtual 222, 3) := by decide +kernel
theorem dX8_curveHisses_12 : decode cX8_curveHisses 12 = .ok (.iconst 4, 1) := by decide +kernel
theorem dX8_curveHisses_13 : decode cX8_curveHisses 13 = .ok (.isub, 1) := by decide +kernel
theorem dX8_curveHisses_14 : decode cX8_curveHisses 14 = .ok (.ireturn, 1) := by decide +kernel
theorem dX8_hisses_0 : decode cX8_hisses 0 = .ok (.aload_n 0, 1) := by decide +kernel
theorem dX8_hisses_1 : decode cX8_hisses 1 = .ok (.iload_n 1, 1) := by decide +kernel
theorem dX8_hisses_2 : decode cX8_hisses 2 = .ok (.iconst 0, 1) := by decide +kernel
theorem dX8_hisses_3 : decode cX8_hisses 3 = .ok (.invokevirtual 48, 3) := by decide +kernel
theorem dX8_hisses_6 : decode cX8_hisses 6 = .ok (.lookupswitch 65 #[(1, 34), (4, 41), (6, 56)], 34) := by decide +kernel
theorem dX8_hisses_40 : decode cX8_hisses 40 = .ok (.aload_n 0, 1) := by decide +kernel
theorem dX8_hisses_41 : decode cX8_hisses 41 = .ok (.iload_n 1, 1) := by decide +kernel
theorem dX8_hisses_42 : decode cX8_hisses 42 = .ok (.iload_n 2, 1) := by decide +kernel
theorem dX8_hisses_43 : decode cX8_hisses 43 = .ok (.invokevirtual 225, 3) := by decide +kernel
theorem dX8_hisses_46 : decode cX8_hisses 46 = .ok (.ireturn, 1) := by decide +kernel
theorem dX8_hisses_47 : decode cX8_hisses 47 = .ok (.aload_n 0, 1) := by decide +kernel
theorem dX8_hisses_48 : decode cX8_hisses 48 = .ok (.bipush 50, 2) := by decide +kernel
theorem dX8_hisses_50 : decode cX8_hisses 50 = .ok (.invokevirtual 219, 3) := by decide +kernel
theorem dX8_hisses_53 : decode cX8_hisses 53 = .ok (.aload_n 0, 1) := by decide +kernel
theorem dX8_hisses_54 : decode cX8_hisses 54 = .ok (.iload_n 1, 1) := by decide +kernel
theorem dX8_hisses_55 : decode cX8_hisses 55 = .ok (.iload_n 2, 1) := by decide +kernel
theorem dX8_hisses_56 : decode cX8_hisses 56 = .ok (.invokevirtual 225, 3) := by decide +kernel
theorem dX8_hisses_59 : decode cX8_hisses 59 = .ok (.iconst 3, 1) := by decide +kernel
theorem dX8_hisses_60 : decode cX8_hisses 60 = .ok (.imul, 1) := by decide +kernel
theorem dX8_hisses_61 : decode cX8_hisses 61 = .ok (.ireturn, 1) := by decide +kernel
theorem dX8_hisses_62 : decode cX8_hisses 62 = .ok (.aload_n 0, 1) := by decide +kernel
theorem dX8_hisses_63 : decode cX8_hisses 63 = .ok (.bipush 70, 2) := by decide +kernel
theorem dX8_hisses_65 : decode cX8_hisses 65 = .ok (.invokevirtual 219, 3) := by decide +kernel
theorem dX8_hisses_68 : decode cX8_hisses 68 = .ok (.bipush 9, 2) := by decide +kernel
theorem dX8_hisses_70 : decode cX8_hisses 70 = .ok (.ireturn, 1) := by decide +kernel
theorem dX8_hisses_71 : decode cX8_hisses 71 = .ok (.aload_n 0, 1) := by decide +kernel
theorem dX8_hisses_72 : decode cX8_hisses 72 = .ok (.iload_n 1, 1) := by decide +kernel
theorem dX8_hisses_73 : decode cX8_hisses 73 = .ok (.iload_n 2, 1) := by decide +kernel
theorem dX8_hisses_74 : decode cX8_hisses 74 = .ok (.invokevirtual 222, 3) := by decide +kernel
theorem dX8_hisses_77 : decode cX8_hisses 77 = .ok (.ireturn, 1) := by decide +kernel
theorem dX8_plainDrops_0 : decode cX8_plainDrops 0 = .ok (.aload_n 0, 1) := by decide +kernel
theorem dX8_plainDrops_1 : decode cX8_plainDrops 1 = .ok (.bipush 11, 2) := by decide +kernel
theorem dX8_plainDrops_3 : decode cX8_plainDrops 3 = .ok (.invokevirtual 219, 3) := by decide +kernel
theorem dX8_plainDrops_6 : decode cX8_plainDrops 6 = .ok (.aload_n 0, 1) := by decide +kernel
theorem dX8_plainDrops_7 : decode cX8_plainDrops 7 = .ok (.iload_n 1, 1) := by decide +kernel
theorem dX8_plainDrops_8 : decode cX8_plainDrops 8 = .ok (.iload_n 2, 1) := by decide +kernel
theorem dX8_plainDrops_9 : decode cX8_plainDrops 9 = .ok (.invokevirtual 228, 3) := by decide +kernel
theorem dX8_plainDrops_12 : decode cX8_plainDrops 12 = .ok (.iconst 2, 1) := by decide +kernel
theorem dX8_plainDrops_13 : decode cX8_plainDrops 13 = .ok (.imul, 1) := by decide +kernel
theorem dX8_plainDrops_14 : decode cX8_plainDrops 14 = .ok (.ireturn, 1) := by decide +kernel
theorem dX8_hardDrops_0 : decode cX8_hardDrops 0 = .ok (.aload_n 0, 1) := by decide +kernel
theorem dX8_hardDrops_1 : decode cX8_hardDrops 1 = .ok (.bipush 30, 2) := by decide +kernel
theorem dX8_hardDrops_3 : decode cX8_hardDrops 3 = .ok (.invokevirtual 219, 3) := by decide +kernel
theorem dX8_hardDrops_6 : decode cX8_hardDrops 6 = .ok (.aload_n 0, 1) := by decide +kernel
theorem dX8_hardDrops_7 : decode cX8_hardDrops 7 = .ok (.iload_n 1, 1) := by decide +kernel
theorem dX8_hardDrops_8 : decode cX8_hardDrops 8 = .ok (.iload_n 2, 1) := by decide +kernel
theorem dX8_hardDrops_9 : decode cX8_hardDrops 9 = .ok (.invokevirtual 231, 3) := by decide +kernel
theorem dX8_hardDrops_12 : decode cX8_hardDrops 12 = .ok (.ineg, 1) := by decide +kernel
theorem dX8_hardDrops_13 : decode cX8_hardDrops 13 = .ok (.ireturn, 1) := by decide +kernel
theorem dX8_drops_0 : decode cX8_drops 0 = .ok (.aload_n 0, 1) := by decide +kernel
theorem dX8_drops_1 : decode cX8_drops 1 = .ok (.iload_n 1, 1) := by decide +kernel
theorem dX8_drops_2 : decode cX8_drops 2 = .ok (.iconst 0, 1) := by decide +kernel
theorem dX8_drops_3 : decode cX8_drops 3 = .ok (.invokevirtual 48, 3) := by decide +kernel
theorem dX8_drops_6 : decode cX8_drops 6 = .ok (.tableswitch 76 2 6 #[34, 76, 76, 41, 56], 34) := by decide +kernel
theorem dX8_drops_40 : decode cX8_drops 40 = .ok (.aload_n 0, 1) := by decide +kernel
theorem dX8_drops_41 : decode cX8_drops 41 = .ok (.iload_n 1, 1) := by decide +kernel
theorem dX8_drops_42 : decode cX8_drops 42 = .ok (.iload_n 2, 1) := by decide +kernel
theorem dX8_drops_43 : decode cX8_drops 43 = .ok (.invokevirtual 234, 3) := by decide +kernel
theorem dX8_drops_46 : decode cX8_drops 46 = .ok (.ireturn, 1) := by decide +kernel
theorem dX8_drops_47 : decode cX8_drops 47 = .ok (.aload_n 0, 1) := by decide +kernel
theorem dX8_drops_48 : decode cX8_drops 48 = .ok (.bipush 60, 2) := by decide +kernel
theorem dX8_drops_50 : decode cX8_drops 50 = .ok (.invokevirtual 219, 3) := by decide +kernel
theorem dX8_drops_53 : decode cX8_drops 53 = .ok (.aload_n 0, 1) := by decide +kernel
theorem dX8_drops_54 : decode cX8_drops 54 = .ok (.iload_n 1, 1) := by decide +kernel
theorem dX8_drops_55 : decode cX8_drops 55 = .ok (.iload_n 2, 1) := by decide +kernel
theorem dX8_drops_56 : decode cX8_drops 56 = .ok (.iconst 1, 1) := by decide +kernel
theorem dX8_drops_57 : decode cX8_drops 57 = .ok (.iadd, 1) := by decide +kernel
theorem dX8_drops_58 : decode cX8_drops 58 = .ok (.invokevirtual 234, 3) := by decide +kernel
theorem dX8_drops_61 : decode cX8_drops 61 = .ok (.ireturn, 1) := by decide +kernel
theorem dX8_drops_62 : decode cX8_drops 62 = .ok (.aload_n 0, 1) := by decide +kernel
theorem dX8_drops_63 : decode cX8_drops 63 = .ok (.bipush 71, 2) := by decide +kernel
theorem dX8_drops_65 : decode cX8_drops 65 = .ok (.invokevirtual 219, 3) := by decide +kernel
theorem dX8_drops_68 : decode cX8_drops 68 = .ok (.aload_n 0, 1) := by decide +kernel
theorem dX8_drops_69 : decode cX8_drops 69 = .ok (.iload_n 1, 1) := by decide +kernel
theorem dX8_drops_70 : decode cX8_drops 70 = .ok (.iload_n 2, 1) := by decide +kernel
theorem dX8_drops_71 : decode cX8_drops 71 = .ok (.invokevirtual 231, 3) := by decide +kernel
theorem dX8_drops_74 : decode cX8_drops 74 = .ok (.aload_n 0, 1) := by decide +kernel
theorem dX8_drops_75 : decode cX8_drops 75 = .ok (.iload_n 1, 1) := by decide +kernel
theorem dX8_drops_76 : decode cX8_drops 76 = .ok (.iconst 1, 1) := by decide +kernel
theorem dX8_drops_77 : decode cX8_drops 77 = .ok (.invokevirtual 48, 3) := by decide +kernel
theorem dX8_drops_80 : decode cX8_drops 80 = .ok (.iadd, 1) := by decide +kernel
theorem dX8_drops_81 : decode cX8_drops 81 = .ok (.ireturn, 1) := by decide +kernel
theorem dX8_drops_82 : decode cX8_drops 82 = .ok (.aload_n 0, 1) := by decide +kernel
theorem dX8_drops_83 : decode cX8_drops 83 = .ok (.iload_n 1, 1) := by decide +kernel
theorem dX8_drops_84 : decode cX8_drops 84 = .ok (.iload_n 2, 1) := by decide +kernel
theorem dX8_drops_85 : decode cX8_drops 85 = .ok (.invokevirtual 231, 3) := by decide +kernel
theorem dX8_drops_88 : decode cX8_drops 88 = .ok (.ireturn, 1) := by decide +kernel
theorem dX8_plainThuds_0 : decode cX8_plainThuds 0 = .ok (.aload_n 0, 1) := by decide +kernel
theorem dX8_plainThuds_1 : decode cX8_plainThuds 1 = .ok (.bipush 12, 2) := by decide +kernel
theorem dX8_plainThuds_3 : decode cX8_plainThuds 3 = .ok (.invokevirtual 219, 3) := by decide +kernel
theorem dX8_plainThuds_6 : decode cX8_plainThuds 6 = .ok (.aload_n 0, 1) := by decide +kernel
theorem dX8_plainThuds_7 : decode cX8_plainThuds 7 = .ok (.iload_n 1, 1) := by decide +kernel
theorem dX8_plainThuds_8 : decode cX8_plainThuds 8 = .ok (.iload_n 2, 1) := by decide +kernel
theorem dX8_plainThuds_9 : decode cX8_plainThuds 9 = .ok (.invokevirtual 237, 3) := by decide +kernel
theorem dX8_plainThuds_12 : decode cX8_plainThuds 12 = .ok (.aload_n 0, 1) := by decide +kernel
theorem dX8_plainThuds_13 : decode cX8_plainThuds 13 = .ok (.iload_n 1, 1) := by decide +kernel
theorem dX8_plainThuds_14 : decode cX8_plainThuds 14 = .ok (.iconst 1, 1) := by decide +kernel
theorem dX8_plainThuds_15 : decode cX8_plainThuds 15 = .ok (.invokevirtual 48, 3) := by decide +kernel
theorem dX8_plainThuds_18 : decode cX8_plainThuds 18 = .ok (.isub, 1) := by decide +kernel
theorem dX8_plainThuds_19 : decode cX8_plainThuds 19 = .ok (.ireturn, 1) := by decide +kernel
theorem dX8_thuds_0 : decode cX8_thuds 0 = .ok (.aload_n 0, 1) := by decide +kernel
theorem dX8_thuds_1 : decode cX8_thuds 1 = .ok (.iload_n 1, 1) := by decide +kernel
theorem dX8_thuds_2 : decode cX8_thuds 2 = .ok (.iconst 0, 1) := by decide +kernel
theorem dX8_thuds_3 : decode cX8_thuds 3 = .ok (.invokevirtual 48, 3) := by decide +kernel
theorem dX8_thuds_6 : decode cX8_thuds 6 = .ok (.lookupswitch 56 #[(3, 26), (4, 41)], 26) := by decide +kernel
theorem dX8_thuds_32 : decode cX8_thuds 32 = .ok (.aload_n 0, 1) := by decide +kernel
theorem dX8_thuds_33 : decode cX8_thuds 33 = .ok (.bipush 40, 2) := by decide +kernel
theorem dX8_thuds_35 : decode cX8_thuds 35 = .ok (.invokevirtual 219, 3) := by decide +kernel
theorem dX8_thuds_38 : decode cX8_thuds 38 = .ok (.aload_n 0, 1) := by decide +kernel
theorem dX8_thuds_39 : decode cX8_thuds 39 = .ok (.iload_n 1, 1) := by decide +kernel
theorem dX8_thuds_40 : decode cX8_thuds 40 = .ok (.iload_n 2, 1) := by decide +kernel
theorem dX8_thuds_41 : decode cX8_thuds 41 = .ok (.iconst 2, 1) := by decide +kernel
theorem dX8_thuds_42 : decode cX8_thuds 42 = .ok (.idiv, 1) := by decide +kernel
theorem dX8_thuds_43 : decode cX8_thuds 43 = .ok (.invokevirtual 240, 3) := by decide +kernel
theorem dX8_thuds_46 : decode cX8_thuds 46 = .ok (.ireturn, 1) := by decide +kernel
theorem dX8_thuds_47 : decode cX8_thuds 47 = .ok (.aload_n 0, 1) := by decide +kernel
theorem dX8_thuds_48 : decode cX8_thuds 48 = .ok (.bipush 51, 2) := by decide +kernel
theorem dX8_thuds_50 : decode cX8_thuds 50 = .ok (.invokevirtual 219, 3) := by decide +kernel
theorem dX8_thuds_53 : decode cX8_thuds 53 = .ok (.aload_n 0, 1) := by decide +kernel
theorem dX8_thuds_54 : decode cX8_thuds 54 = .ok (.iload_n 1, 1) := by decide +kernel
theorem dX8_thuds_55 : decode cX8_thuds 55 = .ok (.iload_n 2, 1) := by decide +kernel
theorem dX8_thuds_56 : decode cX8_thuds 56 = .ok (.invokevirtual 240, 3) := by decide +kernel
theorem dX8_thuds_59 : decode cX8_thuds 59 = .ok (.iload_n 1, 1) := by decide +kernel
theorem dX8_thuds_60 : decode cX8_thuds 60 = .ok (.ixor, 1) := by decide +kernel
theorem dX8_thuds_61 : decode cX8_thuds 61 = .ok (.ireturn, 1) := by decide +kernel
theorem dX8_thuds_62 : decode cX8_thuds 62 = .ok (.aload_n 0, 1) := by decide +kernel
theorem dX8_thuds_63 : decode cX8_thuds 63 = .ok (.iload_n 1, 1) := by decide +kernel
theorem dX8_thuds_64 : decode cX8_thuds 64 = .ok (.iload_n 2, 1) := by decide +kernel
theorem dX8_thuds_65 : decode cX8_thuds 65 = .ok (.invokevirtual 240, 3) := by decide +kernel
theorem dX8_thuds_68 : decode cX8_thuds 68 = .ok (.ireturn, 1) := by decide +kernel
theorem dX8_plainParts_0 : decode cX8_plainParts 0 = .ok (.aload_n 0, 1) := by decide +kernel
theorem dX8_plainParts_1 : decode cX8_plainParts 1 = .ok (.bipush 13, 2) := by decide +kernel
theorem dX8_plainParts_3 : decode cX8_plainParts 3 = .ok (.invokevirtual 219, 3) := by decide +kernel
theorem dX8_plainParts_6 : decode cX8_plainParts 6 = .ok (.aload_n 0, 1) := by decide +kernel
theorem dX8_plainParts_7 : decode cX8_plainParts 7 = .ok (.iload_n 1, 1) := by decide +kernel
theorem dX8_plainParts_8 : decode cX8_plainParts 8 = .ok (.iconst 1, 1) := by decide +kernel
theorem dX8_plainParts_9 : decode cX8_plainParts 9 = .ok (.invokevirtual 48, 3) := by decide +kernel
theorem dX8_plainParts_12 : decode cX8_plainParts 12 = .ok (.iload_n 1, 1) := by decide +kernel
theorem dX8_plainParts_13 : decode cX8_plainParts 13 = .ok (.isub, 1) := by decide +kernel
theorem dX8_plainParts_14 : decode cX8_plainParts 14 = .ok (.istore_n 3, 1) := by decide +kernel
theorem dX8_plainParts_15 : decode cX8_plainParts 15 = .ok (.aload_n 0, 1) := by decide +kernel
theorem dX8_plainParts_16 : decode cX8_plainParts 16 = .ok (.iload_n 3, 1) := by decide +kernel
theorem dX8_plainParts_17 : decode cX8_plainParts 17 = .ok (.ifCond .ne 7, 3) := by decide +kernel
theorem dX8_plainParts_20 : decode cX8_plainParts 20 = .ok (.iconst 1, 1) := by decide +kernel
theorem dX8_plainParts_21 : decode cX8_plainParts 21 = .ok (.goto 4, 3) := by decide +kernel
theorem dX8_plainParts_24 : decode cX8_plainParts 24 = .ok (.iconst 0, 1) := by decide +kernel
theorem dX8_plainParts_25 : decode cX8_plainParts 25 = .ok (.putfield 243, 3) := by decide +kernel
theorem dX8_plainParts_28 : decode cX8_plainParts 28 = .ok (.aload_n 0, 1) := by decide +kernel
theorem dX8_plainParts_29 : decode cX8_plainParts 29 = .ok (.getfield 243, 3) := by decide +kernel
theorem dX8_plainParts_32 : decode cX8_plainParts 32 = .ok (.ifCond .eq 7, 3) := by decide +kernel
theorem dX8_plainParts_35 : decode cX8_plainParts 35 = .ok (.iconst 0, 1) := by decide +kernel
theorem dX8_plainParts_36 : decode cX8_plainParts 36 = .ok (.goto 6, 3) := by decide +kernel
theorem dX8_plainParts_39 : decode cX8_plainParts 39 = .ok (.iload_n 2, 1) := by decide +kernel
theorem dX8_plainParts_40 : decode cX8_plainParts 40 = .ok (.iload_n 3, 1) := by decide +kernel
theorem dX8_plainParts_41 : decode cX8_plainParts 41 = .ok (.idiv, 1) := by decide +kernel
theorem dX8_plainParts_42 : decode cX8_plainParts 42 = .ok (.ireturn, 1) := by decide +kernel
theorem dX8_partsBy_0 : decode cX8_partsBy 0 = .ok (.aload_n 0, 1) := by decide +kernel
theorem dX8_partsBy_1 : decode cX8_partsBy 1 = .ok (.iload_n 1, 1) := by decide +kernel
theorem dX8_partsBy_2 : decode cX8_partsBy 2 = .ok (.iconst 0, 1) := by decide +kernel
theorem dX8_partsBy_3 : decode cX8_partsBy 3 = .ok (.invokevirtual 48, 3) := by decide +kernel
theorem dX8_partsBy_6 : decode cX8_partsBy 6 = .ok (.iconst 1, 1) := by decide +kernel
theorem dX8_partsBy_7 : decode cX8_partsBy 7 = .ok (.if_icmp .eq 13, 3) := by decide +kernel
theorem dX8_partsBy_10 : decode cX8_partsBy 10 = .ok (.aload_n 0, 1) := by decide +kernel
theorem dX8_partsBy_11 : decode cX8_partsBy 11 = .ok (.iload_n 1, 1) := by decide +kernel
theorem dX8_partsBy_12 : decode cX8_partsBy 12 = .ok (.iconst 0, 1) := by decide +kernel
theorem dX8_partsBy_13 : decode cX8_partsBy 13 = .ok (.invokevirtual 48, 3) := by decide +kernel
theorem dX8_partsBy_16 : decode cX8_partsBy 16 = .ok (.iconst 4, 1) := by decide +kernel
theorem dX8_partsBy_17 : decode cX8_partsBy 17 = .ok (.if_icmp .ne 36, 3) := by decide +kernel
theorem dX8_partsBy_20 : decode cX8_partsBy 20 = .ok (.aload_n 0, 1) := by decide +kernel
theorem dX8_partsBy_21 : decode cX8_partsBy 21 = .ok (.bipush 21, 2) := by decide +kernel
theorem dX8_partsBy_23 : decode cX8_partsBy 23 = .ok (.invokevirtual 219, 3) := by decide +kernel
theorem dX8_partsBy_26 : decode cX8_partsBy 26 = .ok (.aload_n 0, 1) := by decide +kernel
theorem dX8_partsBy_27 : decode cX8_partsBy 27 = .ok (.iload_n 1, 1) := by decide +kernel
theorem dX8_partsBy_28 : decode cX8_partsBy 28 = .ok (.iload_n 2, 1) := by decide +kernel
theorem dX8_partsBy_29 : decode cX8_partsBy 29 = .ok (.invokevirtual 246, 3) := by decide +kernel
theorem dX8_partsBy_32 : decode cX8_partsBy 32 = .ok (.istore_n 3, 1) := by decide +kernel
theorem dX8_partsBy_33 : decode cX8_partsBy 33 = .ok (.aload_n 0, 1) := by decide +kernel
theorem dX8_partsBy_34 : decode cX8_partsBy 34 = .ok (.getfield 243, 3) := by decide +kernel
theorem dX8_partsBy_37 : decode cX8_partsBy 37 = .ok (.ifCond .eq 7, 3) := by decide +kernel
theorem dX8_partsBy_40 : decode cX8_partsBy 40 = .ok (.iconst 0, 1) := by decide +kernel
theorem dX8_partsBy_41 : decode cX8_partsBy 41 = .ok (.goto 11, 3) := by decide +kernel
theorem dX8_partsBy_44 : decode cX8_partsBy 44 = .ok (.iload_n 3, 1) := by decide +kernel
theorem dX8_partsBy_45 : decode cX8_partsBy 45 = .ok (.aload_n 0, 1) := by decide +kernel
theorem dX8_partsBy_46 : decode cX8_partsBy 46 = .ok (.iload_n 1, 1) := by decide +kernel
theorem dX8_partsBy_47 : decode cX8_partsBy 47 = .ok (.iconst 1, 1) := by decide +kernel
theorem dX8_partsBy_48 : decode cX8_partsBy 48 = .ok (.invokevirtual 237, 3) := by decide +kernel
theorem dX8_partsBy_51 : decode cX8_partsBy 51 = .ok (.iadd, 1) := by decide +kernel
theorem dX8_partsBy_52 : decode cX8_partsBy 52 = .ok (.ireturn, 1) := by decide +kernel
theorem dX8_partsBy_53 : decode cX8_partsBy 53 = .ok (.aload_n 0, 1) := by decide +kernel
theorem dX8_partsBy_54 : decode cX8_partsBy 54 = .ok (.iload_n 1, 1) := by decide +kernel
theorem dX8_partsBy_55 : decode cX8_partsBy 55 = .ok (.iload_n 2, 1) := by decide +kernel
theorem dX8_partsBy_56 : decode cX8_partsBy 56 = .ok (.invokevirtual 246, 3) := by decide +kernel
theorem dX8_partsBy_59 : decode cX8_partsBy 59 = .ok (.ireturn, 1) := by decide +kernel
theorem dX8_voice_0 : decode cX8_voice 0 = .ok (.aload_n 0, 1) := by decide +kernel
theorem dX8_voice_1 : decode cX8_voice 1 = .ok (.iload_n 1, 1) := by decide +kernel
theorem dX8_voice_2 : decode cX8_voice 2 = .ok (.invokevirtual 82, 3) := by decide +kernel
theorem dX8_voice_5 : decode cX8_voice 5 = .ok (.ifCond .eq 12, 3) := by decide +kernel
theorem dX8_voice_8 : decode cX8_voice 8 = .ok (.iload_n 2, 1) := by decide +kernel
theorem dX8_voice_9 : decode cX8_voice 9 = .ok (.iconst 0, 1) := by decide +kernel
theorem dX8_voice_10 : decode cX8_voice 10 = .ok (.iconst 3, 1) := by decide +kernel
theorem dX8_voice_11 : decode cX8_voice 11 = .ok (.invokestatic 44, 3) := by decide +kernel
theorem dX8_voice_14 : decode cX8_voice 14 = .ok (.ifCond .ne 10, 3) := by decide +kernel
theorem dX8_voice_17 : decode cX8_voice 17 = .ok (.aload_n 0, 1) := by decide +kernel
theorem dX8_voice_18 : decode cX8_voice 18 = .ok (.ldc 77, 2) := by decide +kernel
theorem dX8_voice_20 : decode cX8_voice 20 = .ok (.invokevirtual 78, 3) := by decide +kernel
theorem dX8_voice_23 : decode cX8_voice 23 = .ok (.ireturn, 1) := by decide +kernel
theorem dX8_voice_24 : decode cX8_voice 24 = .ok (.aload_n 0, 1) := by decide +kernel
theorem dX8_voice_25 : decode cX8_voice 25 = .ok (.iconst 0, 1) := by decide +kernel
theorem dX8_voice_26 : decode cX8_voice 26 = .ok (.putfield 216, 3) := by decide +kernel
theorem dX8_voice_29 : decode cX8_voice 29 = .ok (.aload_n 0, 1) := by decide +kernel
theorem dX8_voice_30 : decode cX8_voice 30 = .ok (.iconst 0, 1) := by decide +kernel
theorem dX8_voice_31 : decode cX8_voice 31 = .ok (.putfield 243, 3) := by decide +kernel
theorem dX8_voice_34 : decode cX8_voice 34 = .ok (.iload_n 2, 1) := by decide +kernel
theorem dX8_voice_35 : decode cX8_voice 35 = .ok (.ifCond .ne 12, 3) := by decide +kernel
theorem dX8_voice_38 : decode cX8_voice 38 = .ok (.aload_n 0, 1) := by decide +kernel
theorem dX8_voice_39 : decode cX8_voice 39 = .ok (.iload_n 1, 1) := by decide +kernel
theorem dX8_voice_40 : decode cX8_voice 40 = .ok (.iload_n 3, 1) := by decide +kernel
theorem dX8_voice_41 : decode cX8_voice 41 = .ok (.invokevirtual 228, 3) := by decide +kernel
theorem dX8_voice_44 : decode cX8_voice 44 = .ok (.goto 37, 3) := by decide +kernel
theorem dX8_voice_47 : decode cX8_voice 47 = .ok (.iload_n 2, 1) := by decide +kernel
theorem dX8_voice_48 : decode cX8_voice 48 = .ok (.iconst 1, 1) := by decide +kernel
theorem dX8_voice_49 : decode cX8_voice 49 = .ok (.if_icmp .ne 12, 3) := by decide +kernel
theorem dX8_voice_52 : decode cX8_voice 52 = .ok (.aload_n 0, 1) := by decide +kernel
theorem dX8_voice_53 : decode cX8_voice 53 = .ok (.iload_n 1, 1) := by decide +kernel
theorem dX8_voice_54 : decode cX8_voice 54 = .ok (.iload_n 3, 1) := by decide +kernel
theorem dX8_voice_55 : decode cX8_voice 55 = .ok (.invokevirtual 237, 3) := by decide +kernel
theorem dX8_voice_58 : decode cX8_voice 58 = .ok (.goto 23, 3) := by decide +kernel
theorem dX8_voice_61 : decode cX8_voice 61 = .ok (.iload_n 2, 1) := by decide +kernel
theorem dX8_voice_62 : decode cX8_voice 62 = .ok (.iconst 2, 1) := by decide +kernel
theorem dX8_voice_63 : decode cX8_voice 63 = .ok (.if_icmp .ne 12, 3) := by decide +kernel
theorem dX8_voice_66 : decode cX8_voice 66 = .ok (.aload_n 0, 1) := by decide +kernel
theorem dX8_voice_67 : decode cX8_voice 67 = .ok (.iload_n 1, 1) := by decide +kernel
theorem dX8_voice_68 : decode cX8_voice 68 = .ok (.iload_n 3, 1) := by decide +kernel
theorem dX8_voice_69 : decode cX8_voice 69 = .ok (.invokevirtual 249, 3) := by decide +kernel
theorem dX8_voice_72 : decode cX8_voice 72 = .ok (.goto 9, 3) := by decide +kernel
theorem dX8_voice_75 : decode cX8_voice 75 = .ok (.aload_n 0, 1) := by decide +kernel
theorem dX8_voice_76 : decode cX8_voice 76 = .ok (.iload_n 1, 1) := by decide +kernel
theorem dX8_voice_77 : decode cX8_voice 77 = .ok (.iload_n 3, 1) := by decide +kernel
theorem dX8_voice_78 : decode cX8_voice 78 = .ok (.invokevirtual 252, 3) := by decide +kernel
theorem dX8_voice_81 : decode cX8_voice 81 = .ok (.istore 4, 2) := by decide +kernel
theorem dX8_voice_83 : decode cX8_voice 83 = .ok (.aload_n 0, 1) := by decide +kernel
theorem dX8_voice_84 : decode cX8_voice 84 = .ok (.getfield 243, 3) := by decide +kernel
theorem dX8_voice_87 : decode cX8_voice 87 = .ok (.ifCond .eq 12, 3) := by decide +kernel
theorem dX8_voice_90 : decode cX8_voice 90 = .ok (.aload_n 0, 1) := by decide +kernel
theorem dX8_voice_91 : decode cX8_voice 91 = .ok (.ldc 255, 2) := by decide +kernel
theorem dX8_voice_93 : decode cX8_voice 93 = .ok (.invokevirtual 78, 3) := by decide +kernel
theorem dX8_voice_96 : decode cX8_voice 96 = .ok (.goto 5, 3) := by decide +kernel
theorem dX8_voice_99 : decode cX8_voice 99 = .ok (.iload 4, 2) := by decide +kernel
theorem dX8_voice_101 : decode cX8_voice 101 = .ok (.ireturn, 1) := by decide +kernel
theorem dX8_body_0 : decode cX8_body 0 = .ok (.iload_n 1, 1) := by decide +kernel
theorem dX8_body_1 : decode cX8_body 1 = .ok (.iconst 0, 1) := by decide +kernel
theorem dX8_body_2 : decode cX8_body 2 = .ok (.aload_n 0, 1) := by decide +kernel
theorem dX8_body_3 : decode cX8_body 3 = .ok (.getfield 216, 3) := by decide +kernel
theorem dX8_body_6 : decode cX8_body 6 = .ok (.iconst 1, 1) := by decide +kernel
theorem dX8_body_7 : decode cX8_body 7 = .ok (.isub, 1) := by decide +kernel
theorem dX8_body_8 : decode cX8_body 8 = .ok (.invokestatic 44, 3) := by decide +kernel
theorem dX8_body_11 : decode cX8_body 11 = .ok (.ifCond .eq 12, 3) := by decide +kernel
theorem dX8_body_14 : decode cX8_body 14 = .ok (.aload_n 0, 1) := by decide +kernel
theorem dX8_body_15 : decode cX8_body 15 = .ok (.getfield 40, 3) := by decide +kernel
theorem dX8_body_18 : decode cX8_body 18 = .ok (.iload_n 1, 1) := by decide +kernel
theorem dX8_body_19 : decode cX8_body 19 = .ok (.iaload, 1) := by decide +kernel
theorem dX8_body_20 : decode cX8_body 20 = .ok (.goto 9, 3) := by decide +kernel
theorem dX8_body_23 : decode cX8_body 23 = .ok (.aload_n 0, 1) := by decide +kernel
theorem dX8_body_24 : decode cX8_body 24 = .ok (.ldc 185, 2) := by decide +kernel
theorem dX8_body_26 : decode cX8_body 26 = .ok (.invokevirtual 78, 3) := by decide +kernel
theorem dX8_body_29 : decode cX8_body 29 = .ok (.ireturn, 1) := by decide +kernel
theorem dX8_isSheet_0 : decode cX8_isSheet 0 = .ok (.iload_n 0, 1) := by decide +kernel
theorem dX8_isSheet_1 : decode cX8_isSheet 1 = .ok (.iconst 0, 1) := by decide +kernel
theorem dX8_isSheet_2 : decode cX8_isSheet 2 = .ok (.iconst 3, 1) := by decide +kernel
theorem dX8_isSheet_3 : decode cX8_isSheet 3 = .ok (.invokestatic 44, 3) := by decide +kernel
theorem dX8_isSheet_6 : decode cX8_isSheet 6 = .ok (.ireturn, 1) := by decide +kernel
theorem dX8_sheet_0 : decode cX8_sheet 0 = .ok (.iload_n 1, 1) := by decide +kernel
theorem dX8_sheet_1 : decode cX8_sheet 1 = .ok (.invokestatic 202, 3) := by decide +kernel
theorem dX8_sheet_4 : decode cX8_sheet 4 = .ok (.ifCond .eq 25, 3) := by decide +kernel
theorem dX8_sheet_7 : decode cX8_sheet 7 = .ok (.iload_n 2, 1) := by decide +kernel
theorem dX8_sheet_8 : decode cX8_sheet 8 = .ok (.ifCond .eq 28, 3) := by decide +kernel
theorem dX8_sheet_11 : decode cX8_sheet 11 = .ok (.iload_n 2, 1) := by decide +kernel
theorem dX8_sheet_12 : decode cX8_sheet 12 = .ok (.bipush 8, 2) := by decide +kernel
theorem dX8_sheet_14 : decode cX8_sheet 14 = .ok (.if_icmp .eq 22, 3) := by decide +kernel
theorem dX8_sheet_17 : decode cX8_sheet 17 = .ok (.iload_n 2, 1) := by decide +kernel
theorem dX8_sheet_18 : decode cX8_sheet 18 = .ok (.bipush 16, 2) := by decide +kernel
theorem dX8_sheet_20 : decode cX8_sheet 20 = .ok (.if_icmp .eq 16, 3) := by decide +kernel
theorem dX8_sheet_23 : decode cX8_sheet 23 = .ok (.iload_n 2, 1) := by decide +kernel
theorem dX8_sheet_24 : decode cX8_sheet 24 = .ok (.bipush 32, 2) := by decide +kernel
theorem dX8_sheet_26 : decode cX8_sheet 26 = .ok (.if_icmp .eq 10, 3) := by decide +kernel
theorem dX8_sheet_29 : decode cX8_sheet 29 = .ok (.aload_n 0, 1) := by decide +kernel
theorem dX8_sheet_30 : decode cX8_sheet 30 = .ok (.ldc 77, 2) := by decide +kernel
theorem dX8_sheet_32 : decode cX8_sheet 32 = .ok (.invokevirtual 78, 3) := by decide +kernel
theorem dX8_sheet_35 : decode cX8_sheet 35 = .ok (.ireturn, 1) := by decide +kernel
theorem dX8_sheet_36 : decode cX8_sheet 36 = .ok (.iload_n 2, 1) := by decide +kernel
theorem dX8_sheet_37 : decode cX8_sheet 37 = .ok (.ifCond .le 14, 3) := by decide +kernel
theorem dX8_sheet_40 : decode cX8_sheet 40 = .ok (.iload_n 3, 1) := by decide +kernel
theorem dX8_sheet_41 : decode cX8_sheet 41 = .ok (.ifCond .ge 10, 3) := by decide +kernel
theorem dX8_sheet_44 : decode cX8_sheet 44 = .ok (.aload_n 0, 1) := by decide +kernel
theorem dX8_sheet_45 : decode cX8_sheet 45 = .ok (.ldc 192, 2) := by decide +kernel
theorem dX8_sheet_47 : decode cX8_sheet 47 = .ok (.invokevirtual 78, 3) := by decide +kernel
theorem dX8_sheet_50 : decode cX8_sheet 50 = .ok (.ireturn, 1) := by decide +kernel
theorem dX8_sheet_51 : decode cX8_sheet 51 = .ok (.iload_n 2, 1) := by decide +kernel
theorem dX8_sheet_52 : decode cX8_sheet 52 = .ok (.ifCond .le 16, 3) := by decide +kernel
theorem dX8_sheet_55 : decode cX8_sheet 55 = .ok (.iload_n 3, 1) := by decide +kernel
theorem dX8_sheet_56 : decode cX8_sheet 56 = .ok (.bipush 24, 2) := by decide +kernel
theorem dX8_sheet_58 : decode cX8_sheet 58 = .ok (.if_icmp .le 10, 3) := by decide +kernel
theorem dX8_sheet_61 : decode cX8_sheet 61 = .ok (.aload_n 0, 1) := by decide +kernel
theorem dX8_sheet_62 : decode cX8_sheet 62 = .ok (.ldc 77, 2) := by decide +kernel
theorem dX8_sheet_64 : decode cX8_sheet 64 = .ok (.invokevirtual 78, 3) := by decide +kernel
theorem dX8_sheet_67 : decode cX8_sheet 67 = .ok (.ireturn, 1) := by decide +kernel
theorem dX8_sheet_68 : decode cX8_sheet 68 = .ok (.aload_n 0, 1) := by decide +kernel
theorem dX8_sheet_69 : decode cX8_sheet 69 = .ok (.getfield 19, 3) := by decide +kernel
theorem dX8_sheet_72 : decode cX8_sheet 72 = .ok (.iload_n 1, 1) := by decide +kernel
theorem dX8_sheet_73 : decode cX8_sheet 73 = .ok (.iload_n 2, 1) := by decide +kernel
theorem dX8_sheet_74 : decode cX8_sheet 74 = .ok (.iastore, 1) := by decide +kernel
theorem dX8_sheet_75 : decode cX8_sheet 75 = .ok (.aload_n 0, 1) := by decide +kernel
theorem dX8_sheet_76 : decode cX8_sheet 76 = .ok (.getfield 22, 3) := by decide +kernel
theorem dX8_sheet_79 : decode cX8_sheet 79 = .ok (.iload_n 1, 1) := by decide +kernel
theorem dX8_sheet_80 : decode cX8_sheet 80 = .ok (.iload_n 2, 1) := by decide +kernel
theorem dX8_sheet_81 : decode cX8_sheet 81 = .ok (.ifCond .ne 7, 3) := by decide +kernel
theorem dX8_sheet_84 : decode cX8_sheet 84 = .ok (.iconst 0, 1) := by decide +kernel
theorem dX8_sheet_85 : decode cX8_sheet 85 = .ok (.goto 4, 3) := by decide +kernel
theorem dX8_sheet_88 : decode cX8_sheet 88 = .ok (.iload_n 3, 1) := by decide +kernel
theorem dX8_sheet_89 : decode cX8_sheet 89 = .ok (.iastore, 1) := by decide +kernel
theorem dX8_sheet_90 : decode cX8_sheet 90 = .ok (.iconst 0, 1) := by decide +kernel
theorem dX8_sheet_91 : decode cX8_sheet 91 = .ok (.istore 4, 2) := by decide +kernel
theorem dX8_sheet_93 : decode cX8_sheet 93 = .ok (.iload 4, 2) := by decide +kernel
theorem dX8_sheet_95 : decode cX8_sheet 95 = .ok (.bipush 24, 2) := by decide +kernel
theorem dX8_sheet_97 : decode cX8_sheet 97 = .ok (.if_icmp .ge 22, 3) := by decide +kernel
theorem dX8_sheet_100 : decode cX8_sheet 100 = .ok (.aload_n 0, 1) := by decide +kernel
theorem dX8_sheet_101 : decode cX8_sheet 101 = .ok (.getfield 25, 3) := by decide +kernel
theorem dX8_sheet_104 : decode cX8_sheet 104 = .ok (.bipush 24, 2) := by decide +kernel
theorem dX8_sheet_106 : decode cX8_sheet 106 = .ok (.iload_n 1, 1) := by decide +kernel
theorem dX8_sheet_107 : decode cX8_sheet 107 = .ok (.imul, 1) := by decide +kernel
theorem dX8_sheet_108 : decode cX8_sheet 108 = .ok (.iload 4, 2) := by decide +kernel
theorem dX8_sheet_110 : decode cX8_sheet 110 = .ok (.iadd, 1) := by decide +kernel
theorem dX8_sheet_111 : decode cX8_sheet 111 = .ok (.iconst 0, 1) := by decide +kernel
theorem dX8_sheet_112 : decode cX8_sheet 112 = .ok (.iastore, 1) := by decide +kernel
theorem dX8_sheet_113 : decode cX8_sheet 113 = .ok (.iinc 4 1, 3) := by decide +kernel
theorem dX8_sheet_116 : decode cX8_sheet 116 = .ok (.goto (-23), 3) := by decide +kernel
theorem dX8_sheet_119 : decode cX8_sheet 119 = .ok (.iconst 1, 1) := by decide +kernel
theorem dX8_sheet_120 : decode cX8_sheet 120 = .ok (.ireturn, 1) := by decide +kernel
theorem dX8_notThere_0 : decode cX8_notThere 0 = .ok (.iload_n 1, 1) := by decide +kernel
theorem dX8_notThere_1 : decode cX8_notThere 1 = .ok (.invokestatic 202, 3) := by decide +kernel
theorem dX8_notThere_4 : decode cX8_notThere 4 = .ok (.ifCond .ne 8, 3) := by decide +kernel
theorem dX8_notThere_7 : decode cX8_notThere 7 = .ok (.ldc 77, 2) := by decide +kernel
theorem dX8_notThere_9 : decode cX8_notThere 9 = .ok (.goto 18, 3) := by decide +kernel
theorem dX8_notThere_12 : decode cX8_notThere 12 = .ok (.aload_n 0, 1) := by decide +kernel
theorem dX8_notThere_13 : decode cX8_notThere 13 = .ok (.getfield 19, 3) := by decide +kernel
theorem dX8_notThere_16 : decode cX8_notThere 16 = .ok (.iload_n 1, 1) := by decide +kernel
theorem dX8_notThere_17 : decode cX8_notThere 17 = .ok (.iaload, 1) := by decide +kernel
theorem dX8_notThere_18 : decode cX8_notThere 18 = .ok (.ifCond .ne 8, 3) := by decide +kernel
theorem dX8_notThere_21 : decode cX8_notThere 21 = .ok (.ldc 185, 2) := by decide +kernel
theorem dX8_notThere_23 : decode cX8_notThere 23 = .ok (.goto 4, 3) := by decide +kernel
theorem dX8_notThere_26 : decode cX8_notThere 26 = .ok (.iconst 0, 1) := by decide +kernel
theorem dX8_notThere_27 : decode cX8_notThere 27 = .ok (.ireturn, 1) := by decide +kernel
theorem dX8_put_0 : decode cX8_put 0 = .ok (.aload_n 0, 1) := by decide +kernel
theorem dX8_put_1 : decode cX8_put 1 = .ok (.iload_n 1, 1) := by decide +kernel
theorem dX8_put_2 : decode cX8_put 2 = .ok (.invokevirtual 256, 3) := by decide +kernel
theorem dX8_put_5 : decode cX8_put 5 = .ok (.istore 4, 2) := by decide +kernel
theorem dX8_put_7 : decode cX8_put 7 = .ok (.iload 4, 2) := by decide +kernel
theorem dX8_put_9 : decode cX8_put 9 = .ok (.ifCond .ne 24, 3) := by decide +kernel
theorem dX8_put_12 : decode cX8_put 12 = .ok (.iload_n 2, 1) := by decide +kernel
theorem dX8_put_13 : decode cX8_put 13 = .ok (.iconst 0, 1) := by decide +kernel
theorem dX8_put_14 : decode cX8_put 14 = .ok (.aload_n 0, 1) := by decide +kernel
theorem dX8_put_15 : decode cX8_put 15 = .ok (.getfield 22, 3) := by decide +kernel
theorem dX8_put_18 : decode cX8_put 18 = .ok (.iload_n 1, 1) := by decide +kernel
theorem dX8_put_19 : decode cX8_put 19 = .ok (.iaload, 1) := by decide +kernel
theorem dX8_put_20 : decode cX8_put 20 = .ok (.iconst 1, 1) := by decide +kernel
theorem dX8_put_21 : decode cX8_put 21 = .ok (.isub, 1) := by decide +kernel
theorem dX8_put_22 : decode cX8_put 22 = .ok (.invokestatic 44, 3) := by decide +kernel
theorem dX8_put_25 : decode cX8_put 25 = .ok (.ifCond .ne 8, 3) := by decide +kernel
theorem dX8_put_28 : decode cX8_put 28 = .ok (.ldc 77, 2) := by decide +kernel
theorem dX8_put_30 : decode cX8_put 30 = .ok (.goto 5, 3) := by decide +kernel
theorem dX8_put_33 : decode cX8_put 33 = .ok (.iload 4, 2) := by decide +kernel
theorem dX8_put_35 : decode cX8_put 35 = .ok (.istore 4, 2) := by decide +kernel
theorem dX8_put_37 : decode cX8_put 37 = .ok (.iload 4, 2) := by decide +kernel
theorem dX8_put_39 : decode cX8_put 39 = .ok (.ifCond .eq 10, 3) := by decide +kernel
theorem dX8_put_42 : decode cX8_put 42 = .ok (.aload_n 0, 1) := by decide +kernel
theorem dX8_put_43 : decode cX8_put 43 = .ok (.iload 4, 2) := by decide +kernel
theorem dX8_put_45 : decode cX8_put 45 = .ok (.invokevirtual 78, 3) := by decide +kernel
theorem dX8_put_48 : decode cX8_put 48 = .ok (.ireturn, 1) := by decide +kernel
theorem dX8_put_49 : decode cX8_put 49 = .ok (.aload_n 0, 1) := by decide +kernel
theorem dX8_put_50 : decode cX8_put 50 = .ok (.getfield 25, 3) := by decide +kernel
theorem dX8_put_53 : decode cX8_put 53 = .ok (.bipush 24, 2) := by decide +kernel
theorem dX8_put_55 : decode cX8_put 55 = .ok (.iload_n 1, 1) := by decide +kernel
theorem dX8_put_56 : decode cX8_put 56 = .ok (.imul, 1) := by decide +kernel
theorem dX8_put_57 : decode cX8_put 57 = .ok (.iload_n 2, 1) := by decide +kernel
theorem dX8_put_58 : decode cX8_put 58 = .ok (.iadd, 1) := by decide +kernel
theorem dX8_put_59 : decode cX8_put 59 = .ok (.aload_n 0, 1) := by decide +kernel
theorem dX8_put_60 : decode cX8_put 60 = .ok (.getfield 19, 3) := by decide +kernel
theorem dX8_put_63 : decode cX8_put 63 = .ok (.iload_n 1, 1) := by decide +kernel
theorem dX8_put_64 : decode cX8_put 64 = .ok (.iaload, 1) := by decide +kernel
theorem dX8_put_65 : decode cX8_put 65 = .ok (.bipush 8, 2) := by decide +kernel
theorem dX8_put_67 : decode cX8_put 67 = .ok (.if_icmp .ne 8, 3) := by decide +kernel
theorem dX8_put_70 : decode cX8_put 70 = .ok (.iload_n 3, 1) := by decide +kernel
theorem dX8_put_71 : decode cX8_put 71 = .ok (.i2b, 1) := by decide +kernel
theorem dX8_put_72 : decode cX8_put 72 = .ok (.goto 20, 3) := by decide +kernel
theorem dX8_put_75 : decode cX8_put 75 = .ok (.aload_n 0, 1) := by decide +kernel
theorem dX8_put_76 : decode cX8_put 76 = .ok (.getfield 19, 3) := by decide +kernel
theorem dX8_put_79 : decode cX8_put 79 = .ok (.iload_n 1, 1) := by decide +kernel
theorem dX8_put_80 : decode cX8_put 80 = .ok (.iaload, 1) := by decide +kernel
theorem dX8_put_81 : decode cX8_put 81 = .ok (.bipush 16, 2) := by decide +kernel
theorem dX8_put_83 : decode cX8_put 83 = .ok (.if_icmp .ne 8, 3) := by decide +kernel
theorem dX8_put_86 : decode cX8_put 86 = .ok (.iload_n 3, 1) := by decide +kernel
theorem dX8_put_87 : decode cX8_put 87 = .ok (.i2s, 1) := by decide +kernel
theorem dX8_put_88 : decode cX8_put 88 = .ok (.goto 4, 3) := by decide +kernel
theorem dX8_put_91 : decode cX8_put 91 = .ok (.iload_n 3, 1) := by decide +kernel
theorem dX8_put_92 : decode cX8_put 92 = .ok (.iastore, 1) := by decide +kernel
theorem dX8_put_93 : decode cX8_put 93 = .ok (.iconst 1, 1) := by decide +kernel
theorem dX8_put_94 : decode cX8_put 94 = .ok (.ireturn, 1) := by decide +kernel
theorem dX8_notMoved_0 : decode cX8_notMoved 0 = .ok (.iload_n 1, 1) := by decide +kernel
theorem dX8_notMoved_1 : decode cX8_notMoved 1 = .ok (.invokestatic 202, 3) := by decide +kernel
theorem dX8_notMoved_4 : decode cX8_notMoved 4 = .ok (.ifCond .eq 10, 3) := by decide +kernel
theorem dX8_notMoved_7 : decode cX8_notMoved 7 = .ok (.iload_n 3, 1) := by decide +kernel
theorem dX8_notMoved_8 : decode cX8_notMoved 8 = .ok (.invokestatic 202, 3) := by decide +kernel
theorem dX8_notMoved_11 : decode cX8_notMoved 11 = .ok (.ifCond .ne 6, 3) := by decide +kernel
theorem dX8_notMoved_14 : decode cX8_notMoved 14 = .ok (.ldc 77, 2) := by decide +kernel
theorem dX8_notMoved_16 : decode cX8_notMoved 16 = .ok (.ireturn, 1) := by decide +kernel
theorem dX8_notMoved_17 : decode cX8_notMoved 17 = .ok (.aload_n 0, 1) := by decide +kernel
theorem dX8_notMoved_18 : decode cX8_notMoved 18 = .ok (.getfield 19, 3) := by decide +kernel
theorem dX8_notMoved_21 : decode cX8_notMoved 21 = .ok (.iload_n 1, 1) := by decide +kernel
theorem dX8_notMoved_22 : decode cX8_notMoved 22 = .ok (.iaload, 1) := by decide +kernel
theorem dX8_notMoved_23 : decode cX8_notMoved 23 = .ok (.ifCond .eq 12, 3) := by decide +kernel
theorem dX8_notMoved_26 : decode cX8_notMoved 26 = .ok (.aload_n 0, 1) := by decide +kernel
theorem dX8_notMoved_27 : decode cX8_notMoved 27 = .ok (.getfield 19, 3) := by decide +kernel
theorem dX8_notMoved_30 : decode cX8_notMoved 30 = .ok (.iload_n 3, 1) := by decide +kernel
theorem dX8_notMoved_31 : decode cX8_notMoved 31 = .ok (.iaload, 1) := by decide +kernel
theorem dX8_notMoved_32 : decode cX8_notMoved 32 = .ok (.ifCond .ne 6, 3) := by decide +kernel
theorem dX8_notMoved_35 : decode cX8_notMoved 35 = .ok (.ldc 185, 2) := by decide +kernel
theorem dX8_notMoved_37 : decode cX8_notMoved 37 = .ok (.ireturn, 1) := by decide +kernel
theorem dX8_notMoved_38 : decode cX8_notMoved 38 = .ok (.aload_n 0, 1) := by decide +kernel
theorem dX8_notMoved_39 : decode cX8_notMoved 39 = .ok (.getfield 19, 3) := by decide +kernel
theorem dX8_notMoved_42 : decode cX8_notMoved 42 = .ok (.iload_n 1, 1) := by decide +kernel
theorem dX8_notMoved_43 : decode cX8_notMoved 43 = .ok (.iaload, 1) := by decide +kernel
theorem dX8_notMoved_44 : decode cX8_notMoved 44 = .ok (.aload_n 0, 1) := by decide +kernel
theorem dX8_notMoved_45 : decode cX8_notMoved 45 = .ok (.getfield 19, 3) := by decide +kernel
theorem dX8_notMoved_48 : decode cX8_notMoved 48 = .ok (.iload_n 3, 1) := by decide +kernel
theorem dX8_notMoved_49 : decode cX8_notMoved 49 = .ok (.iaload, 1) := by decide +kernel
theorem dX8_notMoved_50 : decode cX8_notMoved 50 = .ok (.if_icmp .eq 6, 3) := by decide +kernel
theorem dX8_notMoved_53 : decode cX8_notMoved 53 = .ok (.ldc 91, 2) := by decide +kernel
theorem dX8_notMoved_55 : decode cX8_notMoved 55 = .ok (.ireturn, 1) := by decide +kernel
theorem dX8_notMoved_56 : decode cX8_notMoved 56 = .ok (.iload 5, 2) := by decide +kernel
theorem dX8_notMoved_58 : decode cX8_notMoved 58 = .ok (.ifCond .lt 43, 3) := by decide +kernel
theorem dX8_notMoved_61 : decode cX8_notMoved 61 = .ok (.iload_n 2, 1) := by decide +kernel
theorem dX8_notMoved_62 : decode cX8_notMoved 62 = .ok (.ifCond .lt 39, 3) := by decide +kernel
theorem dX8_notMoved_65 : decode cX8_notMoved 65 = .ok (.iload 4, 2) := by decide +kernel
theorem dX8_notMoved_67 : decode cX8_notMoved 67 = .ok (.ifCond .lt 34, 3) := by decide +kernel
theorem dX8_notMoved_70 : decode cX8_notMoved 70 = .ok (.iload 5, 2) := by decide +kernel
theorem dX8_notMoved_72 : decode cX8_notMoved 72 = .ok (.aload_n 0, 1) := by decide +kernel
theorem dX8_notMoved_73 : decode cX8_notMoved 73 = .ok (.getfield 22, 3) := by decide +kernel
theorem dX8_notMoved_76 : decode cX8_notMoved 76 = .ok (.iload_n 1, 1) := by decide +kernel
theorem dX8_notMoved_77 : decode cX8_notMoved 77 = .ok (.iaload, 1) := by decide +kernel
theorem dX8_notMoved_78 : decode cX8_notMoved 78 = .ok (.iload_n 2, 1) := by decide +kernel
theorem dX8_notMoved_79 : decode cX8_notMoved 79 = .ok (.isub, 1) := by decide +kernel
theorem dX8_notMoved_80 : decode cX8_notMoved 80 = .ok (.if_icmp .gt 21, 3) := by decide +kernel
theorem dX8_notMoved_83 : decode cX8_notMoved 83 = .ok (.iload 5, 2) := by decide +kernel
theorem dX8_notMoved_85 : decode cX8_notMoved 85 = .ok (.aload_n 0, 1) := by decide +kernel
theorem dX8_notMoved_86 : decode cX8_notMoved 86 = .ok (.getfield 22, 3) := by decide +kernel
theorem dX8_notMoved_89 : decode cX8_notMoved 89 = .ok (.iload_n 3, 1) := by decide +kernel
theorem dX8_notMoved_90 : decode cX8_notMoved 90 = .ok (.iaload, 1) := by decide +kernel
theorem dX8_notMoved_91 : decode cX8_notMoved 91 = .ok (.iload 4, 2) := by decide +kernel
theorem dX8_notMoved_93 : decode cX8_notMoved 93 = .ok (.isub, 1) := by decide +kernel
theorem dX8_notMoved_94 : decode cX8_notMoved 94 = .ok (.if_icmp .gt 7, 3) := by decide +kernel
theorem dX8_notMoved_97 : decode cX8_notMoved 97 = .ok (.iconst 1, 1) := by decide +kernel
theorem dX8_notMoved_98 : decode cX8_notMoved 98 = .ok (.goto 4, 3) := by decide +kernel
theorem dX8_notMoved_101 : decode cX8_notMoved 101 = .ok (.iconst 0, 1) := by decide +kernel
theorem dX8_notMoved_102 : decode cX8_notMoved 102 = .ok (.istore 6, 2) := by decide +kernel
theorem dX8_notMoved_104 : decode cX8_notMoved 104 = .ok (.iload 6, 2) := by decide +kernel
theorem dX8_notMoved_106 : decode cX8_notMoved 106 = .ok (.ifCond .eq 7, 3) := by decide +kernel
theorem dX8_notMoved_109 : decode cX8_notMoved 109 = .ok (.iconst 0, 1) := by decide +kernel
theorem dX8_notMoved_110 : decode cX8_notMoved 110 = .ok (.goto 5, 3) := by decide +kernel
theorem dX8_notMoved_113 : decode cX8_notMoved 113 = .ok (.ldc 77, 2) := by decide +kernel
theorem dX8_notMoved_115 : decode cX8_notMoved 115 = .ok (.ireturn, 1) := by decide +kernel
theorem dX8_move_0 : decode cX8_move 0 = .ok (.aload_n 0, 1) := by decide +kernel
theorem dX8_move_1 : decode cX8_move 1 = .ok (.iload_n 1, 1) := by decide +kernel
theorem dX8_move_2 : decode cX8_move 2 = .ok (.iload_n 2, 1) := by decide +kernel
theorem dX8_move_3 : decode cX8_move 3 = .ok (.iload_n 3, 1) := by decide +kernel
theorem dX8_move_4 : decode cX8_move 4 = .ok (.iload 4, 2) := by decide +kernel
theorem dX8_move_6 : decode cX8_move 6 = .ok (.iload 5, 2) := by decide +kernel
theorem dX8_move_8 : decode cX8_move 8 = .ok (.invokevirtual 259, 3) := by decide +kernel
theorem dX8_move_11 : decode cX8_move 11 = .ok (.istore 6, 2) := by decide +kernel
theorem dX8_move_13 : decode cX8_move 13 = .ok (.iload 6, 2) := by decide +kernel
theorem dX8_move_15 : decode cX8_move 15 = .ok (.ifCond .eq 10, 3) := by decide +kernel
theorem dX8_move_18 : decode cX8_move 18 = .ok (.aload_n 0, 1) := by decide +kernel
theorem dX8_move_19 : decode cX8_move 19 = .ok (.iload 6, 2) := by decide +kernel
theorem dX8_move_21 : decode cX8_move 21 = .ok (.invokevirtual 78, 3) := by decide +kernel
theorem dX8_move_24 : decode cX8_move 24 = .ok (.ireturn, 1) := by decide +kernel
theorem dX8_move_25 : decode cX8_move 25 = .ok (.iconst 0, 1) := by decide +kernel
theorem dX8_move_26 : decode cX8_move 26 = .ok (.istore 7, 2) := by decide +kernel
theorem dX8_move_28 : decode cX8_move 28 = .ok (.iload 7, 2) := by decide +kernel
theorem dX8_move_30 : decode cX8_move 30 = .ok (.iload 5, 2) := by decide +kernel
theorem dX8_move_32 : decode cX8_move 32 = .ok (.if_icmp .ge 58, 3) := by decide +kernel
theorem dX8_move_35 : decode cX8_move 35 = .ok (.iload_n 2, 1) := by decide +kernel
theorem dX8_move_36 : decode cX8_move 36 = .ok (.iload 4, 2) := by decide +kernel
theorem dX8_move_38 : decode cX8_move 38 = .ok (.if_icmp .ge 13, 3) := by decide +kernel
theorem dX8_move_41 : decode cX8_move 41 = .ok (.iload 5, 2) := by decide +kernel
theorem dX8_move_43 : decode cX8_move 43 = .ok (.iconst 1, 1) := by decide +kernel
theorem dX8_move_44 : decode cX8_move 44 = .ok (.isub, 1) := by decide +kernel
theorem dX8_move_45 : decode cX8_move 45 = .ok (.iload 7, 2) := by decide +kernel
theorem dX8_move_47 : decode cX8_move 47 = .ok (.isub, 1) := by decide +kernel
theorem dX8_move_48 : decode cX8_move 48 = .ok (.goto 5, 3) := by decide +kernel
theorem dX8_move_51 : decode cX8_move 51 = .ok (.iload 7, 2) := by decide +kernel
theorem dX8_move_53 : decode cX8_move 53 = .ok (.istore 8, 2) := by decide +kernel
theorem dX8_move_55 : decode cX8_move 55 = .ok (.aload_n 0, 1) := by decide +kernel
theorem dX8_move_56 : decode cX8_move 56 = .ok (.getfield 25, 3) := by decide +kernel
theorem dX8_move_59 : decode cX8_move 59 = .ok (.bipush 24, 2) := by decide +kernel
theorem dX8_move_61 : decode cX8_move 61 = .ok (.iload_n 3, 1) := by decide +kernel
theorem dX8_move_62 : decode cX8_move 62 = .ok (.imul, 1) := by decide +kernel
theorem dX8_move_63 : decode cX8_move 63 = .ok (.iload 4, 2) := by decide +kernel
theorem dX8_move_65 : decode cX8_move 65 = .ok (.iadd, 1) := by decide +kernel
theorem dX8_move_66 : decode cX8_move 66 = .ok (.iload 8, 2) := by decide +kernel
theorem dX8_move_68 : decode cX8_move 68 = .ok (.iadd, 1) := by decide +kernel
theorem dX8_move_69 : decode cX8_move 69 = .ok (.aload_n 0, 1) := by decide +kernel
theorem dX8_move_70 : decode cX8_move 70 = .ok (.getfield 25, 3) := by decide +kernel
theorem dX8_move_73 : decode cX8_move 73 = .ok (.bipush 24, 2) := by decide +kernel
theorem dX8_move_75 : decode cX8_move 75 = .ok (.iload_n 1, 1) := by decide +kernel
theorem dX8_move_76 : decode cX8_move 76 = .ok (.imul, 1) := by decide +kernel
theorem dX8_move_77 : decode cX8_move 77 = .ok (.iload_n 2, 1) := by decide +kernel
theorem dX8_move_78 : decode cX8_move 78 = .ok (.iadd, 1) := by decide +kernel
theorem dX8_move_79 : decode cX8_move 79 = .ok (.iload 8, 2) := by decide +kernel
theorem dX8_move_81 : decode cX8_move 81 = .ok (.iadd, 1) := by decide +kernel
theorem dX8_move_82 : decode cX8_move 82 = .ok (.iaload, 1) := by decide +kernel
theorem dX8_move_83 : decode cX8_move 83 = .ok (.iastore, 1) := by decide +kernel
theorem dX8_move_84 : decode cX8_move 84 = .ok (.iinc 7 1, 3) := by decide +kernel
theorem dX8_move_87 : decode cX8_move 87 = .ok (.goto (-59), 3) := by decide +kernel
theorem dX8_move_90 : decode cX8_move 90 = .ok (.iload 5, 2) := by decide +kernel
theorem dX8_move_92 : decode cX8_move 92 = .ok (.ireturn, 1) := by decide +kernel
theorem dX8_weightsBy_0 : decode cX8_weightsBy 0 = .ok (.aload_n 0, 1) := by decide +kernel
theorem dX8_weightsBy_1 : decode cX8_weightsBy 1 = .ok (.iload_n 1, 1) := by decide +kernel
theorem dX8_weightsBy_2 : decode cX8_weightsBy 2 = .ok (.invokevirtual 256, 3) := by decide +kernel
theorem dX8_weightsBy_5 : decode cX8_weightsBy 5 = .ok (.istore_n 2, 1) := by decide +kernel
theorem dX8_weightsBy_6 : decode cX8_weightsBy 6 = .ok (.iload_n 2, 1) := by decide +kernel
theorem dX8_weightsBy_7 : decode cX8_weightsBy 7 = .ok (.ifCond .eq 9, 3) := by decide +kernel
theorem dX8_weightsBy_10 : decode cX8_weightsBy 10 = .ok (.aload_n 0, 1) := by decide +kernel
theorem dX8_weightsBy_11 : decode cX8_weightsBy 11 = .ok (.iload_n 2, 1) := by decide +kernel
theorem dX8_weightsBy_12 : decode cX8_weightsBy 12 = .ok (.invokevirtual 78, 3) := by decide +kernel
theorem dX8_weightsBy_15 : decode cX8_weightsBy 15 = .ok (.ireturn, 1) := by decide +kernel
theorem dX8_weightsBy_16 : decode cX8_weightsBy 16 = .ok (.iconst 0, 1) := by decide +kernel
theorem dX8_weightsBy_17 : decode cX8_weightsBy 17 = .ok (.istore_n 3, 1) := by decide +kernel
theorem dX8_weightsBy_18 : decode cX8_weightsBy 18 = .ok (.iload_n 3, 1) := by decide +kernel
theorem dX8_weightsBy_19 : decode cX8_weightsBy 19 = .ok (.aload_n 0, 1) := by decide +kernel
theorem dX8_weightsBy_20 : decode cX8_weightsBy 20 = .ok (.getfield 22, 3) := by decide +kernel
theorem dX8_weightsBy_23 : decode cX8_weightsBy 23 = .ok (.iload_n 1, 1) := by decide +kernel
theorem dX8_weightsBy_24 : decode cX8_weightsBy 24 = .ok (.iaload, 1) := by decide +kernel
theorem dX8_weightsBy_25 : decode cX8_weightsBy 25 = .ok (.if_icmp .ge 64, 3) := by decide +kernel
theorem dX8_weightsBy_28 : decode cX8_weightsBy 28 = .ok (.iload_n 3, 1) := by decide +kernel
theorem dX8_weightsBy_29 : decode cX8_weightsBy 29 = .ok (.aload_n 0, 1) := by decide +kernel
theorem dX8_weightsBy_30 : decode cX8_weightsBy 30 = .ok (.getfield 9, 3) := by decide +kernel
theorem dX8_weightsBy_33 : decode cX8_weightsBy 33 = .ok (.bipush 7, 2) := by decide +kernel
theorem dX8_weightsBy_35 : decode cX8_weightsBy 35 = .ok (.iaload, 1) := by decide +kernel
theorem dX8_weightsBy_36 : decode cX8_weightsBy 36 = .ok (.if_icmp .ge 53, 3) := by decide +kernel
theorem dX8_weightsBy_39 : decode cX8_weightsBy 39 = .ok (.aload_n 0, 1) := by decide +kernel
theorem dX8_weightsBy_40 : decode cX8_weightsBy 40 = .ok (.getfield 25, 3) := by decide +kernel
theorem dX8_weightsBy_43 : decode cX8_weightsBy 43 = .ok (.bipush 24, 2) := by decide +kernel
theorem dX8_weightsBy_45 : decode cX8_weightsBy 45 = .ok (.iload_n 1, 1) := by decide +kernel
theorem dX8_weightsBy_46 : decode cX8_weightsBy 46 = .ok (.imul, 1) := by decide +kernel
theorem dX8_weightsBy_47 : decode cX8_weightsBy 47 = .ok (.iload_n 3, 1) := by decide +kernel
theorem dX8_weightsBy_48 : decode cX8_weightsBy 48 = .ok (.iadd, 1) := by decide +kernel
theorem dX8_weightsBy_49 : decode cX8_weightsBy 49 = .ok (.iaload, 1) := by decide +kernel
theorem dX8_weightsBy_50 : decode cX8_weightsBy 50 = .ok (.iconst 0, 1) := by decide +kernel
theorem dX8_weightsBy_51 : decode cX8_weightsBy 51 = .ok (.bipush 9, 2) := by decide +kernel
theorem dX8_weightsBy_53 : decode cX8_weightsBy 53 = .ok (.invokestatic 44, 3) := by decide +kernel
theorem dX8_weightsBy_56 : decode cX8_weightsBy 56 = .ok (.ifCond .eq 33, 3) := by decide +kernel
theorem dX8_weightsBy_59 : decode cX8_weightsBy 59 = .ok (.aload_n 0, 1) := by decide +kernel
theorem dX8_weightsBy_60 : decode cX8_weightsBy 60 = .ok (.getfield 9, 3) := by decide +kernel
theorem dX8_weightsBy_63 : decode cX8_weightsBy 63 = .ok (.bipush 11, 2) := by decide +kernel
theorem dX8_weightsBy_65 : decode cX8_weightsBy 65 = .ok (.iconst 4, 1) := by decide +kernel
theorem dX8_weightsBy_66 : decode cX8_weightsBy 66 = .ok (.iload_n 3, 1) := by decide +kernel
theorem dX8_weightsBy_67 : decode cX8_weightsBy 67 = .ok (.imul, 1) := by decide +kernel
theorem dX8_weightsBy_68 : decode cX8_weightsBy 68 = .ok (.iadd, 1) := by decide +kernel
theorem dX8_weightsBy_69 : decode cX8_weightsBy 69 = .ok (.iconst 2, 1) := by decide +kernel
theorem dX8_weightsBy_70 : decode cX8_weightsBy 70 = .ok (.iadd, 1) := by decide +kernel
theorem dX8_weightsBy_71 : decode cX8_weightsBy 71 = .ok (.aload_n 0, 1) := by decide +kernel
theorem dX8_weightsBy_72 : decode cX8_weightsBy 72 = .ok (.getfield 25, 3) := by decide +kernel
theorem dX8_weightsBy_75 : decode cX8_weightsBy 75 = .ok (.bipush 24, 2) := by decide +kernel
theorem dX8_weightsBy_77 : decode cX8_weightsBy 77 = .ok (.iload_n 1, 1) := by decide +kernel
theorem dX8_weightsBy_78 : decode cX8_weightsBy 78 = .ok (.imul, 1) := by decide +kernel
theorem dX8_weightsBy_79 : decode cX8_weightsBy 79 = .ok (.iload_n 3, 1) := by decide +kernel
theorem dX8_weightsBy_80 : decode cX8_weightsBy 80 = .ok (.iadd, 1) := by decide +kernel
theorem dX8_weightsBy_81 : decode cX8_weightsBy 81 = .ok (.iaload, 1) := by decide +kernel
theorem dX8_weightsBy_82 : decode cX8_weightsBy 82 = .ok (.iastore, 1) := by decide +kernel
theorem dX8_weightsBy_83 : decode cX8_weightsBy 83 = .ok (.iinc 3 1, 3) := by decide +kernel
theorem dX8_weightsBy_86 : decode cX8_weightsBy 86 = .ok (.goto (-68), 3) := by decide +kernel
theorem dX8_weightsBy_89 : decode cX8_weightsBy 89 = .ok (.iload_n 3, 1) := by decide +kernel
theorem dX8_weightsBy_90 : decode cX8_weightsBy 90 = .ok (.ireturn, 1) := by decide +kernel
theorem dX8_judge_0 : decode cX8_judge 0 = .ok (.aload_n 0, 1) := by decide +kernel
theorem dX8_judge_1 : decode cX8_judge 1 = .ok (.iload_n 1, 1) := by decide +kernel
theorem dX8_judge_2 : decode cX8_judge 2 = .ok (.invokevirtual 256, 3) := by decide +kernel
theorem dX8_judge_5 : decode cX8_judge 5 = .ok (.istore_n 2, 1) := by decide +kernel
theorem dX8_judge_6 : decode cX8_judge 6 = .ok (.iload_n 2, 1) := by decide +kernel
theorem dX8_judge_7 : decode cX8_judge 7 = .ok (.ifCond .eq 9, 3) := by decide +kernel
theorem dX8_judge_10 : decode cX8_judge 10 = .ok (.aload_n 0, 1) := by decide +kernel
theorem dX8_judge_11 : decode cX8_judge 11 = .ok (.iload_n 2, 1) := by decide +kernel
theorem dX8_judge_12 : decode cX8_judge 12 = .ok (.invokevirtual 78, 3) := by decide +kernel
theorem dX8_judge_15 : decode cX8_judge 15 = .ok (.ireturn, 1) := by decide +kernel
theorem dX8_judge_16 : decode cX8_judge 16 = .ok (.iconst 0, 1) := by decide +kernel
theorem dX8_judge_17 : decode cX8_judge 17 = .ok (.istore_n 3, 1) := by decide +kernel
theorem dX8_judge_18 : decode cX8_judge 18 = .ok (.iload_n 3, 1) := by decide +kernel
theorem dX8_judge_19 : decode cX8_judge 19 = .ok (.aload_n 0, 1) := by decide +kernel
theorem dX8_judge_20 : decode cX8_judge 20 = .ok (.getfield 22, 3) := by decide +kernel
theorem dX8_judge_23 : decode cX8_judge 23 = .ok (.iload_n 1, 1) := by decide +kernel
theorem dX8_judge_24 : decode cX8_judge 24 = .ok (.iaload, 1) := by decide +kernel
theorem dX8_judge_25 : decode cX8_judge 25 = .ok (.if_icmp .ge 39, 3) := by decide +kernel
theorem dX8_judge_28 : decode cX8_judge 28 = .ok (.iload_n 3, 1) := by decide +kernel
theorem dX8_judge_29 : decode cX8_judge 29 = .ok (.aload_n 0, 1) := by decide +kernel
theorem dX8_judge_30 : decode cX8_judge 30 = .ok (.getfield 9, 3) := by decide +kernel
theorem dX8_judge_33 : decode cX8_judge 33 = .ok (.bipush 7, 2) := by decide +kernel
theorem dX8_judge_35 : decode cX8_judge 35 = .ok (.iaload, 1) := by decide +kernel
theorem dX8_judge_36 : decode cX8_judge 36 = .ok (.if_icmp .ge 28, 3) := by decide +kernel
theorem dX8_judge_39 : decode cX8_judge 39 = .ok (.aload_n 0, 1) := by decide +kernel
theorem dX8_judge_40 : decode cX8_judge 40 = .ok (.getfield 25, 3) := by decide +kernel
theorem dX8_judge_43 : decode cX8_judge 43 = .ok (.bipush 24, 2) := by decide +kernel
theorem dX8_judge_45 : decode cX8_judge 45 = .ok (.iload_n 1, 1) := by decide +kernel
theorem dX8_judge_46 : decode cX8_judge 46 = .ok (.imul, 1) := by decide +kernel
theorem dX8_judge_47 : decode cX8_judge 47 = .ok (.iload_n 3, 1) := by decide +kernel
theorem dX8_judge_48 : decode cX8_judge 48 = .ok (.iadd, 1) := by decide +kernel
theorem dX8_judge_49 : decode cX8_judge 49 = .ok (.iaload, 1) := by decide +kernel
theorem dX8_judge_50 : decode cX8_judge 50 = .ok (.aload_n 0, 1) := by decide +kernel
theorem dX8_judge_51 : decode cX8_judge 51 = .ok (.iload_n 3, 1) := by decide +kernel
theorem dX8_judge_52 : decode cX8_judge 52 = .ok (.invokevirtual 63, 3) := by decide +kernel
theorem dX8_judge_55 : decode cX8_judge 55 = .ok (.if_icmp .ne 9, 3) := by decide +kernel
theorem dX8_judge_58 : decode cX8_judge 58 = .ok (.iinc 3 1, 3) := by decide +kernel
theorem dX8_judge_61 : decode cX8_judge 61 = .ok (.goto (-43), 3) := by decide +kernel
theorem dX8_judge_64 : decode cX8_judge 64 = .ok (.iload_n 3, 1) := by decide +kernel
theorem dX8_judge_65 : decode cX8_judge 65 = .ok (.ireturn, 1) := by decide +kernel
theorem dX8_image_0 : decode cX8_image 0 = .ok (.aload_n 0, 1) := by decide +kernel
theorem dX8_image_1 : decode cX8_image 1 = .ok (.getfield 9, 3) := by decide +kernel
theorem dX8_image_4 : decode cX8_image 4 = .ok (.aload_n 0, 1) := by decide +kernel
theorem dX8_image_5 : decode cX8_image 5 = .ok (.getfield 13, 3) := by decide +kernel
theorem dX8_image_8 : decode cX8_image 8 = .ok (.invokestatic 263, 3) := by decide +kernel
theorem dX8_image_11 : decode cX8_image 11 = .ok (.aload_n 0, 1) := by decide +kernel
theorem dX8_image_12 : decode cX8_image 12 = .ok (.dup, 1) := by decide +kernel
theorem dX8_image_13 : decode cX8_image 13 = .ok (.getfield 267, 3) := by decide +kernel
theorem dX8_image_16 : decode cX8_image 16 = .ok (.iconst 1, 1) := by decide +kernel
theorem dX8_image_17 : decode cX8_image 17 = .ok (.iadd, 1) := by decide +kernel
theorem dX8_image_18 : decode cX8_image 18 = .ok (.putfield 267, 3) := by decide +kernel
theorem dX8_image_21 : decode cX8_image 21 = .ok (.aload_n 0, 1) := by decide +kernel
theorem dX8_image_22 : decode cX8_image 22 = .ok (.getfield 267, 3) := by decide +kernel
theorem dX8_image_25 : decode cX8_image 25 = .ok (.ireturn, 1) := by decide +kernel
theorem dX8_restore_0 : decode cX8_restore 0 = .ok (.aload_n 0, 1) := by decide +kernel
theorem dX8_restore_1 : decode cX8_restore 1 = .ok (.getfield 267, 3) := by decide +kernel
theorem dX8_restore_4 : decode cX8_restore 4 = .ok (.ifCond .ne 10, 3) := by decide +kernel
theorem dX8_restore_7 : decode cX8_restore 7 = .ok (.aload_n 0, 1) := by decide +kernel
theorem dX8_restore_8 : decode cX8_restore 8 = .ok (.ldc 185, 2) := by decide +kernel
theorem dX8_restore_10 : decode cX8_restore 10 = .ok (.invokevirtual 78, 3) := by decide +kernel
theorem dX8_restore_13 : decode cX8_restore 13 = .ok (.ireturn, 1) := by decide +kernel
theorem dX8_restore_14 : decode cX8_restore 14 = .ok (.aload_n 0, 1) := by decide +kernel
theorem dX8_restore_15 : decode cX8_restore 15 = .ok (.getfield 13, 3) := by decide +kernel
theorem dX8_restore_18 : decode cX8_restore 18 = .ok (.aload_n 0, 1) := by decide +kernel
theorem dX8_restore_19 : decode cX8_restore 19 = .ok (.getfield 9, 3) := by decide +kernel
theorem dX8_restore_22 : decode cX8_restore 22 = .ok (.invokestatic 263, 3) := by decide +kernel
theorem dX8_restore_25 : decode cX8_restore 25 = .ok (.aload_n 0, 1) := by decide +kernel
theorem dX8_restore_26 : decode cX8_restore 26 = .ok (.getfield 9, 3) := by decide +kernel
theorem dX8_restore_29 : decode cX8_restore 29 = .ok (.iconst 4, 1) := by decide +kernel
theorem dX8_restore_30 : decode cX8_restore 30 = .ok (.iaload, 1) := by decide +kernel
theorem dX8_restore_31 : decode cX8_restore 31 = .ok (.ireturn, 1) := by decide +kernel
theorem dX8_tell_0 : decode cX8_tell 0 = .ok (.aload_n 0, 1) := by decide +kernel
theorem dX8_tell_1 : decode cX8_tell 1 = .ok (.getfield 9, 3) := by decide +kernel
theorem dX8_tell_4 : decode cX8_tell 4 = .ok (.bipush 10, 2) := by decide +kernel
theorem dX8_tell_6 : decode cX8_tell 6 = .ok (.iaload, 1) := by decide +kernel
theorem dX8_tell_7 : decode cX8_tell 7 = .ok (.bipush 24, 2) := by decide +kernel
theorem dX8_tell_9 : decode cX8_tell 9 = .ok (.if_icmp .ne 10, 3) := by decide +kernel
theorem dX8_tell_12 : decode cX8_tell 12 = .ok (.aload_n 0, 1) := by decide +kernel
theorem dX8_tell_13 : decode cX8_tell 13 = .ok (.ldc 81, 2) := by decide +kernel
theorem dX8_tell_15 : decode cX8_tell 15 = .ok (.invokevirtual 78, 3) := by decide +kernel
theorem dX8_tell_18 : decode cX8_tell 18 = .ok (.ireturn, 1) := by decide +kernel
theorem dX8_tell_19 : decode cX8_tell 19 = .ok (.aload_n 0, 1) := by decide +kernel
theorem dX8_tell_20 : decode cX8_tell 20 = .ok (.getfield 9, 3) := by decide +kernel
theorem dX8_tell_23 : decode cX8_tell 23 = .ok (.bipush 120, 2) := by decide +kernel
theorem dX8_tell_25 : decode cX8_tell 25 = .ok (.aload_n 0, 1) := by decide +kernel
theorem dX8_tell_26 : decode cX8_tell 26 = .ok (.getfield 9, 3) := by decide +kernel
theorem dX8_tell_29 : decode cX8_tell 29 = .ok (.bipush 10, 2) := by decide +kernel
theorem dX8_tell_31 : decode cX8_tell 31 = .ok (.iaload, 1) := by decide +kernel
theorem dX8_tell_32 : decode cX8_tell 32 = .ok (.iadd, 1) := by decide +kernel
theorem dX8_tell_33 : decode cX8_tell 33 = .ok (.iload_n 1, 1) := by decide +kernel
theorem dX8_tell_34 : decode cX8_tell 34 = .ok (.iastore, 1) := by decide +kernel
theorem dX8_tell_35 : decode cX8_tell 35 = .ok (.aload_n 0, 1) := by decide +kernel
theorem dX8_tell_36 : decode cX8_tell 36 = .ok (.getfield 9, 3) := by decide +kernel
theorem dX8_tell_39 : decode cX8_tell 39 = .ok (.bipush 10, 2) := by decide +kernel
theorem dX8_tell_41 : decode cX8_tell 41 = .ok (.dup2, 1) := by decide +kernel
theorem dX8_tell_42 : decode cX8_tell 42 = .ok (.iaload, 1) := by decide +kernel
theorem dX8_tell_43 : decode cX8_tell 43 = .ok (.iconst 1, 1) := by decide +kernel
theorem dX8_tell_44 : decode cX8_tell 44 = .ok (.iadd, 1) := by decide +kernel
theorem dX8_tell_45 : decode cX8_tell 45 = .ok (.iastore, 1) := by decide +kernel
theorem dX8_tell_46 : decode cX8_tell 46 = .ok (.aload_n 0, 1) := by decide +kernel
theorem dX8_tell_47 : decode cX8_tell 47 = .ok (.getfield 9, 3) := by decide +kernel
theorem dX8_tell_50 : decode cX8_tell 50 = .ok (.bipush 10, 2) := by decide +kernel
theorem dX8_tell_52 : decode cX8_tell 52 = .ok (.iaload, 1) := by decide +kernel
theorem dX8_tell_53 : decode cX8_tell 53 = .ok (.ireturn, 1) := by decide +kernel
theorem dX8_check_0 : decode cX8_check 0 = .ok (.aload_n 0, 1) := by decide +kernel
theorem dX8_check_1 : decode cX8_check 1 = .ok (.getfield 9, 3) := by decide +kernel
theorem dX8_check_4 : decode cX8_check 4 = .ok (.bipush 10, 2) := by decide +kernel
theorem dX8_check_6 : decode cX8_check 6 = .ok (.iaload, 1) := by decide +kernel
theorem dX8_check_7 : decode cX8_check 7 = .ok (.istore_n 1, 1) := by decide +kernel
theorem dX8_check_8 : decode cX8_check 8 = .ok (.aload_n 0, 1) := by decide +kernel
theorem dX8_check_9 : decode cX8_check 9 = .ok (.getfield 9, 3) := by decide +kernel
theorem dX8_check_12 : decode cX8_check 12 = .ok (.bipush 10, 2) := by decide +kernel
theorem dX8_check_14 : decode cX8_check 14 = .ok (.iconst 0, 1) := by decide +kernel
theorem dX8_check_15 : decode cX8_check 15 = .ok (.iastore, 1) := by decide +kernel
theorem dX8_check_16 : decode cX8_check 16 = .ok (.iconst 0, 1) := by decide +kernel
theorem dX8_check_17 : decode cX8_check 17 = .ok (.istore_n 2, 1) := by decide +kernel
theorem dX8_check_18 : decode cX8_check 18 = .ok (.iload_n 2, 1) := by decide +kernel
theorem dX8_check_19 : decode cX8_check 19 = .ok (.iload_n 1, 1) := by decide +kernel
theorem dX8_check_20 : decode cX8_check 20 = .ok (.if_icmp .ge 39, 3) := by decide +kernel
theorem dX8_check_23 : decode cX8_check 23 = .ok (.aload_n 0, 1) := by decide +kernel
theorem dX8_check_24 : decode cX8_check 24 = .ok (.iload_n 2, 1) := by decide +kernel
theorem dX8_check_25 : decode cX8_check 25 = .ok (.invokevirtual 96, 3) := by decide +kernel
theorem dX8_check_28 : decode cX8_check 28 = .ok (.ifCond .eq 21, 3) := by decide +kernel
theorem dX8_check_31 : decode cX8_check 31 = .ok (.aload_n 0, 1) := by decide +kernel
theorem dX8_check_32 : decode cX8_check 32 = .ok (.getfield 9, 3) := by decide +kernel
theorem dX8_check_35 : decode cX8_check 35 = .ok (.bipush 120, 2) := by decide +kernel
theorem dX8_check_37 : decode cX8_check 37 = .ok (.iload_n 2, 1) := by decide +kernel
theorem dX8_check_38 : decode cX8_check 38 = .ok (.iadd, 1) := by decide +kernel
theorem dX8_check_39 : decode cX8_check 39 = .ok (.iaload, 1) := by decide +kernel
theorem dX8_check_40 : decode cX8_check 40 = .ok (.aload_n 0, 1) := by decide +kernel
theorem dX8_check_41 : decode cX8_check 41 = .ok (.iload_n 2, 1) := by decide +kernel
theorem dX8_check_42 : decode cX8_check 42 = .ok (.iconst 2, 1) := by decide +kernel
theorem dX8_check_43 : decode cX8_check 43 = .ok (.invokevirtual 60, 3) := by decide +kernel
theorem dX8_check_46 : decode cX8_check 46 = .ok (.if_icmp .eq 7, 3) := by decide +kernel
theorem dX8_check_49 : decode cX8_check 49 = .ok (.iconst 1, 1) := by decide +kernel
theorem dX8_check_50 : decode cX8_check 50 = .ok (.iload_n 2, 1) := by decide +kernel
theorem dX8_check_51 : decode cX8_check 51 = .ok (.iadd, 1) := by decide +kernel
theorem dX8_check_52 : decode cX8_check 52 = .ok (.ireturn, 1) := by decide +kernel
theorem dX8_check_53 : decode cX8_check 53 = .ok (.iinc 2 1, 3) := by decide +kernel
theorem dX8_check_56 : decode cX8_check 56 = .ok (.goto (-38), 3) := by decide +kernel
theorem dX8_check_59 : decode cX8_check 59 = .ok (.iconst 0, 1) := by decide +kernel
theorem dX8_check_60 : decode cX8_check 60 = .ok (.ireturn, 1) := by decide +kernel
theorem dX8_count_0 : decode cX8_count 0 = .ok (.iload_n 1, 1) := by decide +kernel
theorem dX8_count_1 : decode cX8_count 1 = .ok (.tableswitch 130 0 11 #[63, 71, 79, 79, 79, 90, 90, 90, 101, 109, 117, 122], 63) := by decide +kernel
theorem dX8_count_64 : decode cX8_count 64 = .ok (.aload_n 0, 1) := by decide +kernel
theorem dX8_count_65 : decode cX8_count 65 = .ok (.getfield 9, 3) := by decide +kernel
theorem dX8_count_68 : decode cX8_count 68 = .ok (.bipush 7, 2) := by decide +kernel
theorem dX8_count_70 : decode cX8_count 70 = .ok (.iaload, 1) := by decide +kernel
theorem dX8_count_71 : decode cX8_count 71 = .ok (.ireturn, 1) := by decide +kernel
theorem dX8_count_72 : decode cX8_count 72 = .ok (.aload_n 0, 1) := by decide +kernel
theorem dX8_count_73 : decode cX8_count 73 = .ok (.getfield 9, 3) := by decide +kernel
theorem dX8_count_76 : decode cX8_count 76 = .ok (.bipush 8, 2) := by decide +kernel
theorem dX8_count_78 : decode cX8_count 78 = .ok (.iaload, 1) := by decide +kernel
theorem dX8_count_79 : decode cX8_count 79 = .ok (.ireturn, 1) := by decide +kernel
theorem dX8_count_80 : decode cX8_count 80 = .ok (.aload_n 0, 1) := by decide +kernel
theorem dX8_count_81 : decode cX8_count 81 = .ok (.getfield 9, 3) := by decide +kernel
theorem dX8_count_84 : decode cX8_count 84 = .ok (.iconst 3, 1) := by decide +kernel
theorem dX8_count_85 : decode cX8_count 85 = .ok (.iload_n 1, 1) := by decide +kernel
theorem dX8_count_86 : decode cX8_count 86 = .ok (.iadd, 1) := by decide +kernel
theorem dX8_count_87 : decode cX8_count 87 = .ok (.iconst 2, 1) := by decide +kernel
theorem dX8_count_88 : decode cX8_count 88 = .ok (.isub, 1) := by decide +kernel
theorem dX8_count_89 : decode cX8_count 89 = .ok (.iaload, 1) := by decide +kernel
theorem dX8_count_90 : decode cX8_count 90 = .ok (.ireturn, 1) := by decide +kernel
theorem dX8_count_91 : decode cX8_count 91 = .ok (.aload_n 0, 1) := by decide +kernel
theorem dX8_count_92 : decode cX8_count 92 = .ok (.getfield 9, 3) := by decide +kernel
theorem dX8_count_95 : decode cX8_count 95 = .ok (.iconst 0, 1) := by decide +kernel
theorem dX8_count_96 : decode cX8_count 96 = .ok (.iload_n 1, 1) := by decide +kernel
theorem dX8_count_97 : decode cX8_count 97 = .ok (.iadd, 1) := by decide +kernel
theorem dX8_count_98 : decode cX8_count 98 = .ok (.iconst 5, 1) := by decide +kernel
theorem dX8_count_99 : decode cX8_count 99 = .ok (.isub, 1) := by decide +kernel
theorem dX8_count_100 : decode cX8_count 100 = .ok (.iaload, 1) := by decide +kernel
theorem dX8_count_101 : decode cX8_count 101 = .ok (.ireturn, 1) := by decide +kernel
theorem dX8_count_102 : decode cX8_count 102 = .ok (.aload_n 0, 1) := by decide +kernel
theorem dX8_count_103 : decode cX8_count 103 = .ok (.getfield 9, 3) := by decide +kernel
theorem dX8_count_106 : decode cX8_count 106 = .ok (.bipush 9, 2) := by decide +kernel
theorem dX8_count_108 : decode cX8_count 108 = .ok (.iaload, 1) := by decide +kernel
theorem dX8_count_109 : decode cX8_count 109 = .ok (.ireturn, 1) := by decide +kernel
theorem dX8_count_110 : decode cX8_count 110 = .ok (.aload_n 0, 1) := by decide +kernel
theorem dX8_count_111 : decode cX8_count 111 = .ok (.getfield 9, 3) := by decide +kernel
theorem dX8_count_114 : decode cX8_count 114 = .ok (.bipush 10, 2) := by decide +kernel
theorem dX8_count_116 : decode cX8_count 116 = .ok (.iaload, 1) := by decide +kernel
theorem dX8_count_117 : decode cX8_count 117 = .ok (.ireturn, 1) := by decide +kernel
theorem dX8_count_118 : decode cX8_count 118 = .ok (.aload_n 0, 1) := by decide +kernel
theorem dX8_count_119 : decode cX8_count 119 = .ok (.getfield 216, 3) := by decide +kernel
theorem dX8_count_122 : decode cX8_count 122 = .ok (.ireturn, 1) := by decide +kernel
theorem dX8_count_123 : decode cX8_count 123 = .ok (.aload_n 0, 1) := by decide +kernel
theorem dX8_count_124 : decode cX8_count 124 = .ok (.getfield 9, 3) := by decide +kernel
theorem dX8_count_127 : decode cX8_count 127 = .ok (.bipush 6, 2) := by decide +kernel
theorem dX8_count_129 : decode cX8_count 129 = .ok (.iaload, 1) := by decide +kernel
theorem dX8_count_130 : decode cX8_count 130 = .ok (.ireturn, 1) := by decide +kernel
theorem dX8_count_131 : decode cX8_count 131 = .ok (.aload_n 0, 1) := by decide +kernel
theorem dX8_count_132 : decode cX8_count 132 = .ok (.ldc 77, 2) := by decide +kernel
theorem dX8_count_134 : decode cX8_count 134 = .ok (.invokevirtual 78, 3) := by decide +kernel
theorem dX8_count_137 : decode cX8_count 137 = .ok (.ireturn, 1) := by decide +kernel
theorem dX8_told_0 : decode cX8_told 0 = .ok (.iload_n 1, 1) := by decide +kernel
theorem dX8_told_1 : decode cX8_told 1 = .ok (.iconst 1, 1) := by decide +kernel
theorem dX8_told_2 : decode cX8_told 2 = .ok (.bipush 6, 2) := by decide +kernel
theorem dX8_told_4 : decode cX8_told 4 = .ok (.invokestatic 44, 3) := by decide +kernel
theorem dX8_told_7 : decode cX8_told 7 = .ok (.ifCond .eq 12, 3) := by decide +kernel
theorem dX8_told_10 : decode cX8_told 10 = .ok (.aload_n 0, 1) := by decide +kernel
theorem dX8_told_11 : decode cX8_told 11 = .ok (.getfield 16, 3) := by decide +kernel
theorem dX8_told_14 : decode cX8_told 14 = .ok (.iload_n 1, 1) := by decide +kernel
theorem dX8_told_15 : decode cX8_told 15 = .ok (.iaload, 1) := by decide +kernel
theorem dX8_told_16 : decode cX8_told 16 = .ok (.goto 9, 3) := by decide +kernel
theorem dX8_told_19 : decode cX8_told 19 = .ok (.aload_n 0, 1) := by decide +kernel
theorem dX8_told_20 : decode cX8_told 20 = .ok (.ldc 77, 2) := by decide +kernel
theorem dX8_told_22 : decode cX8_told 22 = .ok (.invokevirtual 78, 3) := by decide +kernel
theorem dX8_told_25 : decode cX8_told 25 = .ok (.ireturn, 1) := by decide +kernel
